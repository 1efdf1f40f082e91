
section
variable {p : Program} {l : Launch} {e : Env} {R : Room} {s : State} {m : MethodId} {args : Array Value} {below : List Frame} {meth : Method} {c : Code} {H : Heap} {locs : List Loc} {cells slots : Nat} {Q : State → Prop} {cc : ByteArray} {nL pc : Nat} {ls : Array Slot} {rest : List Value} {own : String} {D : va_G} {A : Nat → Prop} {tys : List (ClassId × FieldType)} {ad ks : List Nat} {P : sgPm} {H0 : Heap} {index : Nat} {base : Nat} {st0 : List Value} {a : Nat}

set_option maxHeartbeats 8000000 in
set_option maxRecDepth 100000 in
theorem m_X6_readCondition_5 (l : Launch) {D : va_G} {base : Nat} {tys : List (ClassId × FieldType)} {ad ks : List Nat} {P : sgPm} (a0 : Nat) (h0 : isK ad ks 6 a0) (a1 : Nat) (h1 : isK ad ks 10 a1) (x2 : Int32) (h2 : iv 5 5 x2) (x3 : Int32) (h3 : iv 0 1 x3) : sgMi l (KT P) D vwCl base tys ad ks yX6_readCondition cX6_readCondition 7 (some .boolean) ({ frames := 10, cells := 0, slots := 0, locals := 239 }) [.ref a0, .ref a1, .int x2, .int x3] (fun r : Int32 => iv 0 1 r) := by
  refine sg_ofW (by decide +kernel) (Nat.le_of_ble_eq_true rfl) (fun p e s m below meth c X hr hlk hb hK hC hG ls hl => ?_)
  have hS : va_S (fun q : Nat => base ≤ q) s.heap s.heap [] := va_S.rf
  have hl : lv_has ls 7 [(0, .ref a0), (1, .ref a1), (2, .int x2), (3, .int x3)] := hl
  refine lv_iload_n X.1 X.2.1 dX6_readCondition_0 rfl (lv_at hl 3 rfl) ?_
  have B2_15 : ∀ (H : Heap) (locs : List Loc) (ls : Array Slot), sgG (KT P) D vwCl (fun q : Nat => base ≤ q) tys ad ks H → va_S (fun q : Nat => base ≤ q) s.heap H locs → lv_has ls 7 [(0, .ref a0), (1, .ref a1), (2, .int x2)] → W p l e (headSpec (Cond.code yX6_readCondition cX6_readCondition 7 (some .boolean) :: sg_tbl) ({ frames := 10, cells := 0, slots := 0, locals := 239 })).room s m #[.ref a0, .ref a1, .int x2, .int x3] below meth c H locs 0 0 (MQ below (va_Qi (fun r (_ : Unit) => (fun r : Int32 => iv 0 1 r) r) (fun _ => sgB (KT P) D vwCl base tys ad ks) (fun q : Nat => base ≤ q)) #[.ref a0, .ref a1, .int x2, .int x3] s 0 0 (fun q : Nat => base ≤ q)) (F0 m 15 ls []) := by
    intro H locs ls hG hS hl
    refine lv_iconst (v := 0) X.1 X.2.1 dX6_readCondition_15 (by decide +kernel) ?_
    refine lv_istore (lv' := [(4, .int 0), (0, .ref a0), (1, .ref a1), (2, .int x2)]) X.1 X.2.1 dX6_readCondition_16 hl (by decide) rfl (fun ls hl => ?_)
    refine lv_iconst (v := 0) X.1 X.2.1 dX6_readCondition_18 (by decide +kernel) ?_
    refine lv_istore (lv' := [(5, .int 0), (4, .int 0), (0, .ref a0), (1, .ref a1), (2, .int x2)]) X.1 X.2.1 dX6_readCondition_19 hl (by decide) rfl (fun ls hl => ?_)
    have B3_21 : ∀ (N : Nat) (H : Heap) (locs : List Loc) (ls : Array Slot) (z3_4 : Int32) (z3_5 : Int32), sgG (KT P) D vwCl (fun q : Nat => base ≤ q) tys ad ks H → va_S (fun q : Nat => base ≤ q) s.heap H locs → lv_has ls 7 [(0, .ref a0), (1, .ref a1), (2, .int x2), (4, .int z3_4), (5, .int z3_5)] → iv 0 1 z3_4 → iv 0 240 z3_5 → (241 - z3_5.toInt).toNat ≤ N → W p l e (headSpec (Cond.code yX6_readCondition cX6_readCondition 7 (some .boolean) :: sg_tbl) ({ frames := 10, cells := 0, slots := 0, locals := 239 })).room s m #[.ref a0, .ref a1, .int x2, .int x3] below meth c H locs 0 0 (MQ below (va_Qi (fun r (_ : Unit) => (fun r : Int32 => iv 0 1 r) r) (fun _ => sgB (KT P) D vwCl base tys ad ks) (fun q : Nat => base ≤ q)) #[.ref a0, .ref a1, .int x2, .int x3] s 0 0 (fun q : Nat => base ≤ q)) (F0 m 21 ls []) := by
      intro N; induction N with
      | zero =>
        intro H locs ls z3_4 z3_5 hG hS hl hz3_4 hz3_5 hN
        exact absurd hN (by have := iv_up hz3_5; omega)
      | succ N ih3 =>
        intro H locs ls z3_4 z3_5 hG hS hl hz3_4 hz3_5 hN3
        refine lv_iload X.1 X.2.1 dX6_readCondition_21 (lv_at hl 4 rfl) ?_
        refine lv_sipush (v := 240) X.1 X.2.1 dX6_readCondition_23 (by decide +kernel) ?_
        refine lv_icmp_ge (tgt := 109) X.1 X.2.1 dX6_readCondition_26 (by decide) (fun c4 => ?_) (fun c4 => ?_)
        · refine lv_aload_n X.1 X.2.1 dX6_readCondition_109 rfl (lv_at hl 1 rfl) ?_
          refine ca_X10_wrong X hK hG hC hS hb a1 h1 wl_3_228 hl.1 (rest := []) rfl (Nat.le_of_ble_eq_true rfl) ⟨Nat.le_of_ble_eq_true rfl, Nat.le_of_ble_eq_true rfl⟩ ⟨Nat.le_of_ble_eq_true rfl, Nat.le_of_ble_eq_true rfl⟩ dX6_readCondition_110 (fun f5 H locs hf5 hG hS => ?_)
          exact sg_zret X hr (sg_zn hf5) hlk hb hK hC hG hS hf5 dX6_readCondition_113
        · refine lv_aload_n X.1 X.2.1 dX6_readCondition_29 rfl (lv_at hl 1 rfl) ?_
          refine ca_X10_sign X hK hG hC (fun _ h => h) hS hb a1 h1 wl_3_219 hl.1 (rest := []) rfl (Nat.le_of_ble_eq_true rfl) ⟨Nat.le_of_ble_eq_true rfl, Nat.le_of_ble_eq_true rfl⟩ ⟨Nat.le_of_ble_eq_true rfl, Nat.le_of_ble_eq_true rfl⟩ dX6_readCondition_30 (fun f6 locs hf6 hS => ?_)
          refine lv_istore (lv' := [(6, .int f6), (0, .ref a0), (1, .ref a1), (2, .int x2), (4, .int z3_4), (5, .int z3_5)]) X.1 X.2.1 dX6_readCondition_33 hl (by decide) rfl (fun ls hl => ?_)
          refine lv_iload X.1 X.2.1 dX6_readCondition_35 (lv_at hl 0 rfl) ?_
          refine lv_bipush (v := 38) X.1 X.2.1 dX6_readCondition_37 (by decide +kernel) ?_
          have B8_53 : ∀ (H : Heap) (locs : List Loc) (ls : Array Slot), sgG (KT P) D vwCl (fun q : Nat => base ≤ q) tys ad ks H → va_S (fun q : Nat => base ≤ q) s.heap H locs → lv_has ls 7 [(0, .ref a0), (1, .ref a1), (2, .int x2), (4, .int z3_4), (5, .int z3_5), (6, .int f6)] → W p l e (headSpec (Cond.code yX6_readCondition cX6_readCondition 7 (some .boolean) :: sg_tbl) ({ frames := 10, cells := 0, slots := 0, locals := 239 })).room s m #[.ref a0, .ref a1, .int x2, .int x3] below meth c H locs 0 0 (MQ below (va_Qi (fun r (_ : Unit) => (fun r : Int32 => iv 0 1 r) r) (fun _ => sgB (KT P) D vwCl base tys ad ks) (fun q : Nat => base ≤ q)) #[.ref a0, .ref a1, .int x2, .int x3] s 0 0 (fun q : Nat => base ≤ q)) (F0 m 53 ls []) := by
            intro H locs ls hG hS hl
            refine lv_iload X.1 X.2.1 dX6_readCondition_53 (lv_at hl 5 rfl) ?_
            refine lv_bipush (v := 38) X.1 X.2.1 dX6_readCondition_55 (by decide +kernel) ?_
            have B10_69 : ∀ (locs : List Loc) (ls : Array Slot), va_S (fun q : Nat => base ≤ q) s.heap H locs → lv_has ls 7 [(0, .ref a0), (1, .ref a1), (2, .int x2), (4, .int z3_4), (5, .int z3_5), (6, .int f6)] → W p l e (headSpec (Cond.code yX6_readCondition cX6_readCondition 7 (some .boolean) :: sg_tbl) ({ frames := 10, cells := 0, slots := 0, locals := 239 })).room s m #[.ref a0, .ref a1, .int x2, .int x3] below meth c H locs 0 0 (MQ below (va_Qi (fun r (_ : Unit) => (fun r : Int32 => iv 0 1 r) r) (fun _ => sgB (KT P) D vwCl base tys ad ks) (fun q : Nat => base ≤ q)) #[.ref a0, .ref a1, .int x2, .int x3] s 0 0 (fun q : Nat => base ≤ q)) (F0 m 69 ls []) := by
              intro locs ls hS hl
              refine lv_aload_n X.1 X.2.1 dX6_readCondition_69 rfl (lv_at hl 1 rfl) ?_
              refine ca_X10_step X hK hG hC hS hb a1 h1 wl_3_229 hl.1 (rest := []) rfl (Nat.le_of_ble_eq_true rfl) ⟨Nat.le_of_ble_eq_true rfl, Nat.le_of_ble_eq_true rfl⟩ ⟨Nat.le_of_ble_eq_true rfl, Nat.le_of_ble_eq_true rfl⟩ dX6_readCondition_70 (fun H locs hG hS => ?_)
              refine lv_aload_n X.1 X.2.1 dX6_readCondition_73 rfl (lv_at hl 0 rfl) ?_
              refine lv_aload_n X.1 X.2.1 dX6_readCondition_74 rfl (lv_at hl 1 rfl) ?_
              refine lv_iload_n X.1 X.2.1 dX6_readCondition_75 rfl (lv_at hl 2 rfl) ?_
              refine ca_X6_readUnit_5 X hK hG hC hS hb a0 h0 a1 h1 x2 h2 wl_4_9 hl.1 (rest := []) rfl (Nat.le_of_ble_eq_true rfl) ⟨Nat.le_of_ble_eq_true rfl, Nat.le_of_ble_eq_true rfl⟩ ⟨Nat.le_of_ble_eq_true rfl, Nat.le_of_ble_eq_true rfl⟩ dX6_readCondition_76 (fun f12 H locs hf12 hG hS => ?_)
              refine lv_if_ne (tgt := 84) X.1 X.2.1 dX6_readCondition_79 (by decide) (fun c13 => ?_) (fun c13 => ?_)
              · refine lv_iload X.1 X.2.1 dX6_readCondition_84 (lv_at hl 5 rfl) ?_
                refine lv_bipush (v := 38) X.1 X.2.1 dX6_readCondition_86 (by decide +kernel) ?_
                have B15_103 : ∀ (H : Heap) (locs : List Loc) (ls : Array Slot) (z15_4 : Int32), sgG (KT P) D vwCl (fun q : Nat => base ≤ q) tys ad ks H → va_S (fun q : Nat => base ≤ q) s.heap H locs → lv_has ls 7 [(0, .ref a0), (1, .ref a1), (2, .int x2), (4, .int z15_4), (5, .int z3_5)] → iv 0 1 z15_4 → W p l e (headSpec (Cond.code yX6_readCondition cX6_readCondition 7 (some .boolean) :: sg_tbl) ({ frames := 10, cells := 0, slots := 0, locals := 239 })).room s m #[.ref a0, .ref a1, .int x2, .int x3] below meth c H locs 0 0 (MQ below (va_Qi (fun r (_ : Unit) => (fun r : Int32 => iv 0 1 r) r) (fun _ => sgB (KT P) D vwCl base tys ad ks) (fun q : Nat => base ≤ q)) #[.ref a0, .ref a1, .int x2, .int x3] s 0 0 (fun q : Nat => base ≤ q)) (F0 m 103 ls []) := by
                  intro H locs ls z15_4 hG hS hl hz15_4
                  obtain ⟨y16, ey16⟩ : ∃ y : Int32, y = z3_5 + Int32.ofInt 1 := ⟨_, rfl⟩
                  refine lv_iinc (v := y16) (lv' := [(5, .int y16), (0, .ref a0), (1, .ref a1), (2, .int x2), (4, .int z15_4)]) X.1 X.2.1 dX6_readCondition_103 hl (k := 4) rfl ey16.symm (by decide) rfl (fun ls hl => ?_)
                  refine lv_goto (tgt := 21) X.1 X.2.1 dX6_readCondition_106 (by decide) ?_
                  exact ih3 H _ _ z15_4 y16 hG hS (lv_sub hl [1, 2, 3, 4, 0] rfl) hz15_4 (iv_of (iv_add (a' := 1) (b' := 240) ey16 (iv_lt (b' := 239) (iv_gt_of c4) hz3_5 (iv_c 240 (a := 240) (b := 240) (by decide +kernel)) (by decide +kernel)) (iv_c _ (a := 1) (b := 1) (by decide +kernel)) (by decide +kernel)) (a' := 0) (b' := 240) (by decide +kernel)) (iv_stepU ey16 (iv_lt (b' := 239) (iv_gt_of c4) hz3_5 (iv_c 240 (a := 240) (b := 240) (by decide +kernel)) (by decide +kernel)) (by decide +kernel) hN3)
                refine lv_icmp_ne (tgt := 100) X.1 X.2.1 dX6_readCondition_88 (by decide) (fun c14 => ?_) (fun c14 => ?_)
                · refine lv_iconst (v := 1) X.1 X.2.1 dX6_readCondition_100 (by decide +kernel) ?_
                  refine lv_istore (lv' := [(4, .int 1), (0, .ref a0), (1, .ref a1), (2, .int x2), (5, .int z3_5), (6, .int f6)]) X.1 X.2.1 dX6_readCondition_101 hl (by decide) rfl (fun ls hl => ?_)
                  exact B15_103 H _ _ 1 hG hS (lv_sub hl [1, 2, 3, 0, 4] rfl) (iv_of (iv_c 1 (a := 1) (b := 1) (by decide +kernel)) (a' := 0) (b' := 1) (by decide +kernel))
                · refine lv_aload_n X.1 X.2.1 dX6_readCondition_91 rfl (lv_at hl 0 rfl) ?_
                  refine lv_bipush (v := (-17)) X.1 X.2.1 dX6_readCondition_92 (by decide +kernel) ?_
                  refine ca_X6_put X hK hG hC hS hb a0 h0 (-17) wl_3_232 hl.1 (rest := []) rfl (Nat.le_of_ble_eq_true rfl) ⟨Nat.le_of_ble_eq_true rfl, Nat.le_of_ble_eq_true rfl⟩ ⟨Nat.le_of_ble_eq_true rfl, Nat.le_of_ble_eq_true rfl⟩ dX6_readCondition_94 (fun H locs hG hS => ?_)
                  refine lv_goto (tgt := 103) X.1 X.2.1 dX6_readCondition_97 (by decide) ?_
                  exact B15_103 H _ _ z3_4 hG hS (lv_sub hl [0, 1, 2, 3, 4] rfl) hz3_4
              · refine lv_iconst (v := 0) X.1 X.2.1 dX6_readCondition_82 (by decide +kernel) ?_
                exact sg_zret X hr (sg_zn (iv_of (iv_c 0 (a := 0) (b := 0) (by decide +kernel)) (a' := 0) (b' := 1) (by decide +kernel))) hlk hb hK hC hG hS (iv_of (iv_c 0 (a := 0) (b := 0) (by decide +kernel)) (a' := 0) (b' := 1) (by decide +kernel)) dX6_readCondition_83
            refine lv_icmp_eq (tgt := 69) X.1 X.2.1 dX6_readCondition_57 (by decide) (fun c9 => ?_) (fun c9 => ?_)
            · exact B10_69 _ _ hS (lv_sub hl [0, 1, 2, 3, 4, 5] rfl)
            · refine lv_iload X.1 X.2.1 dX6_readCondition_60 (lv_at hl 5 rfl) ?_
              refine lv_bipush (v := 124) X.1 X.2.1 dX6_readCondition_62 (by decide +kernel) ?_
              refine lv_icmp_eq (tgt := 69) X.1 X.2.1 dX6_readCondition_64 (by decide) (fun c18 => ?_) (fun c18 => ?_)
              · exact B10_69 _ _ hS (lv_sub hl [0, 1, 2, 3, 4, 5] rfl)
              · refine lv_iconst (v := 1) X.1 X.2.1 dX6_readCondition_67 (by decide +kernel) ?_
                exact sg_zret X hr (sg_zn (iv_of (iv_c 1 (a := 1) (b := 1) (by decide +kernel)) (a' := 0) (b' := 1) (by decide +kernel))) hlk hb hK hC hG hS (iv_of (iv_c 1 (a := 1) (b := 1) (by decide +kernel)) (a' := 0) (b' := 1) (by decide +kernel)) dX6_readCondition_68
          refine lv_icmp_eq (tgt := 53) X.1 X.2.1 dX6_readCondition_39 (by decide) (fun c7 => ?_) (fun c7 => ?_)
          · exact B8_53 H _ _ hG hS (lv_sub hl [1, 2, 3, 4, 5, 0] rfl)
          · refine lv_iload X.1 X.2.1 dX6_readCondition_42 (lv_at hl 4 rfl) ?_
            refine lv_if_eq (tgt := 53) X.1 X.2.1 dX6_readCondition_44 (by decide) (fun c19 => ?_) (fun c19 => ?_)
            · exact B8_53 H _ _ hG hS (lv_sub hl [1, 2, 3, 4, 5, 0] rfl)
            · refine lv_aload_n X.1 X.2.1 dX6_readCondition_47 rfl (lv_at hl 1 rfl) ?_
              refine lv_bipush (v := (-18)) X.1 X.2.1 dX6_readCondition_48 (by decide +kernel) ?_
              refine ca_X6_put X hK hG hC hS hb a0 h0 (-18) wl_3_232 hl.1 (rest := []) rfl (Nat.le_of_ble_eq_true rfl) ⟨Nat.le_of_ble_eq_true rfl, Nat.le_of_ble_eq_true rfl⟩ ⟨Nat.le_of_ble_eq_true rfl, Nat.le_of_ble_eq_true rfl⟩ dX6_readCondition_50 (fun H locs hG hS => ?_)
              exact B8_53 H _ _ hG hS (lv_sub hl [1, 2, 3, 4, 5, 0] rfl)
    exact B3_21 _ H _ _ 0 0 hG hS (lv_sub hl [2, 3, 4, 1, 0] rfl) (iv_of (iv_c 0 (a := 0) (b := 0) (by decide +kernel)) (a' := 0) (b' := 1) (by decide +kernel)) (iv_of (iv_c 0 (a := 0) (b := 0) (by decide +kernel)) (a' := 0) (b' := 240) (by decide +kernel)) (Nat.le_refl _)
  refine lv_if_ne (tgt := 15) X.1 X.2.1 dX6_readCondition_1 (by decide) (fun c1 => ?_) (fun c1 => ?_)
  · exact B2_15 s.heap _ _ hG hS (lv_sub hl [0, 1, 2] rfl)
  · refine lv_aload_n X.1 X.2.1 dX6_readCondition_4 rfl (lv_at hl 0 rfl) ?_
    refine lv_aload_n X.1 X.2.1 dX6_readCondition_5 rfl (lv_at hl 1 rfl) ?_
    refine lv_iload_n X.1 X.2.1 dX6_readCondition_6 rfl (lv_at hl 2 rfl) ?_
    refine ca_X6_readUnit_5 X hK hG hC hS hb a0 h0 a1 h1 x2 h2 wl_4_9 hl.1 (rest := []) rfl (Nat.le_of_ble_eq_true rfl) ⟨Nat.le_of_ble_eq_true rfl, Nat.le_of_ble_eq_true rfl⟩ ⟨Nat.le_of_ble_eq_true rfl, Nat.le_of_ble_eq_true rfl⟩ dX6_readCondition_7 (fun f21 H locs hf21 hG hS => ?_)
    refine lv_if_ne (tgt := 15) X.1 X.2.1 dX6_readCondition_10 (by decide) (fun c22 => ?_) (fun c22 => ?_)
    · exact B2_15 H _ _ hG hS (lv_sub hl [0, 1, 2] rfl)
    · refine lv_iconst (v := 0) X.1 X.2.1 dX6_readCondition_13 (by decide +kernel) ?_
      exact sg_zret X hr (sg_zn (iv_of (iv_c 0 (a := 0) (b := 0) (by decide +kernel)) (a' := 0) (b' := 1) (by decide +kernel))) hlk hb hK hC hG hS (iv_of (iv_c 0 (a := 0) (b := 0) (by decide +kernel)) (a' := 0) (b' := 1) (by decide +kernel)) dX6_readCondition_14

theorem ca_X6_readCondition_5   (X : CallFix p m c cc nL s args sg_tbl own) (hK : va_K D vwCl tys s) (hG : sgG (KT P) D vwCl (fun q : Nat => base ≤ q) tys ad ks H) (hC : sgC base s) (hS : va_S (fun q : Nat => base ≤ q) s.heap H locs) (hb : base ≤ s.heap.size) (a0 : Nat) (h0 : isK ad ks 6 a0) (a1 : Nat) (h1 : isK ad ks 10 a1) (x2 : Int32) (h2 : iv 5 5 x2) (x3 : Int32) (h3 : iv 0 1 x3) (hl : Cond.methodLink own index yX6_readCondition ∈ sg_tbl) (hsize : ls.size = nL) (hst : st0 = [.ref a1, .int x2, .int x3].reverse ++ .ref a0 :: rest) (hW : (rest.map fun v => v.category).sum ≤ 8) (hR : 11 ≤ R.frames ∧ 265 ≤ R.locals) (hf : cells ≤ R.cells ∧ slots ≤ R.slots) (hdg : decode cc pc = .ok (.invokevirtual index, 3)) (kk : ∀ (r : Int32) (H1 : Heap) (locs1 : List Loc), (fun r : Int32 => iv 0 1 r) r → sgG (KT P) D vwCl (fun q : Nat => base ≤ q) tys ad ks H1 → va_S (fun q : Nat => base ≤ q) s.heap H1 locs1 → W p l e R s m args below meth c H1 locs1 cells slots Q (F0 m (pc + 3) ls (.int r :: rest))) : W p l e R s m args below meth c H locs cells slots Q (F0 m pc ls st0) :=
  sg_callVi X hK hG hC hS hb (m_X6_readCondition_5 l a0 h0 a1 h1 x2 h2 x3 h3) h0 (k := 6) (ci := 6) rfl (C := RX6) (T := TX6) (N := 7) rfl wl_4_8 wl_1_3 wl_4_7 wl_0_15 (n := 3) (by decide +kernel) rfl rfl rfl hl hsize hst hW hR hf hdg kk

set_option maxHeartbeats 8000000 in
set_option maxRecDepth 100000 in
theorem m_X6_readAtom_4 (l : Launch) {D : va_G} {base : Nat} {tys : List (ClassId × FieldType)} {ad ks : List Nat} {P : sgPm} (a0 : Nat) (h0 : isK ad ks 6 a0) (a1 : Nat) (h1 : isK ad ks 10 a1) (x2 : Int32) (h2 : iv 4 4 x2) : sgMi l (KT P) D vwCl base tys ad ks yX6_readAtom cX6_readAtom 6 (some .boolean) ({ frames := 8, cells := 0, slots := 0, locals := 193 }) [.ref a0, .ref a1, .int x2] (fun r : Int32 => iv 0 1 r) := by
  refine sg_ofW (by decide +kernel) (Nat.le_of_ble_eq_true rfl) (fun p e s m below meth c X hr hlk hb hK hC hG ls hl => ?_)
  have hS : va_S (fun q : Nat => base ≤ q) s.heap s.heap [] := va_S.rf
  have hl : lv_has ls 6 [(0, .ref a0), (1, .ref a1), (2, .int x2)] := hl
  refine lv_aload_n X.1 X.2.1 dX6_readAtom_0 rfl (lv_at hl 1 rfl) ?_
  refine ca_X10_sign X hK hG hC (fun _ h => h) hS hb a1 h1 wl_3_219 hl.1 (rest := []) rfl (Nat.le_of_ble_eq_true rfl) ⟨Nat.le_of_ble_eq_true rfl, Nat.le_of_ble_eq_true rfl⟩ ⟨Nat.le_of_ble_eq_true rfl, Nat.le_of_ble_eq_true rfl⟩ dX6_readAtom_1 (fun f1 locs hf1 hS => ?_)
  refine lv_istore_n (lv' := [(3, .int f1), (0, .ref a0), (1, .ref a1), (2, .int x2)]) X.1 X.2.1 dX6_readAtom_4 rfl hl (by decide) rfl (fun ls hl => ?_)
  refine lv_iload_n X.1 X.2.1 dX6_readAtom_5 rfl (lv_at hl 0 rfl) ?_
  refine lv_bipush (v := 91) X.1 X.2.1 dX6_readAtom_6 (by decide +kernel) ?_
  refine lv_icmp_ne (tgt := 59) X.1 X.2.1 dX6_readAtom_8 (by decide) (fun c2 => ?_) (fun c2 => ?_)
  · obtain ⟨t3, vt3, pt3, rt3⟩ := hC.1.2.1
    refine va_ldcS X.1 X.2.1 X.2.2.2.1 rt3 dX6_readAtom_59 ?_
    refine lv_iload_n X.1 X.2.1 dX6_readAtom_61 rfl (lv_at hl 0 rfl) ?_
    obtain ⟨f4, ef4⟩ : ∃ y : Int32, y = ((f1 : Int32).toUInt32 % 65536).toInt32 := ⟨_, rfl⟩
    refine lv_i2c (v := f4) X.1 X.2.1 dX6_readAtom_62 ef4.symm ?_
    refine ca_J0_indexOf_0f7a4_6 X hK hG hC (fun _ h => h) hS hb pt3 f4 wl_3_231 hl.1 (rest := []) rfl (Nat.le_of_ble_eq_true rfl) ⟨Nat.le_of_ble_eq_true rfl, Nat.le_of_ble_eq_true rfl⟩ ⟨Nat.le_of_ble_eq_true rfl, Nat.le_of_ble_eq_true rfl⟩ dX6_readAtom_63 (fun f5 locs hf5 hS => ?_)
    refine lv_istore (lv' := [(4, .int f5), (3, .int f1), (0, .ref a0), (1, .ref a1), (2, .int x2)]) X.1 X.2.1 dX6_readAtom_66 hl (by decide) rfl (fun ls hl => ?_)
    refine lv_iload X.1 X.2.1 dX6_readAtom_68 (lv_at hl 0 rfl) ?_
    refine lv_if_lt (tgt := 107) X.1 X.2.1 dX6_readAtom_70 (by decide) (fun c6 => ?_) (fun c6 => ?_)
    · refine lv_aload_n X.1 X.2.1 dX6_readAtom_107 rfl (lv_at hl 3 rfl) ?_
      refine lv_iconst (v := 4) X.1 X.2.1 dX6_readAtom_108 (by decide +kernel) ?_
      refine lv_iconst (v := 0) X.1 X.2.1 dX6_readAtom_109 (by decide +kernel) ?_
      refine lv_sipush (v := 9999) X.1 X.2.1 dX6_readAtom_110 (by decide +kernel) ?_
      refine ca_X10_number X hK hG hC hS hb a1 h1 4 0 9999 wl_3_236 hl.1 (rest := []) rfl (Nat.le_of_ble_eq_true rfl) ⟨Nat.le_of_ble_eq_true rfl, Nat.le_of_ble_eq_true rfl⟩ ⟨Nat.le_of_ble_eq_true rfl, Nat.le_of_ble_eq_true rfl⟩ dX6_readAtom_113 (fun f7 H locs hf7 hG hS => ?_)
      refine lv_istore (lv' := [(5, .int f7), (4, .int f5), (3, .int f1), (0, .ref a0), (1, .ref a1), (2, .int x2)]) X.1 X.2.1 dX6_readAtom_116 hl (by decide) rfl (fun ls hl => ?_)
      refine lv_aload_n X.1 X.2.1 dX6_readAtom_118 rfl (lv_at hl 3 rfl) ?_
      refine lv_iload X.1 X.2.1 dX6_readAtom_119 (lv_at hl 0 rfl) ?_
      refine lv_iconst (v := 0) X.1 X.2.1 dX6_readAtom_121 (by decide +kernel) ?_
      refine va_mmax X.1 X.2.1 (X.2.2.1.trans hl.1.symm) X.2.2.2.1 (X.2.2.2.2 _ wl_3_237) (X.2.2.2.2 _ wl_3_100) (X.2.2.2.2 _ wl_1_15) (X.2.2.2.2 _ wl_3_101) (Nat.le_of_ble_eq_true rfl) (Nat.le_of_ble_eq_true rfl) (Nat.le_of_ble_eq_true rfl) (Nat.le_of_ble_eq_true rfl) dX6_readAtom_122 ?_
      refine lv_topi (fun f8 ef8 => ?_)
      refine ca_X6_put X hK hG hC hS hb a0 h0 f8 wl_3_232 hl.1 (rest := []) rfl (Nat.le_of_ble_eq_true rfl) ⟨Nat.le_of_ble_eq_true rfl, Nat.le_of_ble_eq_true rfl⟩ ⟨Nat.le_of_ble_eq_true rfl, Nat.le_of_ble_eq_true rfl⟩ dX6_readAtom_125 (fun H locs hG hS => ?_)
      refine lv_iload X.1 X.2.1 dX6_readAtom_128 (lv_at hl 0 rfl) ?_
      refine lv_iconst (v := (-1)) X.1 X.2.1 dX6_readAtom_130 (by decide +kernel) ?_
      refine lv_icmp_eq (tgt := 138) X.1 X.2.1 dX6_readAtom_131 (by decide) (fun c10 => ?_) (fun c10 => ?_)
      · refine lv_iconst (v := 0) X.1 X.2.1 dX6_readAtom_138 (by decide +kernel) ?_
        exact sg_zret X hr (sg_zn (iv_of (iv_c 0 (a := 0) (b := 0) (by decide +kernel)) (a' := 0) (b' := 1) (by decide +kernel))) hlk hb hK hC hG hS (iv_of (iv_c 0 (a := 0) (b := 0) (by decide +kernel)) (a' := 0) (b' := 1) (by decide +kernel)) dX6_readAtom_139
      · refine lv_iconst (v := 1) X.1 X.2.1 dX6_readAtom_134 (by decide +kernel) ?_
        refine lv_goto (tgt := 139) X.1 X.2.1 dX6_readAtom_135 (by decide) ?_
        exact sg_zret X hr (sg_zn (iv_of (iv_c 1 (a := 1) (b := 1) (by decide +kernel)) (a' := 0) (b' := 1) (by decide +kernel))) hlk hb hK hC hG hS (iv_of (iv_c 1 (a := 1) (b := 1) (by decide +kernel)) (a' := 0) (b' := 1) (by decide +kernel)) dX6_readAtom_139
    · refine lv_aload_n X.1 X.2.1 dX6_readAtom_73 rfl (lv_at hl 2 rfl) ?_
      refine lv_dup X.1 X.2.1 dX6_readAtom_74 rfl ?_
      refine gf_X6_6 X hK hG h0 wl_1_72 dX6_readAtom_75 (fun f11 hf11 kf11 => ?_)
      refine lv_iload X.1 X.2.1 dX6_readAtom_78 (lv_at hl 0 rfl) ?_
      refine lv_iconst (v := 4) X.1 X.2.1 dX6_readAtom_80 (by decide +kernel) ?_
      have B13_89 : ∀ (locs : List Loc) (ls : Array Slot) (w13_0 : Int32), va_S (fun q : Nat => base ≤ q) s.heap s.heap locs → lv_has ls 6 [(0, .ref a0), (1, .ref a1), (4, .int f5)] → iv 0 1 w13_0 → W p l e (headSpec (Cond.code yX6_readAtom cX6_readAtom 6 (some .boolean) :: sg_tbl) ({ frames := 8, cells := 0, slots := 0, locals := 193 })).room s m #[.ref a0, .ref a1, .int x2] below meth c s.heap locs 0 0 (MQ below (va_Qi (fun r (_ : Unit) => (fun r : Int32 => iv 0 1 r) r) (fun _ => sgB (KT P) D vwCl base tys ad ks) (fun q : Nat => base ≤ q)) #[.ref a0, .ref a1, .int x2] s 0 0 (fun q : Nat => base ≤ q)) (F0 m 89 ls [.int w13_0, .int f11, .ref a0]) := by
        intro locs ls w13_0 hS hl hw13_0
        refine lv_ior X.1 X.2.1 dX6_readAtom_89 ?_
        refine lv_topi (fun f14 ef14 => ?_)
        refine pf_X6_6 X hK hG hS h0 wl_1_72 ⟨_, rfl, (iv_of (iv_or 1 ef14 hf11 hw13_0 (by decide +kernel)) (a' := 0) (b' := 1) (by decide +kernel))⟩ dX6_readAtom_90 (fun H locs hG hS ku15 ru15 => ?_)
        refine lv_aload_n X.1 X.2.1 dX6_readAtom_93 rfl (lv_at hl 0 rfl) ?_
        refine lv_iconst (v := (-1)) X.1 X.2.1 dX6_readAtom_94 (by decide +kernel) ?_
        refine lv_iload X.1 X.2.1 dX6_readAtom_95 (lv_at hl 2 rfl) ?_
        refine lv_isub X.1 X.2.1 dX6_readAtom_97 ?_
        refine lv_topi (fun f16 ef16 => ?_)
        refine ca_X6_put X hK hG hC hS hb a0 h0 f16 wl_3_232 hl.1 (rest := []) rfl (Nat.le_of_ble_eq_true rfl) ⟨Nat.le_of_ble_eq_true rfl, Nat.le_of_ble_eq_true rfl⟩ ⟨Nat.le_of_ble_eq_true rfl, Nat.le_of_ble_eq_true rfl⟩ dX6_readAtom_98 (fun H locs hG hS => ?_)
        refine lv_aload_n X.1 X.2.1 dX6_readAtom_101 rfl (lv_at hl 1 rfl) ?_
        refine ca_X10_step X hK hG hC hS hb a1 h1 wl_3_229 hl.1 (rest := []) rfl (Nat.le_of_ble_eq_true rfl) ⟨Nat.le_of_ble_eq_true rfl, Nat.le_of_ble_eq_true rfl⟩ ⟨Nat.le_of_ble_eq_true rfl, Nat.le_of_ble_eq_true rfl⟩ dX6_readAtom_102 (fun H locs hG hS => ?_)
        refine lv_iconst (v := 1) X.1 X.2.1 dX6_readAtom_105 (by decide +kernel) ?_
        exact sg_zret X hr (sg_zn (iv_of (iv_c 1 (a := 1) (b := 1) (by decide +kernel)) (a' := 0) (b' := 1) (by decide +kernel))) hlk hb hK hC hG hS (iv_of (iv_c 1 (a := 1) (b := 1) (by decide +kernel)) (a' := 0) (b' := 1) (by decide +kernel)) dX6_readAtom_106
      refine lv_icmp_ne (tgt := 88) X.1 X.2.1 dX6_readAtom_81 (by decide) (fun c12 => ?_) (fun c12 => ?_)
      · refine lv_iconst (v := 0) X.1 X.2.1 dX6_readAtom_88 (by decide +kernel) ?_
        exact B13_89 _ _ 0 hS (lv_sub hl [2, 3, 0] rfl) (iv_of (iv_c 0 (a := 0) (b := 0) (by decide +kernel)) (a' := 0) (b' := 1) (by decide +kernel))
      · refine lv_iconst (v := 1) X.1 X.2.1 dX6_readAtom_84 (by decide +kernel) ?_
        refine lv_goto (tgt := 89) X.1 X.2.1 dX6_readAtom_85 (by decide) ?_
        exact B13_89 _ _ 1 hS (lv_sub hl [2, 3, 0] rfl) (iv_of (iv_c 1 (a := 1) (b := 1) (by decide +kernel)) (a' := 0) (b' := 1) (by decide +kernel))
  · refine lv_iload_n X.1 X.2.1 dX6_readAtom_11 rfl (lv_at hl 3 rfl) ?_
    refine lv_bipush (v := 6) X.1 X.2.1 dX6_readAtom_12 (by decide +kernel) ?_
    refine lv_icmp_lt (tgt := 22) X.1 X.2.1 dX6_readAtom_14 (by decide) (fun c19 => ?_) (fun c19 => ?_)
    · refine lv_aload_n X.1 X.2.1 dX6_readAtom_22 rfl (lv_at hl 2 rfl) ?_
      refine ca_X10_step X hK hG hC hS hb a1 h1 wl_3_229 hl.1 (rest := []) rfl (Nat.le_of_ble_eq_true rfl) ⟨Nat.le_of_ble_eq_true rfl, Nat.le_of_ble_eq_true rfl⟩ ⟨Nat.le_of_ble_eq_true rfl, Nat.le_of_ble_eq_true rfl⟩ dX6_readAtom_23 (fun H locs hG hS => ?_)
      refine lv_aload_n X.1 X.2.1 dX6_readAtom_26 rfl (lv_at hl 1 rfl) ?_
      refine lv_aload_n X.1 X.2.1 dX6_readAtom_27 rfl (lv_at hl 2 rfl) ?_
      refine lv_iload_n X.1 X.2.1 dX6_readAtom_28 rfl (lv_at hl 3 rfl) ?_
      refine lv_iconst (v := 1) X.1 X.2.1 dX6_readAtom_29 (by decide +kernel) ?_
      refine lv_iadd X.1 X.2.1 dX6_readAtom_30 ?_
      refine lv_topi (fun f21 ef21 => ?_)
      refine ca_X6_readSum_5 X hK hG hC hS hb a0 h0 a1 h1 f21 (iv_add (a' := 5) (b' := 5) ef21 h2 (iv_c 1 (a := 1) (b := 1) (by decide +kernel)) (by decide +kernel)) wl_3_220 hl.1 (rest := []) rfl (Nat.le_of_ble_eq_true rfl) ⟨Nat.le_of_ble_eq_true rfl, Nat.le_of_ble_eq_true rfl⟩ ⟨Nat.le_of_ble_eq_true rfl, Nat.le_of_ble_eq_true rfl⟩ dX6_readAtom_31 (fun f22 H locs hf22 hG hS => ?_)
      refine lv_if_ne (tgt := 39) X.1 X.2.1 dX6_readAtom_34 (by decide) (fun c23 => ?_) (fun c23 => ?_)
      · refine lv_aload_n X.1 X.2.1 dX6_readAtom_39 rfl (lv_at hl 2 rfl) ?_
        refine ca_X10_sign X hK hG hC (fun _ h => h) hS hb a1 h1 wl_3_219 hl.1 (rest := []) rfl (Nat.le_of_ble_eq_true rfl) ⟨Nat.le_of_ble_eq_true rfl, Nat.le_of_ble_eq_true rfl⟩ ⟨Nat.le_of_ble_eq_true rfl, Nat.le_of_ble_eq_true rfl⟩ dX6_readAtom_40 (fun f24 locs hf24 hS => ?_)
        refine lv_bipush (v := 93) X.1 X.2.1 dX6_readAtom_43 (by decide +kernel) ?_
        refine lv_icmp_eq (tgt := 53) X.1 X.2.1 dX6_readAtom_45 (by decide) (fun c25 => ?_) (fun c25 => ?_)
        · refine lv_aload_n X.1 X.2.1 dX6_readAtom_53 rfl (lv_at hl 2 rfl) ?_
          refine ca_X10_step X hK hG hC hS hb a1 h1 wl_3_229 hl.1 (rest := []) rfl (Nat.le_of_ble_eq_true rfl) ⟨Nat.le_of_ble_eq_true rfl, Nat.le_of_ble_eq_true rfl⟩ ⟨Nat.le_of_ble_eq_true rfl, Nat.le_of_ble_eq_true rfl⟩ dX6_readAtom_54 (fun H locs hG hS => ?_)
          refine lv_iconst (v := 1) X.1 X.2.1 dX6_readAtom_57 (by decide +kernel) ?_
          exact sg_zret X hr (sg_zn (iv_of (iv_c 1 (a := 1) (b := 1) (by decide +kernel)) (a' := 0) (b' := 1) (by decide +kernel))) hlk hb hK hC hG hS (iv_of (iv_c 1 (a := 1) (b := 1) (by decide +kernel)) (a' := 0) (b' := 1) (by decide +kernel)) dX6_readAtom_58
        · refine lv_aload_n X.1 X.2.1 dX6_readAtom_48 rfl (lv_at hl 2 rfl) ?_
          refine ca_X10_wrong X hK hG hC hS hb a1 h1 wl_3_228 hl.1 (rest := []) rfl (Nat.le_of_ble_eq_true rfl) ⟨Nat.le_of_ble_eq_true rfl, Nat.le_of_ble_eq_true rfl⟩ ⟨Nat.le_of_ble_eq_true rfl, Nat.le_of_ble_eq_true rfl⟩ dX6_readAtom_49 (fun f27 H locs hf27 hG hS => ?_)
          exact sg_zret X hr (sg_zn hf27) hlk hb hK hC hG hS hf27 dX6_readAtom_52
      · refine lv_iconst (v := 0) X.1 X.2.1 dX6_readAtom_37 (by decide +kernel) ?_
        exact sg_zret X hr (sg_zn (iv_of (iv_c 0 (a := 0) (b := 0) (by decide +kernel)) (a' := 0) (b' := 1) (by decide +kernel))) hlk hb hK hC hG hS (iv_of (iv_c 0 (a := 0) (b := 0) (by decide +kernel)) (a' := 0) (b' := 1) (by decide +kernel)) dX6_readAtom_38
    · exact ((iv_no (iv_le (b' := 4) (iv_ge_of c19) (iv_c 6 (a := 6) (b := 6) (by decide +kernel)) h2 (by decide +kernel)) (by decide +kernel))).elim

theorem ca_X6_readAtom_4   (X : CallFix p m c cc nL s args sg_tbl own) (hK : va_K D vwCl tys s) (hG : sgG (KT P) D vwCl (fun q : Nat => base ≤ q) tys ad ks H) (hC : sgC base s) (hS : va_S (fun q : Nat => base ≤ q) s.heap H locs) (hb : base ≤ s.heap.size) (a0 : Nat) (h0 : isK ad ks 6 a0) (a1 : Nat) (h1 : isK ad ks 10 a1) (x2 : Int32) (h2 : iv 4 4 x2) (hl : Cond.methodLink own index yX6_readAtom ∈ sg_tbl) (hsize : ls.size = nL) (hst : st0 = [.ref a1, .int x2].reverse ++ .ref a0 :: rest) (hW : (rest.map fun v => v.category).sum ≤ 8) (hR : 9 ≤ R.frames ∧ 218 ≤ R.locals) (hf : cells ≤ R.cells ∧ slots ≤ R.slots) (hdg : decode cc pc = .ok (.invokevirtual index, 3)) (kk : ∀ (r : Int32) (H1 : Heap) (locs1 : List Loc), (fun r : Int32 => iv 0 1 r) r → sgG (KT P) D vwCl (fun q : Nat => base ≤ q) tys ad ks H1 → va_S (fun q : Nat => base ≤ q) s.heap H1 locs1 → W p l e R s m args below meth c H1 locs1 cells slots Q (F0 m (pc + 3) ls (.int r :: rest))) : W p l e R s m args below meth c H locs cells slots Q (F0 m pc ls st0) :=
  sg_callVi X hK hG hC hS hb (m_X6_readAtom_4 l a0 h0 a1 h1 x2 h2) h0 (k := 6) (ci := 6) rfl (C := RX6) (T := TX6) (N := 7) rfl wl_3_227 wl_1_3 wl_3_226 wl_0_12 (n := 2) (by decide +kernel) rfl rfl rfl hl hsize hst hW hR hf hdg kk

set_option maxHeartbeats 8000000 in
set_option maxRecDepth 100000 in
theorem m_X6_readSum_4 (l : Launch) {D : va_G} {base : Nat} {tys : List (ClassId × FieldType)} {ad ks : List Nat} {P : sgPm} (a0 : Nat) (h0 : isK ad ks 6 a0) (a1 : Nat) (h1 : isK ad ks 10 a1) (x2 : Int32) (h2 : iv 4 4 x2) : sgMi l (KT P) D vwCl base tys ad ks yX6_readSum cX6_readSum 7 (some .boolean) ({ frames := 9, cells := 0, slots := 0, locals := 218 }) [.ref a0, .ref a1, .int x2] (fun r : Int32 => iv 0 1 r) := by
  refine sg_ofW (by decide +kernel) (Nat.le_of_ble_eq_true rfl) (fun p e s m below meth c X hr hlk hb hK hC hG ls hl => ?_)
  have hS : va_S (fun q : Nat => base ≤ q) s.heap s.heap [] := va_S.rf
  have hl : lv_has ls 7 [(0, .ref a0), (1, .ref a1), (2, .int x2)] := hl
  refine lv_aload_n X.1 X.2.1 dX6_readSum_0 rfl (lv_at hl 0 rfl) ?_
  refine lv_aload_n X.1 X.2.1 dX6_readSum_1 rfl (lv_at hl 1 rfl) ?_
  refine lv_iload_n X.1 X.2.1 dX6_readSum_2 rfl (lv_at hl 2 rfl) ?_
  refine ca_X6_readAtom_4 X hK hG hC hS hb a0 h0 a1 h1 x2 h2 wl_3_224 hl.1 (rest := []) rfl (Nat.le_of_ble_eq_true rfl) ⟨Nat.le_of_ble_eq_true rfl, Nat.le_of_ble_eq_true rfl⟩ ⟨Nat.le_of_ble_eq_true rfl, Nat.le_of_ble_eq_true rfl⟩ dX6_readSum_3 (fun f1 H locs hf1 hG hS => ?_)
  refine lv_if_ne (tgt := 11) X.1 X.2.1 dX6_readSum_6 (by decide) (fun c2 => ?_) (fun c2 => ?_)
  · refine lv_iconst (v := 0) X.1 X.2.1 dX6_readSum_11 (by decide +kernel) ?_
    refine lv_istore_n (lv' := [(3, .int 0), (0, .ref a0), (1, .ref a1), (2, .int x2)]) X.1 X.2.1 dX6_readSum_12 rfl hl (by decide) rfl (fun ls hl => ?_)
    refine lv_iconst (v := 0) X.1 X.2.1 dX6_readSum_13 (by decide +kernel) ?_
    refine lv_istore (lv' := [(4, .int 0), (3, .int 0), (0, .ref a0), (1, .ref a1), (2, .int x2)]) X.1 X.2.1 dX6_readSum_14 hl (by decide) rfl (fun ls hl => ?_)
    have B3_16 : ∀ (N : Nat) (H : Heap) (locs : List Loc) (ls : Array Slot) (z3_3 : Int32) (z3_4 : Int32), sgG (KT P) D vwCl (fun q : Nat => base ≤ q) tys ad ks H → va_S (fun q : Nat => base ≤ q) s.heap H locs → lv_has ls 7 [(0, .ref a0), (1, .ref a1), (2, .int x2), (3, .int z3_3), (4, .int z3_4)] → iv (-11) 0 z3_3 → iv 0 240 z3_4 → (241 - z3_4.toInt).toNat ≤ N → W p l e (headSpec (Cond.code yX6_readSum cX6_readSum 7 (some .boolean) :: sg_tbl) ({ frames := 9, cells := 0, slots := 0, locals := 218 })).room s m #[.ref a0, .ref a1, .int x2] below meth c H locs 0 0 (MQ below (va_Qi (fun r (_ : Unit) => (fun r : Int32 => iv 0 1 r) r) (fun _ => sgB (KT P) D vwCl base tys ad ks) (fun q : Nat => base ≤ q)) #[.ref a0, .ref a1, .int x2] s 0 0 (fun q : Nat => base ≤ q)) (F0 m 16 ls []) := by
      intro N; induction N with
      | zero =>
        intro H locs ls z3_3 z3_4 hG hS hl hz3_3 hz3_4 hN
        exact absurd hN (by have := iv_up hz3_4; omega)
      | succ N ih3 =>
        intro H locs ls z3_3 z3_4 hG hS hl hz3_3 hz3_4 hN3
        refine lv_iload X.1 X.2.1 dX6_readSum_16 (lv_at hl 4 rfl) ?_
        refine lv_sipush (v := 240) X.1 X.2.1 dX6_readSum_18 (by decide +kernel) ?_
        refine lv_icmp_ge (tgt := 148) X.1 X.2.1 dX6_readSum_21 (by decide) (fun c4 => ?_) (fun c4 => ?_)
        · refine lv_aload_n X.1 X.2.1 dX6_readSum_148 rfl (lv_at hl 1 rfl) ?_
          refine ca_X10_wrong X hK hG hC hS hb a1 h1 wl_3_228 hl.1 (rest := []) rfl (Nat.le_of_ble_eq_true rfl) ⟨Nat.le_of_ble_eq_true rfl, Nat.le_of_ble_eq_true rfl⟩ ⟨Nat.le_of_ble_eq_true rfl, Nat.le_of_ble_eq_true rfl⟩ dX6_readSum_149 (fun f5 H locs hf5 hG hS => ?_)
          exact sg_zret X hr (sg_zn hf5) hlk hb hK hC hG hS hf5 dX6_readSum_152
        · refine lv_aload_n X.1 X.2.1 dX6_readSum_24 rfl (lv_at hl 1 rfl) ?_
          refine ca_X10_sign X hK hG hC (fun _ h => h) hS hb a1 h1 wl_3_219 hl.1 (rest := []) rfl (Nat.le_of_ble_eq_true rfl) ⟨Nat.le_of_ble_eq_true rfl, Nat.le_of_ble_eq_true rfl⟩ ⟨Nat.le_of_ble_eq_true rfl, Nat.le_of_ble_eq_true rfl⟩ dX6_readSum_25 (fun f6 locs hf6 hS => ?_)
          refine lv_istore (lv' := [(5, .int f6), (0, .ref a0), (1, .ref a1), (2, .int x2), (3, .int z3_3), (4, .int z3_4)]) X.1 X.2.1 dX6_readSum_28 hl (by decide) rfl (fun ls hl => ?_)
          refine lv_iload X.1 X.2.1 dX6_readSum_30 (lv_at hl 0 rfl) ?_
          refine lv_bipush (v := 42) X.1 X.2.1 dX6_readSum_32 (by decide +kernel) ?_
          have B8_49 : ∀ (locs : List Loc) (ls : Array Slot) (w8_0 : Int32), va_S (fun q : Nat => base ≤ q) s.heap H locs → lv_has ls 7 [(0, .ref a0), (1, .ref a1), (2, .int x2), (3, .int z3_3), (4, .int z3_4), (5, .int f6)] → iv 0 1 w8_0 → W p l e (headSpec (Cond.code yX6_readSum cX6_readSum 7 (some .boolean) :: sg_tbl) ({ frames := 9, cells := 0, slots := 0, locals := 218 })).room s m #[.ref a0, .ref a1, .int x2] below meth c H locs 0 0 (MQ below (va_Qi (fun r (_ : Unit) => (fun r : Int32 => iv 0 1 r) r) (fun _ => sgB (KT P) D vwCl base tys ad ks) (fun q : Nat => base ≤ q)) #[.ref a0, .ref a1, .int x2] s 0 0 (fun q : Nat => base ≤ q)) (F0 m 49 ls [.int w8_0]) := by
            intro locs ls w8_0 hS hl hw8_0
            refine lv_istore (lv' := [(6, .int w8_0), (0, .ref a0), (1, .ref a1), (2, .int x2), (3, .int z3_3), (4, .int z3_4), (5, .int f6)]) X.1 X.2.1 dX6_readSum_49 hl (by decide) rfl (fun ls hl => ?_)
            refine lv_iload X.1 X.2.1 dX6_readSum_51 (lv_at hl 0 rfl) ?_
            have B10_65 : ∀ (H : Heap) (locs : List Loc) (ls : Array Slot), sgG (KT P) D vwCl (fun q : Nat => base ≤ q) tys ad ks H → va_S (fun q : Nat => base ≤ q) s.heap H locs → lv_has ls 7 [(0, .ref a0), (1, .ref a1), (2, .int x2), (3, .int z3_3), (4, .int z3_4), (5, .int f6), (6, .int w8_0)] → W p l e (headSpec (Cond.code yX6_readSum cX6_readSum 7 (some .boolean) :: sg_tbl) ({ frames := 9, cells := 0, slots := 0, locals := 218 })).room s m #[.ref a0, .ref a1, .int x2] below meth c H locs 0 0 (MQ below (va_Qi (fun r (_ : Unit) => (fun r : Int32 => iv 0 1 r) r) (fun _ => sgB (KT P) D vwCl base tys ad ks) (fun q : Nat => base ≤ q)) #[.ref a0, .ref a1, .int x2] s 0 0 (fun q : Nat => base ≤ q)) (F0 m 65 ls []) := by
              intro H locs ls hG hS hl
              refine lv_iload X.1 X.2.1 dX6_readSum_65 (lv_at hl 6 rfl) ?_
              have B12_86 : ∀ (locs : List Loc) (ls : Array Slot), va_S (fun q : Nat => base ≤ q) s.heap H locs → lv_has ls 7 [(0, .ref a0), (1, .ref a1), (2, .int x2), (3, .int z3_3), (4, .int z3_4), (5, .int f6), (6, .int w8_0)] → W p l e (headSpec (Cond.code yX6_readSum cX6_readSum 7 (some .boolean) :: sg_tbl) ({ frames := 9, cells := 0, slots := 0, locals := 218 })).room s m #[.ref a0, .ref a1, .int x2] below meth c H locs 0 0 (MQ below (va_Qi (fun r (_ : Unit) => (fun r : Int32 => iv 0 1 r) r) (fun _ => sgB (KT P) D vwCl base tys ad ks) (fun q : Nat => base ≤ q)) #[.ref a0, .ref a1, .int x2] s 0 0 (fun q : Nat => base ≤ q)) (F0 m 86 ls []) := by
                intro locs ls hS hl
                refine lv_aload_n X.1 X.2.1 dX6_readSum_86 rfl (lv_at hl 1 rfl) ?_
                refine ca_X10_step X hK hG hC hS hb a1 h1 wl_3_229 hl.1 (rest := []) rfl (Nat.le_of_ble_eq_true rfl) ⟨Nat.le_of_ble_eq_true rfl, Nat.le_of_ble_eq_true rfl⟩ ⟨Nat.le_of_ble_eq_true rfl, Nat.le_of_ble_eq_true rfl⟩ dX6_readSum_87 (fun H locs hG hS => ?_)
                refine lv_aload_n X.1 X.2.1 dX6_readSum_90 rfl (lv_at hl 0 rfl) ?_
                refine lv_aload_n X.1 X.2.1 dX6_readSum_91 rfl (lv_at hl 1 rfl) ?_
                refine lv_iload_n X.1 X.2.1 dX6_readSum_92 rfl (lv_at hl 2 rfl) ?_
                refine ca_X6_readAtom_4 X hK hG hC hS hb a0 h0 a1 h1 x2 h2 wl_3_224 hl.1 (rest := []) rfl (Nat.le_of_ble_eq_true rfl) ⟨Nat.le_of_ble_eq_true rfl, Nat.le_of_ble_eq_true rfl⟩ ⟨Nat.le_of_ble_eq_true rfl, Nat.le_of_ble_eq_true rfl⟩ dX6_readSum_93 (fun f14 H locs hf14 hG hS => ?_)
                refine lv_if_ne (tgt := 101) X.1 X.2.1 dX6_readSum_96 (by decide) (fun c15 => ?_) (fun c15 => ?_)
                · refine lv_iload X.1 X.2.1 dX6_readSum_101 (lv_at hl 6 rfl) ?_
                  have B17_142 : ∀ (H : Heap) (locs : List Loc) (ls : Array Slot) (z17_3 : Int32), sgG (KT P) D vwCl (fun q : Nat => base ≤ q) tys ad ks H → va_S (fun q : Nat => base ≤ q) s.heap H locs → lv_has ls 7 [(0, .ref a0), (1, .ref a1), (2, .int x2), (3, .int z17_3), (4, .int z3_4)] → iv (-11) 0 z17_3 → W p l e (headSpec (Cond.code yX6_readSum cX6_readSum 7 (some .boolean) :: sg_tbl) ({ frames := 9, cells := 0, slots := 0, locals := 218 })).room s m #[.ref a0, .ref a1, .int x2] below meth c H locs 0 0 (MQ below (va_Qi (fun r (_ : Unit) => (fun r : Int32 => iv 0 1 r) r) (fun _ => sgB (KT P) D vwCl base tys ad ks) (fun q : Nat => base ≤ q)) #[.ref a0, .ref a1, .int x2] s 0 0 (fun q : Nat => base ≤ q)) (F0 m 142 ls []) := by
                    intro H locs ls z17_3 hG hS hl hz17_3
                    obtain ⟨y18, ey18⟩ : ∃ y : Int32, y = z3_4 + Int32.ofInt 1 := ⟨_, rfl⟩
                    refine lv_iinc (v := y18) (lv' := [(4, .int y18), (0, .ref a0), (1, .ref a1), (2, .int x2), (3, .int z17_3)]) X.1 X.2.1 dX6_readSum_142 hl (k := 4) rfl ey18.symm (by decide) rfl (fun ls hl => ?_)
                    refine lv_goto (tgt := 16) X.1 X.2.1 dX6_readSum_145 (by decide) ?_
                    exact ih3 H _ _ z17_3 y18 hG hS (lv_sub hl [1, 2, 3, 4, 0] rfl) hz17_3 (iv_of (iv_add (a' := 1) (b' := 240) ey18 (iv_lt (b' := 239) (iv_gt_of c4) hz3_4 (iv_c 240 (a := 240) (b := 240) (by decide +kernel)) (by decide +kernel)) (iv_c _ (a := 1) (b := 1) (by decide +kernel)) (by decide +kernel)) (a' := 0) (b' := 240) (by decide +kernel)) (iv_stepU ey18 (iv_lt (b' := 239) (iv_gt_of c4) hz3_4 (iv_c 240 (a := 240) (b := 240) (by decide +kernel)) (by decide +kernel)) (by decide +kernel) hN3)
                  refine lv_if_eq (tgt := 127) X.1 X.2.1 dX6_readSum_103 (by decide) (fun c16 => ?_) (fun c16 => ?_)
                  · refine lv_iload X.1 X.2.1 dX6_readSum_127 (lv_at hl 5 rfl) ?_
                    refine lv_bipush (v := 43) X.1 X.2.1 dX6_readSum_129 (by decide +kernel) ?_
                    have B20_141 : ∀ (locs : List Loc) (ls : Array Slot) (w20_0 : Int32), va_S (fun q : Nat => base ≤ q) s.heap H locs → lv_has ls 7 [(0, .ref a0), (1, .ref a1), (2, .int x2), (4, .int z3_4)] → iv (-11) (-10) w20_0 → W p l e (headSpec (Cond.code yX6_readSum cX6_readSum 7 (some .boolean) :: sg_tbl) ({ frames := 9, cells := 0, slots := 0, locals := 218 })).room s m #[.ref a0, .ref a1, .int x2] below meth c H locs 0 0 (MQ below (va_Qi (fun r (_ : Unit) => (fun r : Int32 => iv 0 1 r) r) (fun _ => sgB (KT P) D vwCl base tys ad ks) (fun q : Nat => base ≤ q)) #[.ref a0, .ref a1, .int x2] s 0 0 (fun q : Nat => base ≤ q)) (F0 m 141 ls [.int w20_0]) := by
                      intro locs ls w20_0 hS hl hw20_0
                      refine lv_istore_n (lv' := [(3, .int w20_0), (0, .ref a0), (1, .ref a1), (2, .int x2), (4, .int z3_4)]) X.1 X.2.1 dX6_readSum_141 rfl hl (by decide) rfl (fun ls hl => ?_)
                      exact B17_142 H _ _ w20_0 hG hS (lv_sub hl [1, 2, 3, 0, 4] rfl) (iv_of hw20_0 (a' := (-11)) (b' := 0) (by decide +kernel))
                    refine lv_icmp_ne (tgt := 139) X.1 X.2.1 dX6_readSum_131 (by decide) (fun c19 => ?_) (fun c19 => ?_)
                    · refine lv_bipush (v := (-11)) X.1 X.2.1 dX6_readSum_139 (by decide +kernel) ?_
                      exact B20_141 _ _ (-11) hS (lv_sub hl [0, 1, 2, 4] rfl) (iv_of (iv_c (-11) (a := (-11)) (b := (-11)) (by decide +kernel)) (a' := (-11)) (b' := (-10)) (by decide +kernel))
                    · refine lv_bipush (v := (-10)) X.1 X.2.1 dX6_readSum_134 (by decide +kernel) ?_
                      refine lv_goto (tgt := 141) X.1 X.2.1 dX6_readSum_136 (by decide) ?_
                      exact B20_141 _ _ (-10) hS (lv_sub hl [0, 1, 2, 4] rfl) (iv_of (iv_c (-10) (a := (-10)) (b := (-10)) (by decide +kernel)) (a' := (-11)) (b' := (-10)) (by decide +kernel))
                  · refine lv_aload_n X.1 X.2.1 dX6_readSum_106 rfl (lv_at hl 0 rfl) ?_
                    refine lv_iload X.1 X.2.1 dX6_readSum_107 (lv_at hl 5 rfl) ?_
                    refine lv_bipush (v := 42) X.1 X.2.1 dX6_readSum_109 (by decide +kernel) ?_
                    have B22_121 : ∀ (locs : List Loc) (ls : Array Slot) (w22_0 : Int32), va_S (fun q : Nat => base ≤ q) s.heap H locs → lv_has ls 7 [(0, .ref a0), (1, .ref a1), (2, .int x2), (3, .int z3_3), (4, .int z3_4)] → iv (-13) (-12) w22_0 → W p l e (headSpec (Cond.code yX6_readSum cX6_readSum 7 (some .boolean) :: sg_tbl) ({ frames := 9, cells := 0, slots := 0, locals := 218 })).room s m #[.ref a0, .ref a1, .int x2] below meth c H locs 0 0 (MQ below (va_Qi (fun r (_ : Unit) => (fun r : Int32 => iv 0 1 r) r) (fun _ => sgB (KT P) D vwCl base tys ad ks) (fun q : Nat => base ≤ q)) #[.ref a0, .ref a1, .int x2] s 0 0 (fun q : Nat => base ≤ q)) (F0 m 121 ls [.int w22_0, .ref a0]) := by
                      intro locs ls w22_0 hS hl hw22_0
                      refine ca_X6_put X hK hG hC hS hb a0 h0 w22_0 wl_3_232 hl.1 (rest := []) rfl (Nat.le_of_ble_eq_true rfl) ⟨Nat.le_of_ble_eq_true rfl, Nat.le_of_ble_eq_true rfl⟩ ⟨Nat.le_of_ble_eq_true rfl, Nat.le_of_ble_eq_true rfl⟩ dX6_readSum_121 (fun H locs hG hS => ?_)
                      refine lv_goto (tgt := 142) X.1 X.2.1 dX6_readSum_124 (by decide) ?_
                      exact B17_142 H _ _ z3_3 hG hS (lv_sub hl [0, 1, 2, 3, 4] rfl) hz3_3
                    refine lv_icmp_ne (tgt := 119) X.1 X.2.1 dX6_readSum_111 (by decide) (fun c21 => ?_) (fun c21 => ?_)
                    · refine lv_bipush (v := (-13)) X.1 X.2.1 dX6_readSum_119 (by decide +kernel) ?_
                      exact B22_121 _ _ (-13) hS (lv_sub hl [0, 1, 2, 3, 4] rfl) (iv_of (iv_c (-13) (a := (-13)) (b := (-13)) (by decide +kernel)) (a' := (-13)) (b' := (-12)) (by decide +kernel))
                    · refine lv_bipush (v := (-12)) X.1 X.2.1 dX6_readSum_114 (by decide +kernel) ?_
                      refine lv_goto (tgt := 121) X.1 X.2.1 dX6_readSum_116 (by decide) ?_
                      exact B22_121 _ _ (-12) hS (lv_sub hl [0, 1, 2, 3, 4] rfl) (iv_of (iv_c (-12) (a := (-12)) (b := (-12)) (by decide +kernel)) (a' := (-13)) (b' := (-12)) (by decide +kernel))
                · refine lv_iconst (v := 0) X.1 X.2.1 dX6_readSum_99 (by decide +kernel) ?_
                  exact sg_zret X hr (sg_zn (iv_of (iv_c 0 (a := 0) (b := 0) (by decide +kernel)) (a' := 0) (b' := 1) (by decide +kernel))) hlk hb hK hC hG hS (iv_of (iv_c 0 (a := 0) (b := 0) (by decide +kernel)) (a' := 0) (b' := 1) (by decide +kernel)) dX6_readSum_100
              refine lv_if_ne (tgt := 86) X.1 X.2.1 dX6_readSum_67 (by decide) (fun c11 => ?_) (fun c11 => ?_)
              · exact B12_86 _ _ hS (lv_sub hl [0, 1, 2, 3, 4, 5, 6] rfl)
              · refine lv_iload X.1 X.2.1 dX6_readSum_70 (lv_at hl 5 rfl) ?_
                refine lv_bipush (v := 43) X.1 X.2.1 dX6_readSum_72 (by decide +kernel) ?_
                refine lv_icmp_eq (tgt := 86) X.1 X.2.1 dX6_readSum_74 (by decide) (fun c24 => ?_) (fun c24 => ?_)
                · exact B12_86 _ _ hS (lv_sub hl [0, 1, 2, 3, 4, 5, 6] rfl)
                · refine lv_iload X.1 X.2.1 dX6_readSum_77 (lv_at hl 5 rfl) ?_
                  refine lv_bipush (v := 45) X.1 X.2.1 dX6_readSum_79 (by decide +kernel) ?_
                  refine lv_icmp_eq (tgt := 86) X.1 X.2.1 dX6_readSum_81 (by decide) (fun c25 => ?_) (fun c25 => ?_)
                  · exact B12_86 _ _ hS (lv_sub hl [0, 1, 2, 3, 4, 5, 6] rfl)
                  · refine lv_iconst (v := 1) X.1 X.2.1 dX6_readSum_84 (by decide +kernel) ?_
                    exact sg_zret X hr (sg_zn (iv_of (iv_c 1 (a := 1) (b := 1) (by decide +kernel)) (a' := 0) (b' := 1) (by decide +kernel))) hlk hb hK hC hG hS (iv_of (iv_c 1 (a := 1) (b := 1) (by decide +kernel)) (a' := 0) (b' := 1) (by decide +kernel)) dX6_readSum_85
            refine lv_if_ne (tgt := 65) X.1 X.2.1 dX6_readSum_53 (by decide) (fun c9 => ?_) (fun c9 => ?_)
            · exact B10_65 H _ _ hG hS (lv_sub hl [1, 2, 3, 4, 5, 6, 0] rfl)
            · refine lv_iload_n X.1 X.2.1 dX6_readSum_56 rfl (lv_at hl 4 rfl) ?_
              refine lv_if_eq (tgt := 65) X.1 X.2.1 dX6_readSum_57 (by decide) (fun c26 => ?_) (fun c26 => ?_)
              · exact B10_65 H _ _ hG hS (lv_sub hl [1, 2, 3, 4, 5, 6, 0] rfl)
              · refine lv_aload_n X.1 X.2.1 dX6_readSum_60 rfl (lv_at hl 1 rfl) ?_
                refine lv_iload_n X.1 X.2.1 dX6_readSum_61 rfl (lv_at hl 4 rfl) ?_
                refine ca_X6_put X hK hG hC hS hb a0 h0 z3_3 wl_3_232 hl.1 (rest := []) rfl (Nat.le_of_ble_eq_true rfl) ⟨Nat.le_of_ble_eq_true rfl, Nat.le_of_ble_eq_true rfl⟩ ⟨Nat.le_of_ble_eq_true rfl, Nat.le_of_ble_eq_true rfl⟩ dX6_readSum_62 (fun H locs hG hS => ?_)
                exact B10_65 H _ _ hG hS (lv_sub hl [1, 2, 3, 4, 5, 6, 0] rfl)
          have B28_44 : ∀ (locs : List Loc) (ls : Array Slot), va_S (fun q : Nat => base ≤ q) s.heap H locs → lv_has ls 7 [(0, .ref a0), (1, .ref a1), (2, .int x2), (3, .int z3_3), (4, .int z3_4), (5, .int f6)] → W p l e (headSpec (Cond.code yX6_readSum cX6_readSum 7 (some .boolean) :: sg_tbl) ({ frames := 9, cells := 0, slots := 0, locals := 218 })).room s m #[.ref a0, .ref a1, .int x2] below meth c H locs 0 0 (MQ below (va_Qi (fun r (_ : Unit) => (fun r : Int32 => iv 0 1 r) r) (fun _ => sgB (KT P) D vwCl base tys ad ks) (fun q : Nat => base ≤ q)) #[.ref a0, .ref a1, .int x2] s 0 0 (fun q : Nat => base ≤ q)) (F0 m 44 ls []) := by
            intro locs ls hS hl
            refine lv_iconst (v := 1) X.1 X.2.1 dX6_readSum_44 (by decide +kernel) ?_
            refine lv_goto (tgt := 49) X.1 X.2.1 dX6_readSum_45 (by decide) ?_
            exact B8_49 _ _ 1 hS (lv_sub hl [0, 1, 2, 3, 4, 5] rfl) (iv_of (iv_c 1 (a := 1) (b := 1) (by decide +kernel)) (a' := 0) (b' := 1) (by decide +kernel))
          refine lv_icmp_eq (tgt := 44) X.1 X.2.1 dX6_readSum_34 (by decide) (fun c7 => ?_) (fun c7 => ?_)
          · exact B28_44 _ _ hS (lv_sub hl [1, 2, 3, 4, 5, 0] rfl)
          · refine lv_iload X.1 X.2.1 dX6_readSum_37 (lv_at hl 0 rfl) ?_
            refine lv_bipush (v := 47) X.1 X.2.1 dX6_readSum_39 (by decide +kernel) ?_
            refine lv_icmp_ne (tgt := 48) X.1 X.2.1 dX6_readSum_41 (by decide) (fun c29 => ?_) (fun c29 => ?_)
            · refine lv_iconst (v := 0) X.1 X.2.1 dX6_readSum_48 (by decide +kernel) ?_
              exact B8_49 _ _ 0 hS (lv_sub hl [1, 2, 3, 4, 5, 0] rfl) (iv_of (iv_c 0 (a := 0) (b := 0) (by decide +kernel)) (a' := 0) (b' := 1) (by decide +kernel))
            · exact B28_44 _ _ hS (lv_sub hl [1, 2, 3, 4, 5, 0] rfl)
    exact B3_16 _ H _ _ 0 0 hG hS (lv_sub hl [2, 3, 4, 1, 0] rfl) (iv_of (iv_c 0 (a := 0) (b := 0) (by decide +kernel)) (a' := (-11)) (b' := 0) (by decide +kernel)) (iv_of (iv_c 0 (a := 0) (b := 0) (by decide +kernel)) (a' := 0) (b' := 240) (by decide +kernel)) (Nat.le_refl _)
  · refine lv_iconst (v := 0) X.1 X.2.1 dX6_readSum_9 (by decide +kernel) ?_
    exact sg_zret X hr (sg_zn (iv_of (iv_c 0 (a := 0) (b := 0) (by decide +kernel)) (a' := 0) (b' := 1) (by decide +kernel))) hlk hb hK hC hG hS (iv_of (iv_c 0 (a := 0) (b := 0) (by decide +kernel)) (a' := 0) (b' := 1) (by decide +kernel)) dX6_readSum_10

theorem ca_X6_readSum_4   (X : CallFix p m c cc nL s args sg_tbl own) (hK : va_K D vwCl tys s) (hG : sgG (KT P) D vwCl (fun q : Nat => base ≤ q) tys ad ks H) (hC : sgC base s) (hS : va_S (fun q : Nat => base ≤ q) s.heap H locs) (hb : base ≤ s.heap.size) (a0 : Nat) (h0 : isK ad ks 6 a0) (a1 : Nat) (h1 : isK ad ks 10 a1) (x2 : Int32) (h2 : iv 4 4 x2) (hl : Cond.methodLink own index yX6_readSum ∈ sg_tbl) (hsize : ls.size = nL) (hst : st0 = [.ref a1, .int x2].reverse ++ .ref a0 :: rest) (hW : (rest.map fun v => v.category).sum ≤ 8) (hR : 10 ≤ R.frames ∧ 244 ≤ R.locals) (hf : cells ≤ R.cells ∧ slots ≤ R.slots) (hdg : decode cc pc = .ok (.invokevirtual index, 3)) (kk : ∀ (r : Int32) (H1 : Heap) (locs1 : List Loc), (fun r : Int32 => iv 0 1 r) r → sgG (KT P) D vwCl (fun q : Nat => base ≤ q) tys ad ks H1 → va_S (fun q : Nat => base ≤ q) s.heap H1 locs1 → W p l e R s m args below meth c H1 locs1 cells slots Q (F0 m (pc + 3) ls (.int r :: rest))) : W p l e R s m args below meth c H locs cells slots Q (F0 m pc ls st0) :=
  sg_callVi X hK hG hC hS hb (m_X6_readSum_4 l a0 h0 a1 h1 x2 h2) h0 (k := 6) (ci := 6) rfl (C := RX6) (T := TX6) (N := 7) rfl wl_3_223 wl_1_3 wl_3_222 wl_0_11 (n := 2) (by decide +kernel) rfl rfl rfl hl hsize hst hW hR hf hdg kk

set_option maxHeartbeats 8000000 in
set_option maxRecDepth 100000 in
theorem m_X6_readComparison_4 (l : Launch) {D : va_G} {base : Nat} {tys : List (ClassId × FieldType)} {ad ks : List Nat} {P : sgPm} (a0 : Nat) (h0 : isK ad ks 6 a0) (a1 : Nat) (h1 : isK ad ks 10 a1) (x2 : Int32) (h2 : iv 4 4 x2) : sgMi l (KT P) D vwCl base tys ad ks yX6_readComparison cX6_readComparison 4 (some .boolean) ({ frames := 10, cells := 0, slots := 0, locals := 244 }) [.ref a0, .ref a1, .int x2] (fun r : Int32 => iv 0 1 r) := by
  refine sg_ofW (by decide +kernel) (Nat.le_of_ble_eq_true rfl) (fun p e s m below meth c X hr hlk hb hK hC hG ls hl => ?_)
  have hS : va_S (fun q : Nat => base ≤ q) s.heap s.heap [] := va_S.rf
  have hl : lv_has ls 4 [(0, .ref a0), (1, .ref a1), (2, .int x2)] := hl
  refine lv_aload_n X.1 X.2.1 dX6_readComparison_0 rfl (lv_at hl 1 rfl) ?_
  refine ca_X10_sign X hK hG hC (fun _ h => h) hS hb a1 h1 wl_3_219 hl.1 (rest := []) rfl (Nat.le_of_ble_eq_true rfl) ⟨Nat.le_of_ble_eq_true rfl, Nat.le_of_ble_eq_true rfl⟩ ⟨Nat.le_of_ble_eq_true rfl, Nat.le_of_ble_eq_true rfl⟩ dX6_readComparison_1 (fun f1 locs hf1 hS => ?_)
  refine ca_X6_comparison X hK hG hC (fun _ h => h) hS hb f1 wl_3_238 hl.1 (rest := []) rfl (Nat.le_of_ble_eq_true rfl) ⟨Nat.le_of_ble_eq_true rfl, Nat.le_of_ble_eq_true rfl⟩ ⟨Nat.le_of_ble_eq_true rfl, Nat.le_of_ble_eq_true rfl⟩ dX6_readComparison_4 (fun f2 locs hf2 hS => ?_)
  refine lv_istore_n (lv' := [(3, .int f2), (0, .ref a0), (1, .ref a1), (2, .int x2)]) X.1 X.2.1 dX6_readComparison_7 rfl hl (by decide) rfl (fun ls hl => ?_)
  refine lv_iload_n X.1 X.2.1 dX6_readComparison_8 rfl (lv_at hl 0 rfl) ?_
  refine lv_if_ne (tgt := 17) X.1 X.2.1 dX6_readComparison_9 (by decide) (fun c3 => ?_) (fun c3 => ?_)
  · refine lv_aload_n X.1 X.2.1 dX6_readComparison_17 rfl (lv_at hl 2 rfl) ?_
    refine ca_X10_step X hK hG hC hS hb a1 h1 wl_3_229 hl.1 (rest := []) rfl (Nat.le_of_ble_eq_true rfl) ⟨Nat.le_of_ble_eq_true rfl, Nat.le_of_ble_eq_true rfl⟩ ⟨Nat.le_of_ble_eq_true rfl, Nat.le_of_ble_eq_true rfl⟩ dX6_readComparison_18 (fun H locs hG hS => ?_)
    refine lv_aload_n X.1 X.2.1 dX6_readComparison_21 rfl (lv_at hl 1 rfl) ?_
    refine lv_aload_n X.1 X.2.1 dX6_readComparison_22 rfl (lv_at hl 2 rfl) ?_
    refine lv_iload_n X.1 X.2.1 dX6_readComparison_23 rfl (lv_at hl 3 rfl) ?_
    refine ca_X6_readSum_4 X hK hG hC hS hb a0 h0 a1 h1 x2 h2 wl_3_220 hl.1 (rest := []) rfl (Nat.le_of_ble_eq_true rfl) ⟨Nat.le_of_ble_eq_true rfl, Nat.le_of_ble_eq_true rfl⟩ ⟨Nat.le_of_ble_eq_true rfl, Nat.le_of_ble_eq_true rfl⟩ dX6_readComparison_24 (fun f5 H locs hf5 hG hS => ?_)
    refine lv_if_ne (tgt := 32) X.1 X.2.1 dX6_readComparison_27 (by decide) (fun c6 => ?_) (fun c6 => ?_)
    · refine lv_aload_n X.1 X.2.1 dX6_readComparison_32 rfl (lv_at hl 1 rfl) ?_
      refine lv_iload_n X.1 X.2.1 dX6_readComparison_33 rfl (lv_at hl 0 rfl) ?_
      refine ca_X6_put X hK hG hC hS hb a0 h0 f2 wl_3_232 hl.1 (rest := []) rfl (Nat.le_of_ble_eq_true rfl) ⟨Nat.le_of_ble_eq_true rfl, Nat.le_of_ble_eq_true rfl⟩ ⟨Nat.le_of_ble_eq_true rfl, Nat.le_of_ble_eq_true rfl⟩ dX6_readComparison_34 (fun H locs hG hS => ?_)
      refine lv_iconst (v := 1) X.1 X.2.1 dX6_readComparison_37 (by decide +kernel) ?_
      exact sg_zret X hr (sg_zn (iv_of (iv_c 1 (a := 1) (b := 1) (by decide +kernel)) (a' := 0) (b' := 1) (by decide +kernel))) hlk hb hK hC hG hS (iv_of (iv_c 1 (a := 1) (b := 1) (by decide +kernel)) (a' := 0) (b' := 1) (by decide +kernel)) dX6_readComparison_38
    · refine lv_iconst (v := 0) X.1 X.2.1 dX6_readComparison_30 (by decide +kernel) ?_
      exact sg_zret X hr (sg_zn (iv_of (iv_c 0 (a := 0) (b := 0) (by decide +kernel)) (a' := 0) (b' := 1) (by decide +kernel))) hlk hb hK hC hG hS (iv_of (iv_c 0 (a := 0) (b := 0) (by decide +kernel)) (a' := 0) (b' := 1) (by decide +kernel)) dX6_readComparison_31
  · refine lv_aload_n X.1 X.2.1 dX6_readComparison_12 rfl (lv_at hl 2 rfl) ?_
    refine ca_X10_wrong X hK hG hC hS hb a1 h1 wl_3_228 hl.1 (rest := []) rfl (Nat.le_of_ble_eq_true rfl) ⟨Nat.le_of_ble_eq_true rfl, Nat.le_of_ble_eq_true rfl⟩ ⟨Nat.le_of_ble_eq_true rfl, Nat.le_of_ble_eq_true rfl⟩ dX6_readComparison_13 (fun f8 H locs hf8 hG hS => ?_)
    exact sg_zret X hr (sg_zn hf8) hlk hb hK hC hG hS hf8 dX6_readComparison_16

theorem ca_X6_readComparison_4   (X : CallFix p m c cc nL s args sg_tbl own) (hK : va_K D vwCl tys s) (hG : sgG (KT P) D vwCl (fun q : Nat => base ≤ q) tys ad ks H) (hC : sgC base s) (hS : va_S (fun q : Nat => base ≤ q) s.heap H locs) (hb : base ≤ s.heap.size) (a0 : Nat) (h0 : isK ad ks 6 a0) (a1 : Nat) (h1 : isK ad ks 10 a1) (x2 : Int32) (h2 : iv 4 4 x2) (hl : Cond.methodLink own index yX6_readComparison ∈ sg_tbl) (hsize : ls.size = nL) (hst : st0 = [.ref a1, .int x2].reverse ++ .ref a0 :: rest) (hW : (rest.map fun v => v.category).sum ≤ 8) (hR : 11 ≤ R.frames ∧ 267 ≤ R.locals) (hf : cells ≤ R.cells ∧ slots ≤ R.slots) (hdg : decode cc pc = .ok (.invokevirtual index, 3)) (kk : ∀ (r : Int32) (H1 : Heap) (locs1 : List Loc), (fun r : Int32 => iv 0 1 r) r → sgG (KT P) D vwCl (fun q : Nat => base ≤ q) tys ad ks H1 → va_S (fun q : Nat => base ≤ q) s.heap H1 locs1 → W p l e R s m args below meth c H1 locs1 cells slots Q (F0 m (pc + 3) ls (.int r :: rest))) : W p l e R s m args below meth c H locs cells slots Q (F0 m pc ls st0) :=
  sg_callVi X hK hG hC hS hb (m_X6_readComparison_4 l a0 h0 a1 h1 x2 h2) h0 (k := 6) (ci := 6) rfl (C := RX6) (T := TX6) (N := 7) rfl wl_4_4 wl_1_3 wl_4_3 wl_0_14 (n := 2) (by decide +kernel) rfl rfl rfl hl hsize hst hW hR hf hdg kk

set_option maxHeartbeats 8000000 in
set_option maxRecDepth 100000 in
theorem m_X6_readUnit_4 (l : Launch) {D : va_G} {base : Nat} {tys : List (ClassId × FieldType)} {ad ks : List Nat} {P : sgPm} (a0 : Nat) (h0 : isK ad ks 6 a0) (a1 : Nat) (h1 : isK ad ks 10 a1) (x2 : Int32) (h2 : iv 4 4 x2) : sgMi l (KT P) D vwCl base tys ad ks yX6_readUnit cX6_readUnit 4 (some .boolean) ({ frames := 11, cells := 0, slots := 0, locals := 267 }) [.ref a0, .ref a1, .int x2] (fun r : Int32 => iv 0 1 r) := by
  refine sg_ofW (by decide +kernel) (Nat.le_of_ble_eq_true rfl) (fun p e s m below meth c X hr hlk hb hK hC hG ls hl => ?_)
  have hS : va_S (fun q : Nat => base ≤ q) s.heap s.heap [] := va_S.rf
  have hl : lv_has ls 4 [(0, .ref a0), (1, .ref a1), (2, .int x2)] := hl
  refine lv_aload_n X.1 X.2.1 dX6_readUnit_0 rfl (lv_at hl 1 rfl) ?_
  refine ca_X10_sign X hK hG hC (fun _ h => h) hS hb a1 h1 wl_3_219 hl.1 (rest := []) rfl (Nat.le_of_ble_eq_true rfl) ⟨Nat.le_of_ble_eq_true rfl, Nat.le_of_ble_eq_true rfl⟩ ⟨Nat.le_of_ble_eq_true rfl, Nat.le_of_ble_eq_true rfl⟩ dX6_readUnit_1 (fun f1 locs hf1 hS => ?_)
  refine lv_istore_n (lv' := [(3, .int f1), (0, .ref a0), (1, .ref a1), (2, .int x2)]) X.1 X.2.1 dX6_readUnit_4 rfl hl (by decide) rfl (fun ls hl => ?_)
  refine lv_iload_n X.1 X.2.1 dX6_readUnit_5 rfl (lv_at hl 0 rfl) ?_
  refine lv_bipush (v := 33) X.1 X.2.1 dX6_readUnit_6 (by decide +kernel) ?_
  have B3_41 : ∀ (locs : List Loc) (ls : Array Slot), va_S (fun q : Nat => base ≤ q) s.heap s.heap locs → lv_has ls 4 [(0, .ref a0), (1, .ref a1), (2, .int x2), (3, .int f1)] → W p l e (headSpec (Cond.code yX6_readUnit cX6_readUnit 4 (some .boolean) :: sg_tbl) ({ frames := 11, cells := 0, slots := 0, locals := 267 })).room s m #[.ref a0, .ref a1, .int x2] below meth c s.heap locs 0 0 (MQ below (va_Qi (fun r (_ : Unit) => (fun r : Int32 => iv 0 1 r) r) (fun _ => sgB (KT P) D vwCl base tys ad ks) (fun q : Nat => base ≤ q)) #[.ref a0, .ref a1, .int x2] s 0 0 (fun q : Nat => base ≤ q)) (F0 m 41 ls []) := by
    intro locs ls hS hl
    refine lv_iload_n X.1 X.2.1 dX6_readUnit_41 rfl (lv_at hl 2 rfl) ?_
    refine lv_bipush (v := 6) X.1 X.2.1 dX6_readUnit_42 (by decide +kernel) ?_
    refine lv_icmp_lt (tgt := 52) X.1 X.2.1 dX6_readUnit_44 (by decide) (fun c4 => ?_) (fun c4 => ?_)
    · refine lv_aload_n X.1 X.2.1 dX6_readUnit_52 rfl (lv_at hl 1 rfl) ?_
      refine ca_X10_step X hK hG hC hS hb a1 h1 wl_3_229 hl.1 (rest := []) rfl (Nat.le_of_ble_eq_true rfl) ⟨Nat.le_of_ble_eq_true rfl, Nat.le_of_ble_eq_true rfl⟩ ⟨Nat.le_of_ble_eq_true rfl, Nat.le_of_ble_eq_true rfl⟩ dX6_readUnit_53 (fun H locs hG hS => ?_)
      refine lv_iload_n X.1 X.2.1 dX6_readUnit_56 rfl (lv_at hl 3 rfl) ?_
      refine lv_bipush (v := 40) X.1 X.2.1 dX6_readUnit_57 (by decide +kernel) ?_
      refine lv_icmp_ne (tgt := 89) X.1 X.2.1 dX6_readUnit_59 (by decide) (fun c6 => ?_) (fun c6 => ?_)
      · refine lv_aload_n X.1 X.2.1 dX6_readUnit_89 rfl (lv_at hl 0 rfl) ?_
        refine lv_aload_n X.1 X.2.1 dX6_readUnit_90 rfl (lv_at hl 1 rfl) ?_
        refine lv_iload_n X.1 X.2.1 dX6_readUnit_91 rfl (lv_at hl 2 rfl) ?_
        refine lv_iconst (v := 1) X.1 X.2.1 dX6_readUnit_92 (by decide +kernel) ?_
        refine lv_iadd X.1 X.2.1 dX6_readUnit_93 ?_
        refine lv_topi (fun f7 ef7 => ?_)
        refine ca_X6_readUnit_5 X hK hG hC hS hb a0 h0 a1 h1 f7 (iv_add (a' := 5) (b' := 5) ef7 h2 (iv_c 1 (a := 1) (b := 1) (by decide +kernel)) (by decide +kernel)) wl_4_9 hl.1 (rest := []) rfl (Nat.le_of_ble_eq_true rfl) ⟨Nat.le_of_ble_eq_true rfl, Nat.le_of_ble_eq_true rfl⟩ ⟨Nat.le_of_ble_eq_true rfl, Nat.le_of_ble_eq_true rfl⟩ dX6_readUnit_94 (fun f8 H locs hf8 hG hS => ?_)
        refine lv_if_ne (tgt := 102) X.1 X.2.1 dX6_readUnit_97 (by decide) (fun c9 => ?_) (fun c9 => ?_)
        · refine lv_aload_n X.1 X.2.1 dX6_readUnit_102 rfl (lv_at hl 0 rfl) ?_
          refine lv_bipush (v := (-19)) X.1 X.2.1 dX6_readUnit_103 (by decide +kernel) ?_
          refine ca_X6_put X hK hG hC hS hb a0 h0 (-19) wl_3_232 hl.1 (rest := []) rfl (Nat.le_of_ble_eq_true rfl) ⟨Nat.le_of_ble_eq_true rfl, Nat.le_of_ble_eq_true rfl⟩ ⟨Nat.le_of_ble_eq_true rfl, Nat.le_of_ble_eq_true rfl⟩ dX6_readUnit_105 (fun H locs hG hS => ?_)
          refine lv_iconst (v := 1) X.1 X.2.1 dX6_readUnit_108 (by decide +kernel) ?_
          exact sg_zret X hr (sg_zn (iv_of (iv_c 1 (a := 1) (b := 1) (by decide +kernel)) (a' := 0) (b' := 1) (by decide +kernel))) hlk hb hK hC hG hS (iv_of (iv_c 1 (a := 1) (b := 1) (by decide +kernel)) (a' := 0) (b' := 1) (by decide +kernel)) dX6_readUnit_109
        · refine lv_iconst (v := 0) X.1 X.2.1 dX6_readUnit_100 (by decide +kernel) ?_
          exact sg_zret X hr (sg_zn (iv_of (iv_c 0 (a := 0) (b := 0) (by decide +kernel)) (a' := 0) (b' := 1) (by decide +kernel))) hlk hb hK hC hG hS (iv_of (iv_c 0 (a := 0) (b := 0) (by decide +kernel)) (a' := 0) (b' := 1) (by decide +kernel)) dX6_readUnit_101
      · refine lv_aload_n X.1 X.2.1 dX6_readUnit_62 rfl (lv_at hl 0 rfl) ?_
        refine lv_aload_n X.1 X.2.1 dX6_readUnit_63 rfl (lv_at hl 1 rfl) ?_
        refine lv_iload_n X.1 X.2.1 dX6_readUnit_64 rfl (lv_at hl 2 rfl) ?_
        refine lv_iconst (v := 1) X.1 X.2.1 dX6_readUnit_65 (by decide +kernel) ?_
        refine lv_iadd X.1 X.2.1 dX6_readUnit_66 ?_
        refine lv_topi (fun f11 ef11 => ?_)
        refine lv_iconst (v := 0) X.1 X.2.1 dX6_readUnit_67 (by decide +kernel) ?_
        refine ca_X6_readCondition_5 X hK hG hC hS hb a0 h0 a1 h1 f11 (iv_add (a' := 5) (b' := 5) ef11 h2 (iv_c 1 (a := 1) (b := 1) (by decide +kernel)) (by decide +kernel)) 0 (iv_of (iv_c 0 (a := 0) (b := 0) (by decide +kernel)) (a' := 0) (b' := 1) (by decide +kernel)) wl_4_5 hl.1 (rest := []) rfl (Nat.le_of_ble_eq_true rfl) ⟨Nat.le_of_ble_eq_true rfl, Nat.le_of_ble_eq_true rfl⟩ ⟨Nat.le_of_ble_eq_true rfl, Nat.le_of_ble_eq_true rfl⟩ dX6_readUnit_68 (fun f12 H locs hf12 hG hS => ?_)
        have B14_87 : ∀ (H : Heap) (locs : List Loc) (ls : Array Slot), sgG (KT P) D vwCl (fun q : Nat => base ≤ q) tys ad ks H → va_S (fun q : Nat => base ≤ q) s.heap H locs → lv_has ls 4 [] → W p l e (headSpec (Cond.code yX6_readUnit cX6_readUnit 4 (some .boolean) :: sg_tbl) ({ frames := 11, cells := 0, slots := 0, locals := 267 })).room s m #[.ref a0, .ref a1, .int x2] below meth c H locs 0 0 (MQ below (va_Qi (fun r (_ : Unit) => (fun r : Int32 => iv 0 1 r) r) (fun _ => sgB (KT P) D vwCl base tys ad ks) (fun q : Nat => base ≤ q)) #[.ref a0, .ref a1, .int x2] s 0 0 (fun q : Nat => base ≤ q)) (F0 m 87 ls []) := by
          intro H locs ls hG hS hl
          refine lv_iconst (v := 0) X.1 X.2.1 dX6_readUnit_87 (by decide +kernel) ?_
          exact sg_zret X hr (sg_zn (iv_of (iv_c 0 (a := 0) (b := 0) (by decide +kernel)) (a' := 0) (b' := 1) (by decide +kernel))) hlk hb hK hC hG hS (iv_of (iv_c 0 (a := 0) (b := 0) (by decide +kernel)) (a' := 0) (b' := 1) (by decide +kernel)) dX6_readUnit_88
        refine lv_if_eq (tgt := 87) X.1 X.2.1 dX6_readUnit_71 (by decide) (fun c13 => ?_) (fun c13 => ?_)
        · exact B14_87 H _ _ hG hS (lv_sub hl [] rfl)
        · refine lv_aload_n X.1 X.2.1 dX6_readUnit_74 rfl (lv_at hl 1 rfl) ?_
          refine lv_bipush (v := 41) X.1 X.2.1 dX6_readUnit_75 (by decide +kernel) ?_
          refine ca_X10_demand X hK hG hC hS hb a1 h1 41 wl_3_214 hl.1 (rest := []) rfl (Nat.le_of_ble_eq_true rfl) ⟨Nat.le_of_ble_eq_true rfl, Nat.le_of_ble_eq_true rfl⟩ ⟨Nat.le_of_ble_eq_true rfl, Nat.le_of_ble_eq_true rfl⟩ dX6_readUnit_77 (fun f15 H locs hf15 hG hS => ?_)
          refine lv_if_eq (tgt := 87) X.1 X.2.1 dX6_readUnit_80 (by decide) (fun c16 => ?_) (fun c16 => ?_)
          · exact B14_87 H _ _ hG hS (lv_sub hl [] rfl)
          · refine lv_iconst (v := 1) X.1 X.2.1 dX6_readUnit_83 (by decide +kernel) ?_
            refine lv_goto (tgt := 88) X.1 X.2.1 dX6_readUnit_84 (by decide) ?_
            exact sg_zret X hr (sg_zn (iv_of (iv_c 1 (a := 1) (b := 1) (by decide +kernel)) (a' := 0) (b' := 1) (by decide +kernel))) hlk hb hK hC hG hS (iv_of (iv_c 1 (a := 1) (b := 1) (by decide +kernel)) (a' := 0) (b' := 1) (by decide +kernel)) dX6_readUnit_88
    · exact ((iv_no (iv_le (b' := 4) (iv_ge_of c4) (iv_c 6 (a := 6) (b := 6) (by decide +kernel)) h2 (by decide +kernel)) (by decide +kernel))).elim
  refine lv_icmp_eq (tgt := 41) X.1 X.2.1 dX6_readUnit_8 (by decide) (fun c2 => ?_) (fun c2 => ?_)
  · exact B3_41 _ _ hS (lv_sub hl [1, 2, 3, 0] rfl)
  · refine lv_iload_n X.1 X.2.1 dX6_readUnit_11 rfl (lv_at hl 0 rfl) ?_
    refine lv_bipush (v := 40) X.1 X.2.1 dX6_readUnit_12 (by decide +kernel) ?_
    refine lv_icmp_eq (tgt := 41) X.1 X.2.1 dX6_readUnit_14 (by decide) (fun c17 => ?_) (fun c17 => ?_)
    · exact B3_41 _ _ hS (lv_sub hl [1, 2, 3, 0] rfl)
    · refine lv_aload_n X.1 X.2.1 dX6_readUnit_17 rfl (lv_at hl 1 rfl) ?_
      refine lv_aload_n X.1 X.2.1 dX6_readUnit_18 rfl (lv_at hl 2 rfl) ?_
      refine lv_iload_n X.1 X.2.1 dX6_readUnit_19 rfl (lv_at hl 3 rfl) ?_
      refine ca_X6_readSum_4 X hK hG hC hS hb a0 h0 a1 h1 x2 h2 wl_3_220 hl.1 (rest := []) rfl (Nat.le_of_ble_eq_true rfl) ⟨Nat.le_of_ble_eq_true rfl, Nat.le_of_ble_eq_true rfl⟩ ⟨Nat.le_of_ble_eq_true rfl, Nat.le_of_ble_eq_true rfl⟩ dX6_readUnit_20 (fun f18 H locs hf18 hG hS => ?_)
      have B20_39 : ∀ (H : Heap) (locs : List Loc) (ls : Array Slot), sgG (KT P) D vwCl (fun q : Nat => base ≤ q) tys ad ks H → va_S (fun q : Nat => base ≤ q) s.heap H locs → lv_has ls 4 [] → W p l e (headSpec (Cond.code yX6_readUnit cX6_readUnit 4 (some .boolean) :: sg_tbl) ({ frames := 11, cells := 0, slots := 0, locals := 267 })).room s m #[.ref a0, .ref a1, .int x2] below meth c H locs 0 0 (MQ below (va_Qi (fun r (_ : Unit) => (fun r : Int32 => iv 0 1 r) r) (fun _ => sgB (KT P) D vwCl base tys ad ks) (fun q : Nat => base ≤ q)) #[.ref a0, .ref a1, .int x2] s 0 0 (fun q : Nat => base ≤ q)) (F0 m 39 ls []) := by
        intro H locs ls hG hS hl
        refine lv_iconst (v := 0) X.1 X.2.1 dX6_readUnit_39 (by decide +kernel) ?_
        exact sg_zret X hr (sg_zn (iv_of (iv_c 0 (a := 0) (b := 0) (by decide +kernel)) (a' := 0) (b' := 1) (by decide +kernel))) hlk hb hK hC hG hS (iv_of (iv_c 0 (a := 0) (b := 0) (by decide +kernel)) (a' := 0) (b' := 1) (by decide +kernel)) dX6_readUnit_40
      refine lv_if_eq (tgt := 39) X.1 X.2.1 dX6_readUnit_23 (by decide) (fun c19 => ?_) (fun c19 => ?_)
      · exact B20_39 H _ _ hG hS (lv_sub hl [] rfl)
      · refine lv_aload_n X.1 X.2.1 dX6_readUnit_26 rfl (lv_at hl 1 rfl) ?_
        refine lv_aload_n X.1 X.2.1 dX6_readUnit_27 rfl (lv_at hl 2 rfl) ?_
        refine lv_iload_n X.1 X.2.1 dX6_readUnit_28 rfl (lv_at hl 3 rfl) ?_
        refine ca_X6_readComparison_4 X hK hG hC hS hb a0 h0 a1 h1 x2 h2 wl_4_1 hl.1 (rest := []) rfl (Nat.le_of_ble_eq_true rfl) ⟨Nat.le_of_ble_eq_true rfl, Nat.le_of_ble_eq_true rfl⟩ ⟨Nat.le_of_ble_eq_true rfl, Nat.le_of_ble_eq_true rfl⟩ dX6_readUnit_29 (fun f21 H locs hf21 hG hS => ?_)
        refine lv_if_eq (tgt := 39) X.1 X.2.1 dX6_readUnit_32 (by decide) (fun c22 => ?_) (fun c22 => ?_)
        · exact B20_39 H _ _ hG hS (lv_sub hl [] rfl)
        · refine lv_iconst (v := 1) X.1 X.2.1 dX6_readUnit_35 (by decide +kernel) ?_
          refine lv_goto (tgt := 40) X.1 X.2.1 dX6_readUnit_36 (by decide) ?_
          exact sg_zret X hr (sg_zn (iv_of (iv_c 1 (a := 1) (b := 1) (by decide +kernel)) (a' := 0) (b' := 1) (by decide +kernel))) hlk hb hK hC hG hS (iv_of (iv_c 1 (a := 1) (b := 1) (by decide +kernel)) (a' := 0) (b' := 1) (by decide +kernel)) dX6_readUnit_40

theorem ca_X6_readUnit_4   (X : CallFix p m c cc nL s args sg_tbl own) (hK : va_K D vwCl tys s) (hG : sgG (KT P) D vwCl (fun q : Nat => base ≤ q) tys ad ks H) (hC : sgC base s) (hS : va_S (fun q : Nat => base ≤ q) s.heap H locs) (hb : base ≤ s.heap.size) (a0 : Nat) (h0 : isK ad ks 6 a0) (a1 : Nat) (h1 : isK ad ks 10 a1) (x2 : Int32) (h2 : iv 4 4 x2) (hl : Cond.methodLink own index yX6_readUnit ∈ sg_tbl) (hsize : ls.size = nL) (hst : st0 = [.ref a1, .int x2].reverse ++ .ref a0 :: rest) (hW : (rest.map fun v => v.category).sum ≤ 8) (hR : 12 ≤ R.frames ∧ 290 ≤ R.locals) (hf : cells ≤ R.cells ∧ slots ≤ R.slots) (hdg : decode cc pc = .ok (.invokevirtual index, 3)) (kk : ∀ (r : Int32) (H1 : Heap) (locs1 : List Loc), (fun r : Int32 => iv 0 1 r) r → sgG (KT P) D vwCl (fun q : Nat => base ≤ q) tys ad ks H1 → va_S (fun q : Nat => base ≤ q) s.heap H1 locs1 → W p l e R s m args below meth c H1 locs1 cells slots Q (F0 m (pc + 3) ls (.int r :: rest))) : W p l e R s m args below meth c H locs cells slots Q (F0 m pc ls st0) :=
  sg_callVi X hK hG hC hS hb (m_X6_readUnit_4 l a0 h0 a1 h1 x2 h2) h0 (k := 6) (ci := 6) rfl (C := RX6) (T := TX6) (N := 7) rfl wl_4_12 wl_1_3 wl_4_11 wl_0_16 (n := 2) (by decide +kernel) rfl rfl rfl hl hsize hst hW hR hf hdg kk

set_option maxHeartbeats 8000000 in
set_option maxRecDepth 100000 in
theorem m_X6_readCondition_4 (l : Launch) {D : va_G} {base : Nat} {tys : List (ClassId × FieldType)} {ad ks : List Nat} {P : sgPm} (a0 : Nat) (h0 : isK ad ks 6 a0) (a1 : Nat) (h1 : isK ad ks 10 a1) (x2 : Int32) (h2 : iv 4 4 x2) (x3 : Int32) (h3 : iv 0 1 x3) : sgMi l (KT P) D vwCl base tys ad ks yX6_readCondition cX6_readCondition 7 (some .boolean) ({ frames := 12, cells := 0, slots := 0, locals := 290 }) [.ref a0, .ref a1, .int x2, .int x3] (fun r : Int32 => iv 0 1 r) := by
  refine sg_ofW (by decide +kernel) (Nat.le_of_ble_eq_true rfl) (fun p e s m below meth c X hr hlk hb hK hC hG ls hl => ?_)
  have hS : va_S (fun q : Nat => base ≤ q) s.heap s.heap [] := va_S.rf
  have hl : lv_has ls 7 [(0, .ref a0), (1, .ref a1), (2, .int x2), (3, .int x3)] := hl
  refine lv_iload_n X.1 X.2.1 dX6_readCondition_0 rfl (lv_at hl 3 rfl) ?_
  have B2_15 : ∀ (H : Heap) (locs : List Loc) (ls : Array Slot), sgG (KT P) D vwCl (fun q : Nat => base ≤ q) tys ad ks H → va_S (fun q : Nat => base ≤ q) s.heap H locs → lv_has ls 7 [(0, .ref a0), (1, .ref a1), (2, .int x2)] → W p l e (headSpec (Cond.code yX6_readCondition cX6_readCondition 7 (some .boolean) :: sg_tbl) ({ frames := 12, cells := 0, slots := 0, locals := 290 })).room s m #[.ref a0, .ref a1, .int x2, .int x3] below meth c H locs 0 0 (MQ below (va_Qi (fun r (_ : Unit) => (fun r : Int32 => iv 0 1 r) r) (fun _ => sgB (KT P) D vwCl base tys ad ks) (fun q : Nat => base ≤ q)) #[.ref a0, .ref a1, .int x2, .int x3] s 0 0 (fun q : Nat => base ≤ q)) (F0 m 15 ls []) := by
    intro H locs ls hG hS hl
    refine lv_iconst (v := 0) X.1 X.2.1 dX6_readCondition_15 (by decide +kernel) ?_
    refine lv_istore (lv' := [(4, .int 0), (0, .ref a0), (1, .ref a1), (2, .int x2)]) X.1 X.2.1 dX6_readCondition_16 hl (by decide) rfl (fun ls hl => ?_)
    refine lv_iconst (v := 0) X.1 X.2.1 dX6_readCondition_18 (by decide +kernel) ?_
    refine lv_istore (lv' := [(5, .int 0), (4, .int 0), (0, .ref a0), (1, .ref a1), (2, .int x2)]) X.1 X.2.1 dX6_readCondition_19 hl (by decide) rfl (fun ls hl => ?_)
    have B3_21 : ∀ (N : Nat) (H : Heap) (locs : List Loc) (ls : Array Slot) (z3_4 : Int32) (z3_5 : Int32), sgG (KT P) D vwCl (fun q : Nat => base ≤ q) tys ad ks H → va_S (fun q : Nat => base ≤ q) s.heap H locs → lv_has ls 7 [(0, .ref a0), (1, .ref a1), (2, .int x2), (4, .int z3_4), (5, .int z3_5)] → iv 0 1 z3_4 → iv 0 240 z3_5 → (241 - z3_5.toInt).toNat ≤ N → W p l e (headSpec (Cond.code yX6_readCondition cX6_readCondition 7 (some .boolean) :: sg_tbl) ({ frames := 12, cells := 0, slots := 0, locals := 290 })).room s m #[.ref a0, .ref a1, .int x2, .int x3] below meth c H locs 0 0 (MQ below (va_Qi (fun r (_ : Unit) => (fun r : Int32 => iv 0 1 r) r) (fun _ => sgB (KT P) D vwCl base tys ad ks) (fun q : Nat => base ≤ q)) #[.ref a0, .ref a1, .int x2, .int x3] s 0 0 (fun q : Nat => base ≤ q)) (F0 m 21 ls []) := by
      intro N; induction N with
      | zero =>
        intro H locs ls z3_4 z3_5 hG hS hl hz3_4 hz3_5 hN
        exact absurd hN (by have := iv_up hz3_5; omega)
      | succ N ih3 =>
        intro H locs ls z3_4 z3_5 hG hS hl hz3_4 hz3_5 hN3
        refine lv_iload X.1 X.2.1 dX6_readCondition_21 (lv_at hl 4 rfl) ?_
        refine lv_sipush (v := 240) X.1 X.2.1 dX6_readCondition_23 (by decide +kernel) ?_
        refine lv_icmp_ge (tgt := 109) X.1 X.2.1 dX6_readCondition_26 (by decide) (fun c4 => ?_) (fun c4 => ?_)
        · refine lv_aload_n X.1 X.2.1 dX6_readCondition_109 rfl (lv_at hl 1 rfl) ?_
          refine ca_X10_wrong X hK hG hC hS hb a1 h1 wl_3_228 hl.1 (rest := []) rfl (Nat.le_of_ble_eq_true rfl) ⟨Nat.le_of_ble_eq_true rfl, Nat.le_of_ble_eq_true rfl⟩ ⟨Nat.le_of_ble_eq_true rfl, Nat.le_of_ble_eq_true rfl⟩ dX6_readCondition_110 (fun f5 H locs hf5 hG hS => ?_)
          exact sg_zret X hr (sg_zn hf5) hlk hb hK hC hG hS hf5 dX6_readCondition_113
        · refine lv_aload_n X.1 X.2.1 dX6_readCondition_29 rfl (lv_at hl 1 rfl) ?_
          refine ca_X10_sign X hK hG hC (fun _ h => h) hS hb a1 h1 wl_3_219 hl.1 (rest := []) rfl (Nat.le_of_ble_eq_true rfl) ⟨Nat.le_of_ble_eq_true rfl, Nat.le_of_ble_eq_true rfl⟩ ⟨Nat.le_of_ble_eq_true rfl, Nat.le_of_ble_eq_true rfl⟩ dX6_readCondition_30 (fun f6 locs hf6 hS => ?_)
          refine lv_istore (lv' := [(6, .int f6), (0, .ref a0), (1, .ref a1), (2, .int x2), (4, .int z3_4), (5, .int z3_5)]) X.1 X.2.1 dX6_readCondition_33 hl (by decide) rfl (fun ls hl => ?_)
          refine lv_iload X.1 X.2.1 dX6_readCondition_35 (lv_at hl 0 rfl) ?_
          refine lv_bipush (v := 38) X.1 X.2.1 dX6_readCondition_37 (by decide +kernel) ?_
          have B8_53 : ∀ (H : Heap) (locs : List Loc) (ls : Array Slot), sgG (KT P) D vwCl (fun q : Nat => base ≤ q) tys ad ks H → va_S (fun q : Nat => base ≤ q) s.heap H locs → lv_has ls 7 [(0, .ref a0), (1, .ref a1), (2, .int x2), (4, .int z3_4), (5, .int z3_5), (6, .int f6)] → W p l e (headSpec (Cond.code yX6_readCondition cX6_readCondition 7 (some .boolean) :: sg_tbl) ({ frames := 12, cells := 0, slots := 0, locals := 290 })).room s m #[.ref a0, .ref a1, .int x2, .int x3] below meth c H locs 0 0 (MQ below (va_Qi (fun r (_ : Unit) => (fun r : Int32 => iv 0 1 r) r) (fun _ => sgB (KT P) D vwCl base tys ad ks) (fun q : Nat => base ≤ q)) #[.ref a0, .ref a1, .int x2, .int x3] s 0 0 (fun q : Nat => base ≤ q)) (F0 m 53 ls []) := by
            intro H locs ls hG hS hl
            refine lv_iload X.1 X.2.1 dX6_readCondition_53 (lv_at hl 5 rfl) ?_
            refine lv_bipush (v := 38) X.1 X.2.1 dX6_readCondition_55 (by decide +kernel) ?_
            have B10_69 : ∀ (locs : List Loc) (ls : Array Slot), va_S (fun q : Nat => base ≤ q) s.heap H locs → lv_has ls 7 [(0, .ref a0), (1, .ref a1), (2, .int x2), (4, .int z3_4), (5, .int z3_5), (6, .int f6)] → W p l e (headSpec (Cond.code yX6_readCondition cX6_readCondition 7 (some .boolean) :: sg_tbl) ({ frames := 12, cells := 0, slots := 0, locals := 290 })).room s m #[.ref a0, .ref a1, .int x2, .int x3] below meth c H locs 0 0 (MQ below (va_Qi (fun r (_ : Unit) => (fun r : Int32 => iv 0 1 r) r) (fun _ => sgB (KT P) D vwCl base tys ad ks) (fun q : Nat => base ≤ q)) #[.ref a0, .ref a1, .int x2, .int x3] s 0 0 (fun q : Nat => base ≤ q)) (F0 m 69 ls []) := by
              intro locs ls hS hl
              refine lv_aload_n X.1 X.2.1 dX6_readCondition_69 rfl (lv_at hl 1 rfl) ?_
              refine ca_X10_step X hK hG hC hS hb a1 h1 wl_3_229 hl.1 (rest := []) rfl (Nat.le_of_ble_eq_true rfl) ⟨Nat.le_of_ble_eq_true rfl, Nat.le_of_ble_eq_true rfl⟩ ⟨Nat.le_of_ble_eq_true rfl, Nat.le_of_ble_eq_true rfl⟩ dX6_readCondition_70 (fun H locs hG hS => ?_)
              refine lv_aload_n X.1 X.2.1 dX6_readCondition_73 rfl (lv_at hl 0 rfl) ?_
              refine lv_aload_n X.1 X.2.1 dX6_readCondition_74 rfl (lv_at hl 1 rfl) ?_
              refine lv_iload_n X.1 X.2.1 dX6_readCondition_75 rfl (lv_at hl 2 rfl) ?_
              refine ca_X6_readUnit_4 X hK hG hC hS hb a0 h0 a1 h1 x2 h2 wl_4_9 hl.1 (rest := []) rfl (Nat.le_of_ble_eq_true rfl) ⟨Nat.le_of_ble_eq_true rfl, Nat.le_of_ble_eq_true rfl⟩ ⟨Nat.le_of_ble_eq_true rfl, Nat.le_of_ble_eq_true rfl⟩ dX6_readCondition_76 (fun f12 H locs hf12 hG hS => ?_)
              refine lv_if_ne (tgt := 84) X.1 X.2.1 dX6_readCondition_79 (by decide) (fun c13 => ?_) (fun c13 => ?_)
              · refine lv_iload X.1 X.2.1 dX6_readCondition_84 (lv_at hl 5 rfl) ?_
                refine lv_bipush (v := 38) X.1 X.2.1 dX6_readCondition_86 (by decide +kernel) ?_
                have B15_103 : ∀ (H : Heap) (locs : List Loc) (ls : Array Slot) (z15_4 : Int32), sgG (KT P) D vwCl (fun q : Nat => base ≤ q) tys ad ks H → va_S (fun q : Nat => base ≤ q) s.heap H locs → lv_has ls 7 [(0, .ref a0), (1, .ref a1), (2, .int x2), (4, .int z15_4), (5, .int z3_5)] → iv 0 1 z15_4 → W p l e (headSpec (Cond.code yX6_readCondition cX6_readCondition 7 (some .boolean) :: sg_tbl) ({ frames := 12, cells := 0, slots := 0, locals := 290 })).room s m #[.ref a0, .ref a1, .int x2, .int x3] below meth c H locs 0 0 (MQ below (va_Qi (fun r (_ : Unit) => (fun r : Int32 => iv 0 1 r) r) (fun _ => sgB (KT P) D vwCl base tys ad ks) (fun q : Nat => base ≤ q)) #[.ref a0, .ref a1, .int x2, .int x3] s 0 0 (fun q : Nat => base ≤ q)) (F0 m 103 ls []) := by
                  intro H locs ls z15_4 hG hS hl hz15_4
                  obtain ⟨y16, ey16⟩ : ∃ y : Int32, y = z3_5 + Int32.ofInt 1 := ⟨_, rfl⟩
                  refine lv_iinc (v := y16) (lv' := [(5, .int y16), (0, .ref a0), (1, .ref a1), (2, .int x2), (4, .int z15_4)]) X.1 X.2.1 dX6_readCondition_103 hl (k := 4) rfl ey16.symm (by decide) rfl (fun ls hl => ?_)
                  refine lv_goto (tgt := 21) X.1 X.2.1 dX6_readCondition_106 (by decide) ?_
                  exact ih3 H _ _ z15_4 y16 hG hS (lv_sub hl [1, 2, 3, 4, 0] rfl) hz15_4 (iv_of (iv_add (a' := 1) (b' := 240) ey16 (iv_lt (b' := 239) (iv_gt_of c4) hz3_5 (iv_c 240 (a := 240) (b := 240) (by decide +kernel)) (by decide +kernel)) (iv_c _ (a := 1) (b := 1) (by decide +kernel)) (by decide +kernel)) (a' := 0) (b' := 240) (by decide +kernel)) (iv_stepU ey16 (iv_lt (b' := 239) (iv_gt_of c4) hz3_5 (iv_c 240 (a := 240) (b := 240) (by decide +kernel)) (by decide +kernel)) (by decide +kernel) hN3)
                refine lv_icmp_ne (tgt := 100) X.1 X.2.1 dX6_readCondition_88 (by decide) (fun c14 => ?_) (fun c14 => ?_)
                · refine lv_iconst (v := 1) X.1 X.2.1 dX6_readCondition_100 (by decide +kernel) ?_
                  refine lv_istore (lv' := [(4, .int 1), (0, .ref a0), (1, .ref a1), (2, .int x2), (5, .int z3_5), (6, .int f6)]) X.1 X.2.1 dX6_readCondition_101 hl (by decide) rfl (fun ls hl => ?_)
                  exact B15_103 H _ _ 1 hG hS (lv_sub hl [1, 2, 3, 0, 4] rfl) (iv_of (iv_c 1 (a := 1) (b := 1) (by decide +kernel)) (a' := 0) (b' := 1) (by decide +kernel))
                · refine lv_aload_n X.1 X.2.1 dX6_readCondition_91 rfl (lv_at hl 0 rfl) ?_
                  refine lv_bipush (v := (-17)) X.1 X.2.1 dX6_readCondition_92 (by decide +kernel) ?_
                  refine ca_X6_put X hK hG hC hS hb a0 h0 (-17) wl_3_232 hl.1 (rest := []) rfl (Nat.le_of_ble_eq_true rfl) ⟨Nat.le_of_ble_eq_true rfl, Nat.le_of_ble_eq_true rfl⟩ ⟨Nat.le_of_ble_eq_true rfl, Nat.le_of_ble_eq_true rfl⟩ dX6_readCondition_94 (fun H locs hG hS => ?_)
                  refine lv_goto (tgt := 103) X.1 X.2.1 dX6_readCondition_97 (by decide) ?_
                  exact B15_103 H _ _ z3_4 hG hS (lv_sub hl [0, 1, 2, 3, 4] rfl) hz3_4
              · refine lv_iconst (v := 0) X.1 X.2.1 dX6_readCondition_82 (by decide +kernel) ?_
                exact sg_zret X hr (sg_zn (iv_of (iv_c 0 (a := 0) (b := 0) (by decide +kernel)) (a' := 0) (b' := 1) (by decide +kernel))) hlk hb hK hC hG hS (iv_of (iv_c 0 (a := 0) (b := 0) (by decide +kernel)) (a' := 0) (b' := 1) (by decide +kernel)) dX6_readCondition_83
            refine lv_icmp_eq (tgt := 69) X.1 X.2.1 dX6_readCondition_57 (by decide) (fun c9 => ?_) (fun c9 => ?_)
            · exact B10_69 _ _ hS (lv_sub hl [0, 1, 2, 3, 4, 5] rfl)
            · refine lv_iload X.1 X.2.1 dX6_readCondition_60 (lv_at hl 5 rfl) ?_
              refine lv_bipush (v := 124) X.1 X.2.1 dX6_readCondition_62 (by decide +kernel) ?_
              refine lv_icmp_eq (tgt := 69) X.1 X.2.1 dX6_readCondition_64 (by decide) (fun c18 => ?_) (fun c18 => ?_)
              · exact B10_69 _ _ hS (lv_sub hl [0, 1, 2, 3, 4, 5] rfl)
              · refine lv_iconst (v := 1) X.1 X.2.1 dX6_readCondition_67 (by decide +kernel) ?_
                exact sg_zret X hr (sg_zn (iv_of (iv_c 1 (a := 1) (b := 1) (by decide +kernel)) (a' := 0) (b' := 1) (by decide +kernel))) hlk hb hK hC hG hS (iv_of (iv_c 1 (a := 1) (b := 1) (by decide +kernel)) (a' := 0) (b' := 1) (by decide +kernel)) dX6_readCondition_68
          refine lv_icmp_eq (tgt := 53) X.1 X.2.1 dX6_readCondition_39 (by decide) (fun c7 => ?_) (fun c7 => ?_)
          · exact B8_53 H _ _ hG hS (lv_sub hl [1, 2, 3, 4, 5, 0] rfl)
          · refine lv_iload X.1 X.2.1 dX6_readCondition_42 (lv_at hl 4 rfl) ?_
            refine lv_if_eq (tgt := 53) X.1 X.2.1 dX6_readCondition_44 (by decide) (fun c19 => ?_) (fun c19 => ?_)
            · exact B8_53 H _ _ hG hS (lv_sub hl [1, 2, 3, 4, 5, 0] rfl)
            · refine lv_aload_n X.1 X.2.1 dX6_readCondition_47 rfl (lv_at hl 1 rfl) ?_
              refine lv_bipush (v := (-18)) X.1 X.2.1 dX6_readCondition_48 (by decide +kernel) ?_
              refine ca_X6_put X hK hG hC hS hb a0 h0 (-18) wl_3_232 hl.1 (rest := []) rfl (Nat.le_of_ble_eq_true rfl) ⟨Nat.le_of_ble_eq_true rfl, Nat.le_of_ble_eq_true rfl⟩ ⟨Nat.le_of_ble_eq_true rfl, Nat.le_of_ble_eq_true rfl⟩ dX6_readCondition_50 (fun H locs hG hS => ?_)
              exact B8_53 H _ _ hG hS (lv_sub hl [1, 2, 3, 4, 5, 0] rfl)
    exact B3_21 _ H _ _ 0 0 hG hS (lv_sub hl [2, 3, 4, 1, 0] rfl) (iv_of (iv_c 0 (a := 0) (b := 0) (by decide +kernel)) (a' := 0) (b' := 1) (by decide +kernel)) (iv_of (iv_c 0 (a := 0) (b := 0) (by decide +kernel)) (a' := 0) (b' := 240) (by decide +kernel)) (Nat.le_refl _)
  refine lv_if_ne (tgt := 15) X.1 X.2.1 dX6_readCondition_1 (by decide) (fun c1 => ?_) (fun c1 => ?_)
  · exact B2_15 s.heap _ _ hG hS (lv_sub hl [0, 1, 2] rfl)
  · refine lv_aload_n X.1 X.2.1 dX6_readCondition_4 rfl (lv_at hl 0 rfl) ?_
    refine lv_aload_n X.1 X.2.1 dX6_readCondition_5 rfl (lv_at hl 1 rfl) ?_
    refine lv_iload_n X.1 X.2.1 dX6_readCondition_6 rfl (lv_at hl 2 rfl) ?_
    refine ca_X6_readUnit_4 X hK hG hC hS hb a0 h0 a1 h1 x2 h2 wl_4_9 hl.1 (rest := []) rfl (Nat.le_of_ble_eq_true rfl) ⟨Nat.le_of_ble_eq_true rfl, Nat.le_of_ble_eq_true rfl⟩ ⟨Nat.le_of_ble_eq_true rfl, Nat.le_of_ble_eq_true rfl⟩ dX6_readCondition_7 (fun f21 H locs hf21 hG hS => ?_)
    refine lv_if_ne (tgt := 15) X.1 X.2.1 dX6_readCondition_10 (by decide) (fun c22 => ?_) (fun c22 => ?_)
    · exact B2_15 H _ _ hG hS (lv_sub hl [0, 1, 2] rfl)
    · refine lv_iconst (v := 0) X.1 X.2.1 dX6_readCondition_13 (by decide +kernel) ?_
      exact sg_zret X hr (sg_zn (iv_of (iv_c 0 (a := 0) (b := 0) (by decide +kernel)) (a' := 0) (b' := 1) (by decide +kernel))) hlk hb hK hC hG hS (iv_of (iv_c 0 (a := 0) (b := 0) (by decide +kernel)) (a' := 0) (b' := 1) (by decide +kernel)) dX6_readCondition_14

theorem ca_X6_readCondition_4   (X : CallFix p m c cc nL s args sg_tbl own) (hK : va_K D vwCl tys s) (hG : sgG (KT P) D vwCl (fun q : Nat => base ≤ q) tys ad ks H) (hC : sgC base s) (hS : va_S (fun q : Nat => base ≤ q) s.heap H locs) (hb : base ≤ s.heap.size) (a0 : Nat) (h0 : isK ad ks 6 a0) (a1 : Nat) (h1 : isK ad ks 10 a1) (x2 : Int32) (h2 : iv 4 4 x2) (x3 : Int32) (h3 : iv 0 1 x3) (hl : Cond.methodLink own index yX6_readCondition ∈ sg_tbl) (hsize : ls.size = nL) (hst : st0 = [.ref a1, .int x2, .int x3].reverse ++ .ref a0 :: rest) (hW : (rest.map fun v => v.category).sum ≤ 8) (hR : 13 ≤ R.frames ∧ 316 ≤ R.locals) (hf : cells ≤ R.cells ∧ slots ≤ R.slots) (hdg : decode cc pc = .ok (.invokevirtual index, 3)) (kk : ∀ (r : Int32) (H1 : Heap) (locs1 : List Loc), (fun r : Int32 => iv 0 1 r) r → sgG (KT P) D vwCl (fun q : Nat => base ≤ q) tys ad ks H1 → va_S (fun q : Nat => base ≤ q) s.heap H1 locs1 → W p l e R s m args below meth c H1 locs1 cells slots Q (F0 m (pc + 3) ls (.int r :: rest))) : W p l e R s m args below meth c H locs cells slots Q (F0 m pc ls st0) :=
  sg_callVi X hK hG hC hS hb (m_X6_readCondition_4 l a0 h0 a1 h1 x2 h2 x3 h3) h0 (k := 6) (ci := 6) rfl (C := RX6) (T := TX6) (N := 7) rfl wl_4_8 wl_1_3 wl_4_7 wl_0_15 (n := 3) (by decide +kernel) rfl rfl rfl hl hsize hst hW hR hf hdg kk

set_option maxHeartbeats 8000000 in
set_option maxRecDepth 100000 in
theorem m_X6_readAtom_3 (l : Launch) {D : va_G} {base : Nat} {tys : List (ClassId × FieldType)} {ad ks : List Nat} {P : sgPm} (a0 : Nat) (h0 : isK ad ks 6 a0) (a1 : Nat) (h1 : isK ad ks 10 a1) (x2 : Int32) (h2 : iv 3 3 x2) : sgMi l (KT P) D vwCl base tys ad ks yX6_readAtom cX6_readAtom 6 (some .boolean) ({ frames := 10, cells := 0, slots := 0, locals := 244 }) [.ref a0, .ref a1, .int x2] (fun r : Int32 => iv 0 1 r) := by
  refine sg_ofW (by decide +kernel) (Nat.le_of_ble_eq_true rfl) (fun p e s m below meth c X hr hlk hb hK hC hG ls hl => ?_)
  have hS : va_S (fun q : Nat => base ≤ q) s.heap s.heap [] := va_S.rf
  have hl : lv_has ls 6 [(0, .ref a0), (1, .ref a1), (2, .int x2)] := hl
  refine lv_aload_n X.1 X.2.1 dX6_readAtom_0 rfl (lv_at hl 1 rfl) ?_
  refine ca_X10_sign X hK hG hC (fun _ h => h) hS hb a1 h1 wl_3_219 hl.1 (rest := []) rfl (Nat.le_of_ble_eq_true rfl) ⟨Nat.le_of_ble_eq_true rfl, Nat.le_of_ble_eq_true rfl⟩ ⟨Nat.le_of_ble_eq_true rfl, Nat.le_of_ble_eq_true rfl⟩ dX6_readAtom_1 (fun f1 locs hf1 hS => ?_)
  refine lv_istore_n (lv' := [(3, .int f1), (0, .ref a0), (1, .ref a1), (2, .int x2)]) X.1 X.2.1 dX6_readAtom_4 rfl hl (by decide) rfl (fun ls hl => ?_)
  refine lv_iload_n X.1 X.2.1 dX6_readAtom_5 rfl (lv_at hl 0 rfl) ?_
  refine lv_bipush (v := 91) X.1 X.2.1 dX6_readAtom_6 (by decide +kernel) ?_
  refine lv_icmp_ne (tgt := 59) X.1 X.2.1 dX6_readAtom_8 (by decide) (fun c2 => ?_) (fun c2 => ?_)
  · obtain ⟨t3, vt3, pt3, rt3⟩ := hC.1.2.1
    refine va_ldcS X.1 X.2.1 X.2.2.2.1 rt3 dX6_readAtom_59 ?_
    refine lv_iload_n X.1 X.2.1 dX6_readAtom_61 rfl (lv_at hl 0 rfl) ?_
    obtain ⟨f4, ef4⟩ : ∃ y : Int32, y = ((f1 : Int32).toUInt32 % 65536).toInt32 := ⟨_, rfl⟩
    refine lv_i2c (v := f4) X.1 X.2.1 dX6_readAtom_62 ef4.symm ?_
    refine ca_J0_indexOf_0f7a4_6 X hK hG hC (fun _ h => h) hS hb pt3 f4 wl_3_231 hl.1 (rest := []) rfl (Nat.le_of_ble_eq_true rfl) ⟨Nat.le_of_ble_eq_true rfl, Nat.le_of_ble_eq_true rfl⟩ ⟨Nat.le_of_ble_eq_true rfl, Nat.le_of_ble_eq_true rfl⟩ dX6_readAtom_63 (fun f5 locs hf5 hS => ?_)
    refine lv_istore (lv' := [(4, .int f5), (3, .int f1), (0, .ref a0), (1, .ref a1), (2, .int x2)]) X.1 X.2.1 dX6_readAtom_66 hl (by decide) rfl (fun ls hl => ?_)
    refine lv_iload X.1 X.2.1 dX6_readAtom_68 (lv_at hl 0 rfl) ?_
    refine lv_if_lt (tgt := 107) X.1 X.2.1 dX6_readAtom_70 (by decide) (fun c6 => ?_) (fun c6 => ?_)
    · refine lv_aload_n X.1 X.2.1 dX6_readAtom_107 rfl (lv_at hl 3 rfl) ?_
      refine lv_iconst (v := 4) X.1 X.2.1 dX6_readAtom_108 (by decide +kernel) ?_
      refine lv_iconst (v := 0) X.1 X.2.1 dX6_readAtom_109 (by decide +kernel) ?_
      refine lv_sipush (v := 9999) X.1 X.2.1 dX6_readAtom_110 (by decide +kernel) ?_
      refine ca_X10_number X hK hG hC hS hb a1 h1 4 0 9999 wl_3_236 hl.1 (rest := []) rfl (Nat.le_of_ble_eq_true rfl) ⟨Nat.le_of_ble_eq_true rfl, Nat.le_of_ble_eq_true rfl⟩ ⟨Nat.le_of_ble_eq_true rfl, Nat.le_of_ble_eq_true rfl⟩ dX6_readAtom_113 (fun f7 H locs hf7 hG hS => ?_)
      refine lv_istore (lv' := [(5, .int f7), (4, .int f5), (3, .int f1), (0, .ref a0), (1, .ref a1), (2, .int x2)]) X.1 X.2.1 dX6_readAtom_116 hl (by decide) rfl (fun ls hl => ?_)
      refine lv_aload_n X.1 X.2.1 dX6_readAtom_118 rfl (lv_at hl 3 rfl) ?_
      refine lv_iload X.1 X.2.1 dX6_readAtom_119 (lv_at hl 0 rfl) ?_
      refine lv_iconst (v := 0) X.1 X.2.1 dX6_readAtom_121 (by decide +kernel) ?_
      refine va_mmax X.1 X.2.1 (X.2.2.1.trans hl.1.symm) X.2.2.2.1 (X.2.2.2.2 _ wl_3_237) (X.2.2.2.2 _ wl_3_100) (X.2.2.2.2 _ wl_1_15) (X.2.2.2.2 _ wl_3_101) (Nat.le_of_ble_eq_true rfl) (Nat.le_of_ble_eq_true rfl) (Nat.le_of_ble_eq_true rfl) (Nat.le_of_ble_eq_true rfl) dX6_readAtom_122 ?_
      refine lv_topi (fun f8 ef8 => ?_)
      refine ca_X6_put X hK hG hC hS hb a0 h0 f8 wl_3_232 hl.1 (rest := []) rfl (Nat.le_of_ble_eq_true rfl) ⟨Nat.le_of_ble_eq_true rfl, Nat.le_of_ble_eq_true rfl⟩ ⟨Nat.le_of_ble_eq_true rfl, Nat.le_of_ble_eq_true rfl⟩ dX6_readAtom_125 (fun H locs hG hS => ?_)
      refine lv_iload X.1 X.2.1 dX6_readAtom_128 (lv_at hl 0 rfl) ?_
      refine lv_iconst (v := (-1)) X.1 X.2.1 dX6_readAtom_130 (by decide +kernel) ?_
      refine lv_icmp_eq (tgt := 138) X.1 X.2.1 dX6_readAtom_131 (by decide) (fun c10 => ?_) (fun c10 => ?_)
      · refine lv_iconst (v := 0) X.1 X.2.1 dX6_readAtom_138 (by decide +kernel) ?_
        exact sg_zret X hr (sg_zn (iv_of (iv_c 0 (a := 0) (b := 0) (by decide +kernel)) (a' := 0) (b' := 1) (by decide +kernel))) hlk hb hK hC hG hS (iv_of (iv_c 0 (a := 0) (b := 0) (by decide +kernel)) (a' := 0) (b' := 1) (by decide +kernel)) dX6_readAtom_139
      · refine lv_iconst (v := 1) X.1 X.2.1 dX6_readAtom_134 (by decide +kernel) ?_
        refine lv_goto (tgt := 139) X.1 X.2.1 dX6_readAtom_135 (by decide) ?_
        exact sg_zret X hr (sg_zn (iv_of (iv_c 1 (a := 1) (b := 1) (by decide +kernel)) (a' := 0) (b' := 1) (by decide +kernel))) hlk hb hK hC hG hS (iv_of (iv_c 1 (a := 1) (b := 1) (by decide +kernel)) (a' := 0) (b' := 1) (by decide +kernel)) dX6_readAtom_139
    · refine lv_aload_n X.1 X.2.1 dX6_readAtom_73 rfl (lv_at hl 2 rfl) ?_
      refine lv_dup X.1 X.2.1 dX6_readAtom_74 rfl ?_
      refine gf_X6_6 X hK hG h0 wl_1_72 dX6_readAtom_75 (fun f11 hf11 kf11 => ?_)
      refine lv_iload X.1 X.2.1 dX6_readAtom_78 (lv_at hl 0 rfl) ?_
      refine lv_iconst (v := 4) X.1 X.2.1 dX6_readAtom_80 (by decide +kernel) ?_
      have B13_89 : ∀ (locs : List Loc) (ls : Array Slot) (w13_0 : Int32), va_S (fun q : Nat => base ≤ q) s.heap s.heap locs → lv_has ls 6 [(0, .ref a0), (1, .ref a1), (4, .int f5)] → iv 0 1 w13_0 → W p l e (headSpec (Cond.code yX6_readAtom cX6_readAtom 6 (some .boolean) :: sg_tbl) ({ frames := 10, cells := 0, slots := 0, locals := 244 })).room s m #[.ref a0, .ref a1, .int x2] below meth c s.heap locs 0 0 (MQ below (va_Qi (fun r (_ : Unit) => (fun r : Int32 => iv 0 1 r) r) (fun _ => sgB (KT P) D vwCl base tys ad ks) (fun q : Nat => base ≤ q)) #[.ref a0, .ref a1, .int x2] s 0 0 (fun q : Nat => base ≤ q)) (F0 m 89 ls [.int w13_0, .int f11, .ref a0]) := by
        intro locs ls w13_0 hS hl hw13_0
        refine lv_ior X.1 X.2.1 dX6_readAtom_89 ?_
        refine lv_topi (fun f14 ef14 => ?_)
        refine pf_X6_6 X hK hG hS h0 wl_1_72 ⟨_, rfl, (iv_of (iv_or 1 ef14 hf11 hw13_0 (by decide +kernel)) (a' := 0) (b' := 1) (by decide +kernel))⟩ dX6_readAtom_90 (fun H locs hG hS ku15 ru15 => ?_)
        refine lv_aload_n X.1 X.2.1 dX6_readAtom_93 rfl (lv_at hl 0 rfl) ?_
        refine lv_iconst (v := (-1)) X.1 X.2.1 dX6_readAtom_94 (by decide +kernel) ?_
        refine lv_iload X.1 X.2.1 dX6_readAtom_95 (lv_at hl 2 rfl) ?_
        refine lv_isub X.1 X.2.1 dX6_readAtom_97 ?_
        refine lv_topi (fun f16 ef16 => ?_)
        refine ca_X6_put X hK hG hC hS hb a0 h0 f16 wl_3_232 hl.1 (rest := []) rfl (Nat.le_of_ble_eq_true rfl) ⟨Nat.le_of_ble_eq_true rfl, Nat.le_of_ble_eq_true rfl⟩ ⟨Nat.le_of_ble_eq_true rfl, Nat.le_of_ble_eq_true rfl⟩ dX6_readAtom_98 (fun H locs hG hS => ?_)
        refine lv_aload_n X.1 X.2.1 dX6_readAtom_101 rfl (lv_at hl 1 rfl) ?_
        refine ca_X10_step X hK hG hC hS hb a1 h1 wl_3_229 hl.1 (rest := []) rfl (Nat.le_of_ble_eq_true rfl) ⟨Nat.le_of_ble_eq_true rfl, Nat.le_of_ble_eq_true rfl⟩ ⟨Nat.le_of_ble_eq_true rfl, Nat.le_of_ble_eq_true rfl⟩ dX6_readAtom_102 (fun H locs hG hS => ?_)
        refine lv_iconst (v := 1) X.1 X.2.1 dX6_readAtom_105 (by decide +kernel) ?_
        exact sg_zret X hr (sg_zn (iv_of (iv_c 1 (a := 1) (b := 1) (by decide +kernel)) (a' := 0) (b' := 1) (by decide +kernel))) hlk hb hK hC hG hS (iv_of (iv_c 1 (a := 1) (b := 1) (by decide +kernel)) (a' := 0) (b' := 1) (by decide +kernel)) dX6_readAtom_106
      refine lv_icmp_ne (tgt := 88) X.1 X.2.1 dX6_readAtom_81 (by decide) (fun c12 => ?_) (fun c12 => ?_)
      · refine lv_iconst (v := 0) X.1 X.2.1 dX6_readAtom_88 (by decide +kernel) ?_
        exact B13_89 _ _ 0 hS (lv_sub hl [2, 3, 0] rfl) (iv_of (iv_c 0 (a := 0) (b := 0) (by decide +kernel)) (a' := 0) (b' := 1) (by decide +kernel))
      · refine lv_iconst (v := 1) X.1 X.2.1 dX6_readAtom_84 (by decide +kernel) ?_
        refine lv_goto (tgt := 89) X.1 X.2.1 dX6_readAtom_85 (by decide) ?_
        exact B13_89 _ _ 1 hS (lv_sub hl [2, 3, 0] rfl) (iv_of (iv_c 1 (a := 1) (b := 1) (by decide +kernel)) (a' := 0) (b' := 1) (by decide +kernel))
  · refine lv_iload_n X.1 X.2.1 dX6_readAtom_11 rfl (lv_at hl 3 rfl) ?_
    refine lv_bipush (v := 6) X.1 X.2.1 dX6_readAtom_12 (by decide +kernel) ?_
    refine lv_icmp_lt (tgt := 22) X.1 X.2.1 dX6_readAtom_14 (by decide) (fun c19 => ?_) (fun c19 => ?_)
    · refine lv_aload_n X.1 X.2.1 dX6_readAtom_22 rfl (lv_at hl 2 rfl) ?_
      refine ca_X10_step X hK hG hC hS hb a1 h1 wl_3_229 hl.1 (rest := []) rfl (Nat.le_of_ble_eq_true rfl) ⟨Nat.le_of_ble_eq_true rfl, Nat.le_of_ble_eq_true rfl⟩ ⟨Nat.le_of_ble_eq_true rfl, Nat.le_of_ble_eq_true rfl⟩ dX6_readAtom_23 (fun H locs hG hS => ?_)
      refine lv_aload_n X.1 X.2.1 dX6_readAtom_26 rfl (lv_at hl 1 rfl) ?_
      refine lv_aload_n X.1 X.2.1 dX6_readAtom_27 rfl (lv_at hl 2 rfl) ?_
      refine lv_iload_n X.1 X.2.1 dX6_readAtom_28 rfl (lv_at hl 3 rfl) ?_
      refine lv_iconst (v := 1) X.1 X.2.1 dX6_readAtom_29 (by decide +kernel) ?_
      refine lv_iadd X.1 X.2.1 dX6_readAtom_30 ?_
      refine lv_topi (fun f21 ef21 => ?_)
      refine ca_X6_readSum_4 X hK hG hC hS hb a0 h0 a1 h1 f21 (iv_add (a' := 4) (b' := 4) ef21 h2 (iv_c 1 (a := 1) (b := 1) (by decide +kernel)) (by decide +kernel)) wl_3_220 hl.1 (rest := []) rfl (Nat.le_of_ble_eq_true rfl) ⟨Nat.le_of_ble_eq_true rfl, Nat.le_of_ble_eq_true rfl⟩ ⟨Nat.le_of_ble_eq_true rfl, Nat.le_of_ble_eq_true rfl⟩ dX6_readAtom_31 (fun f22 H locs hf22 hG hS => ?_)
      refine lv_if_ne (tgt := 39) X.1 X.2.1 dX6_readAtom_34 (by decide) (fun c23 => ?_) (fun c23 => ?_)
      · refine lv_aload_n X.1 X.2.1 dX6_readAtom_39 rfl (lv_at hl 2 rfl) ?_
        refine ca_X10_sign X hK hG hC (fun _ h => h) hS hb a1 h1 wl_3_219 hl.1 (rest := []) rfl (Nat.le_of_ble_eq_true rfl) ⟨Nat.le_of_ble_eq_true rfl, Nat.le_of_ble_eq_true rfl⟩ ⟨Nat.le_of_ble_eq_true rfl, Nat.le_of_ble_eq_true rfl⟩ dX6_readAtom_40 (fun f24 locs hf24 hS => ?_)
        refine lv_bipush (v := 93) X.1 X.2.1 dX6_readAtom_43 (by decide +kernel) ?_
        refine lv_icmp_eq (tgt := 53) X.1 X.2.1 dX6_readAtom_45 (by decide) (fun c25 => ?_) (fun c25 => ?_)
        · refine lv_aload_n X.1 X.2.1 dX6_readAtom_53 rfl (lv_at hl 2 rfl) ?_
          refine ca_X10_step X hK hG hC hS hb a1 h1 wl_3_229 hl.1 (rest := []) rfl (Nat.le_of_ble_eq_true rfl) ⟨Nat.le_of_ble_eq_true rfl, Nat.le_of_ble_eq_true rfl⟩ ⟨Nat.le_of_ble_eq_true rfl, Nat.le_of_ble_eq_true rfl⟩ dX6_readAtom_54 (fun H locs hG hS => ?_)
          refine lv_iconst (v := 1) X.1 X.2.1 dX6_readAtom_57 (by decide +kernel) ?_
          exact sg_zret X hr (sg_zn (iv_of (iv_c 1 (a := 1) (b := 1) (by decide +kernel)) (a' := 0) (b' := 1) (by decide +kernel))) hlk hb hK hC hG hS (iv_of (iv_c 1 (a := 1) (b := 1) (by decide +kernel)) (a' := 0) (b' := 1) (by decide +kernel)) dX6_readAtom_58
        · refine lv_aload_n X.1 X.2.1 dX6_readAtom_48 rfl (lv_at hl 2 rfl) ?_
          refine ca_X10_wrong X hK hG hC hS hb a1 h1 wl_3_228 hl.1 (rest := []) rfl (Nat.le_of_ble_eq_true rfl) ⟨Nat.le_of_ble_eq_true rfl, Nat.le_of_ble_eq_true rfl⟩ ⟨Nat.le_of_ble_eq_true rfl, Nat.le_of_ble_eq_true rfl⟩ dX6_readAtom_49 (fun f27 H locs hf27 hG hS => ?_)
          exact sg_zret X hr (sg_zn hf27) hlk hb hK hC hG hS hf27 dX6_readAtom_52
      · refine lv_iconst (v := 0) X.1 X.2.1 dX6_readAtom_37 (by decide +kernel) ?_
        exact sg_zret X hr (sg_zn (iv_of (iv_c 0 (a := 0) (b := 0) (by decide +kernel)) (a' := 0) (b' := 1) (by decide +kernel))) hlk hb hK hC hG hS (iv_of (iv_c 0 (a := 0) (b := 0) (by decide +kernel)) (a' := 0) (b' := 1) (by decide +kernel)) dX6_readAtom_38
    · exact ((iv_no (iv_le (b' := 3) (iv_ge_of c19) (iv_c 6 (a := 6) (b := 6) (by decide +kernel)) h2 (by decide +kernel)) (by decide +kernel))).elim

theorem ca_X6_readAtom_3   (X : CallFix p m c cc nL s args sg_tbl own) (hK : va_K D vwCl tys s) (hG : sgG (KT P) D vwCl (fun q : Nat => base ≤ q) tys ad ks H) (hC : sgC base s) (hS : va_S (fun q : Nat => base ≤ q) s.heap H locs) (hb : base ≤ s.heap.size) (a0 : Nat) (h0 : isK ad ks 6 a0) (a1 : Nat) (h1 : isK ad ks 10 a1) (x2 : Int32) (h2 : iv 3 3 x2) (hl : Cond.methodLink own index yX6_readAtom ∈ sg_tbl) (hsize : ls.size = nL) (hst : st0 = [.ref a1, .int x2].reverse ++ .ref a0 :: rest) (hW : (rest.map fun v => v.category).sum ≤ 8) (hR : 11 ≤ R.frames ∧ 269 ≤ R.locals) (hf : cells ≤ R.cells ∧ slots ≤ R.slots) (hdg : decode cc pc = .ok (.invokevirtual index, 3)) (kk : ∀ (r : Int32) (H1 : Heap) (locs1 : List Loc), (fun r : Int32 => iv 0 1 r) r → sgG (KT P) D vwCl (fun q : Nat => base ≤ q) tys ad ks H1 → va_S (fun q : Nat => base ≤ q) s.heap H1 locs1 → W p l e R s m args below meth c H1 locs1 cells slots Q (F0 m (pc + 3) ls (.int r :: rest))) : W p l e R s m args below meth c H locs cells slots Q (F0 m pc ls st0) :=
  sg_callVi X hK hG hC hS hb (m_X6_readAtom_3 l a0 h0 a1 h1 x2 h2) h0 (k := 6) (ci := 6) rfl (C := RX6) (T := TX6) (N := 7) rfl wl_3_227 wl_1_3 wl_3_226 wl_0_12 (n := 2) (by decide +kernel) rfl rfl rfl hl hsize hst hW hR hf hdg kk

set_option maxHeartbeats 8000000 in
set_option maxRecDepth 100000 in
theorem m_X6_readSum_3 (l : Launch) {D : va_G} {base : Nat} {tys : List (ClassId × FieldType)} {ad ks : List Nat} {P : sgPm} (a0 : Nat) (h0 : isK ad ks 6 a0) (a1 : Nat) (h1 : isK ad ks 10 a1) (x2 : Int32) (h2 : iv 3 3 x2) : sgMi l (KT P) D vwCl base tys ad ks yX6_readSum cX6_readSum 7 (some .boolean) ({ frames := 11, cells := 0, slots := 0, locals := 269 }) [.ref a0, .ref a1, .int x2] (fun r : Int32 => iv 0 1 r) := by
  refine sg_ofW (by decide +kernel) (Nat.le_of_ble_eq_true rfl) (fun p e s m below meth c X hr hlk hb hK hC hG ls hl => ?_)
  have hS : va_S (fun q : Nat => base ≤ q) s.heap s.heap [] := va_S.rf
  have hl : lv_has ls 7 [(0, .ref a0), (1, .ref a1), (2, .int x2)] := hl
  refine lv_aload_n X.1 X.2.1 dX6_readSum_0 rfl (lv_at hl 0 rfl) ?_
  refine lv_aload_n X.1 X.2.1 dX6_readSum_1 rfl (lv_at hl 1 rfl) ?_
  refine lv_iload_n X.1 X.2.1 dX6_readSum_2 rfl (lv_at hl 2 rfl) ?_
  refine ca_X6_readAtom_3 X hK hG hC hS hb a0 h0 a1 h1 x2 h2 wl_3_224 hl.1 (rest := []) rfl (Nat.le_of_ble_eq_true rfl) ⟨Nat.le_of_ble_eq_true rfl, Nat.le_of_ble_eq_true rfl⟩ ⟨Nat.le_of_ble_eq_true rfl, Nat.le_of_ble_eq_true rfl⟩ dX6_readSum_3 (fun f1 H locs hf1 hG hS => ?_)
  refine lv_if_ne (tgt := 11) X.1 X.2.1 dX6_readSum_6 (by decide) (fun c2 => ?_) (fun c2 => ?_)
  · refine lv_iconst (v := 0) X.1 X.2.1 dX6_readSum_11 (by decide +kernel) ?_
    refine lv_istore_n (lv' := [(3, .int 0), (0, .ref a0), (1, .ref a1), (2, .int x2)]) X.1 X.2.1 dX6_readSum_12 rfl hl (by decide) rfl (fun ls hl => ?_)
    refine lv_iconst (v := 0) X.1 X.2.1 dX6_readSum_13 (by decide +kernel) ?_
    refine lv_istore (lv' := [(4, .int 0), (3, .int 0), (0, .ref a0), (1, .ref a1), (2, .int x2)]) X.1 X.2.1 dX6_readSum_14 hl (by decide) rfl (fun ls hl => ?_)
    have B3_16 : ∀ (N : Nat) (H : Heap) (locs : List Loc) (ls : Array Slot) (z3_3 : Int32) (z3_4 : Int32), sgG (KT P) D vwCl (fun q : Nat => base ≤ q) tys ad ks H → va_S (fun q : Nat => base ≤ q) s.heap H locs → lv_has ls 7 [(0, .ref a0), (1, .ref a1), (2, .int x2), (3, .int z3_3), (4, .int z3_4)] → iv (-11) 0 z3_3 → iv 0 240 z3_4 → (241 - z3_4.toInt).toNat ≤ N → W p l e (headSpec (Cond.code yX6_readSum cX6_readSum 7 (some .boolean) :: sg_tbl) ({ frames := 11, cells := 0, slots := 0, locals := 269 })).room s m #[.ref a0, .ref a1, .int x2] below meth c H locs 0 0 (MQ below (va_Qi (fun r (_ : Unit) => (fun r : Int32 => iv 0 1 r) r) (fun _ => sgB (KT P) D vwCl base tys ad ks) (fun q : Nat => base ≤ q)) #[.ref a0, .ref a1, .int x2] s 0 0 (fun q : Nat => base ≤ q)) (F0 m 16 ls []) := by
      intro N; induction N with
      | zero =>
        intro H locs ls z3_3 z3_4 hG hS hl hz3_3 hz3_4 hN
        exact absurd hN (by have := iv_up hz3_4; omega)
      | succ N ih3 =>
        intro H locs ls z3_3 z3_4 hG hS hl hz3_3 hz3_4 hN3
        refine lv_iload X.1 X.2.1 dX6_readSum_16 (lv_at hl 4 rfl) ?_
        refine lv_sipush (v := 240) X.1 X.2.1 dX6_readSum_18 (by decide +kernel) ?_
        refine lv_icmp_ge (tgt := 148) X.1 X.2.1 dX6_readSum_21 (by decide) (fun c4 => ?_) (fun c4 => ?_)
        · refine lv_aload_n X.1 X.2.1 dX6_readSum_148 rfl (lv_at hl 1 rfl) ?_
          refine ca_X10_wrong X hK hG hC hS hb a1 h1 wl_3_228 hl.1 (rest := []) rfl (Nat.le_of_ble_eq_true rfl) ⟨Nat.le_of_ble_eq_true rfl, Nat.le_of_ble_eq_true rfl⟩ ⟨Nat.le_of_ble_eq_true rfl, Nat.le_of_ble_eq_true rfl⟩ dX6_readSum_149 (fun f5 H locs hf5 hG hS => ?_)
          exact sg_zret X hr (sg_zn hf5) hlk hb hK hC hG hS hf5 dX6_readSum_152
        · refine lv_aload_n X.1 X.2.1 dX6_readSum_24 rfl (lv_at hl 1 rfl) ?_
          refine ca_X10_sign X hK hG hC (fun _ h => h) hS hb a1 h1 wl_3_219 hl.1 (rest := []) rfl (Nat.le_of_ble_eq_true rfl) ⟨Nat.le_of_ble_eq_true rfl, Nat.le_of_ble_eq_true rfl⟩ ⟨Nat.le_of_ble_eq_true rfl, Nat.le_of_ble_eq_true rfl⟩ dX6_readSum_25 (fun f6 locs hf6 hS => ?_)
          refine lv_istore (lv' := [(5, .int f6), (0, .ref a0), (1, .ref a1), (2, .int x2), (3, .int z3_3), (4, .int z3_4)]) X.1 X.2.1 dX6_readSum_28 hl (by decide) rfl (fun ls hl => ?_)
          refine lv_iload X.1 X.2.1 dX6_readSum_30 (lv_at hl 0 rfl) ?_
          refine lv_bipush (v := 42) X.1 X.2.1 dX6_readSum_32 (by decide +kernel) ?_
          have B8_49 : ∀ (locs : List Loc) (ls : Array Slot) (w8_0 : Int32), va_S (fun q : Nat => base ≤ q) s.heap H locs → lv_has ls 7 [(0, .ref a0), (1, .ref a1), (2, .int x2), (3, .int z3_3), (4, .int z3_4), (5, .int f6)] → iv 0 1 w8_0 → W p l e (headSpec (Cond.code yX6_readSum cX6_readSum 7 (some .boolean) :: sg_tbl) ({ frames := 11, cells := 0, slots := 0, locals := 269 })).room s m #[.ref a0, .ref a1, .int x2] below meth c H locs 0 0 (MQ below (va_Qi (fun r (_ : Unit) => (fun r : Int32 => iv 0 1 r) r) (fun _ => sgB (KT P) D vwCl base tys ad ks) (fun q : Nat => base ≤ q)) #[.ref a0, .ref a1, .int x2] s 0 0 (fun q : Nat => base ≤ q)) (F0 m 49 ls [.int w8_0]) := by
            intro locs ls w8_0 hS hl hw8_0
            refine lv_istore (lv' := [(6, .int w8_0), (0, .ref a0), (1, .ref a1), (2, .int x2), (3, .int z3_3), (4, .int z3_4), (5, .int f6)]) X.1 X.2.1 dX6_readSum_49 hl (by decide) rfl (fun ls hl => ?_)
            refine lv_iload X.1 X.2.1 dX6_readSum_51 (lv_at hl 0 rfl) ?_
            have B10_65 : ∀ (H : Heap) (locs : List Loc) (ls : Array Slot), sgG (KT P) D vwCl (fun q : Nat => base ≤ q) tys ad ks H → va_S (fun q : Nat => base ≤ q) s.heap H locs → lv_has ls 7 [(0, .ref a0), (1, .ref a1), (2, .int x2), (3, .int z3_3), (4, .int z3_4), (5, .int f6), (6, .int w8_0)] → W p l e (headSpec (Cond.code yX6_readSum cX6_readSum 7 (some .boolean) :: sg_tbl) ({ frames := 11, cells := 0, slots := 0, locals := 269 })).room s m #[.ref a0, .ref a1, .int x2] below meth c H locs 0 0 (MQ below (va_Qi (fun r (_ : Unit) => (fun r : Int32 => iv 0 1 r) r) (fun _ => sgB (KT P) D vwCl base tys ad ks) (fun q : Nat => base ≤ q)) #[.ref a0, .ref a1, .int x2] s 0 0 (fun q : Nat => base ≤ q)) (F0 m 65 ls []) := by
              intro H locs ls hG hS hl
              refine lv_iload X.1 X.2.1 dX6_readSum_65 (lv_at hl 6 rfl) ?_
              have B12_86 : ∀ (locs : List Loc) (ls : Array Slot), va_S (fun q : Nat => base ≤ q) s.heap H locs → lv_has ls 7 [(0, .ref a0), (1, .ref a1), (2, .int x2), (3, .int z3_3), (4, .int z3_4), (5, .int f6), (6, .int w8_0)] → W p l e (headSpec (Cond.code yX6_readSum cX6_readSum 7 (some .boolean) :: sg_tbl) ({ frames := 11, cells := 0, slots := 0, locals := 269 })).room s m #[.ref a0, .ref a1, .int x2] below meth c H locs 0 0 (MQ below (va_Qi (fun r (_ : Unit) => (fun r : Int32 => iv 0 1 r) r) (fun _ => sgB (KT P) D vwCl base tys ad ks) (fun q : Nat => base ≤ q)) #[.ref a0, .ref a1, .int x2] s 0 0 (fun q : Nat => base ≤ q)) (F0 m 86 ls []) := by
                intro locs ls hS hl
                refine lv_aload_n X.1 X.2.1 dX6_readSum_86 rfl (lv_at hl 1 rfl) ?_
                refine ca_X10_step X hK hG hC hS hb a1 h1 wl_3_229 hl.1 (rest := []) rfl (Nat.le_of_ble_eq_true rfl) ⟨Nat.le_of_ble_eq_true rfl, Nat.le_of_ble_eq_true rfl⟩ ⟨Nat.le_of_ble_eq_true rfl, Nat.le_of_ble_eq_true rfl⟩ dX6_readSum_87 (fun H locs hG hS => ?_)
                refine lv_aload_n X.1 X.2.1 dX6_readSum_90 rfl (lv_at hl 0 rfl) ?_
                refine lv_aload_n X.1 X.2.1 dX6_readSum_91 rfl (lv_at hl 1 rfl) ?_
                refine lv_iload_n X.1 X.2.1 dX6_readSum_92 rfl (lv_at hl 2 rfl) ?_
                refine ca_X6_readAtom_3 X hK hG hC hS hb a0 h0 a1 h1 x2 h2 wl_3_224 hl.1 (rest := []) rfl (Nat.le_of_ble_eq_true rfl) ⟨Nat.le_of_ble_eq_true rfl, Nat.le_of_ble_eq_true rfl⟩ ⟨Nat.le_of_ble_eq_true rfl, Nat.le_of_ble_eq_true rfl⟩ dX6_readSum_93 (fun f14 H locs hf14 hG hS => ?_)
                refine lv_if_ne (tgt := 101) X.1 X.2.1 dX6_readSum_96 (by decide) (fun c15 => ?_) (fun c15 => ?_)
                · refine lv_iload X.1 X.2.1 dX6_readSum_101 (lv_at hl 6 rfl) ?_
                  have B17_142 : ∀ (H : Heap) (locs : List Loc) (ls : Array Slot) (z17_3 : Int32), sgG (KT P) D vwCl (fun q : Nat => base ≤ q) tys ad ks H → va_S (fun q : Nat => base ≤ q) s.heap H locs → lv_has ls 7 [(0, .ref a0), (1, .ref a1), (2, .int x2), (3, .int z17_3), (4, .int z3_4)] → iv (-11) 0 z17_3 → W p l e (headSpec (Cond.code yX6_readSum cX6_readSum 7 (some .boolean) :: sg_tbl) ({ frames := 11, cells := 0, slots := 0, locals := 269 })).room s m #[.ref a0, .ref a1, .int x2] below meth c H locs 0 0 (MQ below (va_Qi (fun r (_ : Unit) => (fun r : Int32 => iv 0 1 r) r) (fun _ => sgB (KT P) D vwCl base tys ad ks) (fun q : Nat => base ≤ q)) #[.ref a0, .ref a1, .int x2] s 0 0 (fun q : Nat => base ≤ q)) (F0 m 142 ls []) := by
                    intro H locs ls z17_3 hG hS hl hz17_3
                    obtain ⟨y18, ey18⟩ : ∃ y : Int32, y = z3_4 + Int32.ofInt 1 := ⟨_, rfl⟩
                    refine lv_iinc (v := y18) (lv' := [(4, .int y18), (0, .ref a0), (1, .ref a1), (2, .int x2), (3, .int z17_3)]) X.1 X.2.1 dX6_readSum_142 hl (k := 4) rfl ey18.symm (by decide) rfl (fun ls hl => ?_)
                    refine lv_goto (tgt := 16) X.1 X.2.1 dX6_readSum_145 (by decide) ?_
                    exact ih3 H _ _ z17_3 y18 hG hS (lv_sub hl [1, 2, 3, 4, 0] rfl) hz17_3 (iv_of (iv_add (a' := 1) (b' := 240) ey18 (iv_lt (b' := 239) (iv_gt_of c4) hz3_4 (iv_c 240 (a := 240) (b := 240) (by decide +kernel)) (by decide +kernel)) (iv_c _ (a := 1) (b := 1) (by decide +kernel)) (by decide +kernel)) (a' := 0) (b' := 240) (by decide +kernel)) (iv_stepU ey18 (iv_lt (b' := 239) (iv_gt_of c4) hz3_4 (iv_c 240 (a := 240) (b := 240) (by decide +kernel)) (by decide +kernel)) (by decide +kernel) hN3)
                  refine lv_if_eq (tgt := 127) X.1 X.2.1 dX6_readSum_103 (by decide) (fun c16 => ?_) (fun c16 => ?_)
                  · refine lv_iload X.1 X.2.1 dX6_readSum_127 (lv_at hl 5 rfl) ?_
                    refine lv_bipush (v := 43) X.1 X.2.1 dX6_readSum_129 (by decide +kernel) ?_
                    have B20_141 : ∀ (locs : List Loc) (ls : Array Slot) (w20_0 : Int32), va_S (fun q : Nat => base ≤ q) s.heap H locs → lv_has ls 7 [(0, .ref a0), (1, .ref a1), (2, .int x2), (4, .int z3_4)] → iv (-11) (-10) w20_0 → W p l e (headSpec (Cond.code yX6_readSum cX6_readSum 7 (some .boolean) :: sg_tbl) ({ frames := 11, cells := 0, slots := 0, locals := 269 })).room s m #[.ref a0, .ref a1, .int x2] below meth c H locs 0 0 (MQ below (va_Qi (fun r (_ : Unit) => (fun r : Int32 => iv 0 1 r) r) (fun _ => sgB (KT P) D vwCl base tys ad ks) (fun q : Nat => base ≤ q)) #[.ref a0, .ref a1, .int x2] s 0 0 (fun q : Nat => base ≤ q)) (F0 m 141 ls [.int w20_0]) := by
                      intro locs ls w20_0 hS hl hw20_0
                      refine lv_istore_n (lv' := [(3, .int w20_0), (0, .ref a0), (1, .ref a1), (2, .int x2), (4, .int z3_4)]) X.1 X.2.1 dX6_readSum_141 rfl hl (by decide) rfl (fun ls hl => ?_)
                      exact B17_142 H _ _ w20_0 hG hS (lv_sub hl [1, 2, 3, 0, 4] rfl) (iv_of hw20_0 (a' := (-11)) (b' := 0) (by decide +kernel))
                    refine lv_icmp_ne (tgt := 139) X.1 X.2.1 dX6_readSum_131 (by decide) (fun c19 => ?_) (fun c19 => ?_)
                    · refine lv_bipush (v := (-11)) X.1 X.2.1 dX6_readSum_139 (by decide +kernel) ?_
                      exact B20_141 _ _ (-11) hS (lv_sub hl [0, 1, 2, 4] rfl) (iv_of (iv_c (-11) (a := (-11)) (b := (-11)) (by decide +kernel)) (a' := (-11)) (b' := (-10)) (by decide +kernel))
                    · refine lv_bipush (v := (-10)) X.1 X.2.1 dX6_readSum_134 (by decide +kernel) ?_
                      refine lv_goto (tgt := 141) X.1 X.2.1 dX6_readSum_136 (by decide) ?_
                      exact B20_141 _ _ (-10) hS (lv_sub hl [0, 1, 2, 4] rfl) (iv_of (iv_c (-10) (a := (-10)) (b := (-10)) (by decide +kernel)) (a' := (-11)) (b' := (-10)) (by decide +kernel))
                  · refine lv_aload_n X.1 X.2.1 dX6_readSum_106 rfl (lv_at hl 0 rfl) ?_
                    refine lv_iload X.1 X.2.1 dX6_readSum_107 (lv_at hl 5 rfl) ?_
                    refine lv_bipush (v := 42) X.1 X.2.1 dX6_readSum_109 (by decide +kernel) ?_
                    have B22_121 : ∀ (locs : List Loc) (ls : Array Slot) (w22_0 : Int32), va_S (fun q : Nat => base ≤ q) s.heap H locs → lv_has ls 7 [(0, .ref a0), (1, .ref a1), (2, .int x2), (3, .int z3_3), (4, .int z3_4)] → iv (-13) (-12) w22_0 → W p l e (headSpec (Cond.code yX6_readSum cX6_readSum 7 (some .boolean) :: sg_tbl) ({ frames := 11, cells := 0, slots := 0, locals := 269 })).room s m #[.ref a0, .ref a1, .int x2] below meth c H locs 0 0 (MQ below (va_Qi (fun r (_ : Unit) => (fun r : Int32 => iv 0 1 r) r) (fun _ => sgB (KT P) D vwCl base tys ad ks) (fun q : Nat => base ≤ q)) #[.ref a0, .ref a1, .int x2] s 0 0 (fun q : Nat => base ≤ q)) (F0 m 121 ls [.int w22_0, .ref a0]) := by
                      intro locs ls w22_0 hS hl hw22_0
                      refine ca_X6_put X hK hG hC hS hb a0 h0 w22_0 wl_3_232 hl.1 (rest := []) rfl (Nat.le_of_ble_eq_true rfl) ⟨Nat.le_of_ble_eq_true rfl, Nat.le_of_ble_eq_true rfl⟩ ⟨Nat.le_of_ble_eq_true rfl, Nat.le_of_ble_eq_true rfl⟩ dX6_readSum_121 (fun H locs hG hS => ?_)
                      refine lv_goto (tgt := 142) X.1 X.2.1 dX6_readSum_124 (by decide) ?_
                      exact B17_142 H _ _ z3_3 hG hS (lv_sub hl [0, 1, 2, 3, 4] rfl) hz3_3
                    refine lv_icmp_ne (tgt := 119) X.1 X.2.1 dX6_readSum_111 (by decide) (fun c21 => ?_) (fun c21 => ?_)
                    · refine lv_bipush (v := (-13)) X.1 X.2.1 dX6_readSum_119 (by decide +kernel) ?_
                      exact B22_121 _ _ (-13) hS (lv_sub hl [0, 1, 2, 3, 4] rfl) (iv_of (iv_c (-13) (a := (-13)) (b := (-13)) (by decide +kernel)) (a' := (-13)) (b' := (-12)) (by decide +kernel))
                    · refine lv_bipush (v := (-12)) X.1 X.2.1 dX6_readSum_114 (by decide +kernel) ?_
                      refine lv_goto (tgt := 121) X.1 X.2.1 dX6_readSum_116 (by decide) ?_
                      exact B22_121 _ _ (-12) hS (lv_sub hl [0, 1, 2, 3, 4] rfl) (iv_of (iv_c (-12) (a := (-12)) (b := (-12)) (by decide +kernel)) (a' := (-13)) (b' := (-12)) (by decide +kernel))
                · refine lv_iconst (v := 0) X.1 X.2.1 dX6_readSum_99 (by decide +kernel) ?_
                  exact sg_zret X hr (sg_zn (iv_of (iv_c 0 (a := 0) (b := 0) (by decide +kernel)) (a' := 0) (b' := 1) (by decide +kernel))) hlk hb hK hC hG hS (iv_of (iv_c 0 (a := 0) (b := 0) (by decide +kernel)) (a' := 0) (b' := 1) (by decide +kernel)) dX6_readSum_100
              refine lv_if_ne (tgt := 86) X.1 X.2.1 dX6_readSum_67 (by decide) (fun c11 => ?_) (fun c11 => ?_)
              · exact B12_86 _ _ hS (lv_sub hl [0, 1, 2, 3, 4, 5, 6] rfl)
              · refine lv_iload X.1 X.2.1 dX6_readSum_70 (lv_at hl 5 rfl) ?_
                refine lv_bipush (v := 43) X.1 X.2.1 dX6_readSum_72 (by decide +kernel) ?_
                refine lv_icmp_eq (tgt := 86) X.1 X.2.1 dX6_readSum_74 (by decide) (fun c24 => ?_) (fun c24 => ?_)
                · exact B12_86 _ _ hS (lv_sub hl [0, 1, 2, 3, 4, 5, 6] rfl)
                · refine lv_iload X.1 X.2.1 dX6_readSum_77 (lv_at hl 5 rfl) ?_
                  refine lv_bipush (v := 45) X.1 X.2.1 dX6_readSum_79 (by decide +kernel) ?_
                  refine lv_icmp_eq (tgt := 86) X.1 X.2.1 dX6_readSum_81 (by decide) (fun c25 => ?_) (fun c25 => ?_)
                  · exact B12_86 _ _ hS (lv_sub hl [0, 1, 2, 3, 4, 5, 6] rfl)
                  · refine lv_iconst (v := 1) X.1 X.2.1 dX6_readSum_84 (by decide +kernel) ?_
                    exact sg_zret X hr (sg_zn (iv_of (iv_c 1 (a := 1) (b := 1) (by decide +kernel)) (a' := 0) (b' := 1) (by decide +kernel))) hlk hb hK hC hG hS (iv_of (iv_c 1 (a := 1) (b := 1) (by decide +kernel)) (a' := 0) (b' := 1) (by decide +kernel)) dX6_readSum_85
            refine lv_if_ne (tgt := 65) X.1 X.2.1 dX6_readSum_53 (by decide) (fun c9 => ?_) (fun c9 => ?_)
            · exact B10_65 H _ _ hG hS (lv_sub hl [1, 2, 3, 4, 5, 6, 0] rfl)
            · refine lv_iload_n X.1 X.2.1 dX6_readSum_56 rfl (lv_at hl 4 rfl) ?_
              refine lv_if_eq (tgt := 65) X.1 X.2.1 dX6_readSum_57 (by decide) (fun c26 => ?_) (fun c26 => ?_)
              · exact B10_65 H _ _ hG hS (lv_sub hl [1, 2, 3, 4, 5, 6, 0] rfl)
              · refine lv_aload_n X.1 X.2.1 dX6_readSum_60 rfl (lv_at hl 1 rfl) ?_
                refine lv_iload_n X.1 X.2.1 dX6_readSum_61 rfl (lv_at hl 4 rfl) ?_
                refine ca_X6_put X hK hG hC hS hb a0 h0 z3_3 wl_3_232 hl.1 (rest := []) rfl (Nat.le_of_ble_eq_true rfl) ⟨Nat.le_of_ble_eq_true rfl, Nat.le_of_ble_eq_true rfl⟩ ⟨Nat.le_of_ble_eq_true rfl, Nat.le_of_ble_eq_true rfl⟩ dX6_readSum_62 (fun H locs hG hS => ?_)
                exact B10_65 H _ _ hG hS (lv_sub hl [1, 2, 3, 4, 5, 6, 0] rfl)
          have B28_44 : ∀ (locs : List Loc) (ls : Array Slot), va_S (fun q : Nat => base ≤ q) s.heap H locs → lv_has ls 7 [(0, .ref a0), (1, .ref a1), (2, .int x2), (3, .int z3_3), (4, .int z3_4), (5, .int f6)] → W p l e (headSpec (Cond.code yX6_readSum cX6_readSum 7 (some .boolean) :: sg_tbl) ({ frames := 11, cells := 0, slots := 0, locals := 269 })).room s m #[.ref a0, .ref a1, .int x2] below meth c H locs 0 0 (MQ below (va_Qi (fun r (_ : Unit) => (fun r : Int32 => iv 0 1 r) r) (fun _ => sgB (KT P) D vwCl base tys ad ks) (fun q : Nat => base ≤ q)) #[.ref a0, .ref a1, .int x2] s 0 0 (fun q : Nat => base ≤ q)) (F0 m 44 ls []) := by
            intro locs ls hS hl
            refine lv_iconst (v := 1) X.1 X.2.1 dX6_readSum_44 (by decide +kernel) ?_
            refine lv_goto (tgt := 49) X.1 X.2.1 dX6_readSum_45 (by decide) ?_
            exact B8_49 _ _ 1 hS (lv_sub hl [0, 1, 2, 3, 4, 5] rfl) (iv_of (iv_c 1 (a := 1) (b := 1) (by decide +kernel)) (a' := 0) (b' := 1) (by decide +kernel))
          refine lv_icmp_eq (tgt := 44) X.1 X.2.1 dX6_readSum_34 (by decide) (fun c7 => ?_) (fun c7 => ?_)
          · exact B28_44 _ _ hS (lv_sub hl [1, 2, 3, 4, 5, 0] rfl)
          · refine lv_iload X.1 X.2.1 dX6_readSum_37 (lv_at hl 0 rfl) ?_
            refine lv_bipush (v := 47) X.1 X.2.1 dX6_readSum_39 (by decide +kernel) ?_
            refine lv_icmp_ne (tgt := 48) X.1 X.2.1 dX6_readSum_41 (by decide) (fun c29 => ?_) (fun c29 => ?_)
            · refine lv_iconst (v := 0) X.1 X.2.1 dX6_readSum_48 (by decide +kernel) ?_
              exact B8_49 _ _ 0 hS (lv_sub hl [1, 2, 3, 4, 5, 0] rfl) (iv_of (iv_c 0 (a := 0) (b := 0) (by decide +kernel)) (a' := 0) (b' := 1) (by decide +kernel))
            · exact B28_44 _ _ hS (lv_sub hl [1, 2, 3, 4, 5, 0] rfl)
    exact B3_16 _ H _ _ 0 0 hG hS (lv_sub hl [2, 3, 4, 1, 0] rfl) (iv_of (iv_c 0 (a := 0) (b := 0) (by decide +kernel)) (a' := (-11)) (b' := 0) (by decide +kernel)) (iv_of (iv_c 0 (a := 0) (b := 0) (by decide +kernel)) (a' := 0) (b' := 240) (by decide +kernel)) (Nat.le_refl _)
  · refine lv_iconst (v := 0) X.1 X.2.1 dX6_readSum_9 (by decide +kernel) ?_
    exact sg_zret X hr (sg_zn (iv_of (iv_c 0 (a := 0) (b := 0) (by decide +kernel)) (a' := 0) (b' := 1) (by decide +kernel))) hlk hb hK hC hG hS (iv_of (iv_c 0 (a := 0) (b := 0) (by decide +kernel)) (a' := 0) (b' := 1) (by decide +kernel)) dX6_readSum_10

theorem ca_X6_readSum_3   (X : CallFix p m c cc nL s args sg_tbl own) (hK : va_K D vwCl tys s) (hG : sgG (KT P) D vwCl (fun q : Nat => base ≤ q) tys ad ks H) (hC : sgC base s) (hS : va_S (fun q : Nat => base ≤ q) s.heap H locs) (hb : base ≤ s.heap.size) (a0 : Nat) (h0 : isK ad ks 6 a0) (a1 : Nat) (h1 : isK ad ks 10 a1) (x2 : Int32) (h2 : iv 3 3 x2) (hl : Cond.methodLink own index yX6_readSum ∈ sg_tbl) (hsize : ls.size = nL) (hst : st0 = [.ref a1, .int x2].reverse ++ .ref a0 :: rest) (hW : (rest.map fun v => v.category).sum ≤ 8) (hR : 12 ≤ R.frames ∧ 295 ≤ R.locals) (hf : cells ≤ R.cells ∧ slots ≤ R.slots) (hdg : decode cc pc = .ok (.invokevirtual index, 3)) (kk : ∀ (r : Int32) (H1 : Heap) (locs1 : List Loc), (fun r : Int32 => iv 0 1 r) r → sgG (KT P) D vwCl (fun q : Nat => base ≤ q) tys ad ks H1 → va_S (fun q : Nat => base ≤ q) s.heap H1 locs1 → W p l e R s m args below meth c H1 locs1 cells slots Q (F0 m (pc + 3) ls (.int r :: rest))) : W p l e R s m args below meth c H locs cells slots Q (F0 m pc ls st0) :=
  sg_callVi X hK hG hC hS hb (m_X6_readSum_3 l a0 h0 a1 h1 x2 h2) h0 (k := 6) (ci := 6) rfl (C := RX6) (T := TX6) (N := 7) rfl wl_3_223 wl_1_3 wl_3_222 wl_0_11 (n := 2) (by decide +kernel) rfl rfl rfl hl hsize hst hW hR hf hdg kk

set_option maxHeartbeats 8000000 in
set_option maxRecDepth 100000 in
theorem m_X6_readComparison_3 (l : Launch) {D : va_G} {base : Nat} {tys : List (ClassId × FieldType)} {ad ks : List Nat} {P : sgPm} (a0 : Nat) (h0 : isK ad ks 6 a0) (a1 : Nat) (h1 : isK ad ks 10 a1) (x2 : Int32) (h2 : iv 3 3 x2) : sgMi l (KT P) D vwCl base tys ad ks yX6_readComparison cX6_readComparison 4 (some .boolean) ({ frames := 12, cells := 0, slots := 0, locals := 295 }) [.ref a0, .ref a1, .int x2] (fun r : Int32 => iv 0 1 r) := by
  refine sg_ofW (by decide +kernel) (Nat.le_of_ble_eq_true rfl) (fun p e s m below meth c X hr hlk hb hK hC hG ls hl => ?_)
  have hS : va_S (fun q : Nat => base ≤ q) s.heap s.heap [] := va_S.rf
  have hl : lv_has ls 4 [(0, .ref a0), (1, .ref a1), (2, .int x2)] := hl
  refine lv_aload_n X.1 X.2.1 dX6_readComparison_0 rfl (lv_at hl 1 rfl) ?_
  refine ca_X10_sign X hK hG hC (fun _ h => h) hS hb a1 h1 wl_3_219 hl.1 (rest := []) rfl (Nat.le_of_ble_eq_true rfl) ⟨Nat.le_of_ble_eq_true rfl, Nat.le_of_ble_eq_true rfl⟩ ⟨Nat.le_of_ble_eq_true rfl, Nat.le_of_ble_eq_true rfl⟩ dX6_readComparison_1 (fun f1 locs hf1 hS => ?_)
  refine ca_X6_comparison X hK hG hC (fun _ h => h) hS hb f1 wl_3_238 hl.1 (rest := []) rfl (Nat.le_of_ble_eq_true rfl) ⟨Nat.le_of_ble_eq_true rfl, Nat.le_of_ble_eq_true rfl⟩ ⟨Nat.le_of_ble_eq_true rfl, Nat.le_of_ble_eq_true rfl⟩ dX6_readComparison_4 (fun f2 locs hf2 hS => ?_)
  refine lv_istore_n (lv' := [(3, .int f2), (0, .ref a0), (1, .ref a1), (2, .int x2)]) X.1 X.2.1 dX6_readComparison_7 rfl hl (by decide) rfl (fun ls hl => ?_)
  refine lv_iload_n X.1 X.2.1 dX6_readComparison_8 rfl (lv_at hl 0 rfl) ?_
  refine lv_if_ne (tgt := 17) X.1 X.2.1 dX6_readComparison_9 (by decide) (fun c3 => ?_) (fun c3 => ?_)
  · refine lv_aload_n X.1 X.2.1 dX6_readComparison_17 rfl (lv_at hl 2 rfl) ?_
    refine ca_X10_step X hK hG hC hS hb a1 h1 wl_3_229 hl.1 (rest := []) rfl (Nat.le_of_ble_eq_true rfl) ⟨Nat.le_of_ble_eq_true rfl, Nat.le_of_ble_eq_true rfl⟩ ⟨Nat.le_of_ble_eq_true rfl, Nat.le_of_ble_eq_true rfl⟩ dX6_readComparison_18 (fun H locs hG hS => ?_)
    refine lv_aload_n X.1 X.2.1 dX6_readComparison_21 rfl (lv_at hl 1 rfl) ?_
    refine lv_aload_n X.1 X.2.1 dX6_readComparison_22 rfl (lv_at hl 2 rfl) ?_
    refine lv_iload_n X.1 X.2.1 dX6_readComparison_23 rfl (lv_at hl 3 rfl) ?_
    refine ca_X6_readSum_3 X hK hG hC hS hb a0 h0 a1 h1 x2 h2 wl_3_220 hl.1 (rest := []) rfl (Nat.le_of_ble_eq_true rfl) ⟨Nat.le_of_ble_eq_true rfl, Nat.le_of_ble_eq_true rfl⟩ ⟨Nat.le_of_ble_eq_true rfl, Nat.le_of_ble_eq_true rfl⟩ dX6_readComparison_24 (fun f5 H locs hf5 hG hS => ?_)
    refine lv_if_ne (tgt := 32) X.1 X.2.1 dX6_readComparison_27 (by decide) (fun c6 => ?_) (fun c6 => ?_)
    · refine lv_aload_n X.1 X.2.1 dX6_readComparison_32 rfl (lv_at hl 1 rfl) ?_
      refine lv_iload_n X.1 X.2.1 dX6_readComparison_33 rfl (lv_at hl 0 rfl) ?_
      refine ca_X6_put X hK hG hC hS hb a0 h0 f2 wl_3_232 hl.1 (rest := []) rfl (Nat.le_of_ble_eq_true rfl) ⟨Nat.le_of_ble_eq_true rfl, Nat.le_of_ble_eq_true rfl⟩ ⟨Nat.le_of_ble_eq_true rfl, Nat.le_of_ble_eq_true rfl⟩ dX6_readComparison_34 (fun H locs hG hS => ?_)
      refine lv_iconst (v := 1) X.1 X.2.1 dX6_readComparison_37 (by decide +kernel) ?_
      exact sg_zret X hr (sg_zn (iv_of (iv_c 1 (a := 1) (b := 1) (by decide +kernel)) (a' := 0) (b' := 1) (by decide +kernel))) hlk hb hK hC hG hS (iv_of (iv_c 1 (a := 1) (b := 1) (by decide +kernel)) (a' := 0) (b' := 1) (by decide +kernel)) dX6_readComparison_38
    · refine lv_iconst (v := 0) X.1 X.2.1 dX6_readComparison_30 (by decide +kernel) ?_
      exact sg_zret X hr (sg_zn (iv_of (iv_c 0 (a := 0) (b := 0) (by decide +kernel)) (a' := 0) (b' := 1) (by decide +kernel))) hlk hb hK hC hG hS (iv_of (iv_c 0 (a := 0) (b := 0) (by decide +kernel)) (a' := 0) (b' := 1) (by decide +kernel)) dX6_readComparison_31
  · refine lv_aload_n X.1 X.2.1 dX6_readComparison_12 rfl (lv_at hl 2 rfl) ?_
    refine ca_X10_wrong X hK hG hC hS hb a1 h1 wl_3_228 hl.1 (rest := []) rfl (Nat.le_of_ble_eq_true rfl) ⟨Nat.le_of_ble_eq_true rfl, Nat.le_of_ble_eq_true rfl⟩ ⟨Nat.le_of_ble_eq_true rfl, Nat.le_of_ble_eq_true rfl⟩ dX6_readComparison_13 (fun f8 H locs hf8 hG hS => ?_)
    exact sg_zret X hr (sg_zn hf8) hlk hb hK hC hG hS hf8 dX6_readComparison_16

theorem ca_X6_readComparison_3   (X : CallFix p m c cc nL s args sg_tbl own) (hK : va_K D vwCl tys s) (hG : sgG (KT P) D vwCl (fun q : Nat => base ≤ q) tys ad ks H) (hC : sgC base s) (hS : va_S (fun q : Nat => base ≤ q) s.heap H locs) (hb : base ≤ s.heap.size) (a0 : Nat) (h0 : isK ad ks 6 a0) (a1 : Nat) (h1 : isK ad ks 10 a1) (x2 : Int32) (h2 : iv 3 3 x2) (hl : Cond.methodLink own index yX6_readComparison ∈ sg_tbl) (hsize : ls.size = nL) (hst : st0 = [.ref a1, .int x2].reverse ++ .ref a0 :: rest) (hW : (rest.map fun v => v.category).sum ≤ 8) (hR : 13 ≤ R.frames ∧ 318 ≤ R.locals) (hf : cells ≤ R.cells ∧ slots ≤ R.slots) (hdg : decode cc pc = .ok (.invokevirtual index, 3)) (kk : ∀ (r : Int32) (H1 : Heap) (locs1 : List Loc), (fun r : Int32 => iv 0 1 r) r → sgG (KT P) D vwCl (fun q : Nat => base ≤ q) tys ad ks H1 → va_S (fun q : Nat => base ≤ q) s.heap H1 locs1 → W p l e R s m args below meth c H1 locs1 cells slots Q (F0 m (pc + 3) ls (.int r :: rest))) : W p l e R s m args below meth c H locs cells slots Q (F0 m pc ls st0) :=
  sg_callVi X hK hG hC hS hb (m_X6_readComparison_3 l a0 h0 a1 h1 x2 h2) h0 (k := 6) (ci := 6) rfl (C := RX6) (T := TX6) (N := 7) rfl wl_4_4 wl_1_3 wl_4_3 wl_0_14 (n := 2) (by decide +kernel) rfl rfl rfl hl hsize hst hW hR hf hdg kk

set_option maxHeartbeats 8000000 in
set_option maxRecDepth 100000 in
theorem m_X6_readUnit_3 (l : Launch) {D : va_G} {base : Nat} {tys : List (ClassId × FieldType)} {ad ks : List Nat} {P : sgPm} (a0 : Nat) (h0 : isK ad ks 6 a0) (a1 : Nat) (h1 : isK ad ks 10 a1) (x2 : Int32) (h2 : iv 3 3 x2) : sgMi l (KT P) D vwCl base tys ad ks yX6_readUnit cX6_readUnit 4 (some .boolean) ({ frames := 13, cells := 0, slots := 0, locals := 318 }) [.ref a0, .ref a1, .int x2] (fun r : Int32 => iv 0 1 r) := by
  refine sg_ofW (by decide +kernel) (Nat.le_of_ble_eq_true rfl) (fun p e s m below meth c X hr hlk hb hK hC hG ls hl => ?_)
  have hS : va_S (fun q : Nat => base ≤ q) s.heap s.heap [] := va_S.rf
  have hl : lv_has ls 4 [(0, .ref a0), (1, .ref a1), (2, .int x2)] := hl
  refine lv_aload_n X.1 X.2.1 dX6_readUnit_0 rfl (lv_at hl 1 rfl) ?_
  refine ca_X10_sign X hK hG hC (fun _ h => h) hS hb a1 h1 wl_3_219 hl.1 (rest := []) rfl (Nat.le_of_ble_eq_true rfl) ⟨Nat.le_of_ble_eq_true rfl, Nat.le_of_ble_eq_true rfl⟩ ⟨Nat.le_of_ble_eq_true rfl, Nat.le_of_ble_eq_true rfl⟩ dX6_readUnit_1 (fun f1 locs hf1 hS => ?_)
  refine lv_istore_n (lv' := [(3, .int f1), (0, .ref a0), (1, .ref a1), (2, .int x2)]) X.1 X.2.1 dX6_readUnit_4 rfl hl (by decide) rfl (fun ls hl => ?_)
  refine lv_iload_n X.1 X.2.1 dX6_readUnit_5 rfl (lv_at hl 0 rfl) ?_
  refine lv_bipush (v := 33) X.1 X.2.1 dX6_readUnit_6 (by decide +kernel) ?_
  have B3_41 : ∀ (locs : List Loc) (ls : Array Slot), va_S (fun q : Nat => base ≤ q) s.heap s.heap locs → lv_has ls 4 [(0, .ref a0), (1, .ref a1), (2, .int x2), (3, .int f1)] → W p l e (headSpec (Cond.code yX6_readUnit cX6_readUnit 4 (some .boolean) :: sg_tbl) ({ frames := 13, cells := 0, slots := 0, locals := 318 })).room s m #[.ref a0, .ref a1, .int x2] below meth c s.heap locs 0 0 (MQ below (va_Qi (fun r (_ : Unit) => (fun r : Int32 => iv 0 1 r) r) (fun _ => sgB (KT P) D vwCl base tys ad ks) (fun q : Nat => base ≤ q)) #[.ref a0, .ref a1, .int x2] s 0 0 (fun q : Nat => base ≤ q)) (F0 m 41 ls []) := by
    intro locs ls hS hl
    refine lv_iload_n X.1 X.2.1 dX6_readUnit_41 rfl (lv_at hl 2 rfl) ?_
    refine lv_bipush (v := 6) X.1 X.2.1 dX6_readUnit_42 (by decide +kernel) ?_
    refine lv_icmp_lt (tgt := 52) X.1 X.2.1 dX6_readUnit_44 (by decide) (fun c4 => ?_) (fun c4 => ?_)
    · refine lv_aload_n X.1 X.2.1 dX6_readUnit_52 rfl (lv_at hl 1 rfl) ?_
      refine ca_X10_step X hK hG hC hS hb a1 h1 wl_3_229 hl.1 (rest := []) rfl (Nat.le_of_ble_eq_true rfl) ⟨Nat.le_of_ble_eq_true rfl, Nat.le_of_ble_eq_true rfl⟩ ⟨Nat.le_of_ble_eq_true rfl, Nat.le_of_ble_eq_true rfl⟩ dX6_readUnit_53 (fun H locs hG hS => ?_)
      refine lv_iload_n X.1 X.2.1 dX6_readUnit_56 rfl (lv_at hl 3 rfl) ?_
      refine lv_bipush (v := 40) X.1 X.2.1 dX6_readUnit_57 (by decide +kernel) ?_
      refine lv_icmp_ne (tgt := 89) X.1 X.2.1 dX6_readUnit_59 (by decide) (fun c6 => ?_) (fun c6 => ?_)
      · refine lv_aload_n X.1 X.2.1 dX6_readUnit_89 rfl (lv_at hl 0 rfl) ?_
        refine lv_aload_n X.1 X.2.1 dX6_readUnit_90 rfl (lv_at hl 1 rfl) ?_
        refine lv_iload_n X.1 X.2.1 dX6_readUnit_91 rfl (lv_at hl 2 rfl) ?_
        refine lv_iconst (v := 1) X.1 X.2.1 dX6_readUnit_92 (by decide +kernel) ?_
        refine lv_iadd X.1 X.2.1 dX6_readUnit_93 ?_
        refine lv_topi (fun f7 ef7 => ?_)
        refine ca_X6_readUnit_4 X hK hG hC hS hb a0 h0 a1 h1 f7 (iv_add (a' := 4) (b' := 4) ef7 h2 (iv_c 1 (a := 1) (b := 1) (by decide +kernel)) (by decide +kernel)) wl_4_9 hl.1 (rest := []) rfl (Nat.le_of_ble_eq_true rfl) ⟨Nat.le_of_ble_eq_true rfl, Nat.le_of_ble_eq_true rfl⟩ ⟨Nat.le_of_ble_eq_true rfl, Nat.le_of_ble_eq_true rfl⟩ dX6_readUnit_94 (fun f8 H locs hf8 hG hS => ?_)
        refine lv_if_ne (tgt := 102) X.1 X.2.1 dX6_readUnit_97 (by decide) (fun c9 => ?_) (fun c9 => ?_)
        · refine lv_aload_n X.1 X.2.1 dX6_readUnit_102 rfl (lv_at hl 0 rfl) ?_
          refine lv_bipush (v := (-19)) X.1 X.2.1 dX6_readUnit_103 (by decide +kernel) ?_
          refine ca_X6_put X hK hG hC hS hb a0 h0 (-19) wl_3_232 hl.1 (rest := []) rfl (Nat.le_of_ble_eq_true rfl) ⟨Nat.le_of_ble_eq_true rfl, Nat.le_of_ble_eq_true rfl⟩ ⟨Nat.le_of_ble_eq_true rfl, Nat.le_of_ble_eq_true rfl⟩ dX6_readUnit_105 (fun H locs hG hS => ?_)
          refine lv_iconst (v := 1) X.1 X.2.1 dX6_readUnit_108 (by decide +kernel) ?_
          exact sg_zret X hr (sg_zn (iv_of (iv_c 1 (a := 1) (b := 1) (by decide +kernel)) (a' := 0) (b' := 1) (by decide +kernel))) hlk hb hK hC hG hS (iv_of (iv_c 1 (a := 1) (b := 1) (by decide +kernel)) (a' := 0) (b' := 1) (by decide +kernel)) dX6_readUnit_109
        · refine lv_iconst (v := 0) X.1 X.2.1 dX6_readUnit_100 (by decide +kernel) ?_
          exact sg_zret X hr (sg_zn (iv_of (iv_c 0 (a := 0) (b := 0) (by decide +kernel)) (a' := 0) (b' := 1) (by decide +kernel))) hlk hb hK hC hG hS (iv_of (iv_c 0 (a := 0) (b := 0) (by decide +kernel)) (a' := 0) (b' := 1) (by decide +kernel)) dX6_readUnit_101
      · refine lv_aload_n X.1 X.2.1 dX6_readUnit_62 rfl (lv_at hl 0 rfl) ?_
        refine lv_aload_n X.1 X.2.1 dX6_readUnit_63 rfl (lv_at hl 1 rfl) ?_
        refine lv_iload_n X.1 X.2.1 dX6_readUnit_64 rfl (lv_at hl 2 rfl) ?_
        refine lv_iconst (v := 1) X.1 X.2.1 dX6_readUnit_65 (by decide +kernel) ?_
        refine lv_iadd X.1 X.2.1 dX6_readUnit_66 ?_
        refine lv_topi (fun f11 ef11 => ?_)
        refine lv_iconst (v := 0) X.1 X.2.1 dX6_readUnit_67 (by decide +kernel) ?_
        refine ca_X6_readCondition_4 X hK hG hC hS hb a0 h0 a1 h1 f11 (iv_add (a' := 4) (b' := 4) ef11 h2 (iv_c 1 (a := 1) (b := 1) (by decide +kernel)) (by decide +kernel)) 0 (iv_of (iv_c 0 (a := 0) (b := 0) (by decide +kernel)) (a' := 0) (b' := 1) (by decide +kernel)) wl_4_5 hl.1 (rest := []) rfl (Nat.le_of_ble_eq_true rfl) ⟨Nat.le_of_ble_eq_true rfl, Nat.le_of_ble_eq_true rfl⟩ ⟨Nat.le_of_ble_eq_true rfl, Nat.le_of_ble_eq_true rfl⟩ dX6_readUnit_68 (fun f12 H locs hf12 hG hS => ?_)
        have B14_87 : ∀ (H : Heap) (locs : List Loc) (ls : Array Slot), sgG (KT P) D vwCl (fun q : Nat => base ≤ q) tys ad ks H → va_S (fun q : Nat => base ≤ q) s.heap H locs → lv_has ls 4 [] → W p l e (headSpec (Cond.code yX6_readUnit cX6_readUnit 4 (some .boolean) :: sg_tbl) ({ frames := 13, cells := 0, slots := 0, locals := 318 })).room s m #[.ref a0, .ref a1, .int x2] below meth c H locs 0 0 (MQ below (va_Qi (fun r (_ : Unit) => (fun r : Int32 => iv 0 1 r) r) (fun _ => sgB (KT P) D vwCl base tys ad ks) (fun q : Nat => base ≤ q)) #[.ref a0, .ref a1, .int x2] s 0 0 (fun q : Nat => base ≤ q)) (F0 m 87 ls []) := by
          intro H locs ls hG hS hl
          refine lv_iconst (v := 0) X.1 X.2.1 dX6_readUnit_87 (by decide +kernel) ?_
          exact sg_zret X hr (sg_zn (iv_of (iv_c 0 (a := 0) (b := 0) (by decide +kernel)) (a' := 0) (b' := 1) (by decide +kernel))) hlk hb hK hC hG hS (iv_of (iv_c 0 (a := 0) (b := 0) (by decide +kernel)) (a' := 0) (b' := 1) (by decide +kernel)) dX6_readUnit_88
        refine lv_if_eq (tgt := 87) X.1 X.2.1 dX6_readUnit_71 (by decide) (fun c13 => ?_) (fun c13 => ?_)
        · exact B14_87 H _ _ hG hS (lv_sub hl [] rfl)
        · refine lv_aload_n X.1 X.2.1 dX6_readUnit_74 rfl (lv_at hl 1 rfl) ?_
          refine lv_bipush (v := 41) X.1 X.2.1 dX6_readUnit_75 (by decide +kernel) ?_
          refine ca_X10_demand X hK hG hC hS hb a1 h1 41 wl_3_214 hl.1 (rest := []) rfl (Nat.le_of_ble_eq_true rfl) ⟨Nat.le_of_ble_eq_true rfl, Nat.le_of_ble_eq_true rfl⟩ ⟨Nat.le_of_ble_eq_true rfl, Nat.le_of_ble_eq_true rfl⟩ dX6_readUnit_77 (fun f15 H locs hf15 hG hS => ?_)
          refine lv_if_eq (tgt := 87) X.1 X.2.1 dX6_readUnit_80 (by decide) (fun c16 => ?_) (fun c16 => ?_)
          · exact B14_87 H _ _ hG hS (lv_sub hl [] rfl)
          · refine lv_iconst (v := 1) X.1 X.2.1 dX6_readUnit_83 (by decide +kernel) ?_
            refine lv_goto (tgt := 88) X.1 X.2.1 dX6_readUnit_84 (by decide) ?_
            exact sg_zret X hr (sg_zn (iv_of (iv_c 1 (a := 1) (b := 1) (by decide +kernel)) (a' := 0) (b' := 1) (by decide +kernel))) hlk hb hK hC hG hS (iv_of (iv_c 1 (a := 1) (b := 1) (by decide +kernel)) (a' := 0) (b' := 1) (by decide +kernel)) dX6_readUnit_88
    · exact ((iv_no (iv_le (b' := 3) (iv_ge_of c4) (iv_c 6 (a := 6) (b := 6) (by decide +kernel)) h2 (by decide +kernel)) (by decide +kernel))).elim
  refine lv_icmp_eq (tgt := 41) X.1 X.2.1 dX6_readUnit_8 (by decide) (fun c2 => ?_) (fun c2 => ?_)
  · exact B3_41 _ _ hS (lv_sub hl [1, 2, 3, 0] rfl)
  · refine lv_iload_n X.1 X.2.1 dX6_readUnit_11 rfl (lv_at hl 0 rfl) ?_
    refine lv_bipush (v := 40) X.1 X.2.1 dX6_readUnit_12 (by decide +kernel) ?_
    refine lv_icmp_eq (tgt := 41) X.1 X.2.1 dX6_readUnit_14 (by decide) (fun c17 => ?_) (fun c17 => ?_)
    · exact B3_41 _ _ hS (lv_sub hl [1, 2, 3, 0] rfl)
    · refine lv_aload_n X.1 X.2.1 dX6_readUnit_17 rfl (lv_at hl 1 rfl) ?_
      refine lv_aload_n X.1 X.2.1 dX6_readUnit_18 rfl (lv_at hl 2 rfl) ?_
      refine lv_iload_n X.1 X.2.1 dX6_readUnit_19 rfl (lv_at hl 3 rfl) ?_
      refine ca_X6_readSum_3 X hK hG hC hS hb a0 h0 a1 h1 x2 h2 wl_3_220 hl.1 (rest := []) rfl (Nat.le_of_ble_eq_true rfl) ⟨Nat.le_of_ble_eq_true rfl, Nat.le_of_ble_eq_true rfl⟩ ⟨Nat.le_of_ble_eq_true rfl, Nat.le_of_ble_eq_true rfl⟩ dX6_readUnit_20 (fun f18 H locs hf18 hG hS => ?_)
      have B20_39 : ∀ (H : Heap) (locs : List Loc) (ls : Array Slot), sgG (KT P) D vwCl (fun q : Nat => base ≤ q) tys ad ks H → va_S (fun q : Nat => base ≤ q) s.heap H locs → lv_has ls 4 [] → W p l e (headSpec (Cond.code yX6_readUnit cX6_readUnit 4 (some .boolean) :: sg_tbl) ({ frames := 13, cells := 0, slots := 0, locals := 318 })).room s m #[.ref a0, .ref a1, .int x2] below meth c H locs 0 0 (MQ below (va_Qi (fun r (_ : Unit) => (fun r : Int32 => iv 0 1 r) r) (fun _ => sgB (KT P) D vwCl base tys ad ks) (fun q : Nat => base ≤ q)) #[.ref a0, .ref a1, .int x2] s 0 0 (fun q : Nat => base ≤ q)) (F0 m 39 ls []) := by
        intro H locs ls hG hS hl
        refine lv_iconst (v := 0) X.1 X.2.1 dX6_readUnit_39 (by decide +kernel) ?_
        exact sg_zret X hr (sg_zn (iv_of (iv_c 0 (a := 0) (b := 0) (by decide +kernel)) (a' := 0) (b' := 1) (by decide +kernel))) hlk hb hK hC hG hS (iv_of (iv_c 0 (a := 0) (b := 0) (by decide +kernel)) (a' := 0) (b' := 1) (by decide +kernel)) dX6_readUnit_40
      refine lv_if_eq (tgt := 39) X.1 X.2.1 dX6_readUnit_23 (by decide) (fun c19 => ?_) (fun c19 => ?_)
      · exact B20_39 H _ _ hG hS (lv_sub hl [] rfl)
      · refine lv_aload_n X.1 X.2.1 dX6_readUnit_26 rfl (lv_at hl 1 rfl) ?_
        refine lv_aload_n X.1 X.2.1 dX6_readUnit_27 rfl (lv_at hl 2 rfl) ?_
        refine lv_iload_n X.1 X.2.1 dX6_readUnit_28 rfl (lv_at hl 3 rfl) ?_
        refine ca_X6_readComparison_3 X hK hG hC hS hb a0 h0 a1 h1 x2 h2 wl_4_1 hl.1 (rest := []) rfl (Nat.le_of_ble_eq_true rfl) ⟨Nat.le_of_ble_eq_true rfl, Nat.le_of_ble_eq_true rfl⟩ ⟨Nat.le_of_ble_eq_true rfl, Nat.le_of_ble_eq_true rfl⟩ dX6_readUnit_29 (fun f21 H locs hf21 hG hS => ?_)
        refine lv_if_eq (tgt := 39) X.1 X.2.1 dX6_readUnit_32 (by decide) (fun c22 => ?_) (fun c22 => ?_)
        · exact B20_39 H _ _ hG hS (lv_sub hl [] rfl)
        · refine lv_iconst (v := 1) X.1 X.2.1 dX6_readUnit_35 (by decide +kernel) ?_
          refine lv_goto (tgt := 40) X.1 X.2.1 dX6_readUnit_36 (by decide) ?_
          exact sg_zret X hr (sg_zn (iv_of (iv_c 1 (a := 1) (b := 1) (by decide +kernel)) (a' := 0) (b' := 1) (by decide +kernel))) hlk hb hK hC hG hS (iv_of (iv_c 1 (a := 1) (b := 1) (by decide +kernel)) (a' := 0) (b' := 1) (by decide +kernel)) dX6_readUnit_40

theorem ca_X6_readUnit_3   (X : CallFix p m c cc nL s args sg_tbl own) (hK : va_K D vwCl tys s) (hG : sgG (KT P) D vwCl (fun q : Nat => base ≤ q) tys ad ks H) (hC : sgC base s) (hS : va_S (fun q : Nat => base ≤ q) s.heap H locs) (hb : base ≤ s.heap.size) (a0 : Nat) (h0 : isK ad ks 6 a0) (a1 : Nat) (h1 : isK ad ks 10 a1) (x2 : Int32) (h2 : iv 3 3 x2) (hl : Cond.methodLink own index yX6_readUnit ∈ sg_tbl) (hsize : ls.size = nL) (hst : st0 = [.ref a1, .int x2].reverse ++ .ref a0 :: rest) (hW : (rest.map fun v => v.category).sum ≤ 8) (hR : 14 ≤ R.frames ∧ 341 ≤ R.locals) (hf : cells ≤ R.cells ∧ slots ≤ R.slots) (hdg : decode cc pc = .ok (.invokevirtual index, 3)) (kk : ∀ (r : Int32) (H1 : Heap) (locs1 : List Loc), (fun r : Int32 => iv 0 1 r) r → sgG (KT P) D vwCl (fun q : Nat => base ≤ q) tys ad ks H1 → va_S (fun q : Nat => base ≤ q) s.heap H1 locs1 → W p l e R s m args below meth c H1 locs1 cells slots Q (F0 m (pc + 3) ls (.int r :: rest))) : W p l e R s m args below meth c H locs cells slots Q (F0 m pc ls st0) :=
  sg_callVi X hK hG hC hS hb (m_X6_readUnit_3 l a0 h0 a1 h1 x2 h2) h0 (k := 6) (ci := 6) rfl (C := RX6) (T := TX6) (N := 7) rfl wl_4_12 wl_1_3 wl_4_11 wl_0_16 (n := 2) (by decide +kernel) rfl rfl rfl hl hsize hst hW hR hf hdg kk

set_option maxHeartbeats 8000000 in
set_option maxRecDepth 100000 in
theorem m_X6_readCondition_3 (l : Launch) {D : va_G} {base : Nat} {tys : List (ClassId × FieldType)} {ad ks : List Nat} {P : sgPm} (a0 : Nat) (h0 : isK ad ks 6 a0) (a1 : Nat) (h1 : isK ad ks 10 a1) (x2 : Int32) (h2 : iv 3 3 x2) (x3 : Int32) (h3 : iv 0 1 x3) : sgMi l (KT P) D vwCl base tys ad ks yX6_readCondition cX6_readCondition 7 (some .boolean) ({ frames := 14, cells := 0, slots := 0, locals := 341 }) [.ref a0, .ref a1, .int x2, .int x3] (fun r : Int32 => iv 0 1 r) := by
  refine sg_ofW (by decide +kernel) (Nat.le_of_ble_eq_true rfl) (fun p e s m below meth c X hr hlk hb hK hC hG ls hl => ?_)
  have hS : va_S (fun q : Nat => base ≤ q) s.heap s.heap [] := va_S.rf
  have hl : lv_has ls 7 [(0, .ref a0), (1, .ref a1), (2, .int x2), (3, .int x3)] := hl
  refine lv_iload_n X.1 X.2.1 dX6_readCondition_0 rfl (lv_at hl 3 rfl) ?_
  have B2_15 : ∀ (H : Heap) (locs : List Loc) (ls : Array Slot), sgG (KT P) D vwCl (fun q : Nat => base ≤ q) tys ad ks H → va_S (fun q : Nat => base ≤ q) s.heap H locs → lv_has ls 7 [(0, .ref a0), (1, .ref a1), (2, .int x2)] → W p l e (headSpec (Cond.code yX6_readCondition cX6_readCondition 7 (some .boolean) :: sg_tbl) ({ frames := 14, cells := 0, slots := 0, locals := 341 })).room s m #[.ref a0, .ref a1, .int x2, .int x3] below meth c H locs 0 0 (MQ below (va_Qi (fun r (_ : Unit) => (fun r : Int32 => iv 0 1 r) r) (fun _ => sgB (KT P) D vwCl base tys ad ks) (fun q : Nat => base ≤ q)) #[.ref a0, .ref a1, .int x2, .int x3] s 0 0 (fun q : Nat => base ≤ q)) (F0 m 15 ls []) := by
    intro H locs ls hG hS hl
    refine lv_iconst (v := 0) X.1 X.2.1 dX6_readCondition_15 (by decide +kernel) ?_
    refine lv_istore (lv' := [(4, .int 0), (0, .ref a0), (1, .ref a1), (2, .int x2)]) X.1 X.2.1 dX6_readCondition_16 hl (by decide) rfl (fun ls hl => ?_)
    refine lv_iconst (v := 0) X.1 X.2.1 dX6_readCondition_18 (by decide +kernel) ?_
    refine lv_istore (lv' := [(5, .int 0), (4, .int 0), (0, .ref a0), (1, .ref a1), (2, .int x2)]) X.1 X.2.1 dX6_readCondition_19 hl (by decide) rfl (fun ls hl => ?_)
    have B3_21 : ∀ (N : Nat) (H : Heap) (locs : List Loc) (ls : Array Slot) (z3_4 : Int32) (z3_5 : Int32), sgG (KT P) D vwCl (fun q : Nat => base ≤ q) tys ad ks H → va_S (fun q : Nat => base ≤ q) s.heap H locs → lv_has ls 7 [(0, .ref a0), (1, .ref a1), (2, .int x2), (4, .int z3_4), (5, .int z3_5)] → iv 0 1 z3_4 → iv 0 240 z3_5 → (241 - z3_5.toInt).toNat ≤ N → W p l e (headSpec (Cond.code yX6_readCondition cX6_readCondition 7 (some .boolean) :: sg_tbl) ({ frames := 14, cells := 0, slots := 0, locals := 341 })).room s m #[.ref a0, .ref a1, .int x2, .int x3] below meth c H locs 0 0 (MQ below (va_Qi (fun r (_ : Unit) => (fun r : Int32 => iv 0 1 r) r) (fun _ => sgB (KT P) D vwCl base tys ad ks) (fun q : Nat => base ≤ q)) #[.ref a0, .ref a1, .int x2, .int x3] s 0 0 (fun q : Nat => base ≤ q)) (F0 m 21 ls []) := by
      intro N; induction N with
      | zero =>
        intro H locs ls z3_4 z3_5 hG hS hl hz3_4 hz3_5 hN
        exact absurd hN (by have := iv_up hz3_5; omega)
      | succ N ih3 =>
        intro H locs ls z3_4 z3_5 hG hS hl hz3_4 hz3_5 hN3
        refine lv_iload X.1 X.2.1 dX6_readCondition_21 (lv_at hl 4 rfl) ?_
        refine lv_sipush (v := 240) X.1 X.2.1 dX6_readCondition_23 (by decide +kernel) ?_
        refine lv_icmp_ge (tgt := 109) X.1 X.2.1 dX6_readCondition_26 (by decide) (fun c4 => ?_) (fun c4 => ?_)
        · refine lv_aload_n X.1 X.2.1 dX6_readCondition_109 rfl (lv_at hl 1 rfl) ?_
          refine ca_X10_wrong X hK hG hC hS hb a1 h1 wl_3_228 hl.1 (rest := []) rfl (Nat.le_of_ble_eq_true rfl) ⟨Nat.le_of_ble_eq_true rfl, Nat.le_of_ble_eq_true rfl⟩ ⟨Nat.le_of_ble_eq_true rfl, Nat.le_of_ble_eq_true rfl⟩ dX6_readCondition_110 (fun f5 H locs hf5 hG hS => ?_)
          exact sg_zret X hr (sg_zn hf5) hlk hb hK hC hG hS hf5 dX6_readCondition_113
        · refine lv_aload_n X.1 X.2.1 dX6_readCondition_29 rfl (lv_at hl 1 rfl) ?_
          refine ca_X10_sign X hK hG hC (fun _ h => h) hS hb a1 h1 wl_3_219 hl.1 (rest := []) rfl (Nat.le_of_ble_eq_true rfl) ⟨Nat.le_of_ble_eq_true rfl, Nat.le_of_ble_eq_true rfl⟩ ⟨Nat.le_of_ble_eq_true rfl, Nat.le_of_ble_eq_true rfl⟩ dX6_readCondition_30 (fun f6 locs hf6 hS => ?_)
          refine lv_istore (lv' := [(6, .int f6), (0, .ref a0), (1, .ref a1), (2, .int x2), (4, .int z3_4), (5, .int z3_5)]) X.1 X.2.1 dX6_readCondition_33 hl (by decide) rfl (fun ls hl => ?_)
          refine lv_iload X.1 X.2.1 dX6_readCondition_35 (lv_at hl 0 rfl) ?_
          refine lv_bipush (v := 38) X.1 X.2.1 dX6_readCondition_37 (by decide +kernel) ?_
          have B8_53 : ∀ (H : Heap) (locs : List Loc) (ls : Array Slot), sgG (KT P) D vwCl (fun q : Nat => base ≤ q) tys ad ks H → va_S (fun q : Nat => base ≤ q) s.heap H locs → lv_has ls 7 [(0, .ref a0), (1, .ref a1), (2, .int x2), (4, .int z3_4), (5, .int z3_5), (6, .int f6)] → W p l e (headSpec (Cond.code yX6_readCondition cX6_readCondition 7 (some .boolean) :: sg_tbl) ({ frames := 14, cells := 0, slots := 0, locals := 341 })).room s m #[.ref a0, .ref a1, .int x2, .int x3] below meth c H locs 0 0 (MQ below (va_Qi (fun r (_ : Unit) => (fun r : Int32 => iv 0 1 r) r) (fun _ => sgB (KT P) D vwCl base tys ad ks) (fun q : Nat => base ≤ q)) #[.ref a0, .ref a1, .int x2, .int x3] s 0 0 (fun q : Nat => base ≤ q)) (F0 m 53 ls []) := by
            intro H locs ls hG hS hl
            refine lv_iload X.1 X.2.1 dX6_readCondition_53 (lv_at hl 5 rfl) ?_
            refine lv_bipush (v := 38) X.1 X.2.1 dX6_readCondition_55 (by decide +kernel) ?_
            have B10_69 : ∀ (locs : List Loc) (ls : Array Slot), va_S (fun q : Nat => base ≤ q) s.heap H locs → lv_has ls 7 [(0, .ref a0), (1, .ref a1), (2, .int x2), (4, .int z3_4), (5, .int z3_5), (6, .int f6)] → W p l e (headSpec (Cond.code yX6_readCondition cX6_readCondition 7 (some .boolean) :: sg_tbl) ({ frames := 14, cells := 0, slots := 0, locals := 341 })).room s m #[.ref a0, .ref a1, .int x2, .int x3] below meth c H locs 0 0 (MQ below (va_Qi (fun r (_ : Unit) => (fun r : Int32 => iv 0 1 r) r) (fun _ => sgB (KT P) D vwCl base tys ad ks) (fun q : Nat => base ≤ q)) #[.ref a0, .ref a1, .int x2, .int x3] s 0 0 (fun q : Nat => base ≤ q)) (F0 m 69 ls []) := by
              intro locs ls hS hl
              refine lv_aload_n X.1 X.2.1 dX6_readCondition_69 rfl (lv_at hl 1 rfl) ?_
              refine ca_X10_step X hK hG hC hS hb a1 h1 wl_3_229 hl.1 (rest := []) rfl (Nat.le_of_ble_eq_true rfl) ⟨Nat.le_of_ble_eq_true rfl, Nat.le_of_ble_eq_true rfl⟩ ⟨Nat.le_of_ble_eq_true rfl, Nat.le_of_ble_eq_true rfl⟩ dX6_readCondition_70 (fun H locs hG hS => ?_)
              refine lv_aload_n X.1 X.2.1 dX6_readCondition_73 rfl (lv_at hl 0 rfl) ?_
              refine lv_aload_n X.1 X.2.1 dX6_readCondition_74 rfl (lv_at hl 1 rfl) ?_
              refine lv_iload_n X.1 X.2.1 dX6_readCondition_75 rfl (lv_at hl 2 rfl) ?_
              refine ca_X6_readUnit_3 X hK hG hC hS hb a0 h0 a1 h1 x2 h2 wl_4_9 hl.1 (rest := []) rfl (Nat.le_of_ble_eq_true rfl) ⟨Nat.le_of_ble_eq_true rfl, Nat.le_of_ble_eq_true rfl⟩ ⟨Nat.le_of_ble_eq_true rfl, Nat.le_of_ble_eq_true rfl⟩ dX6_readCondition_76 (fun f12 H locs hf12 hG hS => ?_)
              refine lv_if_ne (tgt := 84) X.1 X.2.1 dX6_readCondition_79 (by decide) (fun c13 => ?_) (fun c13 => ?_)
              · refine lv_iload X.1 X.2.1 dX6_readCondition_84 (lv_at hl 5 rfl) ?_
                refine lv_bipush (v := 38) X.1 X.2.1 dX6_readCondition_86 (by decide +kernel) ?_
                have B15_103 : ∀ (H : Heap) (locs : List Loc) (ls : Array Slot) (z15_4 : Int32), sgG (KT P) D vwCl (fun q : Nat => base ≤ q) tys ad ks H → va_S (fun q : Nat => base ≤ q) s.heap H locs → lv_has ls 7 [(0, .ref a0), (1, .ref a1), (2, .int x2), (4, .int z15_4), (5, .int z3_5)] → iv 0 1 z15_4 → W p l e (headSpec (Cond.code yX6_readCondition cX6_readCondition 7 (some .boolean) :: sg_tbl) ({ frames := 14, cells := 0, slots := 0, locals := 341 })).room s m #[.ref a0, .ref a1, .int x2, .int x3] below meth c H locs 0 0 (MQ below (va_Qi (fun r (_ : Unit) => (fun r : Int32 => iv 0 1 r) r) (fun _ => sgB (KT P) D vwCl base tys ad ks) (fun q : Nat => base ≤ q)) #[.ref a0, .ref a1, .int x2, .int x3] s 0 0 (fun q : Nat => base ≤ q)) (F0 m 103 ls []) := by
                  intro H locs ls z15_4 hG hS hl hz15_4
                  obtain ⟨y16, ey16⟩ : ∃ y : Int32, y = z3_5 + Int32.ofInt 1 := ⟨_, rfl⟩
                  refine lv_iinc (v := y16) (lv' := [(5, .int y16), (0, .ref a0), (1, .ref a1), (2, .int x2), (4, .int z15_4)]) X.1 X.2.1 dX6_readCondition_103 hl (k := 4) rfl ey16.symm (by decide) rfl (fun ls hl => ?_)
                  refine lv_goto (tgt := 21) X.1 X.2.1 dX6_readCondition_106 (by decide) ?_
                  exact ih3 H _ _ z15_4 y16 hG hS (lv_sub hl [1, 2, 3, 4, 0] rfl) hz15_4 (iv_of (iv_add (a' := 1) (b' := 240) ey16 (iv_lt (b' := 239) (iv_gt_of c4) hz3_5 (iv_c 240 (a := 240) (b := 240) (by decide +kernel)) (by decide +kernel)) (iv_c _ (a := 1) (b := 1) (by decide +kernel)) (by decide +kernel)) (a' := 0) (b' := 240) (by decide +kernel)) (iv_stepU ey16 (iv_lt (b' := 239) (iv_gt_of c4) hz3_5 (iv_c 240 (a := 240) (b := 240) (by decide +kernel)) (by decide +kernel)) (by decide +kernel) hN3)
                refine lv_icmp_ne (tgt := 100) X.1 X.2.1 dX6_readCondition_88 (by decide) (fun c14 => ?_) (fun c14 => ?_)
                · refine lv_iconst (v := 1) X.1 X.2.1 dX6_readCondition_100 (by decide +kernel) ?_
                  refine lv_istore (lv' := [(4, .int 1), (0, .ref a0), (1, .ref a1), (2, .int x2), (5, .int z3_5), (6, .int f6)]) X.1 X.2.1 dX6_readCondition_101 hl (by decide) rfl (fun ls hl => ?_)
                  exact B15_103 H _ _ 1 hG hS (lv_sub hl [1, 2, 3, 0, 4] rfl) (iv_of (iv_c 1 (a := 1) (b := 1) (by decide +kernel)) (a' := 0) (b' := 1) (by decide +kernel))
                · refine lv_aload_n X.1 X.2.1 dX6_readCondition_91 rfl (lv_at hl 0 rfl) ?_
                  refine lv_bipush (v := (-17)) X.1 X.2.1 dX6_readCondition_92 (by decide +kernel) ?_
                  refine ca_X6_put X hK hG hC hS hb a0 h0 (-17) wl_3_232 hl.1 (rest := []) rfl (Nat.le_of_ble_eq_true rfl) ⟨Nat.le_of_ble_eq_true rfl, Nat.le_of_ble_eq_true rfl⟩ ⟨Nat.le_of_ble_eq_true rfl, Nat.le_of_ble_eq_true rfl⟩ dX6_readCondition_94 (fun H locs hG hS => ?_)
                  refine lv_goto (tgt := 103) X.1 X.2.1 dX6_readCondition_97 (by decide) ?_
                  exact B15_103 H _ _ z3_4 hG hS (lv_sub hl [0, 1, 2, 3, 4] rfl) hz3_4
              · refine lv_iconst (v := 0) X.1 X.2.1 dX6_readCondition_82 (by decide +kernel) ?_
                exact sg_zret X hr (sg_zn (iv_of (iv_c 0 (a := 0) (b := 0) (by decide +kernel)) (a' := 0) (b' := 1) (by decide +kernel))) hlk hb hK hC hG hS (iv_of (iv_c 0 (a := 0) (b := 0) (by decide +kernel)) (a' := 0) (b' := 1) (by decide +kernel)) dX6_readCondition_83
            refine lv_icmp_eq (tgt := 69) X.1 X.2.1 dX6_readCondition_57 (by decide) (fun c9 => ?_) (fun c9 => ?_)
            · exact B10_69 _ _ hS (lv_sub hl [0, 1, 2, 3, 4, 5] rfl)
            · refine lv_iload X.1 X.2.1 dX6_readCondition_60 (lv_at hl 5 rfl) ?_
              refine lv_bipush (v := 124) X.1 X.2.1 dX6_readCondition_62 (by decide +kernel) ?_
              refine lv_icmp_eq (tgt := 69) X.1 X.2.1 dX6_readCondition_64 (by decide) (fun c18 => ?_) (fun c18 => ?_)
              · exact B10_69 _ _ hS (lv_sub hl [0, 1, 2, 3, 4, 5] rfl)
              · refine lv_iconst (v := 1) X.1 X.2.1 dX6_readCondition_67 (by decide +kernel) ?_
                exact sg_zret X hr (sg_zn (iv_of (iv_c 1 (a := 1) (b := 1) (by decide +kernel)) (a' := 0) (b' := 1) (by decide +kernel))) hlk hb hK hC hG hS (iv_of (iv_c 1 (a := 1) (b := 1) (by decide +kernel)) (a' := 0) (b' := 1) (by decide +kernel)) dX6_readCondition_68
          refine lv_icmp_eq (tgt := 53) X.1 X.2.1 dX6_readCondition_39 (by decide) (fun c7 => ?_) (fun c7 => ?_)
          · exact B8_53 H _ _ hG hS (lv_sub hl [1, 2, 3, 4, 5, 0] rfl)
          · refine lv_iload X.1 X.2.1 dX6_readCondition_42 (lv_at hl 4 rfl) ?_
            refine lv_if_eq (tgt := 53) X.1 X.2.1 dX6_readCondition_44 (by decide) (fun c19 => ?_) (fun c19 => ?_)
            · exact B8_53 H _ _ hG hS (lv_sub hl [1, 2, 3, 4, 5, 0] rfl)
            · refine lv_aload_n X.1 X.2.1 dX6_readCondition_47 rfl (lv_at hl 1 rfl) ?_
              refine lv_bipush (v := (-18)) X.1 X.2.1 dX6_readCondition_48 (by decide +kernel) ?_
              refine ca_X6_put X hK hG hC hS hb a0 h0 (-18) wl_3_232 hl.1 (rest := []) rfl (Nat.le_of_ble_eq_true rfl) ⟨Nat.le_of_ble_eq_true rfl, Nat.le_of_ble_eq_true rfl⟩ ⟨Nat.le_of_ble_eq_true rfl, Nat.le_of_ble_eq_true rfl⟩ dX6_readCondition_50 (fun H locs hG hS => ?_)
              exact B8_53 H _ _ hG hS (lv_sub hl [1, 2, 3, 4, 5, 0] rfl)
    exact B3_21 _ H _ _ 0 0 hG hS (lv_sub hl [2, 3, 4, 1, 0] rfl) (iv_of (iv_c 0 (a := 0) (b := 0) (by decide +kernel)) (a' := 0) (b' := 1) (by decide +kernel)) (iv_of (iv_c 0 (a := 0) (b := 0) (by decide +kernel)) (a' := 0) (b' := 240) (by decide +kernel)) (Nat.le_refl _)
  refine lv_if_ne (tgt := 15) X.1 X.2.1 dX6_readCondition_1 (by decide) (fun c1 => ?_) (fun c1 => ?_)
  · exact B2_15 s.heap _ _ hG hS (lv_sub hl [0, 1, 2] rfl)
  · refine lv_aload_n X.1 X.2.1 dX6_readCondition_4 rfl (lv_at hl 0 rfl) ?_
    refine lv_aload_n X.1 X.2.1 dX6_readCondition_5 rfl (lv_at hl 1 rfl) ?_
    refine lv_iload_n X.1 X.2.1 dX6_readCondition_6 rfl (lv_at hl 2 rfl) ?_
    refine ca_X6_readUnit_3 X hK hG hC hS hb a0 h0 a1 h1 x2 h2 wl_4_9 hl.1 (rest := []) rfl (Nat.le_of_ble_eq_true rfl) ⟨Nat.le_of_ble_eq_true rfl, Nat.le_of_ble_eq_true rfl⟩ ⟨Nat.le_of_ble_eq_true rfl, Nat.le_of_ble_eq_true rfl⟩ dX6_readCondition_7 (fun f21 H locs hf21 hG hS => ?_)
    refine lv_if_ne (tgt := 15) X.1 X.2.1 dX6_readCondition_10 (by decide) (fun c22 => ?_) (fun c22 => ?_)
    · exact B2_15 H _ _ hG hS (lv_sub hl [0, 1, 2] rfl)
    · refine lv_iconst (v := 0) X.1 X.2.1 dX6_readCondition_13 (by decide +kernel) ?_
      exact sg_zret X hr (sg_zn (iv_of (iv_c 0 (a := 0) (b := 0) (by decide +kernel)) (a' := 0) (b' := 1) (by decide +kernel))) hlk hb hK hC hG hS (iv_of (iv_c 0 (a := 0) (b := 0) (by decide +kernel)) (a' := 0) (b' := 1) (by decide +kernel)) dX6_readCondition_14

theorem ca_X6_readCondition_3   (X : CallFix p m c cc nL s args sg_tbl own) (hK : va_K D vwCl tys s) (hG : sgG (KT P) D vwCl (fun q : Nat => base ≤ q) tys ad ks H) (hC : sgC base s) (hS : va_S (fun q : Nat => base ≤ q) s.heap H locs) (hb : base ≤ s.heap.size) (a0 : Nat) (h0 : isK ad ks 6 a0) (a1 : Nat) (h1 : isK ad ks 10 a1) (x2 : Int32) (h2 : iv 3 3 x2) (x3 : Int32) (h3 : iv 0 1 x3) (hl : Cond.methodLink own index yX6_readCondition ∈ sg_tbl) (hsize : ls.size = nL) (hst : st0 = [.ref a1, .int x2, .int x3].reverse ++ .ref a0 :: rest) (hW : (rest.map fun v => v.category).sum ≤ 8) (hR : 15 ≤ R.frames ∧ 367 ≤ R.locals) (hf : cells ≤ R.cells ∧ slots ≤ R.slots) (hdg : decode cc pc = .ok (.invokevirtual index, 3)) (kk : ∀ (r : Int32) (H1 : Heap) (locs1 : List Loc), (fun r : Int32 => iv 0 1 r) r → sgG (KT P) D vwCl (fun q : Nat => base ≤ q) tys ad ks H1 → va_S (fun q : Nat => base ≤ q) s.heap H1 locs1 → W p l e R s m args below meth c H1 locs1 cells slots Q (F0 m (pc + 3) ls (.int r :: rest))) : W p l e R s m args below meth c H locs cells slots Q (F0 m pc ls st0) :=
  sg_callVi X hK hG hC hS hb (m_X6_readCondition_3 l a0 h0 a1 h1 x2 h2 x3 h3) h0 (k := 6) (ci := 6) rfl (C := RX6) (T := TX6) (N := 7) rfl wl_4_8 wl_1_3 wl_4_7 wl_0_15 (n := 3) (by decide +kernel) rfl rfl rfl hl hsize hst hW hR hf hdg kk

set_option maxHeartbeats 8000000 in
set_option maxRecDepth 100000 in
theorem m_X6_readAtom_2 (l : Launch) {D : va_G} {base : Nat} {tys : List (ClassId × FieldType)} {ad ks : List Nat} {P : sgPm} (a0 : Nat) (h0 : isK ad ks 6 a0) (a1 : Nat) (h1 : isK ad ks 10 a1) (x2 : Int32) (h2 : iv 2 2 x2) : sgMi l (KT P) D vwCl base tys ad ks yX6_readAtom cX6_readAtom 6 (some .boolean) ({ frames := 12, cells := 0, slots := 0, locals := 295 }) [.ref a0, .ref a1, .int x2] (fun r : Int32 => iv 0 1 r) := by
  refine sg_ofW (by decide +kernel) (Nat.le_of_ble_eq_true rfl) (fun p e s m below meth c X hr hlk hb hK hC hG ls hl => ?_)
  have hS : va_S (fun q : Nat => base ≤ q) s.heap s.heap [] := va_S.rf
  have hl : lv_has ls 6 [(0, .ref a0), (1, .ref a1), (2, .int x2)] := hl
  refine lv_aload_n X.1 X.2.1 dX6_readAtom_0 rfl (lv_at hl 1 rfl) ?_
  refine ca_X10_sign X hK hG hC (fun _ h => h) hS hb a1 h1 wl_3_219 hl.1 (rest := []) rfl (Nat.le_of_ble_eq_true rfl) ⟨Nat.le_of_ble_eq_true rfl, Nat.le_of_ble_eq_true rfl⟩ ⟨Nat.le_of_ble_eq_true rfl, Nat.le_of_ble_eq_true rfl⟩ dX6_readAtom_1 (fun f1 locs hf1 hS => ?_)
  refine lv_istore_n (lv' := [(3, .int f1), (0, .ref a0), (1, .ref a1), (2, .int x2)]) X.1 X.2.1 dX6_readAtom_4 rfl hl (by decide) rfl (fun ls hl => ?_)
  refine lv_iload_n X.1 X.2.1 dX6_readAtom_5 rfl (lv_at hl 0 rfl) ?_
  refine lv_bipush (v := 91) X.1 X.2.1 dX6_readAtom_6 (by decide +kernel) ?_
  refine lv_icmp_ne (tgt := 59) X.1 X.2.1 dX6_readAtom_8 (by decide) (fun c2 => ?_) (fun c2 => ?_)
  · obtain ⟨t3, vt3, pt3, rt3⟩ := hC.1.2.1
    refine va_ldcS X.1 X.2.1 X.2.2.2.1 rt3 dX6_readAtom_59 ?_
    refine lv_iload_n X.1 X.2.1 dX6_readAtom_61 rfl (lv_at hl 0 rfl) ?_
    obtain ⟨f4, ef4⟩ : ∃ y : Int32, y = ((f1 : Int32).toUInt32 % 65536).toInt32 := ⟨_, rfl⟩
    refine lv_i2c (v := f4) X.1 X.2.1 dX6_readAtom_62 ef4.symm ?_
    refine ca_J0_indexOf_0f7a4_6 X hK hG hC (fun _ h => h) hS hb pt3 f4 wl_3_231 hl.1 (rest := []) rfl (Nat.le_of_ble_eq_true rfl) ⟨Nat.le_of_ble_eq_true rfl, Nat.le_of_ble_eq_true rfl⟩ ⟨Nat.le_of_ble_eq_true rfl, Nat.le_of_ble_eq_true rfl⟩ dX6_readAtom_63 (fun f5 locs hf5 hS => ?_)
    refine lv_istore (lv' := [(4, .int f5), (3, .int f1), (0, .ref a0), (1, .ref a1), (2, .int x2)]) X.1 X.2.1 dX6_readAtom_66 hl (by decide) rfl (fun ls hl => ?_)
    refine lv_iload X.1 X.2.1 dX6_readAtom_68 (lv_at hl 0 rfl) ?_
    refine lv_if_lt (tgt := 107) X.1 X.2.1 dX6_readAtom_70 (by decide) (fun c6 => ?_) (fun c6 => ?_)
    · refine lv_aload_n X.1 X.2.1 dX6_readAtom_107 rfl (lv_at hl 3 rfl) ?_
      refine lv_iconst (v := 4) X.1 X.2.1 dX6_readAtom_108 (by decide +kernel) ?_
      refine lv_iconst (v := 0) X.1 X.2.1 dX6_readAtom_109 (by decide +kernel) ?_
      refine lv_sipush (v := 9999) X.1 X.2.1 dX6_readAtom_110 (by decide +kernel) ?_
      refine ca_X10_number X hK hG hC hS hb a1 h1 4 0 9999 wl_3_236 hl.1 (rest := []) rfl (Nat.le_of_ble_eq_true rfl) ⟨Nat.le_of_ble_eq_true rfl, Nat.le_of_ble_eq_true rfl⟩ ⟨Nat.le_of_ble_eq_true rfl, Nat.le_of_ble_eq_true rfl⟩ dX6_readAtom_113 (fun f7 H locs hf7 hG hS => ?_)
      refine lv_istore (lv' := [(5, .int f7), (4, .int f5), (3, .int f1), (0, .ref a0), (1, .ref a1), (2, .int x2)]) X.1 X.2.1 dX6_readAtom_116 hl (by decide) rfl (fun ls hl => ?_)
      refine lv_aload_n X.1 X.2.1 dX6_readAtom_118 rfl (lv_at hl 3 rfl) ?_
      refine lv_iload X.1 X.2.1 dX6_readAtom_119 (lv_at hl 0 rfl) ?_
      refine lv_iconst (v := 0) X.1 X.2.1 dX6_readAtom_121 (by decide +kernel) ?_
      refine va_mmax X.1 X.2.1 (X.2.2.1.trans hl.1.symm) X.2.2.2.1 (X.2.2.2.2 _ wl_3_237) (X.2.2.2.2 _ wl_3_100) (X.2.2.2.2 _ wl_1_15) (X.2.2.2.2 _ wl_3_101) (Nat.le_of_ble_eq_true rfl) (Nat.le_of_ble_eq_true rfl) (Nat.le_of_ble_eq_true rfl) (Nat.le_of_ble_eq_true rfl) dX6_readAtom_122 ?_
      refine lv_topi (fun f8 ef8 => ?_)
      refine ca_X6_put X hK hG hC hS hb a0 h0 f8 wl_3_232 hl.1 (rest := []) rfl (Nat.le_of_ble_eq_true rfl) ⟨Nat.le_of_ble_eq_true rfl, Nat.le_of_ble_eq_true rfl⟩ ⟨Nat.le_of_ble_eq_true rfl, Nat.le_of_ble_eq_true rfl⟩ dX6_readAtom_125 (fun H locs hG hS => ?_)
      refine lv_iload X.1 X.2.1 dX6_readAtom_128 (lv_at hl 0 rfl) ?_
      refine lv_iconst (v := (-1)) X.1 X.2.1 dX6_readAtom_130 (by decide +kernel) ?_
      refine lv_icmp_eq (tgt := 138) X.1 X.2.1 dX6_readAtom_131 (by decide) (fun c10 => ?_) (fun c10 => ?_)
      · refine lv_iconst (v := 0) X.1 X.2.1 dX6_readAtom_138 (by decide +kernel) ?_
        exact sg_zret X hr (sg_zn (iv_of (iv_c 0 (a := 0) (b := 0) (by decide +kernel)) (a' := 0) (b' := 1) (by decide +kernel))) hlk hb hK hC hG hS (iv_of (iv_c 0 (a := 0) (b := 0) (by decide +kernel)) (a' := 0) (b' := 1) (by decide +kernel)) dX6_readAtom_139
      · refine lv_iconst (v := 1) X.1 X.2.1 dX6_readAtom_134 (by decide +kernel) ?_
        refine lv_goto (tgt := 139) X.1 X.2.1 dX6_readAtom_135 (by decide) ?_
        exact sg_zret X hr (sg_zn (iv_of (iv_c 1 (a := 1) (b := 1) (by decide +kernel)) (a' := 0) (b' := 1) (by decide +kernel))) hlk hb hK hC hG hS (iv_of (iv_c 1 (a := 1) (b := 1) (by decide +kernel)) (a' := 0) (b' := 1) (by decide +kernel)) dX6_readAtom_139
    · refine lv_aload_n X.1 X.2.1 dX6_readAtom_73 rfl (lv_at hl 2 rfl) ?_
      refine lv_dup X.1 X.2.1 dX6_readAtom_74 rfl ?_
      refine gf_X6_6 X hK hG h0 wl_1_72 dX6_readAtom_75 (fun f11 hf11 kf11 => ?_)
      refine lv_iload X.1 X.2.1 dX6_readAtom_78 (lv_at hl 0 rfl) ?_
      refine lv_iconst (v := 4) X.1 X.2.1 dX6_readAtom_80 (by decide +kernel) ?_
      have B13_89 : ∀ (locs : List Loc) (ls : Array Slot) (w13_0 : Int32), va_S (fun q : Nat => base ≤ q) s.heap s.heap locs → lv_has ls 6 [(0, .ref a0), (1, .ref a1), (4, .int f5)] → iv 0 1 w13_0 → W p l e (headSpec (Cond.code yX6_readAtom cX6_readAtom 6 (some .boolean) :: sg_tbl) ({ frames := 12, cells := 0, slots := 0, locals := 295 })).room s m #[.ref a0, .ref a1, .int x2] below meth c s.heap locs 0 0 (MQ below (va_Qi (fun r (_ : Unit) => (fun r : Int32 => iv 0 1 r) r) (fun _ => sgB (KT P) D vwCl base tys ad ks) (fun q : Nat => base ≤ q)) #[.ref a0, .ref a1, .int x2] s 0 0 (fun q : Nat => base ≤ q)) (F0 m 89 ls [.int w13_0, .int f11, .ref a0]) := by
        intro locs ls w13_0 hS hl hw13_0
        refine lv_ior X.1 X.2.1 dX6_readAtom_89 ?_
        refine lv_topi (fun f14 ef14 => ?_)
        refine pf_X6_6 X hK hG hS h0 wl_1_72 ⟨_, rfl, (iv_of (iv_or 1 ef14 hf11 hw13_0 (by decide +kernel)) (a' := 0) (b' := 1) (by decide +kernel))⟩ dX6_readAtom_90 (fun H locs hG hS ku15 ru15 => ?_)
        refine lv_aload_n X.1 X.2.1 dX6_readAtom_93 rfl (lv_at hl 0 rfl) ?_
        refine lv_iconst (v := (-1)) X.1 X.2.1 dX6_readAtom_94 (by decide +kernel) ?_
        refine lv_iload X.1 X.2.1 dX6_readAtom_95 (lv_at hl 2 rfl) ?_
        refine lv_isub X.1 X.2.1 dX6_readAtom_97 ?_
        refine lv_topi (fun f16 ef16 => ?_)
        refine ca_X6_put X hK hG hC hS hb a0 h0 f16 wl_3_232 hl.1 (rest := []) rfl (Nat.le_of_ble_eq_true rfl) ⟨Nat.le_of_ble_eq_true rfl, Nat.le_of_ble_eq_true rfl⟩ ⟨Nat.le_of_ble_eq_true rfl, Nat.le_of_ble_eq_true rfl⟩ dX6_readAtom_98 (fun H locs hG hS => ?_)
        refine lv_aload_n X.1 X.2.1 dX6_readAtom_101 rfl (lv_at hl 1 rfl) ?_
        refine ca_X10_step X hK hG hC hS hb a1 h1 wl_3_229 hl.1 (rest := []) rfl (Nat.le_of_ble_eq_true rfl) ⟨Nat.le_of_ble_eq_true rfl, Nat.le_of_ble_eq_true rfl⟩ ⟨Nat.le_of_ble_eq_true rfl, Nat.le_of_ble_eq_true rfl⟩ dX6_readAtom_102 (fun H locs hG hS => ?_)
        refine lv_iconst (v := 1) X.1 X.2.1 dX6_readAtom_105 (by decide +kernel) ?_
        exact sg_zret X hr (sg_zn (iv_of (iv_c 1 (a := 1) (b := 1) (by decide +kernel)) (a' := 0) (b' := 1) (by decide +kernel))) hlk hb hK hC hG hS (iv_of (iv_c 1 (a := 1) (b := 1) (by decide +kernel)) (a' := 0) (b' := 1) (by decide +kernel)) dX6_readAtom_106
      refine lv_icmp_ne (tgt := 88) X.1 X.2.1 dX6_readAtom_81 (by decide) (fun c12 => ?_) (fun c12 => ?_)
      · refine lv_iconst (v := 0) X.1 X.2.1 dX6_readAtom_88 (by decide +kernel) ?_
        exact B13_89 _ _ 0 hS (lv_sub hl [2, 3, 0] rfl) (iv_of (iv_c 0 (a := 0) (b := 0) (by decide +kernel)) (a' := 0) (b' := 1) (by decide +kernel))
      · refine lv_iconst (v := 1) X.1 X.2.1 dX6_readAtom_84 (by decide +kernel) ?_
        refine lv_goto (tgt := 89) X.1 X.2.1 dX6_readAtom_85 (by decide) ?_
        exact B13_89 _ _ 1 hS (lv_sub hl [2, 3, 0] rfl) (iv_of (iv_c 1 (a := 1) (b := 1) (by decide +kernel)) (a' := 0) (b' := 1) (by decide +kernel))
  · refine lv_iload_n X.1 X.2.1 dX6_readAtom_11 rfl (lv_at hl 3 rfl) ?_
    refine lv_bipush (v := 6) X.1 X.2.1 dX6_readAtom_12 (by decide +kernel) ?_
    refine lv_icmp_lt (tgt := 22) X.1 X.2.1 dX6_readAtom_14 (by decide) (fun c19 => ?_) (fun c19 => ?_)
    · refine lv_aload_n X.1 X.2.1 dX6_readAtom_22 rfl (lv_at hl 2 rfl) ?_
      refine ca_X10_step X hK hG hC hS hb a1 h1 wl_3_229 hl.1 (rest := []) rfl (Nat.le_of_ble_eq_true rfl) ⟨Nat.le_of_ble_eq_true rfl, Nat.le_of_ble_eq_true rfl⟩ ⟨Nat.le_of_ble_eq_true rfl, Nat.le_of_ble_eq_true rfl⟩ dX6_readAtom_23 (fun H locs hG hS => ?_)
      refine lv_aload_n X.1 X.2.1 dX6_readAtom_26 rfl (lv_at hl 1 rfl) ?_
      refine lv_aload_n X.1 X.2.1 dX6_readAtom_27 rfl (lv_at hl 2 rfl) ?_
      refine lv_iload_n X.1 X.2.1 dX6_readAtom_28 rfl (lv_at hl 3 rfl) ?_
      refine lv_iconst (v := 1) X.1 X.2.1 dX6_readAtom_29 (by decide +kernel) ?_
      refine lv_iadd X.1 X.2.1 dX6_readAtom_30 ?_
      refine lv_topi (fun f21 ef21 => ?_)
      refine ca_X6_readSum_3 X hK hG hC hS hb a0 h0 a1 h1 f21 (iv_add (a' := 3) (b' := 3) ef21 h2 (iv_c 1 (a := 1) (b := 1) (by decide +kernel)) (by decide +kernel)) wl_3_220 hl.1 (rest := []) rfl (Nat.le_of_ble_eq_true rfl) ⟨Nat.le_of_ble_eq_true rfl, Nat.le_of_ble_eq_true rfl⟩ ⟨Nat.le_of_ble_eq_true rfl, Nat.le_of_ble_eq_true rfl⟩ dX6_readAtom_31 (fun f22 H locs hf22 hG hS => ?_)
      refine lv_if_ne (tgt := 39) X.1 X.2.1 dX6_readAtom_34 (by decide) (fun c23 => ?_) (fun c23 => ?_)
      · refine lv_aload_n X.1 X.2.1 dX6_readAtom_39 rfl (lv_at hl 2 rfl) ?_
        refine ca_X10_sign X hK hG hC (fun _ h => h) hS hb a1 h1 wl_3_219 hl.1 (rest := []) rfl (Nat.le_of_ble_eq_true rfl) ⟨Nat.le_of_ble_eq_true rfl, Nat.le_of_ble_eq_true rfl⟩ ⟨Nat.le_of_ble_eq_true rfl, Nat.le_of_ble_eq_true rfl⟩ dX6_readAtom_40 (fun f24 locs hf24 hS => ?_)
        refine lv_bipush (v := 93) X.1 X.2.1 dX6_readAtom_43 (by decide +kernel) ?_
        refine lv_icmp_eq (tgt := 53) X.1 X.2.1 dX6_readAtom_45 (by decide) (fun c25 => ?_) (fun c25 => ?_)
        · refine lv_aload_n X.1 X.2.1 dX6_readAtom_53 rfl (lv_at hl 2 rfl) ?_
          refine ca_X10_step X hK hG hC hS hb a1 h1 wl_3_229 hl.1 (rest := []) rfl (Nat.le_of_ble_eq_true rfl) ⟨Nat.le_of_ble_eq_true rfl, Nat.le_of_ble_eq_true rfl⟩ ⟨Nat.le_of_ble_eq_true rfl, Nat.le_of_ble_eq_true rfl⟩ dX6_readAtom_54 (fun H locs hG hS => ?_)
          refine lv_iconst (v := 1) X.1 X.2.1 dX6_readAtom_57 (by decide +kernel) ?_
          exact sg_zret X hr (sg_zn (iv_of (iv_c 1 (a := 1) (b := 1) (by decide +kernel)) (a' := 0) (b' := 1) (by decide +kernel))) hlk hb hK hC hG hS (iv_of (iv_c 1 (a := 1) (b := 1) (by decide +kernel)) (a' := 0) (b' := 1) (by decide +kernel)) dX6_readAtom_58
        · refine lv_aload_n X.1 X.2.1 dX6_readAtom_48 rfl (lv_at hl 2 rfl) ?_
          refine ca_X10_wrong X hK hG hC hS hb a1 h1 wl_3_228 hl.1 (rest := []) rfl (Nat.le_of_ble_eq_true rfl) ⟨Nat.le_of_ble_eq_true rfl, Nat.le_of_ble_eq_true rfl⟩ ⟨Nat.le_of_ble_eq_true rfl, Nat.le_of_ble_eq_true rfl⟩ dX6_readAtom_49 (fun f27 H locs hf27 hG hS => ?_)
          exact sg_zret X hr (sg_zn hf27) hlk hb hK hC hG hS hf27 dX6_readAtom_52
      · refine lv_iconst (v := 0) X.1 X.2.1 dX6_readAtom_37 (by decide +kernel) ?_
        exact sg_zret X hr (sg_zn (iv_of (iv_c 0 (a := 0) (b := 0) (by decide +kernel)) (a' := 0) (b' := 1) (by decide +kernel))) hlk hb hK hC hG hS (iv_of (iv_c 0 (a := 0) (b := 0) (by decide +kernel)) (a' := 0) (b' := 1) (by decide +kernel)) dX6_readAtom_38
    · exact ((iv_no (iv_le (b' := 2) (iv_ge_of c19) (iv_c 6 (a := 6) (b := 6) (by decide +kernel)) h2 (by decide +kernel)) (by decide +kernel))).elim

theorem ca_X6_readAtom_2   (X : CallFix p m c cc nL s args sg_tbl own) (hK : va_K D vwCl tys s) (hG : sgG (KT P) D vwCl (fun q : Nat => base ≤ q) tys ad ks H) (hC : sgC base s) (hS : va_S (fun q : Nat => base ≤ q) s.heap H locs) (hb : base ≤ s.heap.size) (a0 : Nat) (h0 : isK ad ks 6 a0) (a1 : Nat) (h1 : isK ad ks 10 a1) (x2 : Int32) (h2 : iv 2 2 x2) (hl : Cond.methodLink own index yX6_readAtom ∈ sg_tbl) (hsize : ls.size = nL) (hst : st0 = [.ref a1, .int x2].reverse ++ .ref a0 :: rest) (hW : (rest.map fun v => v.category).sum ≤ 8) (hR : 13 ≤ R.frames ∧ 320 ≤ R.locals) (hf : cells ≤ R.cells ∧ slots ≤ R.slots) (hdg : decode cc pc = .ok (.invokevirtual index, 3)) (kk : ∀ (r : Int32) (H1 : Heap) (locs1 : List Loc), (fun r : Int32 => iv 0 1 r) r → sgG (KT P) D vwCl (fun q : Nat => base ≤ q) tys ad ks H1 → va_S (fun q : Nat => base ≤ q) s.heap H1 locs1 → W p l e R s m args below meth c H1 locs1 cells slots Q (F0 m (pc + 3) ls (.int r :: rest))) : W p l e R s m args below meth c H locs cells slots Q (F0 m pc ls st0) :=
  sg_callVi X hK hG hC hS hb (m_X6_readAtom_2 l a0 h0 a1 h1 x2 h2) h0 (k := 6) (ci := 6) rfl (C := RX6) (T := TX6) (N := 7) rfl wl_3_227 wl_1_3 wl_3_226 wl_0_12 (n := 2) (by decide +kernel) rfl rfl rfl hl hsize hst hW hR hf hdg kk

set_option maxHeartbeats 8000000 in
set_option maxRecDepth 100000 in
theorem m_X6_readSum_2 (l : Launch) {D : va_G} {base : Nat} {tys : List (ClassId × FieldType)} {ad ks : List Nat} {P : sgPm} (a0 : Nat) (h0 : isK ad ks 6 a0) (a1 : Nat) (h1 : isK ad ks 10 a1) (x2 : Int32) (h2 : iv 2 2 x2) : sgMi l (KT P) D vwCl base tys ad ks yX6_readSum cX6_readSum 7 (some .boolean) ({ frames := 13, cells := 0, slots := 0, locals := 320 }) [.ref a0, .ref a1, .int x2] (fun r : Int32 => iv 0 1 r) := by
  refine sg_ofW (by decide +kernel) (Nat.le_of_ble_eq_true rfl) (fun p e s m below meth c X hr hlk hb hK hC hG ls hl => ?_)
  have hS : va_S (fun q : Nat => base ≤ q) s.heap s.heap [] := va_S.rf
  have hl : lv_has ls 7 [(0, .ref a0), (1, .ref a1), (2, .int x2)] := hl
  refine lv_aload_n X.1 X.2.1 dX6_readSum_0 rfl (lv_at hl 0 rfl) ?_
  refine lv_aload_n X.1 X.2.1 dX6_readSum_1 rfl (lv_at hl 1 rfl) ?_
  refine lv_iload_n X.1 X.2.1 dX6_readSum_2 rfl (lv_at hl 2 rfl) ?_
  refine ca_X6_readAtom_2 X hK hG hC hS hb a0 h0 a1 h1 x2 h2 wl_3_224 hl.1 (rest := []) rfl (Nat.le_of_ble_eq_true rfl) ⟨Nat.le_of_ble_eq_true rfl, Nat.le_of_ble_eq_true rfl⟩ ⟨Nat.le_of_ble_eq_true rfl, Nat.le_of_ble_eq_true rfl⟩ dX6_readSum_3 (fun f1 H locs hf1 hG hS => ?_)
  refine lv_if_ne (tgt := 11) X.1 X.2.1 dX6_readSum_6 (by decide) (fun c2 => ?_) (fun c2 => ?_)
  · refine lv_iconst (v := 0) X.1 X.2.1 dX6_readSum_11 (by decide +kernel) ?_
    refine lv_istore_n (lv' := [(3, .int 0), (0, .ref a0), (1, .ref a1), (2, .int x2)]) X.1 X.2.1 dX6_readSum_12 rfl hl (by decide) rfl (fun ls hl => ?_)
    refine lv_iconst (v := 0) X.1 X.2.1 dX6_readSum_13 (by decide +kernel) ?_
    refine lv_istore (lv' := [(4, .int 0), (3, .int 0), (0, .ref a0), (1, .ref a1), (2, .int x2)]) X.1 X.2.1 dX6_readSum_14 hl (by decide) rfl (fun ls hl => ?_)
    have B3_16 : ∀ (N : Nat) (H : Heap) (locs : List Loc) (ls : Array Slot) (z3_3 : Int32) (z3_4 : Int32), sgG (KT P) D vwCl (fun q : Nat => base ≤ q) tys ad ks H → va_S (fun q : Nat => base ≤ q) s.heap H locs → lv_has ls 7 [(0, .ref a0), (1, .ref a1), (2, .int x2), (3, .int z3_3), (4, .int z3_4)] → iv (-11) 0 z3_3 → iv 0 240 z3_4 → (241 - z3_4.toInt).toNat ≤ N → W p l e (headSpec (Cond.code yX6_readSum cX6_readSum 7 (some .boolean) :: sg_tbl) ({ frames := 13, cells := 0, slots := 0, locals := 320 })).room s m #[.ref a0, .ref a1, .int x2] below meth c H locs 0 0 (MQ below (va_Qi (fun r (_ : Unit) => (fun r : Int32 => iv 0 1 r) r) (fun _ => sgB (KT P) D vwCl base tys ad ks) (fun q : Nat => base ≤ q)) #[.ref a0, .ref a1, .int x2] s 0 0 (fun q : Nat => base ≤ q)) (F0 m 16 ls []) := by
      intro N; induction N with
      | zero =>
        intro H locs ls z3_3 z3_4 hG hS hl hz3_3 hz3_4 hN
        exact absurd hN (by have := iv_up hz3_4; omega)
      | succ N ih3 =>
        intro H locs ls z3_3 z3_4 hG hS hl hz3_3 hz3_4 hN3
        refine lv_iload X.1 X.2.1 dX6_readSum_16 (lv_at hl 4 rfl) ?_
        refine lv_sipush (v := 240) X.1 X.2.1 dX6_readSum_18 (by decide +kernel) ?_
        refine lv_icmp_ge (tgt := 148) X.1 X.2.1 dX6_readSum_21 (by decide) (fun c4 => ?_) (fun c4 => ?_)
        · refine lv_aload_n X.1 X.2.1 dX6_readSum_148 rfl (lv_at hl 1 rfl) ?_
          refine ca_X10_wrong X hK hG hC hS hb a1 h1 wl_3_228 hl.1 (rest := []) rfl (Nat.le_of_ble_eq_true rfl) ⟨Nat.le_of_ble_eq_true rfl, Nat.le_of_ble_eq_true rfl⟩ ⟨Nat.le_of_ble_eq_true rfl, Nat.le_of_ble_eq_true rfl⟩ dX6_readSum_149 (fun f5 H locs hf5 hG hS => ?_)
          exact sg_zret X hr (sg_zn hf5) hlk hb hK hC hG hS hf5 dX6_readSum_152
        · refine lv_aload_n X.1 X.2.1 dX6_readSum_24 rfl (lv_at hl 1 rfl) ?_
          refine ca_X10_sign X hK hG hC (fun _ h => h) hS hb a1 h1 wl_3_219 hl.1 (rest := []) rfl (Nat.le_of_ble_eq_true rfl) ⟨Nat.le_of_ble_eq_true rfl, Nat.le_of_ble_eq_true rfl⟩ ⟨Nat.le_of_ble_eq_true rfl, Nat.le_of_ble_eq_true rfl⟩ dX6_readSum_25 (fun f6 locs hf6 hS => ?_)
          refine lv_istore (lv' := [(5, .int f6), (0, .ref a0), (1, .ref a1), (2, .int x2), (3, .int z3_3), (4, .int z3_4)]) X.1 X.2.1 dX6_readSum_28 hl (by decide) rfl (fun ls hl => ?_)
          refine lv_iload X.1 X.2.1 dX6_readSum_30 (lv_at hl 0 rfl) ?_
          refine lv_bipush (v := 42) X.1 X.2.1 dX6_readSum_32 (by decide +kernel) ?_
          have B8_49 : ∀ (locs : List Loc) (ls : Array Slot) (w8_0 : Int32), va_S (fun q : Nat => base ≤ q) s.heap H locs → lv_has ls 7 [(0, .ref a0), (1, .ref a1), (2, .int x2), (3, .int z3_3), (4, .int z3_4), (5, .int f6)] → iv 0 1 w8_0 → W p l e (headSpec (Cond.code yX6_readSum cX6_readSum 7 (some .boolean) :: sg_tbl) ({ frames := 13, cells := 0, slots := 0, locals := 320 })).room s m #[.ref a0, .ref a1, .int x2] below meth c H locs 0 0 (MQ below (va_Qi (fun r (_ : Unit) => (fun r : Int32 => iv 0 1 r) r) (fun _ => sgB (KT P) D vwCl base tys ad ks) (fun q : Nat => base ≤ q)) #[.ref a0, .ref a1, .int x2] s 0 0 (fun q : Nat => base ≤ q)) (F0 m 49 ls [.int w8_0]) := by
            intro locs ls w8_0 hS hl hw8_0
            refine lv_istore (lv' := [(6, .int w8_0), (0, .ref a0), (1, .ref a1), (2, .int x2), (3, .int z3_3), (4, .int z3_4), (5, .int f6)]) X.1 X.2.1 dX6_readSum_49 hl (by decide) rfl (fun ls hl => ?_)
            refine lv_iload X.1 X.2.1 dX6_readSum_51 (lv_at hl 0 rfl) ?_
            have B10_65 : ∀ (H : Heap) (locs : List Loc) (ls : Array Slot), sgG (KT P) D vwCl (fun q : Nat => base ≤ q) tys ad ks H → va_S (fun q : Nat => base ≤ q) s.heap H locs → lv_has ls 7 [(0, .ref a0), (1, .ref a1), (2, .int x2), (3, .int z3_3), (4, .int z3_4), (5, .int f6), (6, .int w8_0)] → W p l e (headSpec (Cond.code yX6_readSum cX6_readSum 7 (some .boolean) :: sg_tbl) ({ frames := 13, cells := 0, slots := 0, locals := 320 })).room s m #[.ref a0, .ref a1, .int x2] below meth c H locs 0 0 (MQ below (va_Qi (fun r (_ : Unit) => (fun r : Int32 => iv 0 1 r) r) (fun _ => sgB (KT P) D vwCl base tys ad ks) (fun q : Nat => base ≤ q)) #[.ref a0, .ref a1, .int x2] s 0 0 (fun q : Nat => base ≤ q)) (F0 m 65 ls []) := by
              intro H locs ls hG hS hl
              refine lv_iload X.1 X.2.1 dX6_readSum_65 (lv_at hl 6 rfl) ?_
              have B12_86 : ∀ (locs : List Loc) (ls : Array Slot), va_S (fun q : Nat => base ≤ q) s.heap H locs → lv_has ls 7 [(0, .ref a0), (1, .ref a1), (2, .int x2), (3, .int z3_3), (4, .int z3_4), (5, .int f6), (6, .int w8_0)] → W p l e (headSpec (Cond.code yX6_readSum cX6_readSum 7 (some .boolean) :: sg_tbl) ({ frames := 13, cells := 0, slots := 0, locals := 320 })).room s m #[.ref a0, .ref a1, .int x2] below meth c H locs 0 0 (MQ below (va_Qi (fun r (_ : Unit) => (fun r : Int32 => iv 0 1 r) r) (fun _ => sgB (KT P) D vwCl base tys ad ks) (fun q : Nat => base ≤ q)) #[.ref a0, .ref a1, .int x2] s 0 0 (fun q : Nat => base ≤ q)) (F0 m 86 ls []) := by
                intro locs ls hS hl
                refine lv_aload_n X.1 X.2.1 dX6_readSum_86 rfl (lv_at hl 1 rfl) ?_
                refine ca_X10_step X hK hG hC hS hb a1 h1 wl_3_229 hl.1 (rest := []) rfl (Nat.le_of_ble_eq_true rfl) ⟨Nat.le_of_ble_eq_true rfl, Nat.le_of_ble_eq_true rfl⟩ ⟨Nat.le_of_ble_eq_true rfl, Nat.le_of_ble_eq_true rfl⟩ dX6_readSum_87 (fun H locs hG hS => ?_)
                refine lv_aload_n X.1 X.2.1 dX6_readSum_90 rfl (lv_at hl 0 rfl) ?_
                refine lv_aload_n X.1 X.2.1 dX6_readSum_91 rfl (lv_at hl 1 rfl) ?_
                refine lv_iload_n X.1 X.2.1 dX6_readSum_92 rfl (lv_at hl 2 rfl) ?_
                refine ca_X6_readAtom_2 X hK hG hC hS hb a0 h0 a1 h1 x2 h2 wl_3_224 hl.1 (rest := []) rfl (Nat.le_of_ble_eq_true rfl) ⟨Nat.le_of_ble_eq_true rfl, Nat.le_of_ble_eq_true rfl⟩ ⟨Nat.le_of_ble_eq_true rfl, Nat.le_of_ble_eq_true rfl⟩ dX6_readSum_93 (fun f14 H locs hf14 hG hS => ?_)
                refine lv_if_ne (tgt := 101) X.1 X.2.1 dX6_readSum_96 (by decide) (fun c15 => ?_) (fun c15 => ?_)
                · refine lv_iload X.1 X.2.1 dX6_readSum_101 (lv_at hl 6 rfl) ?_
                  have B17_142 : ∀ (H : Heap) (locs : List Loc) (ls : Array Slot) (z17_3 : Int32), sgG (KT P) D vwCl (fun q : Nat => base ≤ q) tys ad ks H → va_S (fun q : Nat => base ≤ q) s.heap H locs → lv_has ls 7 [(0, .ref a0), (1, .ref a1), (2, .int x2), (3, .int z17_3), (4, .int z3_4)] → iv (-11) 0 z17_3 → W p l e (headSpec (Cond.code yX6_readSum cX6_readSum 7 (some .boolean) :: sg_tbl) ({ frames := 13, cells := 0, slots := 0, locals := 320 })).room s m #[.ref a0, .ref a1, .int x2] below meth c H locs 0 0 (MQ below (va_Qi (fun r (_ : Unit) => (fun r : Int32 => iv 0 1 r) r) (fun _ => sgB (KT P) D vwCl base tys ad ks) (fun q : Nat => base ≤ q)) #[.ref a0, .ref a1, .int x2] s 0 0 (fun q : Nat => base ≤ q)) (F0 m 142 ls []) := by
                    intro H locs ls z17_3 hG hS hl hz17_3
                    obtain ⟨y18, ey18⟩ : ∃ y : Int32, y = z3_4 + Int32.ofInt 1 := ⟨_, rfl⟩
                    refine lv_iinc (v := y18) (lv' := [(4, .int y18), (0, .ref a0), (1, .ref a1), (2, .int x2), (3, .int z17_3)]) X.1 X.2.1 dX6_readSum_142 hl (k := 4) rfl ey18.symm (by decide) rfl (fun ls hl => ?_)
                    refine lv_goto (tgt := 16) X.1 X.2.1 dX6_readSum_145 (by decide) ?_
                    exact ih3 H _ _ z17_3 y18 hG hS (lv_sub hl [1, 2, 3, 4, 0] rfl) hz17_3 (iv_of (iv_add (a' := 1) (b' := 240) ey18 (iv_lt (b' := 239) (iv_gt_of c4) hz3_4 (iv_c 240 (a := 240) (b := 240) (by decide +kernel)) (by decide +kernel)) (iv_c _ (a := 1) (b := 1) (by decide +kernel)) (by decide +kernel)) (a' := 0) (b' := 240) (by decide +kernel)) (iv_stepU ey18 (iv_lt (b' := 239) (iv_gt_of c4) hz3_4 (iv_c 240 (a := 240) (b := 240) (by decide +kernel)) (by decide +kernel)) (by decide +kernel) hN3)
                  refine lv_if_eq (tgt := 127) X.1 X.2.1 dX6_readSum_103 (by decide) (fun c16 => ?_) (fun c16 => ?_)
                  · refine lv_iload X.1 X.2.1 dX6_readSum_127 (lv_at hl 5 rfl) ?_
                    refine lv_bipush (v := 43) X.1 X.2.1 dX6_readSum_129 (by decide +kernel) ?_
                    have B20_141 : ∀ (locs : List Loc) (ls : Array Slot) (w20_0 : Int32), va_S (fun q : Nat => base ≤ q) s.heap H locs → lv_has ls 7 [(0, .ref a0), (1, .ref a1), (2, .int x2), (4, .int z3_4)] → iv (-11) (-10) w20_0 → W p l e (headSpec (Cond.code yX6_readSum cX6_readSum 7 (some .boolean) :: sg_tbl) ({ frames := 13, cells := 0, slots := 0, locals := 320 })).room s m #[.ref a0, .ref a1, .int x2] below meth c H locs 0 0 (MQ below (va_Qi (fun r (_ : Unit) => (fun r : Int32 => iv 0 1 r) r) (fun _ => sgB (KT P) D vwCl base tys ad ks) (fun q : Nat => base ≤ q)) #[.ref a0, .ref a1, .int x2] s 0 0 (fun q : Nat => base ≤ q)) (F0 m 141 ls [.int w20_0]) := by
                      intro locs ls w20_0 hS hl hw20_0
                      refine lv_istore_n (lv' := [(3, .int w20_0), (0, .ref a0), (1, .ref a1), (2, .int x2), (4, .int z3_4)]) X.1 X.2.1 dX6_readSum_141 rfl hl (by decide) rfl (fun ls hl => ?_)
                      exact B17_142 H _ _ w20_0 hG hS (lv_sub hl [1, 2, 3, 0, 4] rfl) (iv_of hw20_0 (a' := (-11)) (b' := 0) (by decide +kernel))
                    refine lv_icmp_ne (tgt := 139) X.1 X.2.1 dX6_readSum_131 (by decide) (fun c19 => ?_) (fun c19 => ?_)
                    · refine lv_bipush (v := (-11)) X.1 X.2.1 dX6_readSum_139 (by decide +kernel) ?_
                      exact B20_141 _ _ (-11) hS (lv_sub hl [0, 1, 2, 4] rfl) (iv_of (iv_c (-11) (a := (-11)) (b := (-11)) (by decide +kernel)) (a' := (-11)) (b' := (-10)) (by decide +kernel))
                    · refine lv_bipush (v := (-10)) X.1 X.2.1 dX6_readSum_134 (by decide +kernel) ?_
                      refine lv_goto (tgt := 141) X.1 X.2.1 dX6_readSum_136 (by decide) ?_
                      exact B20_141 _ _ (-10) hS (lv_sub hl [0, 1, 2, 4] rfl) (iv_of (iv_c (-10) (a := (-10)) (b := (-10)) (by decide +kernel)) (a' := (-11)) (b' := (-10)) (by decide +kernel))
                  · refine lv_aload_n X.1 X.2.1 dX6_readSum_106 rfl (lv_at hl 0 rfl) ?_
                    refine lv_iload X.1 X.2.1 dX6_readSum_107 (lv_at hl 5 rfl) ?_
                    refine lv_bipush (v := 42) X.1 X.2.1 dX6_readSum_109 (by decide +kernel) ?_
                    have B22_121 : ∀ (locs : List Loc) (ls : Array Slot) (w22_0 : Int32), va_S (fun q : Nat => base ≤ q) s.heap H locs → lv_has ls 7 [(0, .ref a0), (1, .ref a1), (2, .int x2), (3, .int z3_3), (4, .int z3_4)] → iv (-13) (-12) w22_0 → W p l e (headSpec (Cond.code yX6_readSum cX6_readSum 7 (some .boolean) :: sg_tbl) ({ frames := 13, cells := 0, slots := 0, locals := 320 })).room s m #[.ref a0, .ref a1, .int x2] below meth c H locs 0 0 (MQ below (va_Qi (fun r (_ : Unit) => (fun r : Int32 => iv 0 1 r) r) (fun _ => sgB (KT P) D vwCl base tys ad ks) (fun q : Nat => base ≤ q)) #[.ref a0, .ref a1, .int x2] s 0 0 (fun q : Nat => base ≤ q)) (F0 m 121 ls [.int w22_0, .ref a0]) := by
                      intro locs ls w22_0 hS hl hw22_0
                      refine ca_X6_put X hK hG hC hS hb a0 h0 w22_0 wl_3_232 hl.1 (rest := []) rfl (Nat.le_of_ble_eq_true rfl) ⟨Nat.le_of_ble_eq_true rfl, Nat.le_of_ble_eq_true rfl⟩ ⟨Nat.le_of_ble_eq_true rfl, Nat.le_of_ble_eq_true rfl⟩ dX6_readSum_121 (fun H locs hG hS => ?_)
                      refine lv_goto (tgt := 142) X.1 X.2.1 dX6_readSum_124 (by decide) ?_
                      exact B17_142 H _ _ z3_3 hG hS (lv_sub hl [0, 1, 2, 3, 4] rfl) hz3_3
                    refine lv_icmp_ne (tgt := 119) X.1 X.2.1 dX6_readSum_111 (by decide) (fun c21 => ?_) (fun c21 => ?_)
                    · refine lv_bipush (v := (-13)) X.1 X.2.1 dX6_readSum_119 (by decide +kernel) ?_
                      exact B22_121 _ _ (-13) hS (lv_sub hl [0, 1, 2, 3, 4] rfl) (iv_of (iv_c (-13) (a := (-13)) (b := (-13)) (by decide +kernel)) (a' := (-13)) (b' := (-12)) (by decide +kernel))
                    · refine lv_bipush (v := (-12)) X.1 X.2.1 dX6_readSum_114 (by decide +kernel) ?_
                      refine lv_goto (tgt := 121) X.1 X.2.1 dX6_readSum_116 (by decide) ?_
                      exact B22_121 _ _ (-12) hS (lv_sub hl [0, 1, 2, 3, 4] rfl) (iv_of (iv_c (-12) (a := (-12)) (b := (-12)) (by decide +kernel)) (a' := (-13)) (b' := (-12)) (by decide +kernel))
                · refine lv_iconst (v := 0) X.1 X.2.1 dX6_readSum_99 (by decide +kernel) ?_
                  exact sg_zret X hr (sg_zn (iv_of (iv_c 0 (a := 0) (b := 0) (by decide +kernel)) (a' := 0) (b' := 1) (by decide +kernel))) hlk hb hK hC hG hS (iv_of (iv_c 0 (a := 0) (b := 0) (by decide +kernel)) (a' := 0) (b' := 1) (by decide +kernel)) dX6_readSum_100
              refine lv_if_ne (tgt := 86) X.1 X.2.1 dX6_readSum_67 (by decide) (fun c11 => ?_) (fun c11 => ?_)
              · exact B12_86 _ _ hS (lv_sub hl [0, 1, 2, 3, 4, 5, 6] rfl)
              · refine lv_iload X.1 X.2.1 dX6_readSum_70 (lv_at hl 5 rfl) ?_
                refine lv_bipush (v := 43) X.1 X.2.1 dX6_readSum_72 (by decide +kernel) ?_
                refine lv_icmp_eq (tgt := 86) X.1 X.2.1 dX6_readSum_74 (by decide) (fun c24 => ?_) (fun c24 => ?_)
                · exact B12_86 _ _ hS (lv_sub hl [0, 1, 2, 3, 4, 5, 6] rfl)
                · refine lv_iload X.1 X.2.1 dX6_readSum_77 (lv_at hl 5 rfl) ?_
                  refine lv_bipush (v := 45) X.1 X.2.1 dX6_readSum_79 (by decide +kernel) ?_
                  refine lv_icmp_eq (tgt := 86) X.1 X.2.1 dX6_readSum_81 (by decide) (fun c25 => ?_) (fun c25 => ?_)
                  · exact B12_86 _ _ hS (lv_sub hl [0, 1, 2, 3, 4, 5, 6] rfl)
                  · refine lv_iconst (v := 1) X.1 X.2.1 dX6_readSum_84 (by decide +kernel) ?_
                    exact sg_zret X hr (sg_zn (iv_of (iv_c 1 (a := 1) (b := 1) (by decide +kernel)) (a' := 0) (b' := 1) (by decide +kernel))) hlk hb hK hC hG hS (iv_of (iv_c 1 (a := 1) (b := 1) (by decide +kernel)) (a' := 0) (b' := 1) (by decide +kernel)) dX6_readSum_85
            refine lv_if_ne (tgt := 65) X.1 X.2.1 dX6_readSum_53 (by decide) (fun c9 => ?_) (fun c9 => ?_)
            · exact B10_65 H _ _ hG hS (lv_sub hl [1, 2, 3, 4, 5, 6, 0] rfl)
            · refine lv_iload_n X.1 X.2.1 dX6_readSum_56 rfl (lv_at hl 4 rfl) ?_
              refine lv_if_eq (tgt := 65) X.1 X.2.1 dX6_readSum_57 (by decide) (fun c26 => ?_) (fun c26 => ?_)
              · exact B10_65 H _ _ hG hS (lv_sub hl [1, 2, 3, 4, 5, 6, 0] rfl)
              · refine lv_aload_n X.1 X.2.1 dX6_readSum_60 rfl (lv_at hl 1 rfl) ?_
                refine lv_iload_n X.1 X.2.1 dX6_readSum_61 rfl (lv_at hl 4 rfl) ?_
                refine ca_X6_put X hK hG hC hS hb a0 h0 z3_3 wl_3_232 hl.1 (rest := []) rfl (Nat.le_of_ble_eq_true rfl) ⟨Nat.le_of_ble_eq_true rfl, Nat.le_of_ble_eq_true rfl⟩ ⟨Nat.le_of_ble_eq_true rfl, Nat.le_of_ble_eq_true rfl⟩ dX6_readSum_62 (fun H locs hG hS => ?_)
                exact B10_65 H _ _ hG hS (lv_sub hl [1, 2, 3, 4, 5, 6, 0] rfl)
          have B28_44 : ∀ (locs : List Loc) (ls : Array Slot), va_S (fun q : Nat => base ≤ q) s.heap H locs → lv_has ls 7 [(0, .ref a0), (1, .ref a1), (2, .int x2), (3, .int z3_3), (4, .int z3_4), (5, .int f6)] → W p l e (headSpec (Cond.code yX6_readSum cX6_readSum 7 (some .boolean) :: sg_tbl) ({ frames := 13, cells := 0, slots := 0, locals := 320 })).room s m #[.ref a0, .ref a1, .int x2] below meth c H locs 0 0 (MQ below (va_Qi (fun r (_ : Unit) => (fun r : Int32 => iv 0 1 r) r) (fun _ => sgB (KT P) D vwCl base tys ad ks) (fun q : Nat => base ≤ q)) #[.ref a0, .ref a1, .int x2] s 0 0 (fun q : Nat => base ≤ q)) (F0 m 44 ls []) := by
            intro locs ls hS hl
            refine lv_iconst (v := 1) X.1 X.2.1 dX6_readSum_44 (by decide +kernel) ?_
            refine lv_goto (tgt := 49) X.1 X.2.1 dX6_readSum_45 (by decide) ?_
            exact B8_49 _ _ 1 hS (lv_sub hl [0, 1, 2, 3, 4, 5] rfl) (iv_of (iv_c 1 (a := 1) (b := 1) (by decide +kernel)) (a' := 0) (b' := 1) (by decide +kernel))
          refine lv_icmp_eq (tgt := 44) X.1 X.2.1 dX6_readSum_34 (by decide) (fun c7 => ?_) (fun c7 => ?_)
          · exact B28_44 _ _ hS (lv_sub hl [1, 2, 3, 4, 5, 0] rfl)
          · refine lv_iload X.1 X.2.1 dX6_readSum_37 (lv_at hl 0 rfl) ?_
            refine lv_bipush (v := 47) X.1 X.2.1 dX6_readSum_39 (by decide +kernel) ?_
            refine lv_icmp_ne (tgt := 48) X.1 X.2.1 dX6_readSum_41 (by decide) (fun c29 => ?_) (fun c29 => ?_)
            · refine lv_iconst (v := 0) X.1 X.2.1 dX6_readSum_48 (by decide +kernel) ?_
              exact B8_49 _ _ 0 hS (lv_sub hl [1, 2, 3, 4, 5, 0] rfl) (iv_of (iv_c 0 (a := 0) (b := 0) (by decide +kernel)) (a' := 0) (b' := 1) (by decide +kernel))
            · exact B28_44 _ _ hS (lv_sub hl [1, 2, 3, 4, 5, 0] rfl)
    exact B3_16 _ H _ _ 0 0 hG hS (lv_sub hl [2, 3, 4, 1, 0] rfl) (iv_of (iv_c 0 (a := 0) (b := 0) (by decide +kernel)) (a' := (-11)) (b' := 0) (by decide +kernel)) (iv_of (iv_c 0 (a := 0) (b := 0) (by decide +kernel)) (a' := 0) (b' := 240) (by decide +kernel)) (Nat.le_refl _)
  · refine lv_iconst (v := 0) X.1 X.2.1 dX6_readSum_9 (by decide +kernel) ?_
    exact sg_zret X hr (sg_zn (iv_of (iv_c 0 (a := 0) (b := 0) (by decide +kernel)) (a' := 0) (b' := 1) (by decide +kernel))) hlk hb hK hC hG hS (iv_of (iv_c 0 (a := 0) (b := 0) (by decide +kernel)) (a' := 0) (b' := 1) (by decide +kernel)) dX6_readSum_10

theorem ca_X6_readSum_2   (X : CallFix p m c cc nL s args sg_tbl own) (hK : va_K D vwCl tys s) (hG : sgG (KT P) D vwCl (fun q : Nat => base ≤ q) tys ad ks H) (hC : sgC base s) (hS : va_S (fun q : Nat => base ≤ q) s.heap H locs) (hb : base ≤ s.heap.size) (a0 : Nat) (h0 : isK ad ks 6 a0) (a1 : Nat) (h1 : isK ad ks 10 a1) (x2 : Int32) (h2 : iv 2 2 x2) (hl : Cond.methodLink own index yX6_readSum ∈ sg_tbl) (hsize : ls.size = nL) (hst : st0 = [.ref a1, .int x2].reverse ++ .ref a0 :: rest) (hW : (rest.map fun v => v.category).sum ≤ 8) (hR : 14 ≤ R.frames ∧ 346 ≤ R.locals) (hf : cells ≤ R.cells ∧ slots ≤ R.slots) (hdg : decode cc pc = .ok (.invokevirtual index, 3)) (kk : ∀ (r : Int32) (H1 : Heap) (locs1 : List Loc), (fun r : Int32 => iv 0 1 r) r → sgG (KT P) D vwCl (fun q : Nat => base ≤ q) tys ad ks H1 → va_S (fun q : Nat => base ≤ q) s.heap H1 locs1 → W p l e R s m args below meth c H1 locs1 cells slots Q (F0 m (pc + 3) ls (.int r :: rest))) : W p l e R s m args below meth c H locs cells slots Q (F0 m pc ls st0) :=
  sg_callVi X hK hG hC hS hb (m_X6_readSum_2 l a0 h0 a1 h1 x2 h2) h0 (k := 6) (ci := 6) rfl (C := RX6) (T := TX6) (N := 7) rfl wl_3_223 wl_1_3 wl_3_222 wl_0_11 (n := 2) (by decide +kernel) rfl rfl rfl hl hsize hst hW hR hf hdg kk

set_option maxHeartbeats 8000000 in
set_option maxRecDepth 100000 in
theorem m_X6_readComparison_2 (l : Launch) {D : va_G} {base : Nat} {tys : List (ClassId × FieldType)} {ad ks : List Nat} {P : sgPm} (a0 : Nat) (h0 : isK ad ks 6 a0) (a1 : Nat) (h1 : isK ad ks 10 a1) (x2 : Int32) (h2 : iv 2 2 x2) : sgMi l (KT P) D vwCl base tys ad ks yX6_readComparison cX6_readComparison 4 (some .boolean) ({ frames := 14, cells := 0, slots := 0, locals := 346 }) [.ref a0, .ref a1, .int x2] (fun r : Int32 => iv 0 1 r) := by
  refine sg_ofW (by decide +kernel) (Nat.le_of_ble_eq_true rfl) (fun p e s m below meth c X hr hlk hb hK hC hG ls hl => ?_)
  have hS : va_S (fun q : Nat => base ≤ q) s.heap s.heap [] := va_S.rf
  have hl : lv_has ls 4 [(0, .ref a0), (1, .ref a1), (2, .int x2)] := hl
  refine lv_aload_n X.1 X.2.1 dX6_readComparison_0 rfl (lv_at hl 1 rfl) ?_
  refine ca_X10_sign X hK hG hC (fun _ h => h) hS hb a1 h1 wl_3_219 hl.1 (rest := []) rfl (Nat.le_of_ble_eq_true rfl) ⟨Nat.le_of_ble_eq_true rfl, Nat.le_of_ble_eq_true rfl⟩ ⟨Nat.le_of_ble_eq_true rfl, Nat.le_of_ble_eq_true rfl⟩ dX6_readComparison_1 (fun f1 locs hf1 hS => ?_)
  refine ca_X6_comparison X hK hG hC (fun _ h => h) hS hb f1 wl_3_238 hl.1 (rest := []) rfl (Nat.le_of_ble_eq_true rfl) ⟨Nat.le_of_ble_eq_true rfl, Nat.le_of_ble_eq_true rfl⟩ ⟨Nat.le_of_ble_eq_true rfl, Nat.le_of_ble_eq_true rfl⟩ dX6_readComparison_4 (fun f2 locs hf2 hS => ?_)
  refine lv_istore_n (lv' := [(3, .int f2), (0, .ref a0), (1, .ref a1), (2, .int x2)]) X.1 X.2.1 dX6_readComparison_7 rfl hl (by decide) rfl (fun ls hl => ?_)
  refine lv_iload_n X.1 X.2.1 dX6_readComparison_8 rfl (lv_at hl 0 rfl) ?_
  refine lv_if_ne (tgt := 17) X.1 X.2.1 dX6_readComparison_9 (by decide) (fun c3 => ?_) (fun c3 => ?_)
  · refine lv_aload_n X.1 X.2.1 dX6_readComparison_17 rfl (lv_at hl 2 rfl) ?_
    refine ca_X10_step X hK hG hC hS hb a1 h1 wl_3_229 hl.1 (rest := []) rfl (Nat.le_of_ble_eq_true rfl) ⟨Nat.le_of_ble_eq_true rfl, Nat.le_of_ble_eq_true rfl⟩ ⟨Nat.le_of_ble_eq_true rfl, Nat.le_of_ble_eq_true rfl⟩ dX6_readComparison_18 (fun H locs hG hS => ?_)
    refine lv_aload_n X.1 X.2.1 dX6_readComparison_21 rfl (lv_at hl 1 rfl) ?_
    refine lv_aload_n X.1 X.2.1 dX6_readComparison_22 rfl (lv_at hl 2 rfl) ?_
    refine lv_iload_n X.1 X.2.1 dX6_readComparison_23 rfl (lv_at hl 3 rfl) ?_
    refine ca_X6_readSum_2 X hK hG hC hS hb a0 h0 a1 h1 x2 h2 wl_3_220 hl.1 (rest := []) rfl (Nat.le_of_ble_eq_true rfl) ⟨Nat.le_of_ble_eq_true rfl, Nat.le_of_ble_eq_true rfl⟩ ⟨Nat.le_of_ble_eq_true rfl, Nat.le_of_ble_eq_true rfl⟩ dX6_readComparison_24 (fun f5 H locs hf5 hG hS => ?_)
    refine lv_if_ne (tgt := 32) X.1 X.2.1 dX6_readComparison_27 (by decide) (fun c6 => ?_) (fun c6 => ?_)
    · refine lv_aload_n X.1 X.2.1 dX6_readComparison_32 rfl (lv_at hl 1 rfl) ?_
      refine lv_iload_n X.1 X.2.1 dX6_readComparison_33 rfl (lv_at hl 0 rfl) ?_
      refine ca_X6_put X hK hG hC hS hb a0 h0 f2 wl_3_232 hl.1 (rest := []) rfl (Nat.le_of_ble_eq_true rfl) ⟨Nat.le_of_ble_eq_true rfl, Nat.le_of_ble_eq_true rfl⟩ ⟨Nat.le_of_ble_eq_true rfl, Nat.le_of_ble_eq_true rfl⟩ dX6_readComparison_34 (fun H locs hG hS => ?_)
      refine lv_iconst (v := 1) X.1 X.2.1 dX6_readComparison_37 (by decide +kernel) ?_
      exact sg_zret X hr (sg_zn (iv_of (iv_c 1 (a := 1) (b := 1) (by decide +kernel)) (a' := 0) (b' := 1) (by decide +kernel))) hlk hb hK hC hG hS (iv_of (iv_c 1 (a := 1) (b := 1) (by decide +kernel)) (a' := 0) (b' := 1) (by decide +kernel)) dX6_readComparison_38
    · refine lv_iconst (v := 0) X.1 X.2.1 dX6_readComparison_30 (by decide +kernel) ?_
      exact sg_zret X hr (sg_zn (iv_of (iv_c 0 (a := 0) (b := 0) (by decide +kernel)) (a' := 0) (b' := 1) (by decide +kernel))) hlk hb hK hC hG hS (iv_of (iv_c 0 (a := 0) (b := 0) (by decide +kernel)) (a' := 0) (b' := 1) (by decide +kernel)) dX6_readComparison_31
  · refine lv_aload_n X.1 X.2.1 dX6_readComparison_12 rfl (lv_at hl 2 rfl) ?_
    refine ca_X10_wrong X hK hG hC hS hb a1 h1 wl_3_228 hl.1 (rest := []) rfl (Nat.le_of_ble_eq_true rfl) ⟨Nat.le_of_ble_eq_true rfl, Nat.le_of_ble_eq_true rfl⟩ ⟨Nat.le_of_ble_eq_true rfl, Nat.le_of_ble_eq_true rfl⟩ dX6_readComparison_13 (fun f8 H locs hf8 hG hS => ?_)
    exact sg_zret X hr (sg_zn hf8) hlk hb hK hC hG hS hf8 dX6_readComparison_16

theorem ca_X6_readComparison_2   (X : CallFix p m c cc nL s args sg_tbl own) (hK : va_K D vwCl tys s) (hG : sgG (KT P) D vwCl (fun q : Nat => base ≤ q) tys ad ks H) (hC : sgC base s) (hS : va_S (fun q : Nat => base ≤ q) s.heap H locs) (hb : base ≤ s.heap.size) (a0 : Nat) (h0 : isK ad ks 6 a0) (a1 : Nat) (h1 : isK ad ks 10 a1) (x2 : Int32) (h2 : iv 2 2 x2) (hl : Cond.methodLink own index yX6_readComparison ∈ sg_tbl) (hsize : ls.size = nL) (hst : st0 = [.ref a1, .int x2].reverse ++ .ref a0 :: rest) (hW : (rest.map fun v => v.category).sum ≤ 8) (hR : 15 ≤ R.frames ∧ 369 ≤ R.locals) (hf : cells ≤ R.cells ∧ slots ≤ R.slots) (hdg : decode cc pc = .ok (.invokevirtual index, 3)) (kk : ∀ (r : Int32) (H1 : Heap) (locs1 : List Loc), (fun r : Int32 => iv 0 1 r) r → sgG (KT P) D vwCl (fun q : Nat => base ≤ q) tys ad ks H1 → va_S (fun q : Nat => base ≤ q) s.heap H1 locs1 → W p l e R s m args below meth c H1 locs1 cells slots Q (F0 m (pc + 3) ls (.int r :: rest))) : W p l e R s m args below meth c H locs cells slots Q (F0 m pc ls st0) :=
  sg_callVi X hK hG hC hS hb (m_X6_readComparison_2 l a0 h0 a1 h1 x2 h2) h0 (k := 6) (ci := 6) rfl (C := RX6) (T := TX6) (N := 7) rfl wl_4_4 wl_1_3 wl_4_3 wl_0_14 (n := 2) (by decide +kernel) rfl rfl rfl hl hsize hst hW hR hf hdg kk
end
