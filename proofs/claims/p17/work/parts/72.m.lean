
section
variable {p : Program} {l : Launch} {e : Env} {R : Room} {s : State} {m : MethodId} {args : Array Value} {below : List Frame} {meth : Method} {c : Code} {H : Heap} {locs : List Loc} {cells slots : Nat} {Q : State → Prop} {cc : ByteArray} {nL pc : Nat} {ls : Array Slot} {rest : List Value} {own : String} {D : va_G} {A : Nat → Prop} {tys : List (ClassId × FieldType)} {ad ks : List Nat} {P : sgPm} {H0 : Heap} {index : Nat} {base : Nat} {st0 : List Value} {a : Nat}

set_option maxHeartbeats 8000000 in
set_option maxRecDepth 100000 in
theorem m_X12_rowFrom_r3 (l : Launch) {D : va_G} {base : Nat} {tys : List (ClassId × FieldType)} {ad ks : List Nat} {P : sgPm} {Hx : Heap} (x0 : Int32) (x1 : Int32) (h1 : iv 0 29 x1) (x2 : Int32) (h2 : iv 3 3 x2) (a3 : Nat) (h3 : isK ad ks 50 a3) : sgPi l (KM 7 P) D vwCl base tys ad ks Hx yX12_rowFrom cX12_rowFrom 9 (some .int) ({ frames := 1, cells := 0, slots := 0, locals := 21 }) [.int x0, .int x1, .int x2, .ref a3] (fun r : Int32 => True) := by
  refine sg_ofP (Pq := fun Hx => va_Qi (fun r (_ : Unit) => (fun r : Int32 => True) r) (fun _ t => t.heap = Hx) (fun _ : Nat => False)) (by decide +kernel) (Nat.le_of_ble_eq_true rfl) (fun p e s m below meth c X hr hlk hb hK hC hG ls hl => ?_)
  have hS : va_S (fun _ : Nat => False) s.heap s.heap [] := va_S.rf
  have hl : lv_has ls 9 [(0, .int x0), (1, .int x1), (2, .int x2), (3, .ref a3)] := hl
  refine lv_iload_n X.1 X.2.1 dX12_rowFrom_0 rfl (lv_at hl 1 rfl) ?_
  refine lv_aload_n X.1 X.2.1 dX12_rowFrom_1 rfl (lv_at hl 3 rfl) ?_
  refine lv_iconst (v := 0) X.1 X.2.1 dX12_rowFrom_2 (by decide +kernel) ?_
  refine al_50m X hK hG h3 (iv_vpin (iv_c 0 (a := 0) (b := 0) (by decide +kernel)) (by decide +kernel)) dX12_rowFrom_3 (fun f1 hf1 => ?_)
  have of1 := hf1
  have hf1 : iv 1 6 f1 := sg_rr7 hf1 (iv_c 0 (a := 0) (b := 0) (by decide +kernel)) (by decide +kernel) rfl
  refine lv_irem X.1 X.2.1 dX12_rowFrom_4 (iv_ne0 hf1 (by decide +kernel)) ?_
  refine lv_topi (fun f2 ef2 => ?_)
  refine lv_istore (lv' := [(4, .int f2), (0, .int x0), (1, .int x1), (2, .int x2), (3, .ref a3)]) X.1 X.2.1 dX12_rowFrom_5 hl (by decide) rfl (fun ls hl => ?_)
  refine lv_iload_n X.1 X.2.1 dX12_rowFrom_7 rfl (lv_at hl 2 rfl) ?_
  refine lv_aload_n X.1 X.2.1 dX12_rowFrom_8 rfl (lv_at hl 4 rfl) ?_
  refine lv_iconst (v := 0) X.1 X.2.1 dX12_rowFrom_9 (by decide +kernel) ?_
  refine al_50m X hK hG h3 (iv_vpin (iv_c 0 (a := 0) (b := 0) (by decide +kernel)) (by decide +kernel)) dX12_rowFrom_10 (fun f3 hf3 => ?_)
  have of3 := hf3
  have hf3 : iv 1 6 f3 := sg_rr7 hf3 (iv_c 0 (a := 0) (b := 0) (by decide +kernel)) (by decide +kernel) rfl
  refine lv_idiv X.1 X.2.1 dX12_rowFrom_11 (iv_ne0 hf3 (by decide +kernel)) ?_
  refine lv_topi (fun f4 ef4 => ?_)
  refine lv_istore (lv' := [(5, .int f4), (4, .int f2), (0, .int x0), (1, .int x1), (2, .int x2), (3, .ref a3)]) X.1 X.2.1 dX12_rowFrom_12 hl (by decide) rfl (fun ls hl => ?_)
  refine lv_iload_n X.1 X.2.1 dX12_rowFrom_14 rfl (lv_at hl 4 rfl) ?_
  have B6_37 : ∀ (locs : List Loc) (ls : Array Slot) (w6_0 : Int32), va_S (fun _ : Nat => False) s.heap s.heap locs → lv_has ls 9 [(0, .int x0), (2, .int x2), (3, .ref a3), (4, .int f2), (5, .int f4)] → iv (-1) (-1) w6_0 → W p l e (headSpec (Cond.code yX12_rowFrom cX12_rowFrom 9 (some .int) :: sg_tbl) ({ frames := 1, cells := 0, slots := 0, locals := 21 })).room s m #[.int x0, .int x1, .int x2, .ref a3] below meth c s.heap locs 0 0 (MQ below (va_Qi (fun r (_ : Unit) => (fun r : Int32 => True) r) (fun _ t => t.heap = s.heap) (fun _ : Nat => False)) #[.int x0, .int x1, .int x2, .ref a3] s 0 0 (fun _ : Nat => False)) (F0 m 37 ls [.int w6_0]) := by
    intro locs ls w6_0 hS hl hw6_0
    refine lv_istore (lv' := [(6, .int w6_0), (0, .int x0), (2, .int x2), (3, .ref a3), (4, .int f2), (5, .int f4)]) X.1 X.2.1 dX12_rowFrom_37 hl (by decide) rfl (fun ls hl => ?_)
    refine lv_iload_n X.1 X.2.1 dX12_rowFrom_39 rfl (lv_at hl 2 rfl) ?_
    have B8_48 : ∀ (locs : List Loc) (ls : Array Slot) (w8_0 : Int32), va_S (fun _ : Nat => False) s.heap s.heap locs → lv_has ls 9 [(0, .int x0), (3, .ref a3), (4, .int f2), (5, .int f4), (6, .int w6_0)] → iv 1 1 w8_0 → W p l e (headSpec (Cond.code yX12_rowFrom cX12_rowFrom 9 (some .int) :: sg_tbl) ({ frames := 1, cells := 0, slots := 0, locals := 21 })).room s m #[.int x0, .int x1, .int x2, .ref a3] below meth c s.heap locs 0 0 (MQ below (va_Qi (fun r (_ : Unit) => (fun r : Int32 => True) r) (fun _ t => t.heap = s.heap) (fun _ : Nat => False)) #[.int x0, .int x1, .int x2, .ref a3] s 0 0 (fun _ : Nat => False)) (F0 m 48 ls [.int w8_0]) := by
      intro locs ls w8_0 hS hl hw8_0
      refine lv_istore (lv' := [(7, .int w8_0), (0, .int x0), (3, .ref a3), (4, .int f2), (5, .int f4), (6, .int w6_0)]) X.1 X.2.1 dX12_rowFrom_48 hl (by decide) rfl (fun ls hl => ?_)
      refine lv_iconst (v := 0) X.1 X.2.1 dX12_rowFrom_50 (by decide +kernel) ?_
      refine lv_istore (lv' := [(8, .int 0), (7, .int w8_0), (0, .int x0), (3, .ref a3), (4, .int f2), (5, .int f4), (6, .int w6_0)]) X.1 X.2.1 dX12_rowFrom_51 hl (by decide) rfl (fun ls hl => ?_)
      have B9_53 : ∀ (N : Nat) (locs : List Loc) (ls : Array Slot) (z9_4 : Int32) (z9_5 : Int32) (z9_8 : Int32), va_S (fun _ : Nat => False) s.heap s.heap locs → lv_has ls 9 [(0, .int x0), (3, .ref a3), (4, .int z9_4), (5, .int z9_5), (6, .int w6_0), (7, .int w8_0), (8, .int z9_8)] → iv (-1) 5 z9_4 → iv 0 29 z9_5 → (z9_4.toInt - (-2)).toNat ≤ N → W p l e (headSpec (Cond.code yX12_rowFrom cX12_rowFrom 9 (some .int) :: sg_tbl) ({ frames := 1, cells := 0, slots := 0, locals := 21 })).room s m #[.int x0, .int x1, .int x2, .ref a3] below meth c s.heap locs 0 0 (MQ below (va_Qi (fun r (_ : Unit) => (fun r : Int32 => True) r) (fun _ t => t.heap = s.heap) (fun _ : Nat => False)) #[.int x0, .int x1, .int x2, .ref a3] s 0 0 (fun _ : Nat => False)) (F0 m 53 ls []) := by
        intro N; induction N with
        | zero =>
          intro locs ls z9_4 z9_5 z9_8 hS hl hz9_4 hz9_5 hN
          exact absurd hN (by have := iv_dn hz9_4; omega)
        | succ N ih9 =>
          intro locs ls z9_4 z9_5 z9_8 hS hl hz9_4 hz9_5 hN9
          refine lv_iload X.1 X.2.1 dX12_rowFrom_53 (lv_at hl 2 rfl) ?_
          refine lv_if_lt (tgt := 110) X.1 X.2.1 dX12_rowFrom_55 (by decide) (fun c10 => ?_) (fun c10 => ?_)
          · refine lv_iload X.1 X.2.1 dX12_rowFrom_110 (lv_at hl 6 rfl) ?_
            exact sg_iretP X hr hlk hS trivial dX12_rowFrom_112
          · refine lv_iload X.1 X.2.1 dX12_rowFrom_58 (lv_at hl 2 rfl) ?_
            refine lv_aload_n X.1 X.2.1 dX12_rowFrom_60 rfl (lv_at hl 1 rfl) ?_
            refine lv_iconst (v := 0) X.1 X.2.1 dX12_rowFrom_61 (by decide +kernel) ?_
            refine al_50m X hK hG h3 (iv_vpin (iv_c 0 (a := 0) (b := 0) (by decide +kernel)) (by decide +kernel)) dX12_rowFrom_62 (fun f11 hf11 => ?_)
            have of11 := hf11
            have hf11 : iv 1 6 f11 := sg_rr7 hf11 (iv_c 0 (a := 0) (b := 0) (by decide +kernel)) (by decide +kernel) rfl
            refine lv_icmp_ge (tgt := 110) X.1 X.2.1 dX12_rowFrom_63 (by decide) (fun c12 => ?_) (fun c12 => ?_)
            · refine lv_iload X.1 X.2.1 dX12_rowFrom_110 (lv_at hl 6 rfl) ?_
              exact sg_iretP X hr hlk hS trivial dX12_rowFrom_112
            · refine lv_iload X.1 X.2.1 dX12_rowFrom_66 (lv_at hl 3 rfl) ?_
              refine lv_aload_n X.1 X.2.1 dX12_rowFrom_68 rfl (lv_at hl 1 rfl) ?_
              refine lv_iconst (v := 1) X.1 X.2.1 dX12_rowFrom_69 (by decide +kernel) ?_
              refine al_50m X hK hG h3 (iv_vpin (iv_c 1 (a := 1) (b := 1) (by decide +kernel)) (by decide +kernel)) dX12_rowFrom_70 (fun f13 hf13 => ?_)
              have of13 := hf13
              have hf13 : iv 1 5 f13 := sg_rr7 hf13 (iv_c 1 (a := 1) (b := 1) (by decide +kernel)) (by decide +kernel) rfl
              refine lv_icmp_ge (tgt := 110) X.1 X.2.1 dX12_rowFrom_71 (by decide) (fun c14 => ?_) (fun c14 => ?_)
              · refine lv_iload X.1 X.2.1 dX12_rowFrom_110 (lv_at hl 6 rfl) ?_
                exact sg_iretP X hr hlk hS trivial dX12_rowFrom_112
              · refine lv_iload_n X.1 X.2.1 dX12_rowFrom_74 rfl (lv_at hl 0 rfl) ?_
                refine lv_iload X.1 X.2.1 dX12_rowFrom_75 (lv_at hl 3 rfl) ?_
                refine lv_aload_n X.1 X.2.1 dX12_rowFrom_77 rfl (lv_at hl 1 rfl) ?_
                refine lv_iconst (v := 0) X.1 X.2.1 dX12_rowFrom_78 (by decide +kernel) ?_
                refine al_50m X hK hG h3 (iv_vpin (iv_c 0 (a := 0) (b := 0) (by decide +kernel)) (by decide +kernel)) dX12_rowFrom_79 (fun f15 hf15 => ?_)
                have of15 := hf15
                have hf15 : iv 1 6 f15 := sg_rr7 hf15 (iv_c 0 (a := 0) (b := 0) (by decide +kernel)) (by decide +kernel) rfl
                refine lv_imul X.1 X.2.1 dX12_rowFrom_80 ?_
                refine lv_topi (fun f16 ef16 => ?_)
                refine lv_iload X.1 X.2.1 dX12_rowFrom_81 (lv_at hl 2 rfl) ?_
                refine lv_iadd X.1 X.2.1 dX12_rowFrom_83 ?_
                refine lv_topi (fun f17 ef17 => ?_)
                refine ca_X12_has X hK (sgm_weak (by omega) hG) hC (fun _ h => h.elim) hS hb x0 f17 wl_7_174 hl.1 (rest := []) rfl (Nat.le_of_ble_eq_true rfl) ⟨Nat.le_of_ble_eq_true rfl, Nat.le_of_ble_eq_true rfl⟩ ⟨Nat.le_of_ble_eq_true rfl, Nat.le_of_ble_eq_true rfl⟩ dX12_rowFrom_84 (fun f18 locs hf18 hS => ?_)
                refine lv_if_eq (tgt := 110) X.1 X.2.1 dX12_rowFrom_87 (by decide) (fun c19 => ?_) (fun c19 => ?_)
                · refine lv_iload X.1 X.2.1 dX12_rowFrom_110 (lv_at hl 6 rfl) ?_
                  exact sg_iretP X hr hlk hS trivial dX12_rowFrom_112
                · obtain ⟨y20, ey20⟩ : ∃ y : Int32, y = z9_8 + Int32.ofInt 1 := ⟨_, rfl⟩
                  refine lv_iinc (v := y20) (lv' := [(8, .int y20), (0, .int x0), (3, .ref a3), (4, .int z9_4), (5, .int z9_5), (6, .int w6_0), (7, .int w8_0)]) X.1 X.2.1 dX12_rowFrom_90 hl (k := 6) rfl ey20.symm (by decide) rfl (fun ls hl => ?_)
                  refine lv_iload X.1 X.2.1 dX12_rowFrom_93 (lv_at hl 3 rfl) ?_
                  refine lv_iload X.1 X.2.1 dX12_rowFrom_95 (lv_at hl 5 rfl) ?_
                  refine lv_iadd X.1 X.2.1 dX12_rowFrom_97 ?_
                  refine lv_topi (fun f21 ef21 => ?_)
                  refine lv_istore (lv' := [(4, .int f21), (8, .int y20), (0, .int x0), (3, .ref a3), (5, .int z9_5), (6, .int w6_0), (7, .int w8_0)]) X.1 X.2.1 dX12_rowFrom_98 hl (by decide) rfl (fun ls hl => ?_)
                  refine lv_iload X.1 X.2.1 dX12_rowFrom_100 (lv_at hl 4 rfl) ?_
                  refine lv_iload X.1 X.2.1 dX12_rowFrom_102 (lv_at hl 6 rfl) ?_
                  refine lv_iadd X.1 X.2.1 dX12_rowFrom_104 ?_
                  refine lv_topi (fun f22 ef22 => ?_)
                  refine lv_istore (lv' := [(5, .int f22), (4, .int f21), (8, .int y20), (0, .int x0), (3, .ref a3), (6, .int w6_0), (7, .int w8_0)]) X.1 X.2.1 dX12_rowFrom_105 hl (by decide) rfl (fun ls hl => ?_)
                  refine lv_goto (tgt := 53) X.1 X.2.1 dX12_rowFrom_107 (by decide) ?_
                  exact ih9 _ _ f21 f22 y20 hS (lv_sub hl [3, 4, 1, 0, 5, 6, 2] rfl) (iv_of (iv_add (a' := (-1)) (b' := 4) ef21 (iv_ler (c' := 0) (iv_ge_of c10) (iv_c 0 (a := 0) (b := 0) (by decide +kernel)) hz9_4 (by decide +kernel)) hw6_0 (by decide +kernel)) (a' := (-1)) (b' := 5) (by decide +kernel)) (iv_of (iv_add (a' := 1) (b' := 5) ef22 (iv_lt (b' := 4) (iv_gt_of c14) hz9_5 hf13 (by decide +kernel)) hw8_0 (by decide +kernel)) (a' := 0) (b' := 29) (by decide +kernel)) (iv_stepDv ef21 hw6_0 (iv_ler (c' := 0) (iv_ge_of c10) (iv_c 0 (a := 0) (b := 0) (by decide +kernel)) hz9_4 (by decide +kernel)) (by decide +kernel) hN9)
      exact B9_53 _ _ _ f2 f4 0 hS (lv_sub hl [2, 3, 4, 5, 6, 1, 0] rfl) (iv_of (iv_rem (a' := 0) (b' := 5) ef2 h1 hf1 (by decide +kernel)) (a' := (-1)) (b' := 5) (by decide +kernel)) (iv_div (a' := 0) (b' := 29) ef4 h1 hf3 (by decide +kernel)) (Nat.le_refl _)
    refine lv_if_ne (tgt := 47) X.1 X.2.1 dX12_rowFrom_40 (by decide) (fun c7 => ?_) (fun c7 => ?_)
    · refine lv_iconst (v := 1) X.1 X.2.1 dX12_rowFrom_47 (by decide +kernel) ?_
      exact B8_48 _ _ 1 hS (lv_sub hl [1, 3, 4, 5, 0] rfl) (iv_c 1 (a := 1) (b := 1) (by decide +kernel))
    · exact ((iv_no (a := 3) (b := 0) (iv_eqm c7 h2 (iv_c 0 (a := 0) (b := 0) (by decide +kernel)) (by decide +kernel)) (by decide +kernel))).elim
  refine lv_if_eq (tgt := 23) X.1 X.2.1 dX12_rowFrom_15 (by decide) (fun c5 => ?_) (fun c5 => ?_)
  · exact ((iv_no (a := 3) (b := 0) (iv_eqm c5 h2 (iv_c 0 (a := 0) (b := 0) (by decide +kernel)) (by decide +kernel)) (by decide +kernel))).elim
  · refine lv_iload_n X.1 X.2.1 dX12_rowFrom_18 rfl (lv_at hl 4 rfl) ?_
    refine lv_iconst (v := 2) X.1 X.2.1 dX12_rowFrom_19 (by decide +kernel) ?_
    refine lv_icmp_ne (tgt := 27) X.1 X.2.1 dX12_rowFrom_20 (by decide) (fun c23 => ?_) (fun c23 => ?_)
    · refine lv_iload_n X.1 X.2.1 dX12_rowFrom_27 rfl (lv_at hl 4 rfl) ?_
      refine lv_iconst (v := 3) X.1 X.2.1 dX12_rowFrom_28 (by decide +kernel) ?_
      refine lv_icmp_ne (tgt := 36) X.1 X.2.1 dX12_rowFrom_29 (by decide) (fun c24 => ?_) (fun c24 => ?_)
      · exact ((c24 (iv_one h2 (iv_c 3 (a := 3) (b := 3) (by decide +kernel)) (by decide +kernel)))).elim
      · refine lv_iconst (v := (-1)) X.1 X.2.1 dX12_rowFrom_32 (by decide +kernel) ?_
        refine lv_goto (tgt := 37) X.1 X.2.1 dX12_rowFrom_33 (by decide) ?_
        exact B6_37 _ _ (-1) hS (lv_sub hl [2, 4, 5, 1, 0] rfl) (iv_c (-1) (a := (-1)) (b := (-1)) (by decide +kernel))
    · exact ((iv_no (a := 3) (b := 2) (iv_eqm c23 h2 (iv_c 2 (a := 2) (b := 2) (by decide +kernel)) (by decide +kernel)) (by decide +kernel))).elim

theorem ca_X12_rowFrom_r3   (X : CallFix p m c cc nL s args sg_tbl own) (hK : va_K D vwCl tys s) (hG : sgG (KM 7 P) D vwCl (fun q : Nat => base ≤ q) tys ad ks H) (hC : sgC base s) (hA : ∀ q : Nat, A q → base ≤ q) (hS : va_S A s.heap H locs) (hb : base ≤ s.heap.size) (x0 : Int32) (x1 : Int32) (h1 : iv 0 29 x1) (x2 : Int32) (h2 : iv 3 3 x2) (a3 : Nat) (h3 : isK ad ks 50 a3) (hl : Cond.methodLink own index yX12_rowFrom ∈ sg_tbl) (hsize : ls.size = nL) (hst : st0 = [.int x0, .int x1, .int x2, .ref a3].reverse ++ rest) (hW : (rest.map fun v => v.category).sum ≤ 8) (hR : 2 ≤ R.frames ∧ 49 ≤ R.locals) (hf : cells ≤ R.cells ∧ slots ≤ R.slots) (hdg : decode cc pc = .ok (.invokestatic index, 3)) (kk : ∀ (r : Int32) (locs1 : List Loc), (fun r : Int32 => True) r → va_S A s.heap H locs1 → W p l e R s m args below meth c H locs1 cells slots Q (F0 m (pc + 3) ls (.int r :: rest))) : W p l e R s m args below meth c H locs cells slots Q (F0 m pc ls st0) :=
  sg_callPSi X hK hG hC hA hS hb (m_X12_rowFrom_r3 l x0 x1 h1 x2 h2 a3 h3) wl_7_204 wl_1_13 wl_7_203 (n := 4) (by decide +kernel) rfl rfl rfl hl hsize hst hW hR hf hdg kk

theorem m_X12_rowFrom_rc (l : Launch) {D : va_G} {base : Nat} {tys : List (ClassId × FieldType)} {ad ks : List Nat} {P : sgPm} {Hx : Heap} (x0 : Int32) (x1 : Int32) (h1 : iv 0 29 x1) (x2 : Int32) (h2 : iv 0 3 x2) (a3 : Nat) (h3 : isK ad ks 50 a3) : sgPi l (KM 7 P) D vwCl base tys ad ks Hx yX12_rowFrom cX12_rowFrom 9 (some .int) ({ frames := 1, cells := 0, slots := 0, locals := 21 }) [.int x0, .int x1, .int x2, .ref a3] (fun r : Int32 => True) := by
  by_cases e0 : x2.toInt = 0
  · exact m_X12_rowFrom_r0 l x0 x1 h1 x2 ⟨by omega, by omega⟩ a3 h3
  by_cases e1 : x2.toInt = 1
  · exact m_X12_rowFrom_r1 l x0 x1 h1 x2 ⟨by omega, by omega⟩ a3 h3
  by_cases e2 : x2.toInt = 2
  · exact m_X12_rowFrom_r2 l x0 x1 h1 x2 ⟨by omega, by omega⟩ a3 h3
  by_cases e3 : x2.toInt = 3
  · exact m_X12_rowFrom_r3 l x0 x1 h1 x2 ⟨by omega, by omega⟩ a3 h3
  exact absurd h2 (fun q => by have := q.1; have := q.2; omega)

theorem ca_X12_rowFrom_rc   (X : CallFix p m c cc nL s args sg_tbl own) (hK : va_K D vwCl tys s) (hG : sgG (KM 7 P) D vwCl (fun q : Nat => base ≤ q) tys ad ks H) (hC : sgC base s) (hA : ∀ q : Nat, A q → base ≤ q) (hS : va_S A s.heap H locs) (hb : base ≤ s.heap.size) (x0 : Int32) (x1 : Int32) (h1 : iv 0 29 x1) (x2 : Int32) (h2 : iv 0 3 x2) (a3 : Nat) (h3 : isK ad ks 50 a3) (hl : Cond.methodLink own index yX12_rowFrom ∈ sg_tbl) (hsize : ls.size = nL) (hst : st0 = [.int x0, .int x1, .int x2, .ref a3].reverse ++ rest) (hW : (rest.map fun v => v.category).sum ≤ 8) (hR : 2 ≤ R.frames ∧ 49 ≤ R.locals) (hf : cells ≤ R.cells ∧ slots ≤ R.slots) (hdg : decode cc pc = .ok (.invokestatic index, 3)) (kk : ∀ (r : Int32) (locs1 : List Loc), (fun r : Int32 => True) r → va_S A s.heap H locs1 → W p l e R s m args below meth c H locs1 cells slots Q (F0 m (pc + 3) ls (.int r :: rest))) : W p l e R s m args below meth c H locs cells slots Q (F0 m pc ls st0) :=
  sg_callPSi X hK hG hC hA hS hb (m_X12_rowFrom_rc l x0 x1 h1 x2 h2 a3 h3) wl_7_204 wl_1_13 wl_7_203 (n := 4) (by decide +kernel) rfl rfl rfl hl hsize hst hW hR hf hdg kk

set_option maxHeartbeats 8000000 in
set_option maxRecDepth 100000 in
theorem m_X12_longestIn_r (l : Launch) {D : va_G} {base : Nat} {tys : List (ClassId × FieldType)} {ad ks : List Nat} {P : sgPm} {Hx : Heap} (x0 : Int32) (a1 : Nat) (h1 : isK ad ks 50 a1) : sgPi l (KM 7 P) D vwCl base tys ad ks Hx yX12_longestIn cX12_longestIn 5 (some .int) ({ frames := 2, cells := 0, slots := 0, locals := 49 }) [.int x0, .ref a1] (fun r : Int32 => True) := by
  refine sg_ofP (Pq := fun Hx => va_Qi (fun r (_ : Unit) => (fun r : Int32 => True) r) (fun _ t => t.heap = Hx) (fun _ : Nat => False)) (by decide +kernel) (Nat.le_of_ble_eq_true rfl) (fun p e s m below meth c X hr hlk hb hK hC hG ls hl => ?_)
  have hS : va_S (fun _ : Nat => False) s.heap s.heap [] := va_S.rf
  have hl : lv_has ls 5 [(0, .int x0), (1, .ref a1)] := hl
  refine lv_iconst (v := 0) X.1 X.2.1 dX12_longestIn_0 (by decide +kernel) ?_
  refine lv_istore_n (lv' := [(2, .int 0), (0, .int x0), (1, .ref a1)]) X.1 X.2.1 dX12_longestIn_1 rfl hl (by decide) rfl (fun ls hl => ?_)
  refine lv_iconst (v := 0) X.1 X.2.1 dX12_longestIn_2 (by decide +kernel) ?_
  refine lv_istore_n (lv' := [(3, .int 0), (2, .int 0), (0, .int x0), (1, .ref a1)]) X.1 X.2.1 dX12_longestIn_3 rfl hl (by decide) rfl (fun ls hl => ?_)
  have B1_4 : ∀ (N : Nat) (locs : List Loc) (ls : Array Slot) (z1_2 : Int32) (z1_3 : Int32), va_S (fun _ : Nat => False) s.heap s.heap locs → lv_has ls 5 [(0, .int x0), (1, .ref a1), (2, .int z1_2), (3, .int z1_3)] → iv 0 2147483647 z1_2 → iv 0 30 z1_3 → (31 - z1_3.toInt).toNat ≤ N → W p l e (headSpec (Cond.code yX12_longestIn cX12_longestIn 5 (some .int) :: sg_tbl) ({ frames := 2, cells := 0, slots := 0, locals := 49 })).room s m #[.int x0, .ref a1] below meth c s.heap locs 0 0 (MQ below (va_Qi (fun r (_ : Unit) => (fun r : Int32 => True) r) (fun _ t => t.heap = s.heap) (fun _ : Nat => False)) #[.int x0, .ref a1] s 0 0 (fun _ : Nat => False)) (F0 m 4 ls []) := by
    intro N; induction N with
    | zero =>
      intro locs ls z1_2 z1_3 hS hl hz1_2 hz1_3 hN
      exact absurd hN (by have := iv_up hz1_3; omega)
    | succ N ih1 =>
      intro locs ls z1_2 z1_3 hS hl hz1_2 hz1_3 hN1
      refine lv_iload_n X.1 X.2.1 dX12_longestIn_4 rfl (lv_at hl 3 rfl) ?_
      refine lv_aload_n X.1 X.2.1 dX12_longestIn_5 rfl (lv_at hl 1 rfl) ?_
      refine lv_iconst (v := 0) X.1 X.2.1 dX12_longestIn_6 (by decide +kernel) ?_
      refine al_50m X hK hG h1 (iv_vpin (iv_c 0 (a := 0) (b := 0) (by decide +kernel)) (by decide +kernel)) dX12_longestIn_7 (fun f2 hf2 => ?_)
      have of2 := hf2
      have hf2 : iv 1 6 f2 := sg_rr7 hf2 (iv_c 0 (a := 0) (b := 0) (by decide +kernel)) (by decide +kernel) rfl
      refine lv_aload_n X.1 X.2.1 dX12_longestIn_8 rfl (lv_at hl 1 rfl) ?_
      refine lv_iconst (v := 1) X.1 X.2.1 dX12_longestIn_9 (by decide +kernel) ?_
      refine al_50m X hK hG h1 (iv_vpin (iv_c 1 (a := 1) (b := 1) (by decide +kernel)) (by decide +kernel)) dX12_longestIn_10 (fun f3 hf3 => ?_)
      have of3 := hf3
      have hf3 : iv 1 5 f3 := sg_rr7 hf3 (iv_c 1 (a := 1) (b := 1) (by decide +kernel)) (by decide +kernel) rfl
      refine lv_imul X.1 X.2.1 dX12_longestIn_11 ?_
      refine lv_topi (fun f4 ef4 => ?_)
      refine lv_icmp_ge (tgt := 49) X.1 X.2.1 dX12_longestIn_12 (by decide) (fun c5 => ?_) (fun c5 => ?_)
      · refine lv_iload_n X.1 X.2.1 dX12_longestIn_49 rfl (lv_at hl 2 rfl) ?_
        exact sg_iretP X hr hlk hS trivial dX12_longestIn_50
      · refine lv_iconst (v := 0) X.1 X.2.1 dX12_longestIn_15 (by decide +kernel) ?_
        refine lv_istore (lv' := [(4, .int 0), (0, .int x0), (1, .ref a1), (2, .int z1_2), (3, .int z1_3)]) X.1 X.2.1 dX12_longestIn_16 hl (by decide) rfl (fun ls hl => ?_)
        have B6_18 : ∀ (N : Nat) (locs : List Loc) (ls : Array Slot) (z6_2 : Int32) (z6_4 : Int32), va_S (fun _ : Nat => False) s.heap s.heap locs → lv_has ls 5 [(0, .int x0), (1, .ref a1), (2, .int z6_2), (3, .int z1_3), (4, .int z6_4)] → iv 0 2147483647 z6_2 → iv 0 4 z6_4 → (5 - z6_4.toInt).toNat ≤ N → W p l e (headSpec (Cond.code yX12_longestIn cX12_longestIn 5 (some .int) :: sg_tbl) ({ frames := 2, cells := 0, slots := 0, locals := 49 })).room s m #[.int x0, .ref a1] below meth c s.heap locs 0 0 (MQ below (va_Qi (fun r (_ : Unit) => (fun r : Int32 => True) r) (fun _ t => t.heap = s.heap) (fun _ : Nat => False)) #[.int x0, .ref a1] s 0 0 (fun _ : Nat => False)) (F0 m 18 ls []) := by
          intro N; induction N with
          | zero =>
            intro locs ls z6_2 z6_4 hS hl hz6_2 hz6_4 hN
            exact absurd hN (by have := iv_up hz6_4; omega)
          | succ N ih6 =>
            intro locs ls z6_2 z6_4 hS hl hz6_2 hz6_4 hN6
            refine lv_iload X.1 X.2.1 dX12_longestIn_18 (lv_at hl 4 rfl) ?_
            refine lv_iconst (v := 4) X.1 X.2.1 dX12_longestIn_20 (by decide +kernel) ?_
            refine lv_icmp_ge (tgt := 43) X.1 X.2.1 dX12_longestIn_21 (by decide) (fun c7 => ?_) (fun c7 => ?_)
            · obtain ⟨y8, ey8⟩ : ∃ y : Int32, y = z1_3 + Int32.ofInt 1 := ⟨_, rfl⟩
              refine lv_iinc (v := y8) (lv' := [(3, .int y8), (0, .int x0), (1, .ref a1), (2, .int z6_2), (4, .int z6_4)]) X.1 X.2.1 dX12_longestIn_43 hl (k := 3) rfl ey8.symm (by decide) rfl (fun ls hl => ?_)
              refine lv_goto (tgt := 4) X.1 X.2.1 dX12_longestIn_46 (by decide) ?_
              exact ih1 _ _ z6_2 y8 hS (lv_sub hl [1, 2, 3, 0] rfl) hz6_2 (iv_of (iv_add (a' := 1) (b' := 30) ey8 (iv_lt (b' := 29) (iv_gt_of c5) hz1_3 (iv_mul (a' := 1) (b' := 30) ef4 hf2 hf3 (by decide +kernel)) (by decide +kernel)) (iv_c _ (a := 1) (b := 1) (by decide +kernel)) (by decide +kernel)) (a' := 0) (b' := 30) (by decide +kernel)) (iv_stepU ey8 (iv_lt (b' := 29) (iv_gt_of c5) hz1_3 (iv_mul (a' := 1) (b' := 30) ef4 hf2 hf3 (by decide +kernel)) (by decide +kernel)) (by decide +kernel) hN1)
            · refine lv_iload_n X.1 X.2.1 dX12_longestIn_24 rfl (lv_at hl 2 rfl) ?_
              refine lv_iload_n X.1 X.2.1 dX12_longestIn_25 rfl (lv_at hl 0 rfl) ?_
              refine lv_iload_n X.1 X.2.1 dX12_longestIn_26 rfl (lv_at hl 3 rfl) ?_
              refine lv_iload X.1 X.2.1 dX12_longestIn_27 (lv_at hl 4 rfl) ?_
              refine lv_aload_n X.1 X.2.1 dX12_longestIn_29 rfl (lv_at hl 1 rfl) ?_
              refine ca_X12_rowFrom_rc X hK hG hC (fun _ h => h.elim) hS hb x0 z1_3 (iv_lt (b' := 29) (iv_gt_of c5) hz1_3 (iv_mul (a' := 1) (b' := 30) ef4 hf2 hf3 (by decide +kernel)) (by decide +kernel)) z6_4 (iv_lt (b' := 3) (iv_gt_of c7) hz6_4 (iv_c 4 (a := 4) (b := 4) (by decide +kernel)) (by decide +kernel)) a1 h1 wl_7_202 hl.1 (rest := [.int z6_2]) rfl (Nat.le_of_ble_eq_true rfl) ⟨Nat.le_of_ble_eq_true rfl, Nat.le_of_ble_eq_true rfl⟩ ⟨Nat.le_of_ble_eq_true rfl, Nat.le_of_ble_eq_true rfl⟩ dX12_longestIn_30 (fun f9 locs hf9 hS => ?_)
              refine va_mmax X.1 X.2.1 (X.2.2.1.trans hl.1.symm) X.2.2.2.1 (X.2.2.2.2 _ wl_7_205) (X.2.2.2.2 _ wl_3_100) (X.2.2.2.2 _ wl_1_15) (X.2.2.2.2 _ wl_3_101) (Nat.le_of_ble_eq_true rfl) (Nat.le_of_ble_eq_true rfl) (Nat.le_of_ble_eq_true rfl) (Nat.le_of_ble_eq_true rfl) dX12_longestIn_33 ?_
              refine lv_topi (fun f10 ef10 => ?_)
              refine lv_istore_n (lv' := [(2, .int f10), (0, .int x0), (1, .ref a1), (3, .int z1_3), (4, .int z6_4)]) X.1 X.2.1 dX12_longestIn_36 rfl hl (by decide) rfl (fun ls hl => ?_)
              obtain ⟨y11, ey11⟩ : ∃ y : Int32, y = z6_4 + Int32.ofInt 1 := ⟨_, rfl⟩
              refine lv_iinc (v := y11) (lv' := [(4, .int y11), (2, .int f10), (0, .int x0), (1, .ref a1), (3, .int z1_3)]) X.1 X.2.1 dX12_longestIn_37 hl (k := 4) rfl ey11.symm (by decide) rfl (fun ls hl => ?_)
              refine lv_goto (tgt := 18) X.1 X.2.1 dX12_longestIn_40 (by decide) ?_
              exact ih6 _ _ f10 y11 hS (lv_sub hl [2, 3, 1, 4, 0] rfl) (iv_max (a' := 0) (b' := 2147483647) ef10 hz6_2 (iv_top f9) (by decide +kernel)) (iv_of (iv_add (a' := 1) (b' := 4) ey11 (iv_lt (b' := 3) (iv_gt_of c7) hz6_4 (iv_c 4 (a := 4) (b := 4) (by decide +kernel)) (by decide +kernel)) (iv_c _ (a := 1) (b := 1) (by decide +kernel)) (by decide +kernel)) (a' := 0) (b' := 4) (by decide +kernel)) (iv_stepU ey11 (iv_lt (b' := 3) (iv_gt_of c7) hz6_4 (iv_c 4 (a := 4) (b := 4) (by decide +kernel)) (by decide +kernel)) (by decide +kernel) hN6)
        exact B6_18 _ _ _ z1_2 0 hS (lv_sub hl [1, 2, 3, 4, 0] rfl) hz1_2 (iv_of (iv_c 0 (a := 0) (b := 0) (by decide +kernel)) (a' := 0) (b' := 4) (by decide +kernel)) (Nat.le_refl _)
  exact B1_4 _ _ _ 0 0 hS (lv_sub hl [2, 3, 1, 0] rfl) (iv_of (iv_c 0 (a := 0) (b := 0) (by decide +kernel)) (a' := 0) (b' := 2147483647) (by decide +kernel)) (iv_of (iv_c 0 (a := 0) (b := 0) (by decide +kernel)) (a' := 0) (b' := 30) (by decide +kernel)) (Nat.le_refl _)

theorem ca_X12_longestIn_r   (X : CallFix p m c cc nL s args sg_tbl own) (hK : va_K D vwCl tys s) (hG : sgG (KM 7 P) D vwCl (fun q : Nat => base ≤ q) tys ad ks H) (hC : sgC base s) (hA : ∀ q : Nat, A q → base ≤ q) (hS : va_S A s.heap H locs) (hb : base ≤ s.heap.size) (x0 : Int32) (a1 : Nat) (h1 : isK ad ks 50 a1) (hl : Cond.methodLink own index yX12_longestIn ∈ sg_tbl) (hsize : ls.size = nL) (hst : st0 = [.int x0, .ref a1].reverse ++ rest) (hW : (rest.map fun v => v.category).sum ≤ 8) (hR : 3 ≤ R.frames ∧ 73 ≤ R.locals) (hf : cells ≤ R.cells ∧ slots ≤ R.slots) (hdg : decode cc pc = .ok (.invokestatic index, 3)) (kk : ∀ (r : Int32) (locs1 : List Loc), (fun r : Int32 => True) r → va_S A s.heap H locs1 → W p l e R s m args below meth c H locs1 cells slots Q (F0 m (pc + 3) ls (.int r :: rest))) : W p l e R s m args below meth c H locs cells slots Q (F0 m pc ls st0) :=
  sg_callPSi X hK hG hC hA hS hb (m_X12_longestIn_r l x0 a1 h1) wl_7_201 wl_1_13 wl_7_200 (n := 2) (by decide +kernel) rfl rfl rfl hl hsize hst hW hR hf hdg kk

set_option maxHeartbeats 8000000 in
set_option maxRecDepth 100000 in
theorem m_X12_hasLine_r (l : Launch) {D : va_G} {base : Nat} {tys : List (ClassId × FieldType)} {ad ks : List Nat} {P : sgPm} {Hx : Heap} (x0 : Int32) (a1 : Nat) (h1 : isK ad ks 50 a1) : sgPi l (KM 7 P) D vwCl base tys ad ks Hx yX12_hasLine cX12_hasLine 2 (some .boolean) ({ frames := 3, cells := 0, slots := 0, locals := 73 }) [.int x0, .ref a1] (fun r : Int32 => iv 0 1 r) := by
  refine sg_ofP (Pq := fun Hx => va_Qi (fun r (_ : Unit) => (fun r : Int32 => iv 0 1 r) r) (fun _ t => t.heap = Hx) (fun _ : Nat => False)) (by decide +kernel) (Nat.le_of_ble_eq_true rfl) (fun p e s m below meth c X hr hlk hb hK hC hG ls hl => ?_)
  have hS : va_S (fun _ : Nat => False) s.heap s.heap [] := va_S.rf
  have hl : lv_has ls 2 [(0, .int x0), (1, .ref a1)] := hl
  refine lv_iload_n X.1 X.2.1 dX12_hasLine_0 rfl (lv_at hl 0 rfl) ?_
  refine lv_aload_n X.1 X.2.1 dX12_hasLine_1 rfl (lv_at hl 1 rfl) ?_
  refine ca_X12_longestIn_r X hK hG hC (fun _ h => h.elim) hS hb x0 a1 h1 wl_7_199 hl.1 (rest := []) rfl (Nat.le_of_ble_eq_true rfl) ⟨Nat.le_of_ble_eq_true rfl, Nat.le_of_ble_eq_true rfl⟩ ⟨Nat.le_of_ble_eq_true rfl, Nat.le_of_ble_eq_true rfl⟩ dX12_hasLine_2 (fun f1 locs hf1 hS => ?_)
  refine lv_aload_n X.1 X.2.1 dX12_hasLine_5 rfl (lv_at hl 1 rfl) ?_
  refine lv_iconst (v := 2) X.1 X.2.1 dX12_hasLine_6 (by decide +kernel) ?_
  refine al_50m X hK hG h1 (iv_vpin (iv_c 2 (a := 2) (b := 2) (by decide +kernel)) (by decide +kernel)) dX12_hasLine_7 (fun f2 hf2 => ?_)
  have of2 := hf2
  have hf2 : iv 2 5 f2 := sg_rr7 hf2 (iv_c 2 (a := 2) (b := 2) (by decide +kernel)) (by decide +kernel) rfl
  refine lv_icmp_lt (tgt := 15) X.1 X.2.1 dX12_hasLine_8 (by decide) (fun c3 => ?_) (fun c3 => ?_)
  · refine lv_iconst (v := 0) X.1 X.2.1 dX12_hasLine_15 (by decide +kernel) ?_
    exact sg_zretP X hr (sg_zn (iv_of (iv_c 0 (a := 0) (b := 0) (by decide +kernel)) (a' := 0) (b' := 1) (by decide +kernel))) hlk hS (iv_of (iv_c 0 (a := 0) (b := 0) (by decide +kernel)) (a' := 0) (b' := 1) (by decide +kernel)) dX12_hasLine_16
  · refine lv_iconst (v := 1) X.1 X.2.1 dX12_hasLine_11 (by decide +kernel) ?_
    refine lv_goto (tgt := 16) X.1 X.2.1 dX12_hasLine_12 (by decide) ?_
    exact sg_zretP X hr (sg_zn (iv_of (iv_c 1 (a := 1) (b := 1) (by decide +kernel)) (a' := 0) (b' := 1) (by decide +kernel))) hlk hS (iv_of (iv_c 1 (a := 1) (b := 1) (by decide +kernel)) (a' := 0) (b' := 1) (by decide +kernel)) dX12_hasLine_16

theorem ca_X12_hasLine_r   (X : CallFix p m c cc nL s args sg_tbl own) (hK : va_K D vwCl tys s) (hG : sgG (KM 7 P) D vwCl (fun q : Nat => base ≤ q) tys ad ks H) (hC : sgC base s) (hA : ∀ q : Nat, A q → base ≤ q) (hS : va_S A s.heap H locs) (hb : base ≤ s.heap.size) (x0 : Int32) (a1 : Nat) (h1 : isK ad ks 50 a1) (hl : Cond.methodLink own index yX12_hasLine ∈ sg_tbl) (hsize : ls.size = nL) (hst : st0 = [.int x0, .ref a1].reverse ++ rest) (hW : (rest.map fun v => v.category).sum ≤ 8) (hR : 4 ≤ R.frames ∧ 94 ≤ R.locals) (hf : cells ≤ R.cells ∧ slots ≤ R.slots) (hdg : decode cc pc = .ok (.invokestatic index, 3)) (kk : ∀ (r : Int32) (locs1 : List Loc), (fun r : Int32 => iv 0 1 r) r → va_S A s.heap H locs1 → W p l e R s m args below meth c H locs1 cells slots Q (F0 m (pc + 3) ls (.int r :: rest))) : W p l e R s m args below meth c H locs cells slots Q (F0 m pc ls st0) :=
  sg_callPSi X hK hG hC hA hS hb (m_X12_hasLine_r l x0 a1 h1) wl_7_198 wl_1_13 wl_7_197 (n := 2) (by decide +kernel) rfl rfl rfl hl hsize hst hW hR hf hdg kk
end
