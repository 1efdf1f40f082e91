
section
variable {p : Program} {l : Launch} {e : Env} {R : Room} {s : State} {m : MethodId} {args : Array Value} {below : List Frame} {meth : Method} {c : Code} {H : Heap} {locs : List Loc} {cells slots : Nat} {Q : State → Prop} {cc : ByteArray} {nL pc : Nat} {ls : Array Slot} {rest : List Value} {own : String} {D : va_G} {A : Nat → Prop} {tys : List (ClassId × FieldType)} {ad ks : List Nat} {P : sgPm} {H0 : Heap} {index : Nat} {base : Nat} {st0 : List Value} {a : Nat}

set_option maxHeartbeats 8000000 in
set_option maxRecDepth 100000 in
theorem m_X12_cutBits_p (l : Launch) {D : va_G} {base : Nat} {tys : List (ClassId × FieldType)} {ad ks : List Nat} {P : sgPm} {Hx : Heap} (hp4 : P.2.2.2.2.1 = true) (a0 : Nat) (h0 : isK ad ks 12 a0) (x1 : Int32) (x2 : Int32) (x3 : Int32) (x4 : Int32) : sgPi l (KT P) D vwCl base tys ad ks Hx yX12_cutBits cX12_cutBits 7 (some .int) ({ frames := 2, cells := 0, slots := 0, locals := 49 }) [.ref a0, .int x1, .int x2, .int x3, .int x4] (fun r : Int32 => ¬ r = -1 → sgHas r x2) := by
  refine sg_ofP (Pq := fun Hx => va_Qi (fun r (_ : Unit) => (fun r : Int32 => ¬ r = -1 → sgHas r x2) r) (fun _ t => t.heap = Hx) (fun _ : Nat => False)) (by decide +kernel) (Nat.le_of_ble_eq_true rfl) (fun p e s m below meth c X hr hlk hb hK hC hG ls hl => ?_)
  have hS : va_S (fun _ : Nat => False) s.heap s.heap [] := va_S.rf
  have hl : lv_has ls 7 [(0, .ref a0), (1, .int x1), (2, .int x2), (3, .int x3), (4, .int x4)] := hl
  refine lv_aload_n X.1 X.2.1 dX12_cutBits_0 rfl (lv_at hl 0 rfl) ?_
  refine lv_iload_n X.1 X.2.1 dX12_cutBits_1 rfl (lv_at hl 2 rfl) ?_
  refine ca_X12_isCell_1 X hK hG hC (fun _ h => h.elim) hS hb hp4 a0 h0 x2 wl_8_55 hl.1 (rest := []) rfl (Nat.le_of_ble_eq_true rfl) ⟨Nat.le_of_ble_eq_true rfl, Nat.le_of_ble_eq_true rfl⟩ ⟨Nat.le_of_ble_eq_true rfl, Nat.le_of_ble_eq_true rfl⟩ dX12_cutBits_2 (fun f1 locs hf1 hS => ?_)
  refine lv_if_eq (tgt := 50) X.1 X.2.1 dX12_cutBits_5 (by decide) (fun c2 => ?_) (fun c2 => ?_)
  · refine lv_iconst (v := (-1)) X.1 X.2.1 dX12_cutBits_50 (by decide +kernel) ?_
    exact sg_iretP X hr hlk hS (fun h => absurd rfl h) dX12_cutBits_51
  · refine lv_iload_n X.1 X.2.1 dX12_cutBits_8 rfl (lv_at hl 3 rfl) ?_
    obtain ⟨g3, eg3⟩ : ∃ y : Int64, y = (x3 : Int32).toInt64 := ⟨_, rfl⟩
    refine lv_i2l (v := g3) X.1 X.2.1 dX12_cutBits_9 eg3.symm ?_
    refine lv_lconst (v := 0) X.1 X.2.1 dX12_cutBits_10 (by decide +kernel) ?_
    refine lv_lconst (v := 1) X.1 X.2.1 dX12_cutBits_11 (by decide +kernel) ?_
    refine ca_X12_isIn X hK hG hC (fun _ h => h.elim) hS hb g3 0 1 wl_7_119 hl.1 (rest := []) rfl (Nat.le_of_ble_eq_true rfl) ⟨Nat.le_of_ble_eq_true rfl, Nat.le_of_ble_eq_true rfl⟩ ⟨Nat.le_of_ble_eq_true rfl, Nat.le_of_ble_eq_true rfl⟩ dX12_cutBits_12 (fun f4 locs hf4 hS => ?_)
    refine lv_if_eq (tgt := 50) X.1 X.2.1 dX12_cutBits_15 (by decide) (fun c5 => ?_) (fun c5 => ?_)
    · refine lv_iconst (v := (-1)) X.1 X.2.1 dX12_cutBits_50 (by decide +kernel) ?_
      exact sg_iretP X hr hlk hS (fun h => absurd rfl h) dX12_cutBits_51
    · refine lv_iload X.1 X.2.1 dX12_cutBits_18 (lv_at hl 4 rfl) ?_
      obtain ⟨g6, eg6⟩ : ∃ y : Int64, y = (x4 : Int32).toInt64 := ⟨_, rfl⟩
      refine lv_i2l (v := g6) X.1 X.2.1 dX12_cutBits_20 eg6.symm ?_
      refine lv_lconst (v := 1) X.1 X.2.1 dX12_cutBits_21 (by decide +kernel) ?_
      refine lv_aload_n X.1 X.2.1 dX12_cutBits_22 rfl (lv_at hl 0 rfl) ?_
      refine gf_X12_18 X hK hG h0 wl_6_196 dX12_cutBits_23 (fun q7 hq7 kq7 => ?_)
      refine lv_iconst (v := 3) X.1 X.2.1 dX12_cutBits_26 (by decide +kernel) ?_
      refine al_49 X hK hG hq7 (iv_vpin (iv_c 3 (a := 3) (b := 3) (by decide +kernel)) (by decide +kernel)) dX12_cutBits_27 (fun f8 hf8 => ?_)
      have of8 := hf8
      have hf8 : iv 1 5 f8 := sg_r1 hp4 hf8 (iv_c 3 (a := 3) (b := 3) (by decide +kernel)) (by decide +kernel) rfl
      obtain ⟨g9, eg9⟩ : ∃ y : Int64, y = (f8 : Int32).toInt64 := ⟨_, rfl⟩
      refine lv_i2l (v := g9) X.1 X.2.1 dX12_cutBits_28 eg9.symm ?_
      refine ca_X12_isIn X hK hG hC (fun _ h => h.elim) hS hb g6 1 g9 wl_7_119 hl.1 (rest := []) rfl (Nat.le_of_ble_eq_true rfl) ⟨Nat.le_of_ble_eq_true rfl, Nat.le_of_ble_eq_true rfl⟩ ⟨Nat.le_of_ble_eq_true rfl, Nat.le_of_ble_eq_true rfl⟩ dX12_cutBits_29 (fun f10 locs hf10 hS => ?_)
      refine lv_if_eq (tgt := 50) X.1 X.2.1 dX12_cutBits_32 (by decide) (fun c11 => ?_) (fun c11 => ?_)
      · refine lv_iconst (v := (-1)) X.1 X.2.1 dX12_cutBits_50 (by decide +kernel) ?_
        exact sg_iretP X hr hlk hS (fun h => absurd rfl h) dX12_cutBits_51
      · have ilq12 : x4.toInt ≤ f8.toInt := sg_isinI (hf10.2 c11) eg6 eg9
        refine lv_iload_n X.1 X.2.1 dX12_cutBits_35 rfl (lv_at hl 1 rfl) ?_
        refine lv_iload_n X.1 X.2.1 dX12_cutBits_36 rfl (lv_at hl 2 rfl) ?_
        refine lv_iload_n X.1 X.2.1 dX12_cutBits_37 rfl (lv_at hl 3 rfl) ?_
        refine lv_aload_n X.1 X.2.1 dX12_cutBits_38 rfl (lv_at hl 0 rfl) ?_
        refine gg_X12_18 X hK hG h0 wl_6_196 kq7 dX12_cutBits_39 ?_
        refine ca_X12_rowFrom_c X hK hG hC (fun _ h => h.elim) hS hb hp4 x1 x2 (hf1.2 c2) x3 (iv_of (sg_isin (a := 0) (b := 1) (hf4.2 c5) eg3 (by decide +kernel) (by decide +kernel)) (a' := 0) (b' := 3) (by decide +kernel)) q7 hq7 wl_7_202 hl.1 (rest := []) rfl (Nat.le_of_ble_eq_true rfl) ⟨Nat.le_of_ble_eq_true rfl, Nat.le_of_ble_eq_true rfl⟩ ⟨Nat.le_of_ble_eq_true rfl, Nat.le_of_ble_eq_true rfl⟩ dX12_cutBits_42 (fun f13 locs hf13 hS => ?_)
        refine lv_iload X.1 X.2.1 dX12_cutBits_45 (lv_at hl 4 rfl) ?_
        refine lv_icmp_ge (tgt := 52) X.1 X.2.1 dX12_cutBits_47 (by decide) (fun c14 => ?_) (fun c14 => ?_)
        · refine lv_iconst (v := 0) X.1 X.2.1 dX12_cutBits_52 (by decide +kernel) ?_
          refine lv_istore (lv' := [(5, .int 0), (0, .ref a0), (1, .int x1), (2, .int x2), (3, .int x3), (4, .int x4)]) X.1 X.2.1 dX12_cutBits_53 hl (by decide) rfl (fun ls hl => ?_)
          refine lv_iconst (v := 0) X.1 X.2.1 dX12_cutBits_55 (by decide +kernel) ?_
          refine lv_istore (lv' := [(6, .int 0), (5, .int 0), (0, .ref a0), (1, .int x1), (2, .int x2), (3, .int x3), (4, .int x4)]) X.1 X.2.1 dX12_cutBits_56 hl (by decide) rfl (fun ls hl => ?_)
          have B15_58 : ∀ (N : Nat) (locs : List Loc) (ls : Array Slot) (z15_5 : Int32) (z15_6 : Int32), va_S (fun _ : Nat => False) s.heap s.heap locs → lv_has ls 7 [(0, .ref a0), (2, .int x2), (3, .int x3), (4, .int x4), (5, .int z15_5), (6, .int z15_6)] → iv 0 5 z15_6 → z15_6.toInt ≤ 0 ∨ sgHas z15_5 x2 → (6 - z15_6.toInt).toNat ≤ N → W p l e (headSpec (Cond.code yX12_cutBits cX12_cutBits 7 (some .int) :: sg_tbl) ({ frames := 2, cells := 0, slots := 0, locals := 49 })).room s m #[.ref a0, .int x1, .int x2, .int x3, .int x4] below meth c s.heap locs 0 0 (MQ below (va_Qi (fun r (_ : Unit) => (fun r : Int32 => ¬ r = -1 → sgHas r x2) r) (fun _ t => t.heap = s.heap) (fun _ : Nat => False)) #[.ref a0, .int x1, .int x2, .int x3, .int x4] s 0 0 (fun _ : Nat => False)) (F0 m 58 ls []) := by
            intro N; induction N with
            | zero =>
              intro locs ls z15_5 z15_6 hS hl hz15_6 xf15 hN
              exact absurd hN (by have := iv_up hz15_6; omega)
            | succ N ih15 =>
              intro locs ls z15_5 z15_6 hS hl hz15_6 xf15 hN15
              refine lv_iload X.1 X.2.1 dX12_cutBits_58 (lv_at hl 5 rfl) ?_
              refine lv_iload X.1 X.2.1 dX12_cutBits_60 (lv_at hl 3 rfl) ?_
              refine lv_icmp_ge (tgt := 97) X.1 X.2.1 dX12_cutBits_62 (by decide) (fun c16 => ?_) (fun c16 => ?_)
              · refine lv_iload X.1 X.2.1 dX12_cutBits_97 (lv_at hl 4 rfl) ?_
                have bq17 : 1 ≤ z15_6.toInt ∧ z15_6.toInt ≤ 5 := (iv_ler (c' := 1) c16 (sg_isin (a := 1) (b := 5) (hf10.2 c11) eg6 (by decide +kernel) (sg_lbu eg9 hf8)) hz15_6 (by decide +kernel))
                have bq18 : (-2147483648) ≤ f13.toInt ∧ f13.toInt ≤ 2147483647 := (iv_top f13)
                have bq19 : 1 ≤ x4.toInt ∧ x4.toInt ≤ 5 := (sg_isin (a := 1) (b := 5) (hf10.2 c11) eg6 (by decide +kernel) (sg_lbu eg9 hf8))
                have rr20 : (x4 : Int32).toInt ≤ (f13 : Int32).toInt := Int32.le_iff_toInt_le.mp c14
                have rr21 : (x4 : Int32).toInt ≤ (z15_6 : Int32).toInt := Int32.le_iff_toInt_le.mp c16
                exact sg_iretP X hr hlk hS (fun _ => xf15.resolve_left (by omega)) dX12_cutBits_99
              · refine lv_iload X.1 X.2.1 dX12_cutBits_65 (lv_at hl 4 rfl) ?_
                refine lv_iconst (v := 1) X.1 X.2.1 dX12_cutBits_67 (by decide +kernel) ?_
                refine lv_iload_n X.1 X.2.1 dX12_cutBits_68 rfl (lv_at hl 1 rfl) ?_
                refine lv_iload X.1 X.2.1 dX12_cutBits_69 (lv_at hl 5 rfl) ?_
                refine lv_iload_n X.1 X.2.1 dX12_cutBits_71 rfl (lv_at hl 2 rfl) ?_
                refine lv_if_ne (tgt := 79) X.1 X.2.1 dX12_cutBits_72 (by decide) (fun c22 => ?_) (fun c22 => ?_)
                · refine lv_aload_n X.1 X.2.1 dX12_cutBits_79 rfl (lv_at hl 0 rfl) ?_
                  refine gg_X12_18 X hK hG h0 wl_6_196 kq7 dX12_cutBits_80 ?_
                  refine lv_iconst (v := 0) X.1 X.2.1 dX12_cutBits_83 (by decide +kernel) ?_
                  refine al_49 X hK hG hq7 (iv_vpin (iv_c 0 (a := 0) (b := 0) (by decide +kernel)) (by decide +kernel)) dX12_cutBits_84 (fun f23 hf23 => ?_)
                  have of23 := hf23
                  have hf23 : iv 1 6 f23 := sg_r1 hp4 hf23 (iv_c 0 (a := 0) (b := 0) (by decide +kernel)) (by decide +kernel) rfl
                  refine lv_imul X.1 X.2.1 dX12_cutBits_85 ?_
                  refine lv_topi (fun f24 ef24 => ?_)
                  refine lv_iadd X.1 X.2.1 dX12_cutBits_86 ?_
                  refine lv_topi (fun f25 ef25 => ?_)
                  refine lv_ishl X.1 X.2.1 dX12_cutBits_87 ?_
                  refine lv_topi (fun f26 ef26 => ?_)
                  refine lv_ior X.1 X.2.1 dX12_cutBits_88 ?_
                  refine lv_topi (fun f27 ef27 => ?_)
                  refine lv_istore (lv' := [(5, .int f27), (0, .ref a0), (2, .int x2), (3, .int x3), (4, .int x4), (6, .int z15_6)]) X.1 X.2.1 dX12_cutBits_89 hl (by decide) rfl (fun ls hl => ?_)
                  obtain ⟨y28, ey28⟩ : ∃ y : Int32, y = z15_6 + Int32.ofInt 1 := ⟨_, rfl⟩
                  refine lv_iinc (v := y28) (lv' := [(6, .int y28), (5, .int f27), (0, .ref a0), (2, .int x2), (3, .int x3), (4, .int x4)]) X.1 X.2.1 dX12_cutBits_91 hl (k := 5) rfl ey28.symm (by decide) rfl (fun ls hl => ?_)
                  refine lv_goto (tgt := 58) X.1 X.2.1 dX12_cutBits_94 (by decide) ?_
                  exact ih15 _ _ f27 y28 hS (lv_sub hl [2, 3, 4, 5, 1, 0] rfl) (iv_of (iv_add (a' := 1) (b' := 5) ey28 (iv_lt (b' := 4) (iv_gt_of c16) hz15_6 (sg_isin (a := 1) (b := 5) (hf10.2 c11) eg6 (by decide +kernel) (sg_lbu eg9 hf8)) (by decide +kernel)) (iv_c _ (a := 1) (b := 1) (by decide +kernel)) (by decide +kernel)) (a' := 0) (b' := 5) (by decide +kernel)) (Or.inr (cb_step xf15 ((iv_lt (b' := 4) (iv_gt_of c16) hz15_6 (sg_isin (a := 1) (b := 5) (hf10.2 c11) eg6 (by decide +kernel) (sg_lbu eg9 hf8)) (by decide +kernel))).1 ef24 ef25 ef26 ef27)) (iv_stepU ey28 (iv_lt (b' := 4) (iv_gt_of c16) hz15_6 (sg_isin (a := 1) (b := 5) (hf10.2 c11) eg6 (by decide +kernel) (sg_lbu eg9 hf8)) (by decide +kernel)) (by decide +kernel) hN15)
                · refine lv_iconst (v := 1) X.1 X.2.1 dX12_cutBits_75 (by decide +kernel) ?_
                  refine lv_goto (tgt := 85) X.1 X.2.1 dX12_cutBits_76 (by decide) ?_
                  refine lv_imul X.1 X.2.1 dX12_cutBits_85 ?_
                  refine lv_topi (fun f29 ef29 => ?_)
                  refine lv_iadd X.1 X.2.1 dX12_cutBits_86 ?_
                  refine lv_topi (fun f30 ef30 => ?_)
                  refine lv_ishl X.1 X.2.1 dX12_cutBits_87 ?_
                  refine lv_topi (fun f31 ef31 => ?_)
                  refine lv_ior X.1 X.2.1 dX12_cutBits_88 ?_
                  refine lv_topi (fun f32 ef32 => ?_)
                  refine lv_istore (lv' := [(5, .int f32), (0, .ref a0), (2, .int x2), (3, .int x3), (4, .int x4), (6, .int z15_6)]) X.1 X.2.1 dX12_cutBits_89 hl (by decide) rfl (fun ls hl => ?_)
                  obtain ⟨y33, ey33⟩ : ∃ y : Int32, y = z15_6 + Int32.ofInt 1 := ⟨_, rfl⟩
                  refine lv_iinc (v := y33) (lv' := [(6, .int y33), (5, .int f32), (0, .ref a0), (2, .int x2), (3, .int x3), (4, .int x4)]) X.1 X.2.1 dX12_cutBits_91 hl (k := 5) rfl ey33.symm (by decide) rfl (fun ls hl => ?_)
                  refine lv_goto (tgt := 58) X.1 X.2.1 dX12_cutBits_94 (by decide) ?_
                  exact ih15 _ _ f32 y33 hS (lv_sub hl [2, 3, 4, 5, 1, 0] rfl) (iv_of (iv_add (a' := 1) (b' := 5) ey33 (iv_lt (b' := 4) (iv_gt_of c16) hz15_6 (sg_isin (a := 1) (b := 5) (hf10.2 c11) eg6 (by decide +kernel) (sg_lbu eg9 hf8)) (by decide +kernel)) (iv_c _ (a := 1) (b := 1) (by decide +kernel)) (by decide +kernel)) (a' := 0) (b' := 5) (by decide +kernel)) (Or.inr (cb_step xf15 ((iv_lt (b' := 4) (iv_gt_of c16) hz15_6 (sg_isin (a := 1) (b := 5) (hf10.2 c11) eg6 (by decide +kernel) (sg_lbu eg9 hf8)) (by decide +kernel))).1 ef29 ef30 ef31 ef32)) (iv_stepU ey33 (iv_lt (b' := 4) (iv_gt_of c16) hz15_6 (sg_isin (a := 1) (b := 5) (hf10.2 c11) eg6 (by decide +kernel) (sg_lbu eg9 hf8)) (by decide +kernel)) (by decide +kernel) hN15)
          exact B15_58 _ _ _ 0 0 hS (lv_sub hl [2, 4, 5, 6, 1, 0] rfl) (iv_of (iv_c 0 (a := 0) (b := 0) (by decide +kernel)) (a' := 0) (b' := 5) (by decide +kernel)) (Or.inl (by decide +kernel)) (Nat.le_refl _)
        · refine lv_iconst (v := (-1)) X.1 X.2.1 dX12_cutBits_50 (by decide +kernel) ?_
          exact sg_iretP X hr hlk hS (fun h => absurd rfl h) dX12_cutBits_51

theorem ca_X12_cutBits_p   (X : CallFix p m c cc nL s args sg_tbl own) (hK : va_K D vwCl tys s) (hG : sgG (KT P) D vwCl (fun q : Nat => base ≤ q) tys ad ks H) (hC : sgC base s) (hA : ∀ q : Nat, A q → base ≤ q) (hS : va_S A s.heap H locs) (hb : base ≤ s.heap.size) (hp4 : P.2.2.2.2.1 = true) (a0 : Nat) (h0 : isK ad ks 12 a0) (x1 : Int32) (x2 : Int32) (x3 : Int32) (x4 : Int32) (hl : Cond.methodLink own index yX12_cutBits ∈ sg_tbl) (hsize : ls.size = nL) (hst : st0 = [.int x1, .int x2, .int x3, .int x4].reverse ++ .ref a0 :: rest) (hW : (rest.map fun v => v.category).sum ≤ 8) (hR : 3 ≤ R.frames ∧ 75 ≤ R.locals) (hf : cells ≤ R.cells ∧ slots ≤ R.slots) (hdg : decode cc pc = .ok (.invokevirtual index, 3)) (kk : ∀ (r : Int32) (locs1 : List Loc), (fun r : Int32 => ¬ r = -1 → sgHas r x2) r → va_S A s.heap H locs1 → W p l e R s m args below meth c H locs1 cells slots Q (F0 m (pc + 3) ls (.int r :: rest))) : W p l e R s m args below meth c H locs cells slots Q (F0 m pc ls st0) :=
  sg_callPVi X hK hG hC hA hS hb (m_X12_cutBits_p l hp4 a0 h0 x1 x2 x3 x4) h0 (k := 12) (ci := 12) rfl (C := RX12) (T := TX12) (N := 53) rfl wl_8_124 wl_1_13 wl_8_123 wl_0_82 (n := 4) (by decide +kernel) rfl rfl rfl hl hsize hst hW hR hf hdg kk
end
