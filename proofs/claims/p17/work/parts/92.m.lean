
section
variable {p : Program} {l : Launch} {e : Env} {R : Room} {s : State} {m : MethodId} {args : Array Value} {below : List Frame} {meth : Method} {c : Code} {H : Heap} {locs : List Loc} {cells slots : Nat} {Q : State → Prop} {cc : ByteArray} {nL pc : Nat} {ls : Array Slot} {rest : List Value} {own : String} {D : va_G} {A : Nat → Prop} {tys : List (ClassId × FieldType)} {ad ks : List Nat} {P : sgPm} {H0 : Heap} {index : Nat} {base : Nat} {st0 : List Value} {a : Nat}

set_option maxHeartbeats 8000000 in
set_option maxRecDepth 100000 in
theorem m_X12_gathered_q (l : Launch) {D : va_G} {base : Nat} {tys : List (ClassId × FieldType)} {ad ks : List Nat} {P : sgPm} {Hx : Heap} (hp4 : P.2.2.2.2.1 = true) (a0 : Nat) (h0 : isK ad ks 12 a0) (x1 : Int32) : sgPi l (KT P) D vwCl base tys ad ks Hx yX12_gathered cX12_gathered 4 (some .int) ({ frames := 1, cells := 0, slots := 0, locals := 21 }) [.ref a0, .int x1] (fun r : Int32 => iv 0 4095 r) := by
  refine sg_ofP (Pq := fun Hx => va_Qi (fun r (_ : Unit) => (fun r : Int32 => iv 0 4095 r) r) (fun _ t => t.heap = Hx) (fun _ : Nat => False)) (by decide +kernel) (Nat.le_of_ble_eq_true rfl) (fun p e s m below meth c X hr hlk hb hK hC hG ls hl => ?_)
  have hS : va_S (fun _ : Nat => False) s.heap s.heap [] := va_S.rf
  have hl : lv_has ls 4 [(0, .ref a0), (1, .int x1)] := hl
  refine lv_iconst (v := 0) X.1 X.2.1 dX12_gathered_0 (by decide +kernel) ?_
  refine lv_istore_n (lv' := [(2, .int 0), (0, .ref a0), (1, .int x1)]) X.1 X.2.1 dX12_gathered_1 rfl hl (by decide) rfl (fun ls hl => ?_)
  refine lv_iconst (v := 0) X.1 X.2.1 dX12_gathered_2 (by decide +kernel) ?_
  refine lv_istore_n (lv' := [(3, .int 0), (2, .int 0), (0, .ref a0), (1, .int x1)]) X.1 X.2.1 dX12_gathered_3 rfl hl (by decide) rfl (fun ls hl => ?_)
  have B1_4 : ∀ (N : Nat) (locs : List Loc) (ls : Array Slot) (z1_2 : Int32) (z1_3 : Int32), va_S (fun _ : Nat => False) s.heap s.heap locs → lv_has ls 4 [(0, .ref a0), (1, .int x1), (2, .int z1_2), (3, .int z1_3)] → iv 0 4095 z1_2 → iv 0 12 z1_3 → (13 - z1_3.toInt).toNat ≤ N → W p l e (headSpec (Cond.code yX12_gathered cX12_gathered 4 (some .int) :: sg_tbl) ({ frames := 1, cells := 0, slots := 0, locals := 21 })).room s m #[.ref a0, .int x1] below meth c s.heap locs 0 0 (MQ below (va_Qi (fun r (_ : Unit) => (fun r : Int32 => iv 0 4095 r) r) (fun _ t => t.heap = s.heap) (fun _ : Nat => False)) #[.ref a0, .int x1] s 0 0 (fun _ : Nat => False)) (F0 m 4 ls []) := by
    intro N; induction N with
    | zero =>
      intro locs ls z1_2 z1_3 hS hl hz1_2 hz1_3 hN
      exact absurd hN (by have := iv_up hz1_3; omega)
    | succ N ih1 =>
      intro locs ls z1_2 z1_3 hS hl hz1_2 hz1_3 hN1
      refine lv_iload_n X.1 X.2.1 dX12_gathered_4 rfl (lv_at hl 3 rfl) ?_
      refine lv_aload_n X.1 X.2.1 dX12_gathered_5 rfl (lv_at hl 0 rfl) ?_
      refine gf_X12_47 X hK hG h0 wl_6_225 dX12_gathered_6 (fun f2 hf2 kf2 => ?_)
      refine lv_icmp_ge (tgt := 41) X.1 X.2.1 dX12_gathered_9 (by decide) (fun c3 => ?_) (fun c3 => ?_)
      · refine lv_iload_n X.1 X.2.1 dX12_gathered_41 rfl (lv_at hl 2 rfl) ?_
        exact sg_iretP X hr hlk hS hz1_2 dX12_gathered_42
      · refine lv_iload_n X.1 X.2.1 dX12_gathered_12 rfl (lv_at hl 2 rfl) ?_
        refine lv_iload_n X.1 X.2.1 dX12_gathered_13 rfl (lv_at hl 1 rfl) ?_
        refine lv_aload_n X.1 X.2.1 dX12_gathered_14 rfl (lv_at hl 0 rfl) ?_
        refine gf_X12_44 X hK hG h0 wl_6_222 dX12_gathered_15 (fun q4 hq4 kq4 => ?_)
        refine lv_iload_n X.1 X.2.1 dX12_gathered_18 rfl (lv_at hl 3 rfl) ?_
        refine al_60 X hK hG hq4 (iv_vpin (iv_lt (b' := 11) (iv_gt_of c3) hz1_3 hf2 (by decide +kernel)) (by decide +kernel)) dX12_gathered_19 (fun f5 hf5 => ?_)
        refine ca_X12_has X hK hG hC (fun _ h => h.elim) hS hb x1 f5 wl_7_174 hl.1 (rest := [.int z1_2]) rfl (Nat.le_of_ble_eq_true rfl) ⟨Nat.le_of_ble_eq_true rfl, Nat.le_of_ble_eq_true rfl⟩ ⟨Nat.le_of_ble_eq_true rfl, Nat.le_of_ble_eq_true rfl⟩ dX12_gathered_20 (fun f6 locs hf6 hS => ?_)
        have B8_33 : ∀ (locs : List Loc) (ls : Array Slot) (w8_0 : Int32), va_S (fun _ : Nat => False) s.heap s.heap locs → lv_has ls 4 [(0, .ref a0), (1, .int x1), (3, .int z1_3)] → iv 0 2048 w8_0 → W p l e (headSpec (Cond.code yX12_gathered cX12_gathered 4 (some .int) :: sg_tbl) ({ frames := 1, cells := 0, slots := 0, locals := 21 })).room s m #[.ref a0, .int x1] below meth c s.heap locs 0 0 (MQ below (va_Qi (fun r (_ : Unit) => (fun r : Int32 => iv 0 4095 r) r) (fun _ t => t.heap = s.heap) (fun _ : Nat => False)) #[.ref a0, .int x1] s 0 0 (fun _ : Nat => False)) (F0 m 33 ls [.int w8_0, .int z1_2]) := by
          intro locs ls w8_0 hS hl hw8_0
          refine lv_ior X.1 X.2.1 dX12_gathered_33 ?_
          refine lv_topi (fun f9 ef9 => ?_)
          refine lv_istore_n (lv' := [(2, .int f9), (0, .ref a0), (1, .int x1), (3, .int z1_3)]) X.1 X.2.1 dX12_gathered_34 rfl hl (by decide) rfl (fun ls hl => ?_)
          obtain ⟨y10, ey10⟩ : ∃ y : Int32, y = z1_3 + Int32.ofInt 1 := ⟨_, rfl⟩
          refine lv_iinc (v := y10) (lv' := [(3, .int y10), (2, .int f9), (0, .ref a0), (1, .int x1)]) X.1 X.2.1 dX12_gathered_35 hl (k := 3) rfl ey10.symm (by decide) rfl (fun ls hl => ?_)
          refine lv_goto (tgt := 4) X.1 X.2.1 dX12_gathered_38 (by decide) ?_
          exact ih1 _ _ f9 y10 hS (lv_sub hl [2, 3, 1, 0] rfl) (iv_of (iv_or 12 ef9 hz1_2 hw8_0 (by decide +kernel)) (a' := 0) (b' := 4095) (by decide +kernel)) (iv_of (iv_add (a' := 1) (b' := 12) ey10 (iv_lt (b' := 11) (iv_gt_of c3) hz1_3 hf2 (by decide +kernel)) (iv_c _ (a := 1) (b := 1) (by decide +kernel)) (by decide +kernel)) (a' := 0) (b' := 12) (by decide +kernel)) (iv_stepU ey10 (iv_lt (b' := 11) (iv_gt_of c3) hz1_3 hf2 (by decide +kernel)) (by decide +kernel) hN1)
        refine lv_if_eq (tgt := 32) X.1 X.2.1 dX12_gathered_23 (by decide) (fun c7 => ?_) (fun c7 => ?_)
        · refine lv_iconst (v := 0) X.1 X.2.1 dX12_gathered_32 (by decide +kernel) ?_
          exact B8_33 _ _ 0 hS (lv_sub hl [0, 1, 3] rfl) (iv_of (iv_c 0 (a := 0) (b := 0) (by decide +kernel)) (a' := 0) (b' := 2048) (by decide +kernel))
        · refine lv_iconst (v := 1) X.1 X.2.1 dX12_gathered_26 (by decide +kernel) ?_
          refine lv_iload_n X.1 X.2.1 dX12_gathered_27 rfl (lv_at hl 3 rfl) ?_
          refine lv_ishl X.1 X.2.1 dX12_gathered_28 ?_
          refine lv_topi (fun f11 ef11 => ?_)
          refine lv_goto (tgt := 33) X.1 X.2.1 dX12_gathered_29 (by decide) ?_
          exact B8_33 _ _ f11 hS (lv_sub hl [0, 1, 3] rfl) (iv_of (sg_shl1 ef11 (iv_lt (b' := 11) (iv_gt_of c3) hz1_3 hf2 (by decide +kernel)) (by decide +kernel)) (a' := 0) (b' := 2048) (by decide +kernel))
  exact B1_4 _ _ _ 0 0 hS (lv_sub hl [2, 3, 1, 0] rfl) (iv_of (iv_c 0 (a := 0) (b := 0) (by decide +kernel)) (a' := 0) (b' := 4095) (by decide +kernel)) (iv_of (iv_c 0 (a := 0) (b := 0) (by decide +kernel)) (a' := 0) (b' := 12) (by decide +kernel)) (Nat.le_refl _)

theorem ca_X12_gathered_q   (X : CallFix p m c cc nL s args sg_tbl own) (hK : va_K D vwCl tys s) (hG : sgG (KT P) D vwCl (fun q : Nat => base ≤ q) tys ad ks H) (hC : sgC base s) (hA : ∀ q : Nat, A q → base ≤ q) (hS : va_S A s.heap H locs) (hb : base ≤ s.heap.size) (hp4 : P.2.2.2.2.1 = true) (a0 : Nat) (h0 : isK ad ks 12 a0) (x1 : Int32) (hl : Cond.methodLink own index yX12_gathered ∈ sg_tbl) (hsize : ls.size = nL) (hst : st0 = [.int x1].reverse ++ .ref a0 :: rest) (hW : (rest.map fun v => v.category).sum ≤ 8) (hR : 2 ≤ R.frames ∧ 44 ≤ R.locals) (hf : cells ≤ R.cells ∧ slots ≤ R.slots) (hdg : decode cc pc = .ok (.invokevirtual index, 3)) (kk : ∀ (r : Int32) (locs1 : List Loc), (fun r : Int32 => iv 0 4095 r) r → va_S A s.heap H locs1 → W p l e R s m args below meth c H locs1 cells slots Q (F0 m (pc + 3) ls (.int r :: rest))) : W p l e R s m args below meth c H locs cells slots Q (F0 m pc ls st0) :=
  sg_callPVi X hK hG hC hA hS hb (m_X12_gathered_q l hp4 a0 h0 x1) h0 (k := 12) (ci := 12) rfl (C := RX12) (T := TX12) (N := 53) rfl wl_9_70 wl_1_13 wl_9_69 wl_0_106 (n := 1) (by decide +kernel) rfl rfl rfl hl hsize hst hW hR hf hdg kk
end
