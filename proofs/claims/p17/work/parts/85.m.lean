
section
variable {p : Program} {l : Launch} {e : Env} {R : Room} {s : State} {m : MethodId} {args : Array Value} {below : List Frame} {meth : Method} {c : Code} {H : Heap} {locs : List Loc} {cells slots : Nat} {Q : State → Prop} {cc : ByteArray} {nL pc : Nat} {ls : Array Slot} {rest : List Value} {own : String} {D : va_G} {A : Nat → Prop} {tys : List (ClassId × FieldType)} {ad ks : List Nat} {P : sgPm} {H0 : Heap} {index : Nat} {base : Nat} {st0 : List Value} {a : Nat}
theorem gg_X12_44   (X : CallFix p m c cc nL s args sg_tbl own) (hK : va_K D vwCl tys s) (hG : sgG (KT P) D vwCl A tys ad ks H) (ha : isK ad ks 12 a) (hl : Cond.fieldLink own index "LawnAheadModel" "cellRow" "[I" ∈ sg_tbl) {v : Value} (hf : fld D H 12 a 44 v) (hdg : decode cc pc = .ok (.getfield index, 3)) (kk : W p l e R s m args below meth c H locs cells slots Q (F0 m (pc + 3) ls (v :: rest))) : W p l e R s m args below meth c H locs cells slots Q (F0 m pc ls (.ref a :: rest)) :=
  sg_getf X hK hG ha (k := 12) (ci := 12) rfl (C := RX12) (T := TX12) (N := 53) rfl inL_X12 44 (by decide) (show 44 < 53 by decide) hl (fun _ h => h) hf hdg kk
theorem gg_X12_47   (X : CallFix p m c cc nL s args sg_tbl own) (hK : va_K D vwCl tys s) (hG : sgG (KT P) D vwCl A tys ad ks H) (ha : isK ad ks 12 a) (hl : Cond.fieldLink own index "LawnAheadModel" "cellMany" "I" ∈ sg_tbl) {v : Value} (hf : fld D H 12 a 47 v) (hdg : decode cc pc = .ok (.getfield index, 3)) (kk : W p l e R s m args below meth c H locs cells slots Q (F0 m (pc + 3) ls (v :: rest))) : W p l e R s m args below meth c H locs cells slots Q (F0 m pc ls (.ref a :: rest)) :=
  sg_getf X hK hG ha (k := 12) (ci := 12) rfl (C := RX12) (T := TX12) (N := 53) rfl inL_X12 47 (by decide) (show 47 < 53 by decide) hl (fun _ h => h) hf hdg kk
set_option maxHeartbeats 8000000 in
set_option maxRecDepth 100000 in
theorem m_X12_gathered_p (l : Launch) {D : va_G} {base : Nat} {tys : List (ClassId × FieldType)} {ad ks : List Nat} {P : sgPm} {Hx : Heap} (a0 : Nat) (h0 : isK ad ks 12 a0) (x1 : Int32) (qr : Nat) (mm : Int32) (F : Nat → Int32) (hqk : isK ad ks 60 qr) (hq : fld D Hx 12 a0 44 (.ref qr)) (hmi : iv 0 12 mm) (hm : fld D Hx 12 a0 47 (.int mm)) (hF : ∀ j : Nat, j < 12 → ele Hx qr j (F j)) : sgPi l (KT P) D vwCl base tys ad ks Hx yX12_gathered cX12_gathered 4 (some .int) ({ frames := 1, cells := 0, slots := 0, locals := 21 }) [.ref a0, .int x1] (fun r : Int32 => iv 0 4095 r ∧ ∀ j : Nat, (j : Int) < mm.toInt → sgHas x1 (F j) → sgHas r (Int32.ofNat j)) := by
  refine sg_ofPh (Pq := fun Hx => va_Qi (fun r (_ : Unit) => (fun r : Int32 => iv 0 4095 r ∧ ∀ j : Nat, (j : Int) < mm.toInt → sgHas x1 (F j) → sgHas r (Int32.ofNat j)) r) (fun _ t => t.heap = Hx) (fun _ : Nat => False)) (by decide +kernel) (Nat.le_of_ble_eq_true rfl) (fun p e s m below meth c hHx X hr hlk hb hK hC hG ls hl => ?_)
  subst hHx
  have hS : va_S (fun _ : Nat => False) s.heap s.heap [] := va_S.rf
  have hl : lv_has ls 4 [(0, .ref a0), (1, .int x1)] := hl
  refine lv_iconst (v := 0) X.1 X.2.1 dX12_gathered_0 (by decide +kernel) ?_
  refine lv_istore_n (lv' := [(2, .int 0), (0, .ref a0), (1, .int x1)]) X.1 X.2.1 dX12_gathered_1 rfl hl (by decide) rfl (fun ls hl => ?_)
  refine lv_iconst (v := 0) X.1 X.2.1 dX12_gathered_2 (by decide +kernel) ?_
  refine lv_istore_n (lv' := [(3, .int 0), (2, .int 0), (0, .ref a0), (1, .int x1)]) X.1 X.2.1 dX12_gathered_3 rfl hl (by decide) rfl (fun ls hl => ?_)
  have B1_4 : ∀ (N : Nat) (locs : List Loc) (ls : Array Slot) (z1_2 : Int32) (z1_3 : Int32), va_S (fun _ : Nat => False) s.heap s.heap locs → lv_has ls 4 [(0, .ref a0), (1, .int x1), (2, .int z1_2), (3, .int z1_3)] → iv 0 4095 z1_2 → iv 0 12 z1_3 → (∀ j : Nat, (j : Int) < z1_3.toInt → sgHas x1 (F j) → sgHas z1_2 (Int32.ofNat j)) → (13 - z1_3.toInt).toNat ≤ N → W p l e (headSpec (Cond.code yX12_gathered cX12_gathered 4 (some .int) :: sg_tbl) ({ frames := 1, cells := 0, slots := 0, locals := 21 })).room s m #[.ref a0, .int x1] below meth c s.heap locs 0 0 (MQ below (va_Qi (fun r (_ : Unit) => (fun r : Int32 => iv 0 4095 r ∧ ∀ j : Nat, (j : Int) < mm.toInt → sgHas x1 (F j) → sgHas r (Int32.ofNat j)) r) (fun _ t => t.heap = s.heap) (fun _ : Nat => False)) #[.ref a0, .int x1] s 0 0 (fun _ : Nat => False)) (F0 m 4 ls []) := by
    intro N; induction N with
    | zero =>
      intro locs ls z1_2 z1_3 hS hl hz1_2 hz1_3 xf1 hN
      exact absurd hN (by have := iv_up hz1_3; omega)
    | succ N ih1 =>
      intro locs ls z1_2 z1_3 hS hl hz1_2 hz1_3 xf1 hN1
      refine lv_iload_n X.1 X.2.1 dX12_gathered_4 rfl (lv_at hl 3 rfl) ?_
      refine lv_aload_n X.1 X.2.1 dX12_gathered_5 rfl (lv_at hl 0 rfl) ?_
      refine gg_X12_47 X hK hG h0 wl_6_225 hm dX12_gathered_6 ?_
      refine lv_icmp_ge (tgt := 41) X.1 X.2.1 dX12_gathered_9 (by decide) (fun c2 => ?_) (fun c2 => ?_)
      · refine lv_iload_n X.1 X.2.1 dX12_gathered_41 rfl (lv_at hl 2 rfl) ?_
        have bq3 : 0 ≤ z1_3.toInt ∧ z1_3.toInt ≤ 12 := hz1_3
        have bq4 : 0 ≤ mm.toInt ∧ mm.toInt ≤ 12 := hmi
        have rr5 : (mm : Int32).toInt ≤ (z1_3 : Int32).toInt := Int32.le_iff_toInt_le.mp c2
        exact sg_iretP X hr hlk hS ⟨hz1_2, fun j hj => xf1 j (by omega)⟩ dX12_gathered_42
      · refine lv_iload_n X.1 X.2.1 dX12_gathered_12 rfl (lv_at hl 2 rfl) ?_
        refine lv_iload_n X.1 X.2.1 dX12_gathered_13 rfl (lv_at hl 1 rfl) ?_
        refine lv_aload_n X.1 X.2.1 dX12_gathered_14 rfl (lv_at hl 0 rfl) ?_
        refine gg_X12_44 X hK hG h0 wl_6_222 hq dX12_gathered_15 ?_
        refine lv_iload_n X.1 X.2.1 dX12_gathered_18 rfl (lv_at hl 3 rfl) ?_
        refine sg_ialdE X hK hG hqk (k := 60) rfl (iv_vpin (iv_lt (b' := 11) (iv_gt_of c2) hz1_3 hmi (by decide +kernel)) (by decide +kernel)) (n0 := z1_3.toNatClampNeg) rfl dX12_gathered_19 (fun f6 hf6 kf6 => ?_)
        have hf6 : iv (-2147483648) 2147483647 f6 := by obtain ⟨y, h1, h2⟩ := hf6; cases h1; exact h2
        refine ca_X12_has_h X hK hG hC (fun _ h => h.elim) hS hb x1 f6 wl_7_174 hl.1 (rest := [.int z1_2]) rfl (Nat.le_of_ble_eq_true rfl) ⟨Nat.le_of_ble_eq_true rfl, Nat.le_of_ble_eq_true rfl⟩ ⟨Nat.le_of_ble_eq_true rfl, Nat.le_of_ble_eq_true rfl⟩ dX12_gathered_20 (fun f7 locs hf7 hS => ?_)
        refine lv_if_eq (tgt := 32) X.1 X.2.1 dX12_gathered_23 (by decide) (fun c8 => ?_) (fun c8 => ?_)
        · have hsq9 : ¬ sgHas x1 f6 := sg_hasf hf7.1 hf7.2 c8
          refine lv_iconst (v := 0) X.1 X.2.1 dX12_gathered_32 (by decide +kernel) ?_
          refine lv_ior X.1 X.2.1 dX12_gathered_33 ?_
          refine lv_topi (fun f11 ef11 => ?_)
          refine lv_istore_n (lv' := [(2, .int f11), (0, .ref a0), (1, .int x1), (3, .int z1_3)]) X.1 X.2.1 dX12_gathered_34 rfl hl (by decide) rfl (fun ls hl => ?_)
          obtain ⟨y12, ey12⟩ : ∃ y : Int32, y = z1_3 + Int32.ofInt 1 := ⟨_, rfl⟩
          refine lv_iinc (v := y12) (lv' := [(3, .int y12), (2, .int f11), (0, .ref a0), (1, .int x1)]) X.1 X.2.1 dX12_gathered_35 hl (k := 3) rfl ey12.symm (by decide) rfl (fun ls hl => ?_)
          refine lv_goto (tgt := 4) X.1 X.2.1 dX12_gathered_38 (by decide) ?_
          have bq13 : 0 ≤ z1_3.toInt ∧ z1_3.toInt ≤ 11 := (iv_lt (b' := 11) (iv_gt_of c2) hz1_3 hmi (by decide +kernel))
          have xy12 : y12.toInt = z1_3.toInt + 1 := sg_inc (k := 1) ey12 (iv_lt (b' := 11) (iv_gt_of c2) hz1_3 hmi (by decide +kernel)) (by decide +kernel)
          have hFz1_3 : F z1_3.toInt.toNat = f6 := ele_fun (hF z1_3.toInt.toNat (by have := ((iv_lt (b' := 11) (iv_gt_of c2) hz1_3 hmi (by decide +kernel))).2; omega)) kf6
          exact ih1 _ _ f11 y12 hS (lv_sub hl [2, 3, 1, 0] rfl) (iv_of (iv_or 12 ef11 hz1_2 (iv_c 0 (a := 0) (b := 0) (by decide +kernel)) (by decide +kernel)) (a' := 0) (b' := 4095) (by decide +kernel)) (iv_of (iv_add (a' := 1) (b' := 12) ey12 (iv_lt (b' := 11) (iv_gt_of c2) hz1_3 hmi (by decide +kernel)) (iv_c _ (a := 1) (b := 1) (by decide +kernel)) (by decide +kernel)) (a' := 0) (b' := 12) (by decide +kernel)) (ga_step xf1 ((iv_lt (b' := 11) (iv_gt_of c2) hz1_3 hmi (by decide +kernel))).1 xy12 hFz1_3 ef11 (Or.inl (by assumption))) (iv_stepU ey12 (iv_lt (b' := 11) (iv_gt_of c2) hz1_3 hmi (by decide +kernel)) (by decide +kernel) hN1)
        · have hsq10 : sgHas x1 f6 := sg_hast hf7.1 hf7.2 c8
          refine lv_iconst (v := 1) X.1 X.2.1 dX12_gathered_26 (by decide +kernel) ?_
          refine lv_iload_n X.1 X.2.1 dX12_gathered_27 rfl (lv_at hl 3 rfl) ?_
          refine lv_ishl X.1 X.2.1 dX12_gathered_28 ?_
          refine lv_topi (fun f14 ef14 => ?_)
          refine lv_goto (tgt := 33) X.1 X.2.1 dX12_gathered_29 (by decide) ?_
          refine lv_ior X.1 X.2.1 dX12_gathered_33 ?_
          refine lv_topi (fun f15 ef15 => ?_)
          refine lv_istore_n (lv' := [(2, .int f15), (0, .ref a0), (1, .int x1), (3, .int z1_3)]) X.1 X.2.1 dX12_gathered_34 rfl hl (by decide) rfl (fun ls hl => ?_)
          obtain ⟨y16, ey16⟩ : ∃ y : Int32, y = z1_3 + Int32.ofInt 1 := ⟨_, rfl⟩
          refine lv_iinc (v := y16) (lv' := [(3, .int y16), (2, .int f15), (0, .ref a0), (1, .int x1)]) X.1 X.2.1 dX12_gathered_35 hl (k := 3) rfl ey16.symm (by decide) rfl (fun ls hl => ?_)
          refine lv_goto (tgt := 4) X.1 X.2.1 dX12_gathered_38 (by decide) ?_
          have bq17 : 0 ≤ z1_3.toInt ∧ z1_3.toInt ≤ 11 := (iv_lt (b' := 11) (iv_gt_of c2) hz1_3 hmi (by decide +kernel))
          have xy16 : y16.toInt = z1_3.toInt + 1 := sg_inc (k := 1) ey16 (iv_lt (b' := 11) (iv_gt_of c2) hz1_3 hmi (by decide +kernel)) (by decide +kernel)
          have hFz1_3 : F z1_3.toInt.toNat = f6 := ele_fun (hF z1_3.toInt.toNat (by have := ((iv_lt (b' := 11) (iv_gt_of c2) hz1_3 hmi (by decide +kernel))).2; omega)) kf6
          exact ih1 _ _ f15 y16 hS (lv_sub hl [2, 3, 1, 0] rfl) (iv_of (iv_or 12 ef15 hz1_2 (sg_shl1 ef14 (iv_lt (b' := 11) (iv_gt_of c2) hz1_3 hmi (by decide +kernel)) (by decide +kernel)) (by decide +kernel)) (a' := 0) (b' := 4095) (by decide +kernel)) (iv_of (iv_add (a' := 1) (b' := 12) ey16 (iv_lt (b' := 11) (iv_gt_of c2) hz1_3 hmi (by decide +kernel)) (iv_c _ (a := 1) (b := 1) (by decide +kernel)) (by decide +kernel)) (a' := 0) (b' := 12) (by decide +kernel)) (ga_step xf1 ((iv_lt (b' := 11) (iv_gt_of c2) hz1_3 hmi (by decide +kernel))).1 xy16 hFz1_3 ef15 (Or.inr ef14)) (iv_stepU ey16 (iv_lt (b' := 11) (iv_gt_of c2) hz1_3 hmi (by decide +kernel)) (by decide +kernel) hN1)
  exact B1_4 _ _ _ 0 0 hS (lv_sub hl [2, 3, 1, 0] rfl) (iv_of (iv_c 0 (a := 0) (b := 0) (by decide +kernel)) (a' := 0) (b' := 4095) (by decide +kernel)) (iv_of (iv_c 0 (a := 0) (b := 0) (by decide +kernel)) (a' := 0) (b' := 12) (by decide +kernel)) (fun j hj => absurd hj (by rw [show (0 : Int32).toInt = 0 from by decide +kernel]; omega)) (Nat.le_refl _)

theorem ca_X12_gathered_p   (X : CallFix p m c cc nL s args sg_tbl own) (hK : va_K D vwCl tys s) (hG : sgG (KT P) D vwCl (fun q : Nat => base ≤ q) tys ad ks H) (hC : sgC base s) (hA : ∀ q : Nat, A q → base ≤ q) (hS : va_S A s.heap H locs) (hb : base ≤ s.heap.size) (a0 : Nat) (h0 : isK ad ks 12 a0) (x1 : Int32) (qr : Nat) (mm : Int32) (F : Nat → Int32) (hqk : isK ad ks 60 qr) (hq : fld D H 12 a0 44 (.ref qr)) (hmi : iv 0 12 mm) (hm : fld D H 12 a0 47 (.int mm)) (hF : ∀ j : Nat, j < 12 → ele H qr j (F j)) (hl : Cond.methodLink own index yX12_gathered ∈ sg_tbl) (hsize : ls.size = nL) (hst : st0 = [.int x1].reverse ++ .ref a0 :: rest) (hW : (rest.map fun v => v.category).sum ≤ 8) (hR : 2 ≤ R.frames ∧ 44 ≤ R.locals) (hf : cells ≤ R.cells ∧ slots ≤ R.slots) (hdg : decode cc pc = .ok (.invokevirtual index, 3)) (kk : ∀ (r : Int32) (locs1 : List Loc), (fun r : Int32 => iv 0 4095 r ∧ ∀ j : Nat, (j : Int) < mm.toInt → sgHas x1 (F j) → sgHas r (Int32.ofNat j)) r → va_S A s.heap H locs1 → W p l e R s m args below meth c H locs1 cells slots Q (F0 m (pc + 3) ls (.int r :: rest))) : W p l e R s m args below meth c H locs cells slots Q (F0 m pc ls st0) :=
  sg_callPVi X hK hG hC hA hS hb (m_X12_gathered_p l a0 h0 x1 qr mm F hqk hq hmi hm hF) h0 (k := 12) (ci := 12) rfl (C := RX12) (T := TX12) (N := 53) rfl wl_9_70 wl_1_13 wl_9_69 wl_0_106 (n := 1) (by decide +kernel) rfl rfl rfl hl hsize hst hW hR hf hdg kk
end
