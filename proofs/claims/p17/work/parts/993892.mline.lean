
section
variable {p : Program} {l : Launch} {e : Env} {R : Room} {s : State} {m : MethodId} {args : Array Value} {below : List Frame} {meth : Method} {c : Code} {H : Heap} {locs : List Loc} {cells slots : Nat} {Q : State → Prop} {cc : ByteArray} {nL pc : Nat} {ls : Array Slot} {rest : List Value} {own : String} {D : va_G} {A : Nat → Prop} {tys : List (ClassId × FieldType)} {ad ks : List Nat} {P : sgPm} {H0 : Heap} {index : Nat} {base : Nat} {st0 : List Value} {a : Nat}

set_option maxHeartbeats 8000000 in
set_option maxRecDepth 100000 in
theorem m_X12_longestIn_e (l : Launch) {D : va_G} {base : Nat} {tys : List (ClassId × FieldType)} {ad ks : List Nat} {P : sgPm}{e1 e2 d1 d2 : Int} {q : sgLwn} {o : sgO}  {Hx : Heap} (x0 : Int32) (a1 : Nat) (h1 : isK ad ks 50 a1) (hr0 : 1 ≤ q.1 0 ∧ q.1 0 ≤ 6) (hr1 : 1 ≤ q.1 1 ∧ q.1 1 ≤ 5) (hr2 : 2 ≤ q.1 2 ∧ q.1 2 ≤ 5) (hd0 : 0 ≤ d1 ∧ d2 ≤ 6) : sgPi l (KE e1 e2 (-1) (-1) d1 d2 (zQ q o) P) D vwCl base tys ad ks Hx yX12_longestIn cX12_longestIn 5 (some .int) ({ frames := 2, cells := 0, slots := 0, locals := 49 }) [.int x0, .ref a1] (fun r : Int32 => ∀ L : Int, 1 ≤ L → (L ≤ r.toInt ↔ lwLine x0 (q.1 0) (q.1 1) L)) := by
  refine sg_ofP (Pq := fun Hx => va_Qi (fun r (_ : Unit) => (fun r : Int32 => ∀ L : Int, 1 ≤ L → (L ≤ r.toInt ↔ lwLine x0 (q.1 0) (q.1 1) L)) r) (fun _ t => t.heap = Hx) (fun _ : Nat => False)) (by decide +kernel) (Nat.le_of_ble_eq_true rfl) (fun p e s m below meth c X hr hlk hb hK hC hG ls hl => ?_)
  have hS : va_S (fun _ : Nat => False) s.heap s.heap [] := va_S.rf
  have hl : lv_has ls 5 [(0, .int x0), (1, .ref a1)] := hl
  have hwh : 0 ≤ q.1 0 * q.1 1 := Int.mul_nonneg (by have := hr0.1; omega) (by have := hr1.1; omega)
  refine lv_iconst (v := 0) X.1 X.2.1 dX12_longestIn_0 (by decide +kernel) ?_
  refine lv_istore_n (lv' := [(2, .int 0), (0, .int x0), (1, .ref a1)]) X.1 X.2.1 dX12_longestIn_1 rfl hl (by decide) rfl (fun ls hl => ?_)
  refine lv_iconst (v := 0) X.1 X.2.1 dX12_longestIn_2 (by decide +kernel) ?_
  refine lv_istore_n (lv' := [(3, .int 0), (2, .int 0), (0, .int x0), (1, .ref a1)]) X.1 X.2.1 dX12_longestIn_3 rfl hl (by decide) rfl (fun ls hl => ?_)
  have B1_4 : ∀ (N : Nat) (locs : List Loc) (ls : Array Slot) (z1_2 : Int32) (z1_3 : Int32), va_S (fun _ : Nat => False) s.heap s.heap locs → lv_has ls 5 [(0, .int x0), (1, .ref a1), (2, .int z1_2), (3, .int z1_3)] → iv 0 2147483647 z1_2 → iv 0 30 z1_3 → (lgP x0 (q.1 0) (q.1 1) (z1_2 : Int32).toInt (z1_3 : Int32).toInt 0 ∧ 0 ≤ (z1_3 : Int32).toInt ∧ (z1_3 : Int32).toInt ≤ ((q.1 0) * (q.1 1))) → (31 - z1_3.toInt).toNat ≤ N → W p l e (headSpec (Cond.code yX12_longestIn cX12_longestIn 5 (some .int) :: sg_tbl) ({ frames := 2, cells := 0, slots := 0, locals := 49 })).room s m #[.int x0, .ref a1] below meth c s.heap locs 0 0 (MQ below (va_Qi (fun r (_ : Unit) => (fun r : Int32 => ∀ L : Int, 1 ≤ L → (L ≤ r.toInt ↔ lwLine x0 (q.1 0) (q.1 1) L)) r) (fun _ t => t.heap = s.heap) (fun _ : Nat => False)) #[.int x0, .ref a1] s 0 0 (fun _ : Nat => False)) (F0 m 4 ls []) := by
    intro N; induction N with
    | zero =>
      intro locs ls z1_2 z1_3 hS hl hz1_2 hz1_3 xf1 hN
      exact absurd hN (by have := iv_up hz1_3; omega)
    | succ N ih1 =>
      intro locs ls z1_2 z1_3 hS hl hz1_2 hz1_3 xf1 hN1
      refine lv_iload_n X.1 X.2.1 dX12_longestIn_4 rfl (lv_at hl 3 rfl) ?_
      refine lv_aload_n X.1 X.2.1 dX12_longestIn_5 rfl (lv_at hl 1 rfl) ?_
      refine lv_iconst (v := 0) X.1 X.2.1 dX12_longestIn_6 (by decide +kernel) ?_
      refine al_50e X hK hG h1 (iv_vpin (iv_c 0 (a := 0) (b := 0) (by decide +kernel)) (by decide +kernel)) dX12_longestIn_7 (fun f2 hf2 => ?_)
      have xf2 : f2.toInt = (q.1 0) := zg_r (q := q) (o := o) (sg_cl (iv_c 0 (a := 0) (b := 0) (by decide +kernel)) (by decide)) (by decide) hf2
      have yf2 : iv 1 6 f2 := vq_of xf2 hr0
      refine lv_aload_n X.1 X.2.1 dX12_longestIn_8 rfl (lv_at hl 1 rfl) ?_
      refine lv_iconst (v := 1) X.1 X.2.1 dX12_longestIn_9 (by decide +kernel) ?_
      refine al_50e X hK hG h1 (iv_vpin (iv_c 1 (a := 1) (b := 1) (by decide +kernel)) (by decide +kernel)) dX12_longestIn_10 (fun f3 hf3 => ?_)
      have xf3 : f3.toInt = (q.1 1) := zg_r (q := q) (o := o) (sg_cl (iv_c 1 (a := 1) (b := 1) (by decide +kernel)) (by decide)) (by decide) hf3
      have yf3 : iv 1 5 f3 := vq_of xf3 hr1
      refine lv_imul X.1 X.2.1 dX12_longestIn_11 ?_
      refine lv_topi (fun f4 ef4 => ?_)
      have xf4 : f4.toInt = ((q.1 0) * (q.1 1)) := sg_exmul ef4 yf2 yf3 (by decide +kernel) xf2 xf3
      refine lv_icmp_ge (tgt := 49) X.1 X.2.1 dX12_longestIn_12 (by decide) (fun c5 => ?_) (fun c5 => ?_)
      · have i6 : ¬ z1_3.toInt < ((q.1 0) * (q.1 1)) := vq_le c5 xf4 rfl
        refine lv_iload_n X.1 X.2.1 dX12_longestIn_49 rfl (lv_at hl 2 rfl) ?_
        exact sg_iretP X hr hlk hS (fun L hL => lgP_e xf1.1 i6 xf1.2.2 hL) dX12_longestIn_50
      · have i7 : z1_3.toInt < ((q.1 0) * (q.1 1)) := vq_lt (iv_gt_of c5) rfl xf4
        refine lv_iconst (v := 0) X.1 X.2.1 dX12_longestIn_15 (by decide +kernel) ?_
        refine lv_istore (lv' := [(4, .int 0), (0, .int x0), (1, .ref a1), (2, .int z1_2), (3, .int z1_3)]) X.1 X.2.1 dX12_longestIn_16 hl (by decide) rfl (fun ls hl => ?_)
        have B8_18 : ∀ (N : Nat) (locs : List Loc) (ls : Array Slot) (z8_2 : Int32) (z8_4 : Int32), va_S (fun _ : Nat => False) s.heap s.heap locs → lv_has ls 5 [(0, .int x0), (1, .ref a1), (2, .int z8_2), (3, .int z1_3), (4, .int z8_4)] → iv 0 2147483647 z8_2 → iv 0 4 z8_4 → (lgP x0 (q.1 0) (q.1 1) (z8_2 : Int32).toInt (z1_3 : Int32).toInt (z8_4 : Int32).toInt ∧ 0 ≤ (z1_3 : Int32).toInt ∧ (z1_3 : Int32).toInt < ((q.1 0) * (q.1 1))) → (5 - z8_4.toInt).toNat ≤ N → W p l e (headSpec (Cond.code yX12_longestIn cX12_longestIn 5 (some .int) :: sg_tbl) ({ frames := 2, cells := 0, slots := 0, locals := 49 })).room s m #[.int x0, .ref a1] below meth c s.heap locs 0 0 (MQ below (va_Qi (fun r (_ : Unit) => (fun r : Int32 => ∀ L : Int, 1 ≤ L → (L ≤ r.toInt ↔ lwLine x0 (q.1 0) (q.1 1) L)) r) (fun _ t => t.heap = s.heap) (fun _ : Nat => False)) #[.int x0, .ref a1] s 0 0 (fun _ : Nat => False)) (F0 m 18 ls []) := by
          intro N; induction N with
          | zero =>
            intro locs ls z8_2 z8_4 hS hl hz8_2 hz8_4 xf8 hN
            exact absurd hN (by have := iv_up hz8_4; omega)
          | succ N ih8 =>
            intro locs ls z8_2 z8_4 hS hl hz8_2 hz8_4 xf8 hN8
            refine lv_iload X.1 X.2.1 dX12_longestIn_18 (lv_at hl 4 rfl) ?_
            refine lv_iconst (v := 4) X.1 X.2.1 dX12_longestIn_20 (by decide +kernel) ?_
            refine lv_icmp_ge (tgt := 43) X.1 X.2.1 dX12_longestIn_21 (by decide) (fun c9 => ?_) (fun c9 => ?_)
            · have i10 : ¬ z8_4.toInt < (4 : Int) := vq_le c9 (by decide +kernel) rfl
              obtain ⟨y12, ey12⟩ : ∃ y : Int32, y = z1_3 + Int32.ofInt 1 := ⟨_, rfl⟩
              have xy12 : y12.toInt = (z1_3.toInt + 1) := sg_exadd ey12 (iv_lt (b' := 29) (iv_gt_of c5) hz1_3 (iv_mul (a' := 1) (b' := 30) ef4 yf2 yf3 (by decide +kernel)) (by decide +kernel)) (iv_c _ (a := 1) (b := 1) (by decide +kernel)) (by decide +kernel) rfl (by decide +kernel)
              refine lv_iinc (v := y12) (lv' := [(3, .int y12), (0, .int x0), (1, .ref a1), (2, .int z8_2), (4, .int z8_4)]) X.1 X.2.1 dX12_longestIn_43 hl (k := 3) rfl ey12.symm (by decide) rfl (fun ls hl => ?_)
              refine lv_goto (tgt := 4) X.1 X.2.1 dX12_longestIn_46 (by decide) ?_
              have hw4 : z8_4.toInt = 4 := by have h1 := i10; have h2 := (hz8_4).2; omega
              have hlg := xf8.1
              rw [hw4] at hlg
              exact ih1 _ _ z8_2 y12 hS (lv_sub hl [1, 2, 3, 0] rfl) hz8_2 (iv_of (iv_add (a' := 1) (b' := 30) ey12 (iv_lt (b' := 29) (iv_gt_of c5) hz1_3 (iv_mul (a' := 1) (b' := 30) ef4 yf2 yf3 (by decide +kernel)) (by decide +kernel)) (iv_c _ (a := 1) (b := 1) (by decide +kernel)) (by decide +kernel)) (a' := 0) (b' := 30) (by decide +kernel)) (by rw [xy12]; exact ⟨lgP_c hlg, by have := xf8.2.1; omega, by have := xf8.2.2; omega⟩) (iv_stepU ey12 (iv_lt (b' := 29) (iv_gt_of c5) hz1_3 (iv_mul (a' := 1) (b' := 30) ef4 yf2 yf3 (by decide +kernel)) (by decide +kernel)) (by decide +kernel) hN1)
            · have i11 : z8_4.toInt < (4 : Int) := vq_lt (iv_gt_of c9) rfl (by decide +kernel)
              by_cases k13 : z8_4.toInt = 0
              · have hk13 : iv 0 0 z8_4 := ⟨by omega, by omega⟩
                have mk13 : z8_4.toInt = (0 : Int) := (rfl).symm.trans k13
                refine lv_iload_n X.1 X.2.1 dX12_longestIn_24 rfl (lv_at hl 2 rfl) ?_
                refine lv_iload_n X.1 X.2.1 dX12_longestIn_25 rfl (lv_at hl 0 rfl) ?_
                refine lv_iload_n X.1 X.2.1 dX12_longestIn_26 rfl (lv_at hl 3 rfl) ?_
                refine lv_iload X.1 X.2.1 dX12_longestIn_27 (lv_at hl 4 rfl) ?_
                refine lv_aload_n X.1 X.2.1 dX12_longestIn_29 rfl (lv_at hl 1 rfl) ?_
                refine ca_X12_rowFrom_e0 X hK hG hC (fun _ h => h.elim) hS hb x0 z1_3 (iv_lt (b' := 29) (iv_gt_of c5) hz1_3 (iv_mul (a' := 1) (b' := 30) ef4 yf2 yf3 (by decide +kernel)) (by decide +kernel)) z8_4 hk13 a1 h1 hr0 hr1 (by omega) wl_7_202 hl.1 (rest := [.int z8_2]) rfl (Nat.le_of_ble_eq_true rfl) ⟨Nat.le_of_ble_eq_true rfl, Nat.le_of_ble_eq_true rfl⟩ ⟨Nat.le_of_ble_eq_true rfl, Nat.le_of_ble_eq_true rfl⟩ dX12_longestIn_30 (fun f14 locs hf14 hS => ?_)
                have xf14 := hf14
                refine va_mmax X.1 X.2.1 (X.2.2.1.trans hl.1.symm) X.2.2.2.1 (X.2.2.2.2 _ wl_7_205) (X.2.2.2.2 _ wl_3_100) (X.2.2.2.2 _ wl_1_15) (X.2.2.2.2 _ wl_3_101) (Nat.le_of_ble_eq_true rfl) (Nat.le_of_ble_eq_true rfl) (Nat.le_of_ble_eq_true rfl) (Nat.le_of_ble_eq_true rfl) dX12_longestIn_33 ?_
                refine lv_topi (fun f15 ef15 => ?_)
                have x36 : f15.toInt = max z8_2.toInt (rwV x0 (q.1 0) (q.1 1) (z1_3.toInt) 0) := vq_max ef15 rfl xf14
                refine lv_istore_n (lv' := [(2, .int f15), (0, .int x0), (1, .ref a1), (3, .int z1_3), (4, .int z8_4)]) X.1 X.2.1 dX12_longestIn_36 rfl hl (by decide) rfl (fun ls hl => ?_)
                obtain ⟨y16, ey16⟩ : ∃ y : Int32, y = z8_4 + Int32.ofInt 1 := ⟨_, rfl⟩
                have xy16 : y16.toInt = (z8_4.toInt + 1) := sg_exadd ey16 hk13 (iv_c _ (a := 1) (b := 1) (by decide +kernel)) (by decide +kernel) rfl (by decide +kernel)
                refine lv_iinc (v := y16) (lv' := [(4, .int y16), (2, .int f15), (0, .int x0), (1, .ref a1), (3, .int z1_3)]) X.1 X.2.1 dX12_longestIn_37 hl (k := 4) rfl ey16.symm (by decide) rfl (fun ls hl => ?_)
                refine lv_goto (tgt := 18) X.1 X.2.1 dX12_longestIn_40 (by decide) ?_
                exact ih8 _ _ f15 y16 hS (lv_sub hl [2, 3, 1, 4, 0] rfl) (iv_max (a' := 0) (b' := 2147483647) ef15 hz8_2 (iv_top f14) (by decide +kernel)) (iv_of (iv_add (a' := 1) (b' := 1) ey16 hk13 (iv_c _ (a := 1) (b := 1) (by decide +kernel)) (by decide +kernel)) (a' := 0) (b' := 4) (by decide +kernel)) (by rw [x36, xy16]; exact ⟨lgP_s xf8.1 xf8.2.1 (by rw [mk13]; decide) (by rw [mk13]; decide) (by rw [mk13]), xf8.2.1, xf8.2.2⟩) (iv_stepU ey16 hk13 (by decide +kernel) hN8)
              by_cases k17 : z8_4.toInt = 1
              · have hk17 : iv 1 1 z8_4 := ⟨by omega, by omega⟩
                have mk17 : z8_4.toInt = (1 : Int) := (rfl).symm.trans k17
                refine lv_iload_n X.1 X.2.1 dX12_longestIn_24 rfl (lv_at hl 2 rfl) ?_
                refine lv_iload_n X.1 X.2.1 dX12_longestIn_25 rfl (lv_at hl 0 rfl) ?_
                refine lv_iload_n X.1 X.2.1 dX12_longestIn_26 rfl (lv_at hl 3 rfl) ?_
                refine lv_iload X.1 X.2.1 dX12_longestIn_27 (lv_at hl 4 rfl) ?_
                refine lv_aload_n X.1 X.2.1 dX12_longestIn_29 rfl (lv_at hl 1 rfl) ?_
                refine ca_X12_rowFrom_e1 X hK hG hC (fun _ h => h.elim) hS hb x0 z1_3 (iv_lt (b' := 29) (iv_gt_of c5) hz1_3 (iv_mul (a' := 1) (b' := 30) ef4 yf2 yf3 (by decide +kernel)) (by decide +kernel)) z8_4 hk17 a1 h1 hr0 hr1 (by omega) wl_7_202 hl.1 (rest := [.int z8_2]) rfl (Nat.le_of_ble_eq_true rfl) ⟨Nat.le_of_ble_eq_true rfl, Nat.le_of_ble_eq_true rfl⟩ ⟨Nat.le_of_ble_eq_true rfl, Nat.le_of_ble_eq_true rfl⟩ dX12_longestIn_30 (fun f18 locs hf18 hS => ?_)
                have xf18 := hf18
                refine va_mmax X.1 X.2.1 (X.2.2.1.trans hl.1.symm) X.2.2.2.1 (X.2.2.2.2 _ wl_7_205) (X.2.2.2.2 _ wl_3_100) (X.2.2.2.2 _ wl_1_15) (X.2.2.2.2 _ wl_3_101) (Nat.le_of_ble_eq_true rfl) (Nat.le_of_ble_eq_true rfl) (Nat.le_of_ble_eq_true rfl) (Nat.le_of_ble_eq_true rfl) dX12_longestIn_33 ?_
                refine lv_topi (fun f19 ef19 => ?_)
                have x36 : f19.toInt = max z8_2.toInt (rwV x0 (q.1 0) (q.1 1) (z1_3.toInt) 1) := vq_max ef19 rfl xf18
                refine lv_istore_n (lv' := [(2, .int f19), (0, .int x0), (1, .ref a1), (3, .int z1_3), (4, .int z8_4)]) X.1 X.2.1 dX12_longestIn_36 rfl hl (by decide) rfl (fun ls hl => ?_)
                obtain ⟨y20, ey20⟩ : ∃ y : Int32, y = z8_4 + Int32.ofInt 1 := ⟨_, rfl⟩
                have xy20 : y20.toInt = (z8_4.toInt + 1) := sg_exadd ey20 hk17 (iv_c _ (a := 1) (b := 1) (by decide +kernel)) (by decide +kernel) rfl (by decide +kernel)
                refine lv_iinc (v := y20) (lv' := [(4, .int y20), (2, .int f19), (0, .int x0), (1, .ref a1), (3, .int z1_3)]) X.1 X.2.1 dX12_longestIn_37 hl (k := 4) rfl ey20.symm (by decide) rfl (fun ls hl => ?_)
                refine lv_goto (tgt := 18) X.1 X.2.1 dX12_longestIn_40 (by decide) ?_
                exact ih8 _ _ f19 y20 hS (lv_sub hl [2, 3, 1, 4, 0] rfl) (iv_max (a' := 0) (b' := 2147483647) ef19 hz8_2 (iv_top f18) (by decide +kernel)) (iv_of (iv_add (a' := 2) (b' := 2) ey20 hk17 (iv_c _ (a := 1) (b := 1) (by decide +kernel)) (by decide +kernel)) (a' := 0) (b' := 4) (by decide +kernel)) (by rw [x36, xy20]; exact ⟨lgP_s xf8.1 xf8.2.1 (by rw [mk17]; decide) (by rw [mk17]; decide) (by rw [mk17]), xf8.2.1, xf8.2.2⟩) (iv_stepU ey20 hk17 (by decide +kernel) hN8)
              by_cases k21 : z8_4.toInt = 2
              · have hk21 : iv 2 2 z8_4 := ⟨by omega, by omega⟩
                have mk21 : z8_4.toInt = (2 : Int) := (rfl).symm.trans k21
                refine lv_iload_n X.1 X.2.1 dX12_longestIn_24 rfl (lv_at hl 2 rfl) ?_
                refine lv_iload_n X.1 X.2.1 dX12_longestIn_25 rfl (lv_at hl 0 rfl) ?_
                refine lv_iload_n X.1 X.2.1 dX12_longestIn_26 rfl (lv_at hl 3 rfl) ?_
                refine lv_iload X.1 X.2.1 dX12_longestIn_27 (lv_at hl 4 rfl) ?_
                refine lv_aload_n X.1 X.2.1 dX12_longestIn_29 rfl (lv_at hl 1 rfl) ?_
                refine ca_X12_rowFrom_e2 X hK hG hC (fun _ h => h.elim) hS hb x0 z1_3 (iv_lt (b' := 29) (iv_gt_of c5) hz1_3 (iv_mul (a' := 1) (b' := 30) ef4 yf2 yf3 (by decide +kernel)) (by decide +kernel)) z8_4 hk21 a1 h1 hr0 hr1 (by omega) wl_7_202 hl.1 (rest := [.int z8_2]) rfl (Nat.le_of_ble_eq_true rfl) ⟨Nat.le_of_ble_eq_true rfl, Nat.le_of_ble_eq_true rfl⟩ ⟨Nat.le_of_ble_eq_true rfl, Nat.le_of_ble_eq_true rfl⟩ dX12_longestIn_30 (fun f22 locs hf22 hS => ?_)
                have xf22 := hf22
                refine va_mmax X.1 X.2.1 (X.2.2.1.trans hl.1.symm) X.2.2.2.1 (X.2.2.2.2 _ wl_7_205) (X.2.2.2.2 _ wl_3_100) (X.2.2.2.2 _ wl_1_15) (X.2.2.2.2 _ wl_3_101) (Nat.le_of_ble_eq_true rfl) (Nat.le_of_ble_eq_true rfl) (Nat.le_of_ble_eq_true rfl) (Nat.le_of_ble_eq_true rfl) dX12_longestIn_33 ?_
                refine lv_topi (fun f23 ef23 => ?_)
                have x36 : f23.toInt = max z8_2.toInt (rwV x0 (q.1 0) (q.1 1) (z1_3.toInt) 2) := vq_max ef23 rfl xf22
                refine lv_istore_n (lv' := [(2, .int f23), (0, .int x0), (1, .ref a1), (3, .int z1_3), (4, .int z8_4)]) X.1 X.2.1 dX12_longestIn_36 rfl hl (by decide) rfl (fun ls hl => ?_)
                obtain ⟨y24, ey24⟩ : ∃ y : Int32, y = z8_4 + Int32.ofInt 1 := ⟨_, rfl⟩
                have xy24 : y24.toInt = (z8_4.toInt + 1) := sg_exadd ey24 hk21 (iv_c _ (a := 1) (b := 1) (by decide +kernel)) (by decide +kernel) rfl (by decide +kernel)
                refine lv_iinc (v := y24) (lv' := [(4, .int y24), (2, .int f23), (0, .int x0), (1, .ref a1), (3, .int z1_3)]) X.1 X.2.1 dX12_longestIn_37 hl (k := 4) rfl ey24.symm (by decide) rfl (fun ls hl => ?_)
                refine lv_goto (tgt := 18) X.1 X.2.1 dX12_longestIn_40 (by decide) ?_
                exact ih8 _ _ f23 y24 hS (lv_sub hl [2, 3, 1, 4, 0] rfl) (iv_max (a' := 0) (b' := 2147483647) ef23 hz8_2 (iv_top f22) (by decide +kernel)) (iv_of (iv_add (a' := 3) (b' := 3) ey24 hk21 (iv_c _ (a := 1) (b := 1) (by decide +kernel)) (by decide +kernel)) (a' := 0) (b' := 4) (by decide +kernel)) (by rw [x36, xy24]; exact ⟨lgP_s xf8.1 xf8.2.1 (by rw [mk21]; decide) (by rw [mk21]; decide) (by rw [mk21]), xf8.2.1, xf8.2.2⟩) (iv_stepU ey24 hk21 (by decide +kernel) hN8)
              by_cases k25 : z8_4.toInt = 3
              · have hk25 : iv 3 3 z8_4 := ⟨by omega, by omega⟩
                have mk25 : z8_4.toInt = (3 : Int) := (rfl).symm.trans k25
                refine lv_iload_n X.1 X.2.1 dX12_longestIn_24 rfl (lv_at hl 2 rfl) ?_
                refine lv_iload_n X.1 X.2.1 dX12_longestIn_25 rfl (lv_at hl 0 rfl) ?_
                refine lv_iload_n X.1 X.2.1 dX12_longestIn_26 rfl (lv_at hl 3 rfl) ?_
                refine lv_iload X.1 X.2.1 dX12_longestIn_27 (lv_at hl 4 rfl) ?_
                refine lv_aload_n X.1 X.2.1 dX12_longestIn_29 rfl (lv_at hl 1 rfl) ?_
                refine ca_X12_rowFrom_e3 X hK hG hC (fun _ h => h.elim) hS hb x0 z1_3 (iv_lt (b' := 29) (iv_gt_of c5) hz1_3 (iv_mul (a' := 1) (b' := 30) ef4 yf2 yf3 (by decide +kernel)) (by decide +kernel)) z8_4 hk25 a1 h1 hr0 hr1 (by omega) wl_7_202 hl.1 (rest := [.int z8_2]) rfl (Nat.le_of_ble_eq_true rfl) ⟨Nat.le_of_ble_eq_true rfl, Nat.le_of_ble_eq_true rfl⟩ ⟨Nat.le_of_ble_eq_true rfl, Nat.le_of_ble_eq_true rfl⟩ dX12_longestIn_30 (fun f26 locs hf26 hS => ?_)
                have xf26 := hf26
                refine va_mmax X.1 X.2.1 (X.2.2.1.trans hl.1.symm) X.2.2.2.1 (X.2.2.2.2 _ wl_7_205) (X.2.2.2.2 _ wl_3_100) (X.2.2.2.2 _ wl_1_15) (X.2.2.2.2 _ wl_3_101) (Nat.le_of_ble_eq_true rfl) (Nat.le_of_ble_eq_true rfl) (Nat.le_of_ble_eq_true rfl) (Nat.le_of_ble_eq_true rfl) dX12_longestIn_33 ?_
                refine lv_topi (fun f27 ef27 => ?_)
                have x36 : f27.toInt = max z8_2.toInt (rwV x0 (q.1 0) (q.1 1) (z1_3.toInt) 3) := vq_max ef27 rfl xf26
                refine lv_istore_n (lv' := [(2, .int f27), (0, .int x0), (1, .ref a1), (3, .int z1_3), (4, .int z8_4)]) X.1 X.2.1 dX12_longestIn_36 rfl hl (by decide) rfl (fun ls hl => ?_)
                obtain ⟨y28, ey28⟩ : ∃ y : Int32, y = z8_4 + Int32.ofInt 1 := ⟨_, rfl⟩
                have xy28 : y28.toInt = (z8_4.toInt + 1) := sg_exadd ey28 hk25 (iv_c _ (a := 1) (b := 1) (by decide +kernel)) (by decide +kernel) rfl (by decide +kernel)
                refine lv_iinc (v := y28) (lv' := [(4, .int y28), (2, .int f27), (0, .int x0), (1, .ref a1), (3, .int z1_3)]) X.1 X.2.1 dX12_longestIn_37 hl (k := 4) rfl ey28.symm (by decide) rfl (fun ls hl => ?_)
                refine lv_goto (tgt := 18) X.1 X.2.1 dX12_longestIn_40 (by decide) ?_
                exact ih8 _ _ f27 y28 hS (lv_sub hl [2, 3, 1, 4, 0] rfl) (iv_max (a' := 0) (b' := 2147483647) ef27 hz8_2 (iv_top f26) (by decide +kernel)) (iv_of (iv_add (a' := 4) (b' := 4) ey28 hk25 (iv_c _ (a := 1) (b := 1) (by decide +kernel)) (by decide +kernel)) (a' := 0) (b' := 4) (by decide +kernel)) (by rw [x36, xy28]; exact ⟨lgP_s xf8.1 xf8.2.1 (by rw [mk25]; decide) (by rw [mk25]; decide) (by rw [mk25]), xf8.2.1, xf8.2.2⟩) (iv_stepU ey28 hk25 (by decide +kernel) hN8)
              exact absurd (iv_lt (b' := 3) (iv_gt_of c9) hz8_4 (iv_c 4 (a := 4) (b := 4) (by decide +kernel)) (by decide +kernel)) (fun hh => by have := hh.1; have := hh.2; omega)
        exact B8_18 _ _ _ z1_2 0 hS (lv_sub hl [1, 2, 3, 4, 0] rfl) hz1_2 (iv_of (iv_c 0 (a := 0) (b := 0) (by decide +kernel)) (a' := 0) (b' := 4) (by decide +kernel)) (by rw [show (0 : Int32).toInt = 0 from by decide +kernel]; exact ⟨xf1.1, xf1.2.1, i7⟩) (Nat.le_refl _)
  exact B1_4 _ _ _ 0 0 hS (lv_sub hl [2, 3, 1, 0] rfl) (iv_of (iv_c 0 (a := 0) (b := 0) (by decide +kernel)) (a' := 0) (b' := 2147483647) (by decide +kernel)) (iv_of (iv_c 0 (a := 0) (b := 0) (by decide +kernel)) (a' := 0) (b' := 30) (by decide +kernel)) (by rw [show (0 : Int32).toInt = 0 from by decide +kernel]; exact ⟨lgP_0, Int.le_refl _, hwh⟩) (Nat.le_refl _)

theorem ca_X12_longestIn_e  {e1 e2 d1 d2 : Int} {q : sgLwn} {o : sgO}  (X : CallFix p m c cc nL s args sg_tbl own) (hK : va_K D vwCl tys s) (hG : sgG (KE e1 e2 (-1) (-1) d1 d2 (zQ q o) P) D vwCl (fun q : Nat => base ≤ q) tys ad ks H) (hC : sgC base s) (hA : ∀ q : Nat, A q → base ≤ q) (hS : va_S A s.heap H locs) (hb : base ≤ s.heap.size) (x0 : Int32) (a1 : Nat) (h1 : isK ad ks 50 a1) (hr0 : 1 ≤ q.1 0 ∧ q.1 0 ≤ 6) (hr1 : 1 ≤ q.1 1 ∧ q.1 1 ≤ 5) (hr2 : 2 ≤ q.1 2 ∧ q.1 2 ≤ 5) (hd0 : 0 ≤ d1 ∧ d2 ≤ 6) (hl : Cond.methodLink own index yX12_longestIn ∈ sg_tbl) (hsize : ls.size = nL) (hst : st0 = [.int x0, .ref a1].reverse ++ rest) (hW : (rest.map fun v => v.category).sum ≤ 8) (hR : 3 ≤ R.frames ∧ 73 ≤ R.locals) (hf : cells ≤ R.cells ∧ slots ≤ R.slots) (hdg : decode cc pc = .ok (.invokestatic index, 3)) (kk : ∀ (r : Int32) (locs1 : List Loc), (fun r : Int32 => ∀ L : Int, 1 ≤ L → (L ≤ r.toInt ↔ lwLine x0 (q.1 0) (q.1 1) L)) r → va_S A s.heap H locs1 → W p l e R s m args below meth c H locs1 cells slots Q (F0 m (pc + 3) ls (.int r :: rest))) : W p l e R s m args below meth c H locs cells slots Q (F0 m pc ls st0) :=
  sg_callPSi X hK hG hC hA hS hb (m_X12_longestIn_e l x0 a1 h1 hr0 hr1 hr2 hd0) wl_7_201 wl_1_13 wl_7_200 (n := 2) (by decide +kernel) rfl rfl rfl hl hsize hst hW hR hf hdg kk

set_option maxHeartbeats 8000000 in
set_option maxRecDepth 100000 in
theorem m_X12_hasLine_e (l : Launch) {D : va_G} {base : Nat} {tys : List (ClassId × FieldType)} {ad ks : List Nat} {P : sgPm}{e1 e2 d1 d2 : Int} {q : sgLwn} {o : sgO}  {Hx : Heap} (x0 : Int32) (a1 : Nat) (h1 : isK ad ks 50 a1) (hr0 : 1 ≤ q.1 0 ∧ q.1 0 ≤ 6) (hr1 : 1 ≤ q.1 1 ∧ q.1 1 ≤ 5) (hr2 : 2 ≤ q.1 2 ∧ q.1 2 ≤ 5) (hd0 : 0 ≤ d1 ∧ d2 ≤ 6) : sgPi l (KE e1 e2 (-1) (-1) d1 d2 (zQ q o) P) D vwCl base tys ad ks Hx yX12_hasLine cX12_hasLine 2 (some .boolean) ({ frames := 3, cells := 0, slots := 0, locals := 73 }) [.int x0, .ref a1] (fun r : Int32 => (r = 1 ∧ lwLine x0 (q.1 0) (q.1 1) (q.1 2)) ∨ (r = 0 ∧ ¬ lwLine x0 (q.1 0) (q.1 1) (q.1 2))) := by
  refine sg_ofP (Pq := fun Hx => va_Qi (fun r (_ : Unit) => (fun r : Int32 => (r = 1 ∧ lwLine x0 (q.1 0) (q.1 1) (q.1 2)) ∨ (r = 0 ∧ ¬ lwLine x0 (q.1 0) (q.1 1) (q.1 2))) r) (fun _ t => t.heap = Hx) (fun _ : Nat => False)) (by decide +kernel) (Nat.le_of_ble_eq_true rfl) (fun p e s m below meth c X hr hlk hb hK hC hG ls hl => ?_)
  have hS : va_S (fun _ : Nat => False) s.heap s.heap [] := va_S.rf
  have hl : lv_has ls 2 [(0, .int x0), (1, .ref a1)] := hl
  refine lv_iload_n X.1 X.2.1 dX12_hasLine_0 rfl (lv_at hl 0 rfl) ?_
  refine lv_aload_n X.1 X.2.1 dX12_hasLine_1 rfl (lv_at hl 1 rfl) ?_
  refine ca_X12_longestIn_e X hK hG hC (fun _ h => h.elim) hS hb x0 a1 h1 hr0 hr1 hr2 (by omega) wl_7_199 hl.1 (rest := []) rfl (Nat.le_of_ble_eq_true rfl) ⟨Nat.le_of_ble_eq_true rfl, Nat.le_of_ble_eq_true rfl⟩ ⟨Nat.le_of_ble_eq_true rfl, Nat.le_of_ble_eq_true rfl⟩ dX12_hasLine_2 (fun f1 locs hf1 hS => ?_)
  refine lv_aload_n X.1 X.2.1 dX12_hasLine_5 rfl (lv_at hl 1 rfl) ?_
  refine lv_iconst (v := 2) X.1 X.2.1 dX12_hasLine_6 (by decide +kernel) ?_
  refine al_50e X hK hG h1 (iv_vpin (iv_c 2 (a := 2) (b := 2) (by decide +kernel)) (by decide +kernel)) dX12_hasLine_7 (fun f2 hf2 => ?_)
  have xf2 : f2.toInt = (q.1 2) := zg_r (q := q) (o := o) (sg_cl (iv_c 2 (a := 2) (b := 2) (by decide +kernel)) (by decide)) (by decide) hf2
  have yf2 : iv 2 5 f2 := vq_of xf2 hr2
  refine lv_icmp_lt (tgt := 15) X.1 X.2.1 dX12_hasLine_8 (by decide) (fun c3 => ?_) (fun c3 => ?_)
  · have i4 : f1.toInt < (q.1 2) := vq_lt c3 rfl xf2
    refine lv_iconst (v := 0) X.1 X.2.1 dX12_hasLine_15 (by decide +kernel) ?_
    exact sg_zretP X hr (sg_zn (iv_of (iv_c 0 (a := 0) (b := 0) (by decide +kernel)) (a' := 0) (b' := 1) (by decide +kernel))) hlk hS (Or.inr ⟨rfl, fun z => Int.not_lt.mpr ((hf1 (q.1 2) (by have := hr2.1; omega)).mpr z) i4⟩) dX12_hasLine_16
  · have i5 : ¬ f1.toInt < (q.1 2) := vq_le (iv_ge_of c3) xf2 rfl
    refine lv_iconst (v := 1) X.1 X.2.1 dX12_hasLine_11 (by decide +kernel) ?_
    refine lv_goto (tgt := 16) X.1 X.2.1 dX12_hasLine_12 (by decide) ?_
    exact sg_zretP X hr (sg_zn (iv_of (iv_c 1 (a := 1) (b := 1) (by decide +kernel)) (a' := 0) (b' := 1) (by decide +kernel))) hlk hS (Or.inl ⟨rfl, (hf1 (q.1 2) (by have := hr2.1; omega)).mp (Int.not_lt.mp i5)⟩) dX12_hasLine_16

theorem ca_X12_hasLine_e  {e1 e2 d1 d2 : Int} {q : sgLwn} {o : sgO}  (X : CallFix p m c cc nL s args sg_tbl own) (hK : va_K D vwCl tys s) (hG : sgG (KE e1 e2 (-1) (-1) d1 d2 (zQ q o) P) D vwCl (fun q : Nat => base ≤ q) tys ad ks H) (hC : sgC base s) (hA : ∀ q : Nat, A q → base ≤ q) (hS : va_S A s.heap H locs) (hb : base ≤ s.heap.size) (x0 : Int32) (a1 : Nat) (h1 : isK ad ks 50 a1) (hr0 : 1 ≤ q.1 0 ∧ q.1 0 ≤ 6) (hr1 : 1 ≤ q.1 1 ∧ q.1 1 ≤ 5) (hr2 : 2 ≤ q.1 2 ∧ q.1 2 ≤ 5) (hd0 : 0 ≤ d1 ∧ d2 ≤ 6) (hl : Cond.methodLink own index yX12_hasLine ∈ sg_tbl) (hsize : ls.size = nL) (hst : st0 = [.int x0, .ref a1].reverse ++ rest) (hW : (rest.map fun v => v.category).sum ≤ 8) (hR : 4 ≤ R.frames ∧ 94 ≤ R.locals) (hf : cells ≤ R.cells ∧ slots ≤ R.slots) (hdg : decode cc pc = .ok (.invokestatic index, 3)) (kk : ∀ (r : Int32) (locs1 : List Loc), (fun r : Int32 => (r = 1 ∧ lwLine x0 (q.1 0) (q.1 1) (q.1 2)) ∨ (r = 0 ∧ ¬ lwLine x0 (q.1 0) (q.1 1) (q.1 2))) r → va_S A s.heap H locs1 → W p l e R s m args below meth c H locs1 cells slots Q (F0 m (pc + 3) ls (.int r :: rest))) : W p l e R s m args below meth c H locs cells slots Q (F0 m pc ls st0) :=
  sg_callPSi X hK hG hC hA hS hb (m_X12_hasLine_e l x0 a1 h1 hr0 hr1 hr2 hd0) wl_7_198 wl_1_13 wl_7_197 (n := 2) (by decide +kernel) rfl rfl rfl hl hsize hst hW hR hf hdg kk
end
