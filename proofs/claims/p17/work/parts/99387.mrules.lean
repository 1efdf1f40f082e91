
section
variable {p : Program} {l : Launch} {e : Env} {R : Room} {s : State} {m : MethodId} {args : Array Value} {below : List Frame} {meth : Method} {c : Code} {H : Heap} {locs : List Loc} {cells slots : Nat} {Q : State → Prop} {cc : ByteArray} {nL pc : Nat} {ls : Array Slot} {rest : List Value} {own : String} {D : va_G} {A : Nat → Prop} {tys : List (ClassId × FieldType)} {ad ks : List Nat} {P : sgPm} {H0 : Heap} {index : Nat} {base : Nat} {st0 : List Value} {a : Nat}

set_option maxHeartbeats 8000000 in
set_option maxRecDepth 100000 in
theorem m_X12_readItems_es (l : Launch) {D : va_G} {base : Nat} {tys : List (ClassId × FieldType)} {ad ks : List Nat} {P : sgPm}{a d1 d2 : Int} {q : sgLwn} {o : sgO}  (ta tv : Nat) (tb : List Int32) (a0 : Nat) (h0 : isK ad ks 12 a0) (x1 : Int32) (h1 : iv 115 115 x1) (a2 : Nat) (h2 : isK ad ks 50 a2) (hl0 : 0 ≤ sgL2 P ∧ sgL2 P ≤ 240) (hav : 0 ≤ a ∧ a ≤ sgL2 P) (hby : sgBy2 P) (hd0 : 0 ≤ d1 ∧ d2 ≤ 6) (htb : ∀ j : Nat, j < 7 → iv 0 127 (tb.getD j 0)) (hte : tb = [119, 104, 113, 107, 108, 117, 120]) : Met l yX12_readItems (Cond.code yX12_readItems cX12_readItems 6 none :: sg_tbl) ({ frames := 5, cells := 0, slots := 0, locals := 107 }) (va_Pc [.ref a0, .int x1, .ref a2, .ref ta] (fun U => P_S ta tv 7 tb (fun q : Nat => base ≤ q) U ∧ sgB (KE a a (-1) (-1) d1 d2 (zQ q o) P) D vwCl base tys ad ks U)) (va_Qv (fun (_ : Unit) => True) (fun _ => fun t => (∃ (a1 : Int) (f1 : Nat → Int), vRuM (sgU2 P) (sgL2 P) 0 vUsu (vX (sgU2 P) (sgL2 P) a) = (true, vX (sgU2 P) (sgL2 P) a1, f1) ∧ a + 0 ≤ a1 ∧ a1 ≤ sgL2 P ∧ sgB (KE a1 a1 (-1) (-1) d1 d2 (zQ (f1, q.2) o) P) D vwCl base tys ad ks t) ∨ (∃ (w : Int) (f1 : Nat → Int) (z1 : sgZt), vRuM (sgU2 P) (sgL2 P) 0 vUsu (vX (sgU2 P) (sgL2 P) a) = (false, w, f1) ∧ 0 ≤ w ∧ w ≤ 240 ∧ sgB (KE 0 241 w w d1 d2 z1 P) D vwCl base tys ad ks t)) (fun q : Nat => base ≤ q)) 0 0 (fun q : Nat => base ≤ q) := by
  refine sg_ofQ (by decide +kernel) (Nat.le_of_ble_eq_true rfl) (fun p e s m below meth c X hr hlk hb hK hC hG ls hl hp => ?_)
  have hS : va_S (fun q : Nat => base ≤ q) s.heap s.heap [] := va_S.rf
  have hl : lv_has ls 6 [(0, .ref a0), (1, .int x1), (2, .ref a2), (3, .ref ta)] := hl
  refine lv_iconst (v := 0) X.1 X.2.1 dX12_readItems_0 (by decide +kernel) ?_
  refine lv_istore (lv' := [(4, .int 0), (0, .ref a0), (1, .int x1), (2, .ref a2), (3, .ref ta)]) X.1 X.2.1 dX12_readItems_1 hl (by decide) rfl (fun ls hl => ?_)
  refine lv_iload X.1 X.2.1 dX12_readItems_3 (lv_at hl 0 rfl) ?_
  refine lv_aload_n X.1 X.2.1 dX12_readItems_5 rfl (lv_at hl 4 rfl) ?_
  refine ca_J0_length_8abf5_7 X hK (ke_toKT hG (by decide) (by decide) hd0.1 hd0.2) hC (fun _ h => h) hS hb hp wl_7_150 hl.1 (rest := [.int 0]) rfl (Nat.le_of_ble_eq_true rfl) ⟨Nat.le_of_ble_eq_true rfl, Nat.le_of_ble_eq_true rfl⟩ ⟨Nat.le_of_ble_eq_true rfl, Nat.le_of_ble_eq_true rfl⟩ dX12_readItems_6 (fun f1 locs hf1 hS => ?_)
  refine lv_icmp_ge (tgt := 28) X.1 X.2.1 dX12_readItems_9 (by decide) (fun c2 => ?_) (fun c2 => ?_)
  · have i3 : ¬ (0 : Int) < (7 : Int) := vq_le c2 (vq_iv hf1) (by decide +kernel)
    exact ((iv_no (iv_le (b' := 0) c2 hf1 (iv_c 0 (a := 0) (b := 0) (by decide +kernel)) (by decide +kernel)) (by decide +kernel))).elim
  · have i4 : (0 : Int) < (7 : Int) := vq_lt (iv_gt_of c2) (by decide +kernel) (vq_iv hf1)
    refine lv_aload_n X.1 X.2.1 dX12_readItems_12 rfl (lv_at hl 3 rfl) ?_
    refine lv_iload X.1 X.2.1 dX12_readItems_13 (lv_at hl 0 rfl) ?_
    refine lv_iload_n X.1 X.2.1 dX12_readItems_15 rfl (lv_at hl 2 rfl) ?_
    refine lv_iload X.1 X.2.1 dX12_readItems_16 (lv_at hl 0 rfl) ?_
    refine ca_X12_usual_k0 X hK (ke_toKT hG (by decide) (by decide) hd0.1 hd0.2) hC (fun _ h => h) hS hb x1 h1 0 (iv_c 0 (a := 0) (b := 0) (by decide +kernel)) wl_7_130 hl.1 (rest := [.int 0, .ref a2]) rfl (Nat.le_of_ble_eq_true rfl) ⟨Nat.le_of_ble_eq_true rfl, Nat.le_of_ble_eq_true rfl⟩ ⟨Nat.le_of_ble_eq_true rfl, Nat.le_of_ble_eq_true rfl⟩ dX12_readItems_18 (fun f5 locs hf5 hS => ?_)
    refine as_50Z X hK hG hS h2 (iv_vpin (iv_c 0 (a := 0) (b := 0) (by decide +kernel)) (by decide +kernel)) dX12_readItems_21 (fun H locs hG hS => ?_)
    rw [show (0 : Int32).toNatClampNeg = 0 from sg_cl (iv_c 0 (a := 0) (b := 0) (by decide +kernel)) (by decide), (vq_iv hf5), zq_r (by decide)] at hG
    have hG : sgG (KE a a (-1) (-1) d1 d2 (zQ ((fnUp q.1 0 5), q.2) o) P) D vwCl _ tys ad ks _ := hG
    obtain ⟨y6, ey6⟩ : ∃ y : Int32, y = 0 + Int32.ofInt 1 := ⟨_, rfl⟩
    have xy6 : y6.toInt = (0 + 1) := sg_exadd ey6 (iv_c 0 (a := 0) (b := 0) (by decide +kernel)) (iv_c _ (a := 1) (b := 1) (by decide +kernel)) (by decide +kernel) (by decide +kernel) (by decide +kernel)
    refine lv_iinc (v := y6) (lv' := [(4, .int y6), (0, .ref a0), (1, .int x1), (2, .ref a2), (3, .ref ta)]) X.1 X.2.1 dX12_readItems_22 hl (k := 0) rfl ey6.symm (by decide) rfl (fun ls hl => ?_)
    refine lv_goto (tgt := 3) X.1 X.2.1 dX12_readItems_25 (by decide) ?_
    refine lv_iload X.1 X.2.1 dX12_readItems_3 (lv_at hl 0 rfl) ?_
    refine lv_aload_n X.1 X.2.1 dX12_readItems_5 rfl (lv_at hl 4 rfl) ?_
    refine ca_J0_length_8abf5_7 X hK (ke_toKT hG (by decide) (by decide) hd0.1 hd0.2) hC (fun _ h => h) hS hb hp wl_7_150 hl.1 (rest := [.int y6]) rfl (Nat.le_of_ble_eq_true rfl) ⟨Nat.le_of_ble_eq_true rfl, Nat.le_of_ble_eq_true rfl⟩ ⟨Nat.le_of_ble_eq_true rfl, Nat.le_of_ble_eq_true rfl⟩ dX12_readItems_6 (fun f7 locs hf7 hS => ?_)
    refine lv_icmp_ge (tgt := 28) X.1 X.2.1 dX12_readItems_9 (by decide) (fun c8 => ?_) (fun c8 => ?_)
    · have i9 : ¬ ((0 + 1) : Int) < (7 : Int) := vq_le c8 (vq_iv hf7) xy6
      exact ((iv_no (iv_le (b' := 1) c8 hf7 (iv_add (a' := 1) (b' := 1) ey6 (iv_c 0 (a := 0) (b := 0) (by decide +kernel)) (iv_c _ (a := 1) (b := 1) (by decide +kernel)) (by decide +kernel)) (by decide +kernel)) (by decide +kernel))).elim
    · have i10 : ((0 + 1) : Int) < (7 : Int) := vq_lt (iv_gt_of c8) xy6 (vq_iv hf7)
      refine lv_aload_n X.1 X.2.1 dX12_readItems_12 rfl (lv_at hl 3 rfl) ?_
      refine lv_iload X.1 X.2.1 dX12_readItems_13 (lv_at hl 0 rfl) ?_
      refine lv_iload_n X.1 X.2.1 dX12_readItems_15 rfl (lv_at hl 2 rfl) ?_
      refine lv_iload X.1 X.2.1 dX12_readItems_16 (lv_at hl 0 rfl) ?_
      refine ca_X12_usual_k1 X hK (ke_toKT hG (by decide) (by decide) hd0.1 hd0.2) hC (fun _ h => h) hS hb x1 h1 y6 (iv_add (a' := 1) (b' := 1) ey6 (iv_c 0 (a := 0) (b := 0) (by decide +kernel)) (iv_c _ (a := 1) (b := 1) (by decide +kernel)) (by decide +kernel)) wl_7_130 hl.1 (rest := [.int y6, .ref a2]) rfl (Nat.le_of_ble_eq_true rfl) ⟨Nat.le_of_ble_eq_true rfl, Nat.le_of_ble_eq_true rfl⟩ ⟨Nat.le_of_ble_eq_true rfl, Nat.le_of_ble_eq_true rfl⟩ dX12_readItems_18 (fun f11 locs hf11 hS => ?_)
      refine as_50Z X hK hG hS h2 (iv_vpin (iv_add (a' := 1) (b' := 1) ey6 (iv_c 0 (a := 0) (b := 0) (by decide +kernel)) (iv_c _ (a := 1) (b := 1) (by decide +kernel)) (by decide +kernel)) (by decide +kernel)) dX12_readItems_21 (fun H locs hG hS => ?_)
      rw [show (y6 : Int32).toNatClampNeg = 1 from sg_cl (iv_add (a' := 1) (b' := 1) ey6 (iv_c 0 (a := 0) (b := 0) (by decide +kernel)) (iv_c _ (a := 1) (b := 1) (by decide +kernel)) (by decide +kernel)) (by decide), (vq_iv hf11), zq_r (by decide)] at hG
      have hG : sgG (KE a a (-1) (-1) d1 d2 (zQ ((fnUp (fnUp q.1 0 5) 1 4), q.2) o) P) D vwCl _ tys ad ks _ := hG
      obtain ⟨y12, ey12⟩ : ∃ y : Int32, y = y6 + Int32.ofInt 1 := ⟨_, rfl⟩
      have xy12 : y12.toInt = ((0 + 1) + 1) := sg_exadd ey12 (iv_add (a' := 1) (b' := 1) ey6 (iv_c 0 (a := 0) (b := 0) (by decide +kernel)) (iv_c _ (a := 1) (b := 1) (by decide +kernel)) (by decide +kernel)) (iv_c _ (a := 1) (b := 1) (by decide +kernel)) (by decide +kernel) xy6 (by decide +kernel)
      refine lv_iinc (v := y12) (lv' := [(4, .int y12), (0, .ref a0), (1, .int x1), (2, .ref a2), (3, .ref ta)]) X.1 X.2.1 dX12_readItems_22 hl (k := 0) rfl ey12.symm (by decide) rfl (fun ls hl => ?_)
      refine lv_goto (tgt := 3) X.1 X.2.1 dX12_readItems_25 (by decide) ?_
      refine lv_iload X.1 X.2.1 dX12_readItems_3 (lv_at hl 0 rfl) ?_
      refine lv_aload_n X.1 X.2.1 dX12_readItems_5 rfl (lv_at hl 4 rfl) ?_
      refine ca_J0_length_8abf5_7 X hK (ke_toKT hG (by decide) (by decide) hd0.1 hd0.2) hC (fun _ h => h) hS hb hp wl_7_150 hl.1 (rest := [.int y12]) rfl (Nat.le_of_ble_eq_true rfl) ⟨Nat.le_of_ble_eq_true rfl, Nat.le_of_ble_eq_true rfl⟩ ⟨Nat.le_of_ble_eq_true rfl, Nat.le_of_ble_eq_true rfl⟩ dX12_readItems_6 (fun f13 locs hf13 hS => ?_)
      refine lv_icmp_ge (tgt := 28) X.1 X.2.1 dX12_readItems_9 (by decide) (fun c14 => ?_) (fun c14 => ?_)
      · have i15 : ¬ (((0 + 1) + 1) : Int) < (7 : Int) := vq_le c14 (vq_iv hf13) xy12
        exact ((iv_no (iv_le (b' := 2) c14 hf13 (iv_add (a' := 2) (b' := 2) ey12 (iv_add (a' := 1) (b' := 1) ey6 (iv_c 0 (a := 0) (b := 0) (by decide +kernel)) (iv_c _ (a := 1) (b := 1) (by decide +kernel)) (by decide +kernel)) (iv_c _ (a := 1) (b := 1) (by decide +kernel)) (by decide +kernel)) (by decide +kernel)) (by decide +kernel))).elim
      · have i16 : (((0 + 1) + 1) : Int) < (7 : Int) := vq_lt (iv_gt_of c14) xy12 (vq_iv hf13)
        refine lv_aload_n X.1 X.2.1 dX12_readItems_12 rfl (lv_at hl 3 rfl) ?_
        refine lv_iload X.1 X.2.1 dX12_readItems_13 (lv_at hl 0 rfl) ?_
        refine lv_iload_n X.1 X.2.1 dX12_readItems_15 rfl (lv_at hl 2 rfl) ?_
        refine lv_iload X.1 X.2.1 dX12_readItems_16 (lv_at hl 0 rfl) ?_
        refine ca_X12_usual_k2 X hK (ke_toKT hG (by decide) (by decide) hd0.1 hd0.2) hC (fun _ h => h) hS hb x1 h1 y12 (iv_add (a' := 2) (b' := 2) ey12 (iv_add (a' := 1) (b' := 1) ey6 (iv_c 0 (a := 0) (b := 0) (by decide +kernel)) (iv_c _ (a := 1) (b := 1) (by decide +kernel)) (by decide +kernel)) (iv_c _ (a := 1) (b := 1) (by decide +kernel)) (by decide +kernel)) wl_7_130 hl.1 (rest := [.int y12, .ref a2]) rfl (Nat.le_of_ble_eq_true rfl) ⟨Nat.le_of_ble_eq_true rfl, Nat.le_of_ble_eq_true rfl⟩ ⟨Nat.le_of_ble_eq_true rfl, Nat.le_of_ble_eq_true rfl⟩ dX12_readItems_18 (fun f17 locs hf17 hS => ?_)
        refine as_50Z X hK hG hS h2 (iv_vpin (iv_add (a' := 2) (b' := 2) ey12 (iv_add (a' := 1) (b' := 1) ey6 (iv_c 0 (a := 0) (b := 0) (by decide +kernel)) (iv_c _ (a := 1) (b := 1) (by decide +kernel)) (by decide +kernel)) (iv_c _ (a := 1) (b := 1) (by decide +kernel)) (by decide +kernel)) (by decide +kernel)) dX12_readItems_21 (fun H locs hG hS => ?_)
        rw [show (y12 : Int32).toNatClampNeg = 2 from sg_cl (iv_add (a' := 2) (b' := 2) ey12 (iv_add (a' := 1) (b' := 1) ey6 (iv_c 0 (a := 0) (b := 0) (by decide +kernel)) (iv_c _ (a := 1) (b := 1) (by decide +kernel)) (by decide +kernel)) (iv_c _ (a := 1) (b := 1) (by decide +kernel)) (by decide +kernel)) (by decide), (vq_iv hf17), zq_r (by decide)] at hG
        have hG : sgG (KE a a (-1) (-1) d1 d2 (zQ ((fnUp (fnUp (fnUp q.1 0 5) 1 4) 2 3), q.2) o) P) D vwCl _ tys ad ks _ := hG
        obtain ⟨y18, ey18⟩ : ∃ y : Int32, y = y12 + Int32.ofInt 1 := ⟨_, rfl⟩
        have xy18 : y18.toInt = (((0 + 1) + 1) + 1) := sg_exadd ey18 (iv_add (a' := 2) (b' := 2) ey12 (iv_add (a' := 1) (b' := 1) ey6 (iv_c 0 (a := 0) (b := 0) (by decide +kernel)) (iv_c _ (a := 1) (b := 1) (by decide +kernel)) (by decide +kernel)) (iv_c _ (a := 1) (b := 1) (by decide +kernel)) (by decide +kernel)) (iv_c _ (a := 1) (b := 1) (by decide +kernel)) (by decide +kernel) xy12 (by decide +kernel)
        refine lv_iinc (v := y18) (lv' := [(4, .int y18), (0, .ref a0), (1, .int x1), (2, .ref a2), (3, .ref ta)]) X.1 X.2.1 dX12_readItems_22 hl (k := 0) rfl ey18.symm (by decide) rfl (fun ls hl => ?_)
        refine lv_goto (tgt := 3) X.1 X.2.1 dX12_readItems_25 (by decide) ?_
        refine lv_iload X.1 X.2.1 dX12_readItems_3 (lv_at hl 0 rfl) ?_
        refine lv_aload_n X.1 X.2.1 dX12_readItems_5 rfl (lv_at hl 4 rfl) ?_
        refine ca_J0_length_8abf5_7 X hK (ke_toKT hG (by decide) (by decide) hd0.1 hd0.2) hC (fun _ h => h) hS hb hp wl_7_150 hl.1 (rest := [.int y18]) rfl (Nat.le_of_ble_eq_true rfl) ⟨Nat.le_of_ble_eq_true rfl, Nat.le_of_ble_eq_true rfl⟩ ⟨Nat.le_of_ble_eq_true rfl, Nat.le_of_ble_eq_true rfl⟩ dX12_readItems_6 (fun f19 locs hf19 hS => ?_)
        refine lv_icmp_ge (tgt := 28) X.1 X.2.1 dX12_readItems_9 (by decide) (fun c20 => ?_) (fun c20 => ?_)
        · have i21 : ¬ ((((0 + 1) + 1) + 1) : Int) < (7 : Int) := vq_le c20 (vq_iv hf19) xy18
          exact ((iv_no (iv_le (b' := 3) c20 hf19 (iv_add (a' := 3) (b' := 3) ey18 (iv_add (a' := 2) (b' := 2) ey12 (iv_add (a' := 1) (b' := 1) ey6 (iv_c 0 (a := 0) (b := 0) (by decide +kernel)) (iv_c _ (a := 1) (b := 1) (by decide +kernel)) (by decide +kernel)) (iv_c _ (a := 1) (b := 1) (by decide +kernel)) (by decide +kernel)) (iv_c _ (a := 1) (b := 1) (by decide +kernel)) (by decide +kernel)) (by decide +kernel)) (by decide +kernel))).elim
        · have i22 : ((((0 + 1) + 1) + 1) : Int) < (7 : Int) := vq_lt (iv_gt_of c20) xy18 (vq_iv hf19)
          refine lv_aload_n X.1 X.2.1 dX12_readItems_12 rfl (lv_at hl 3 rfl) ?_
          refine lv_iload X.1 X.2.1 dX12_readItems_13 (lv_at hl 0 rfl) ?_
          refine lv_iload_n X.1 X.2.1 dX12_readItems_15 rfl (lv_at hl 2 rfl) ?_
          refine lv_iload X.1 X.2.1 dX12_readItems_16 (lv_at hl 0 rfl) ?_
          refine ca_X12_usual_k3 X hK (ke_toKT hG (by decide) (by decide) hd0.1 hd0.2) hC (fun _ h => h) hS hb x1 h1 y18 (iv_add (a' := 3) (b' := 3) ey18 (iv_add (a' := 2) (b' := 2) ey12 (iv_add (a' := 1) (b' := 1) ey6 (iv_c 0 (a := 0) (b := 0) (by decide +kernel)) (iv_c _ (a := 1) (b := 1) (by decide +kernel)) (by decide +kernel)) (iv_c _ (a := 1) (b := 1) (by decide +kernel)) (by decide +kernel)) (iv_c _ (a := 1) (b := 1) (by decide +kernel)) (by decide +kernel)) wl_7_130 hl.1 (rest := [.int y18, .ref a2]) rfl (Nat.le_of_ble_eq_true rfl) ⟨Nat.le_of_ble_eq_true rfl, Nat.le_of_ble_eq_true rfl⟩ ⟨Nat.le_of_ble_eq_true rfl, Nat.le_of_ble_eq_true rfl⟩ dX12_readItems_18 (fun f23 locs hf23 hS => ?_)
          refine as_50Z X hK hG hS h2 (iv_vpin (iv_add (a' := 3) (b' := 3) ey18 (iv_add (a' := 2) (b' := 2) ey12 (iv_add (a' := 1) (b' := 1) ey6 (iv_c 0 (a := 0) (b := 0) (by decide +kernel)) (iv_c _ (a := 1) (b := 1) (by decide +kernel)) (by decide +kernel)) (iv_c _ (a := 1) (b := 1) (by decide +kernel)) (by decide +kernel)) (iv_c _ (a := 1) (b := 1) (by decide +kernel)) (by decide +kernel)) (by decide +kernel)) dX12_readItems_21 (fun H locs hG hS => ?_)
          rw [show (y18 : Int32).toNatClampNeg = 3 from sg_cl (iv_add (a' := 3) (b' := 3) ey18 (iv_add (a' := 2) (b' := 2) ey12 (iv_add (a' := 1) (b' := 1) ey6 (iv_c 0 (a := 0) (b := 0) (by decide +kernel)) (iv_c _ (a := 1) (b := 1) (by decide +kernel)) (by decide +kernel)) (iv_c _ (a := 1) (b := 1) (by decide +kernel)) (by decide +kernel)) (iv_c _ (a := 1) (b := 1) (by decide +kernel)) (by decide +kernel)) (by decide), (vq_iv hf23), zq_r (by decide)] at hG
          have hG : sgG (KE a a (-1) (-1) d1 d2 (zQ ((fnUp (fnUp (fnUp (fnUp q.1 0 5) 1 4) 2 3) 3 2), q.2) o) P) D vwCl _ tys ad ks _ := hG
          obtain ⟨y24, ey24⟩ : ∃ y : Int32, y = y18 + Int32.ofInt 1 := ⟨_, rfl⟩
          have xy24 : y24.toInt = ((((0 + 1) + 1) + 1) + 1) := sg_exadd ey24 (iv_add (a' := 3) (b' := 3) ey18 (iv_add (a' := 2) (b' := 2) ey12 (iv_add (a' := 1) (b' := 1) ey6 (iv_c 0 (a := 0) (b := 0) (by decide +kernel)) (iv_c _ (a := 1) (b := 1) (by decide +kernel)) (by decide +kernel)) (iv_c _ (a := 1) (b := 1) (by decide +kernel)) (by decide +kernel)) (iv_c _ (a := 1) (b := 1) (by decide +kernel)) (by decide +kernel)) (iv_c _ (a := 1) (b := 1) (by decide +kernel)) (by decide +kernel) xy18 (by decide +kernel)
          refine lv_iinc (v := y24) (lv' := [(4, .int y24), (0, .ref a0), (1, .int x1), (2, .ref a2), (3, .ref ta)]) X.1 X.2.1 dX12_readItems_22 hl (k := 0) rfl ey24.symm (by decide) rfl (fun ls hl => ?_)
          refine lv_goto (tgt := 3) X.1 X.2.1 dX12_readItems_25 (by decide) ?_
          refine lv_iload X.1 X.2.1 dX12_readItems_3 (lv_at hl 0 rfl) ?_
          refine lv_aload_n X.1 X.2.1 dX12_readItems_5 rfl (lv_at hl 4 rfl) ?_
          refine ca_J0_length_8abf5_7 X hK (ke_toKT hG (by decide) (by decide) hd0.1 hd0.2) hC (fun _ h => h) hS hb hp wl_7_150 hl.1 (rest := [.int y24]) rfl (Nat.le_of_ble_eq_true rfl) ⟨Nat.le_of_ble_eq_true rfl, Nat.le_of_ble_eq_true rfl⟩ ⟨Nat.le_of_ble_eq_true rfl, Nat.le_of_ble_eq_true rfl⟩ dX12_readItems_6 (fun f25 locs hf25 hS => ?_)
          refine lv_icmp_ge (tgt := 28) X.1 X.2.1 dX12_readItems_9 (by decide) (fun c26 => ?_) (fun c26 => ?_)
          · have i27 : ¬ (((((0 + 1) + 1) + 1) + 1) : Int) < (7 : Int) := vq_le c26 (vq_iv hf25) xy24
            exact ((iv_no (iv_le (b' := 4) c26 hf25 (iv_add (a' := 4) (b' := 4) ey24 (iv_add (a' := 3) (b' := 3) ey18 (iv_add (a' := 2) (b' := 2) ey12 (iv_add (a' := 1) (b' := 1) ey6 (iv_c 0 (a := 0) (b := 0) (by decide +kernel)) (iv_c _ (a := 1) (b := 1) (by decide +kernel)) (by decide +kernel)) (iv_c _ (a := 1) (b := 1) (by decide +kernel)) (by decide +kernel)) (iv_c _ (a := 1) (b := 1) (by decide +kernel)) (by decide +kernel)) (iv_c _ (a := 1) (b := 1) (by decide +kernel)) (by decide +kernel)) (by decide +kernel)) (by decide +kernel))).elim
          · have i28 : (((((0 + 1) + 1) + 1) + 1) : Int) < (7 : Int) := vq_lt (iv_gt_of c26) xy24 (vq_iv hf25)
            refine lv_aload_n X.1 X.2.1 dX12_readItems_12 rfl (lv_at hl 3 rfl) ?_
            refine lv_iload X.1 X.2.1 dX12_readItems_13 (lv_at hl 0 rfl) ?_
            refine lv_iload_n X.1 X.2.1 dX12_readItems_15 rfl (lv_at hl 2 rfl) ?_
            refine lv_iload X.1 X.2.1 dX12_readItems_16 (lv_at hl 0 rfl) ?_
            refine ca_X12_usual_k4 X hK (ke_toKT hG (by decide) (by decide) hd0.1 hd0.2) hC (fun _ h => h) hS hb x1 h1 y24 (iv_add (a' := 4) (b' := 4) ey24 (iv_add (a' := 3) (b' := 3) ey18 (iv_add (a' := 2) (b' := 2) ey12 (iv_add (a' := 1) (b' := 1) ey6 (iv_c 0 (a := 0) (b := 0) (by decide +kernel)) (iv_c _ (a := 1) (b := 1) (by decide +kernel)) (by decide +kernel)) (iv_c _ (a := 1) (b := 1) (by decide +kernel)) (by decide +kernel)) (iv_c _ (a := 1) (b := 1) (by decide +kernel)) (by decide +kernel)) (iv_c _ (a := 1) (b := 1) (by decide +kernel)) (by decide +kernel)) wl_7_130 hl.1 (rest := [.int y24, .ref a2]) rfl (Nat.le_of_ble_eq_true rfl) ⟨Nat.le_of_ble_eq_true rfl, Nat.le_of_ble_eq_true rfl⟩ ⟨Nat.le_of_ble_eq_true rfl, Nat.le_of_ble_eq_true rfl⟩ dX12_readItems_18 (fun f29 locs hf29 hS => ?_)
            refine as_50Z X hK hG hS h2 (iv_vpin (iv_add (a' := 4) (b' := 4) ey24 (iv_add (a' := 3) (b' := 3) ey18 (iv_add (a' := 2) (b' := 2) ey12 (iv_add (a' := 1) (b' := 1) ey6 (iv_c 0 (a := 0) (b := 0) (by decide +kernel)) (iv_c _ (a := 1) (b := 1) (by decide +kernel)) (by decide +kernel)) (iv_c _ (a := 1) (b := 1) (by decide +kernel)) (by decide +kernel)) (iv_c _ (a := 1) (b := 1) (by decide +kernel)) (by decide +kernel)) (iv_c _ (a := 1) (b := 1) (by decide +kernel)) (by decide +kernel)) (by decide +kernel)) dX12_readItems_21 (fun H locs hG hS => ?_)
            rw [show (y24 : Int32).toNatClampNeg = 4 from sg_cl (iv_add (a' := 4) (b' := 4) ey24 (iv_add (a' := 3) (b' := 3) ey18 (iv_add (a' := 2) (b' := 2) ey12 (iv_add (a' := 1) (b' := 1) ey6 (iv_c 0 (a := 0) (b := 0) (by decide +kernel)) (iv_c _ (a := 1) (b := 1) (by decide +kernel)) (by decide +kernel)) (iv_c _ (a := 1) (b := 1) (by decide +kernel)) (by decide +kernel)) (iv_c _ (a := 1) (b := 1) (by decide +kernel)) (by decide +kernel)) (iv_c _ (a := 1) (b := 1) (by decide +kernel)) (by decide +kernel)) (by decide), (vq_iv hf29), zq_r (by decide)] at hG
            have hG : sgG (KE a a (-1) (-1) d1 d2 (zQ ((fnUp (fnUp (fnUp (fnUp (fnUp q.1 0 5) 1 4) 2 3) 3 2) 4 0), q.2) o) P) D vwCl _ tys ad ks _ := hG
            obtain ⟨y30, ey30⟩ : ∃ y : Int32, y = y24 + Int32.ofInt 1 := ⟨_, rfl⟩
            have xy30 : y30.toInt = (((((0 + 1) + 1) + 1) + 1) + 1) := sg_exadd ey30 (iv_add (a' := 4) (b' := 4) ey24 (iv_add (a' := 3) (b' := 3) ey18 (iv_add (a' := 2) (b' := 2) ey12 (iv_add (a' := 1) (b' := 1) ey6 (iv_c 0 (a := 0) (b := 0) (by decide +kernel)) (iv_c _ (a := 1) (b := 1) (by decide +kernel)) (by decide +kernel)) (iv_c _ (a := 1) (b := 1) (by decide +kernel)) (by decide +kernel)) (iv_c _ (a := 1) (b := 1) (by decide +kernel)) (by decide +kernel)) (iv_c _ (a := 1) (b := 1) (by decide +kernel)) (by decide +kernel)) (iv_c _ (a := 1) (b := 1) (by decide +kernel)) (by decide +kernel) xy24 (by decide +kernel)
            refine lv_iinc (v := y30) (lv' := [(4, .int y30), (0, .ref a0), (1, .int x1), (2, .ref a2), (3, .ref ta)]) X.1 X.2.1 dX12_readItems_22 hl (k := 0) rfl ey30.symm (by decide) rfl (fun ls hl => ?_)
            refine lv_goto (tgt := 3) X.1 X.2.1 dX12_readItems_25 (by decide) ?_
            refine lv_iload X.1 X.2.1 dX12_readItems_3 (lv_at hl 0 rfl) ?_
            refine lv_aload_n X.1 X.2.1 dX12_readItems_5 rfl (lv_at hl 4 rfl) ?_
            refine ca_J0_length_8abf5_7 X hK (ke_toKT hG (by decide) (by decide) hd0.1 hd0.2) hC (fun _ h => h) hS hb hp wl_7_150 hl.1 (rest := [.int y30]) rfl (Nat.le_of_ble_eq_true rfl) ⟨Nat.le_of_ble_eq_true rfl, Nat.le_of_ble_eq_true rfl⟩ ⟨Nat.le_of_ble_eq_true rfl, Nat.le_of_ble_eq_true rfl⟩ dX12_readItems_6 (fun f31 locs hf31 hS => ?_)
            refine lv_icmp_ge (tgt := 28) X.1 X.2.1 dX12_readItems_9 (by decide) (fun c32 => ?_) (fun c32 => ?_)
            · have i33 : ¬ ((((((0 + 1) + 1) + 1) + 1) + 1) : Int) < (7 : Int) := vq_le c32 (vq_iv hf31) xy30
              exact ((iv_no (iv_le (b' := 5) c32 hf31 (iv_add (a' := 5) (b' := 5) ey30 (iv_add (a' := 4) (b' := 4) ey24 (iv_add (a' := 3) (b' := 3) ey18 (iv_add (a' := 2) (b' := 2) ey12 (iv_add (a' := 1) (b' := 1) ey6 (iv_c 0 (a := 0) (b := 0) (by decide +kernel)) (iv_c _ (a := 1) (b := 1) (by decide +kernel)) (by decide +kernel)) (iv_c _ (a := 1) (b := 1) (by decide +kernel)) (by decide +kernel)) (iv_c _ (a := 1) (b := 1) (by decide +kernel)) (by decide +kernel)) (iv_c _ (a := 1) (b := 1) (by decide +kernel)) (by decide +kernel)) (iv_c _ (a := 1) (b := 1) (by decide +kernel)) (by decide +kernel)) (by decide +kernel)) (by decide +kernel))).elim
            · have i34 : ((((((0 + 1) + 1) + 1) + 1) + 1) : Int) < (7 : Int) := vq_lt (iv_gt_of c32) xy30 (vq_iv hf31)
              refine lv_aload_n X.1 X.2.1 dX12_readItems_12 rfl (lv_at hl 3 rfl) ?_
              refine lv_iload X.1 X.2.1 dX12_readItems_13 (lv_at hl 0 rfl) ?_
              refine lv_iload_n X.1 X.2.1 dX12_readItems_15 rfl (lv_at hl 2 rfl) ?_
              refine lv_iload X.1 X.2.1 dX12_readItems_16 (lv_at hl 0 rfl) ?_
              refine ca_X12_usual_k5 X hK (ke_toKT hG (by decide) (by decide) hd0.1 hd0.2) hC (fun _ h => h) hS hb x1 h1 y30 (iv_add (a' := 5) (b' := 5) ey30 (iv_add (a' := 4) (b' := 4) ey24 (iv_add (a' := 3) (b' := 3) ey18 (iv_add (a' := 2) (b' := 2) ey12 (iv_add (a' := 1) (b' := 1) ey6 (iv_c 0 (a := 0) (b := 0) (by decide +kernel)) (iv_c _ (a := 1) (b := 1) (by decide +kernel)) (by decide +kernel)) (iv_c _ (a := 1) (b := 1) (by decide +kernel)) (by decide +kernel)) (iv_c _ (a := 1) (b := 1) (by decide +kernel)) (by decide +kernel)) (iv_c _ (a := 1) (b := 1) (by decide +kernel)) (by decide +kernel)) (iv_c _ (a := 1) (b := 1) (by decide +kernel)) (by decide +kernel)) wl_7_130 hl.1 (rest := [.int y30, .ref a2]) rfl (Nat.le_of_ble_eq_true rfl) ⟨Nat.le_of_ble_eq_true rfl, Nat.le_of_ble_eq_true rfl⟩ ⟨Nat.le_of_ble_eq_true rfl, Nat.le_of_ble_eq_true rfl⟩ dX12_readItems_18 (fun f35 locs hf35 hS => ?_)
              refine as_50Z X hK hG hS h2 (iv_vpin (iv_add (a' := 5) (b' := 5) ey30 (iv_add (a' := 4) (b' := 4) ey24 (iv_add (a' := 3) (b' := 3) ey18 (iv_add (a' := 2) (b' := 2) ey12 (iv_add (a' := 1) (b' := 1) ey6 (iv_c 0 (a := 0) (b := 0) (by decide +kernel)) (iv_c _ (a := 1) (b := 1) (by decide +kernel)) (by decide +kernel)) (iv_c _ (a := 1) (b := 1) (by decide +kernel)) (by decide +kernel)) (iv_c _ (a := 1) (b := 1) (by decide +kernel)) (by decide +kernel)) (iv_c _ (a := 1) (b := 1) (by decide +kernel)) (by decide +kernel)) (iv_c _ (a := 1) (b := 1) (by decide +kernel)) (by decide +kernel)) (by decide +kernel)) dX12_readItems_21 (fun H locs hG hS => ?_)
              rw [show (y30 : Int32).toNatClampNeg = 5 from sg_cl (iv_add (a' := 5) (b' := 5) ey30 (iv_add (a' := 4) (b' := 4) ey24 (iv_add (a' := 3) (b' := 3) ey18 (iv_add (a' := 2) (b' := 2) ey12 (iv_add (a' := 1) (b' := 1) ey6 (iv_c 0 (a := 0) (b := 0) (by decide +kernel)) (iv_c _ (a := 1) (b := 1) (by decide +kernel)) (by decide +kernel)) (iv_c _ (a := 1) (b := 1) (by decide +kernel)) (by decide +kernel)) (iv_c _ (a := 1) (b := 1) (by decide +kernel)) (by decide +kernel)) (iv_c _ (a := 1) (b := 1) (by decide +kernel)) (by decide +kernel)) (iv_c _ (a := 1) (b := 1) (by decide +kernel)) (by decide +kernel)) (by decide), (vq_iv hf35), zq_r (by decide)] at hG
              have hG : sgG (KE a a (-1) (-1) d1 d2 (zQ ((fnUp (fnUp (fnUp (fnUp (fnUp (fnUp q.1 0 5) 1 4) 2 3) 3 2) 4 0) 5 8), q.2) o) P) D vwCl _ tys ad ks _ := hG
              obtain ⟨y36, ey36⟩ : ∃ y : Int32, y = y30 + Int32.ofInt 1 := ⟨_, rfl⟩
              have xy36 : y36.toInt = ((((((0 + 1) + 1) + 1) + 1) + 1) + 1) := sg_exadd ey36 (iv_add (a' := 5) (b' := 5) ey30 (iv_add (a' := 4) (b' := 4) ey24 (iv_add (a' := 3) (b' := 3) ey18 (iv_add (a' := 2) (b' := 2) ey12 (iv_add (a' := 1) (b' := 1) ey6 (iv_c 0 (a := 0) (b := 0) (by decide +kernel)) (iv_c _ (a := 1) (b := 1) (by decide +kernel)) (by decide +kernel)) (iv_c _ (a := 1) (b := 1) (by decide +kernel)) (by decide +kernel)) (iv_c _ (a := 1) (b := 1) (by decide +kernel)) (by decide +kernel)) (iv_c _ (a := 1) (b := 1) (by decide +kernel)) (by decide +kernel)) (iv_c _ (a := 1) (b := 1) (by decide +kernel)) (by decide +kernel)) (iv_c _ (a := 1) (b := 1) (by decide +kernel)) (by decide +kernel) xy30 (by decide +kernel)
              refine lv_iinc (v := y36) (lv' := [(4, .int y36), (0, .ref a0), (1, .int x1), (2, .ref a2), (3, .ref ta)]) X.1 X.2.1 dX12_readItems_22 hl (k := 0) rfl ey36.symm (by decide) rfl (fun ls hl => ?_)
              refine lv_goto (tgt := 3) X.1 X.2.1 dX12_readItems_25 (by decide) ?_
              refine lv_iload X.1 X.2.1 dX12_readItems_3 (lv_at hl 0 rfl) ?_
              refine lv_aload_n X.1 X.2.1 dX12_readItems_5 rfl (lv_at hl 4 rfl) ?_
              refine ca_J0_length_8abf5_7 X hK (ke_toKT hG (by decide) (by decide) hd0.1 hd0.2) hC (fun _ h => h) hS hb hp wl_7_150 hl.1 (rest := [.int y36]) rfl (Nat.le_of_ble_eq_true rfl) ⟨Nat.le_of_ble_eq_true rfl, Nat.le_of_ble_eq_true rfl⟩ ⟨Nat.le_of_ble_eq_true rfl, Nat.le_of_ble_eq_true rfl⟩ dX12_readItems_6 (fun f37 locs hf37 hS => ?_)
              refine lv_icmp_ge (tgt := 28) X.1 X.2.1 dX12_readItems_9 (by decide) (fun c38 => ?_) (fun c38 => ?_)
              · have i39 : ¬ (((((((0 + 1) + 1) + 1) + 1) + 1) + 1) : Int) < (7 : Int) := vq_le c38 (vq_iv hf37) xy36
                exact ((iv_no (iv_le (b' := 6) c38 hf37 (iv_add (a' := 6) (b' := 6) ey36 (iv_add (a' := 5) (b' := 5) ey30 (iv_add (a' := 4) (b' := 4) ey24 (iv_add (a' := 3) (b' := 3) ey18 (iv_add (a' := 2) (b' := 2) ey12 (iv_add (a' := 1) (b' := 1) ey6 (iv_c 0 (a := 0) (b := 0) (by decide +kernel)) (iv_c _ (a := 1) (b := 1) (by decide +kernel)) (by decide +kernel)) (iv_c _ (a := 1) (b := 1) (by decide +kernel)) (by decide +kernel)) (iv_c _ (a := 1) (b := 1) (by decide +kernel)) (by decide +kernel)) (iv_c _ (a := 1) (b := 1) (by decide +kernel)) (by decide +kernel)) (iv_c _ (a := 1) (b := 1) (by decide +kernel)) (by decide +kernel)) (iv_c _ (a := 1) (b := 1) (by decide +kernel)) (by decide +kernel)) (by decide +kernel)) (by decide +kernel))).elim
              · have i40 : (((((((0 + 1) + 1) + 1) + 1) + 1) + 1) : Int) < (7 : Int) := vq_lt (iv_gt_of c38) xy36 (vq_iv hf37)
                refine lv_aload_n X.1 X.2.1 dX12_readItems_12 rfl (lv_at hl 3 rfl) ?_
                refine lv_iload X.1 X.2.1 dX12_readItems_13 (lv_at hl 0 rfl) ?_
                refine lv_iload_n X.1 X.2.1 dX12_readItems_15 rfl (lv_at hl 2 rfl) ?_
                refine lv_iload X.1 X.2.1 dX12_readItems_16 (lv_at hl 0 rfl) ?_
                refine ca_X12_usual_k6 X hK (ke_toKT hG (by decide) (by decide) hd0.1 hd0.2) hC (fun _ h => h) hS hb x1 h1 y36 (iv_add (a' := 6) (b' := 6) ey36 (iv_add (a' := 5) (b' := 5) ey30 (iv_add (a' := 4) (b' := 4) ey24 (iv_add (a' := 3) (b' := 3) ey18 (iv_add (a' := 2) (b' := 2) ey12 (iv_add (a' := 1) (b' := 1) ey6 (iv_c 0 (a := 0) (b := 0) (by decide +kernel)) (iv_c _ (a := 1) (b := 1) (by decide +kernel)) (by decide +kernel)) (iv_c _ (a := 1) (b := 1) (by decide +kernel)) (by decide +kernel)) (iv_c _ (a := 1) (b := 1) (by decide +kernel)) (by decide +kernel)) (iv_c _ (a := 1) (b := 1) (by decide +kernel)) (by decide +kernel)) (iv_c _ (a := 1) (b := 1) (by decide +kernel)) (by decide +kernel)) (iv_c _ (a := 1) (b := 1) (by decide +kernel)) (by decide +kernel)) wl_7_130 hl.1 (rest := [.int y36, .ref a2]) rfl (Nat.le_of_ble_eq_true rfl) ⟨Nat.le_of_ble_eq_true rfl, Nat.le_of_ble_eq_true rfl⟩ ⟨Nat.le_of_ble_eq_true rfl, Nat.le_of_ble_eq_true rfl⟩ dX12_readItems_18 (fun f41 locs hf41 hS => ?_)
                refine as_50Z X hK hG hS h2 (iv_vpin (iv_add (a' := 6) (b' := 6) ey36 (iv_add (a' := 5) (b' := 5) ey30 (iv_add (a' := 4) (b' := 4) ey24 (iv_add (a' := 3) (b' := 3) ey18 (iv_add (a' := 2) (b' := 2) ey12 (iv_add (a' := 1) (b' := 1) ey6 (iv_c 0 (a := 0) (b := 0) (by decide +kernel)) (iv_c _ (a := 1) (b := 1) (by decide +kernel)) (by decide +kernel)) (iv_c _ (a := 1) (b := 1) (by decide +kernel)) (by decide +kernel)) (iv_c _ (a := 1) (b := 1) (by decide +kernel)) (by decide +kernel)) (iv_c _ (a := 1) (b := 1) (by decide +kernel)) (by decide +kernel)) (iv_c _ (a := 1) (b := 1) (by decide +kernel)) (by decide +kernel)) (iv_c _ (a := 1) (b := 1) (by decide +kernel)) (by decide +kernel)) (by decide +kernel)) dX12_readItems_21 (fun H locs hG hS => ?_)
                rw [show (y36 : Int32).toNatClampNeg = 6 from sg_cl (iv_add (a' := 6) (b' := 6) ey36 (iv_add (a' := 5) (b' := 5) ey30 (iv_add (a' := 4) (b' := 4) ey24 (iv_add (a' := 3) (b' := 3) ey18 (iv_add (a' := 2) (b' := 2) ey12 (iv_add (a' := 1) (b' := 1) ey6 (iv_c 0 (a := 0) (b := 0) (by decide +kernel)) (iv_c _ (a := 1) (b := 1) (by decide +kernel)) (by decide +kernel)) (iv_c _ (a := 1) (b := 1) (by decide +kernel)) (by decide +kernel)) (iv_c _ (a := 1) (b := 1) (by decide +kernel)) (by decide +kernel)) (iv_c _ (a := 1) (b := 1) (by decide +kernel)) (by decide +kernel)) (iv_c _ (a := 1) (b := 1) (by decide +kernel)) (by decide +kernel)) (iv_c _ (a := 1) (b := 1) (by decide +kernel)) (by decide +kernel)) (by decide), (vq_iv hf41), zq_r (by decide)] at hG
                have hG : sgG (KE a a (-1) (-1) d1 d2 (zQ ((fnUp (fnUp (fnUp (fnUp (fnUp (fnUp (fnUp q.1 0 5) 1 4) 2 3) 3 2) 4 0) 5 8) 6 0), q.2) o) P) D vwCl _ tys ad ks _ := hG
                obtain ⟨y42, ey42⟩ : ∃ y : Int32, y = y36 + Int32.ofInt 1 := ⟨_, rfl⟩
                have xy42 : y42.toInt = (((((((0 + 1) + 1) + 1) + 1) + 1) + 1) + 1) := sg_exadd ey42 (iv_add (a' := 6) (b' := 6) ey36 (iv_add (a' := 5) (b' := 5) ey30 (iv_add (a' := 4) (b' := 4) ey24 (iv_add (a' := 3) (b' := 3) ey18 (iv_add (a' := 2) (b' := 2) ey12 (iv_add (a' := 1) (b' := 1) ey6 (iv_c 0 (a := 0) (b := 0) (by decide +kernel)) (iv_c _ (a := 1) (b := 1) (by decide +kernel)) (by decide +kernel)) (iv_c _ (a := 1) (b := 1) (by decide +kernel)) (by decide +kernel)) (iv_c _ (a := 1) (b := 1) (by decide +kernel)) (by decide +kernel)) (iv_c _ (a := 1) (b := 1) (by decide +kernel)) (by decide +kernel)) (iv_c _ (a := 1) (b := 1) (by decide +kernel)) (by decide +kernel)) (iv_c _ (a := 1) (b := 1) (by decide +kernel)) (by decide +kernel)) (iv_c _ (a := 1) (b := 1) (by decide +kernel)) (by decide +kernel) xy36 (by decide +kernel)
                refine lv_iinc (v := y42) (lv' := [(4, .int y42), (0, .ref a0), (1, .int x1), (2, .ref a2), (3, .ref ta)]) X.1 X.2.1 dX12_readItems_22 hl (k := 0) rfl ey42.symm (by decide) rfl (fun ls hl => ?_)
                refine lv_goto (tgt := 3) X.1 X.2.1 dX12_readItems_25 (by decide) ?_
                refine lv_iload X.1 X.2.1 dX12_readItems_3 (lv_at hl 0 rfl) ?_
                refine lv_aload_n X.1 X.2.1 dX12_readItems_5 rfl (lv_at hl 4 rfl) ?_
                refine ca_J0_length_8abf5_7 X hK (ke_toKT hG (by decide) (by decide) hd0.1 hd0.2) hC (fun _ h => h) hS hb hp wl_7_150 hl.1 (rest := [.int y42]) rfl (Nat.le_of_ble_eq_true rfl) ⟨Nat.le_of_ble_eq_true rfl, Nat.le_of_ble_eq_true rfl⟩ ⟨Nat.le_of_ble_eq_true rfl, Nat.le_of_ble_eq_true rfl⟩ dX12_readItems_6 (fun f43 locs hf43 hS => ?_)
                refine lv_icmp_ge (tgt := 28) X.1 X.2.1 dX12_readItems_9 (by decide) (fun c44 => ?_) (fun c44 => ?_)
                · have i45 : ¬ ((((((((0 + 1) + 1) + 1) + 1) + 1) + 1) + 1) : Int) < (7 : Int) := vq_le c44 (vq_iv hf43) xy42
                  rw [zq_us] at hG
                  have hG : sgG (KE a a (-1) (-1) d1 d2 (zQ (vUsu, q.2) o) P) D vwCl _ tys ad ks _ := hG
                  refine lv_iconst (v := 0) X.1 X.2.1 dX12_readItems_28 (by decide +kernel) ?_
                  refine lv_istore (lv' := [(4, .int 0), (0, .ref a0), (1, .int x1), (2, .ref a2), (3, .ref ta)]) X.1 X.2.1 dX12_readItems_29 hl (by decide) rfl (fun ls hl => ?_)
                  refine lv_aload_n X.1 X.2.1 dX12_readItems_31 rfl (lv_at hl 4 rfl) ?_
                  refine lv_aload_n X.1 X.2.1 dX12_readItems_32 rfl (lv_at hl 1 rfl) ?_
                  refine ca_X12_look_e X hK hG hC hS hb a0 h0 hl0 hav hby wl_7_137 hl.1 (rest := [.ref ta]) rfl (Nat.le_of_ble_eq_true rfl) ⟨Nat.le_of_ble_eq_true rfl, Nat.le_of_ble_eq_true rfl⟩ ⟨Nat.le_of_ble_eq_true rfl, Nat.le_of_ble_eq_true rfl⟩ dX12_readItems_33 (fun f47 tf47 H locs htf47 hf47 hWf47 hS => ?_)
                  have hBf47 := hWf47.2
                  have xf47 := hWf47.1
                  have hG := hBf47.2.2.2
                  rw [htf47] at hG
                  have b48 := vq_bdL (b := sgU2 P) hav
                  have eb48 : a ≤ vX (sgU2 P) (sgL2 P) a := (vX_ge (sgU2 P) (sgL2 P) a).1
                  have pb48 : a + 0 ≤ vX (sgU2 P) (sgL2 P) a := Int.le_trans (vq_pg0 a) (vX_ge (sgU2 P) (sgL2 P) a).1
                  have yf47 : iv (-1) 255 f47 := vq_lk xf47 (vC_by2 hby _)
                  refine ca_X12_spotOf_e7 X hK (ke_toKT hG (by decide) (by decide) hd0.1 hd0.2) hC (fun _ h => h) hS hb hp f47 htb wl_7_151 hl.1 (rest := []) rfl (Nat.le_of_ble_eq_true rfl) ⟨Nat.le_of_ble_eq_true rfl, Nat.le_of_ble_eq_true rfl⟩ ⟨Nat.le_of_ble_eq_true rfl, Nat.le_of_ble_eq_true rfl⟩ dX12_readItems_36 (fun f49 locs hf49 hS => ?_)
                  have xf49 : f49.toInt = vRul (vC (sgU2 P) (sgL2 P) (vX (sgU2 P) (sgL2 P) a)) := hf49.2.1.trans (by rw [xf47, hte]; exact vRul_E _)
                  refine lv_istore (lv' := [(5, .int f49), (4, .int 0), (0, .ref a0), (1, .int x1), (2, .ref a2), (3, .ref ta)]) X.1 X.2.1 dX12_readItems_39 hl (by decide) rfl (fun ls hl => ?_)
                  refine lv_iload X.1 X.2.1 dX12_readItems_41 (lv_at hl 0 rfl) ?_
                  refine lv_iconst (v := (-1)) X.1 X.2.1 dX12_readItems_43 (by decide +kernel) ?_
                  refine lv_icmp_eq (tgt := 131) X.1 X.2.1 dX12_readItems_44 (by decide) (fun c50 => ?_) (fun c50 => ?_)
                  · have i51 : vRul (vC (sgU2 P) (sgL2 P) (vX (sgU2 P) (sgL2 P) a)) = ((-1) : Int) := vq_eq c50 xf49 (by decide +kernel)
                    have spr : vRuM (sgU2 P) (sgL2 P) 0 vUsu (vX (sgU2 P) (sgL2 P) a) = (true, vX (sgU2 P) (sgL2 P) (vX (sgU2 P) (sgL2 P) a), vUsu) := by rw [vX_idem]; exact vRuM_no (by rw [i51]; decide)
                    exact sg_vret2 X hr hlk hS (fun t ht hW => (Or.inl ⟨_, _, spr, vq_pgw pb48 (by decide), (b48).2, sg_post hb hK hC hG hS ht hW⟩)) dX12_readItems_131
                  · have i52 : (vRul (vC (sgU2 P) (sgL2 P) (vX (sgU2 P) (sgL2 P) a)) = ((-1) : Int)) = False := vq_ne c50 xf49 (by decide +kernel)
                    refine lv_aload_n X.1 X.2.1 dX12_readItems_47 rfl (lv_at hl 2 rfl) ?_
                    refine gf_X12_11e X hK hG h0 wl_6_189 dX12_readItems_48 (fun f53 hf53 => ?_)
                    refine lv_iconst (v := (-1)) X.1 X.2.1 dX12_readItems_51 (by decide +kernel) ?_
                    refine lv_icmp_ne (tgt := 131) X.1 X.2.1 dX12_readItems_52 (by decide) (fun c54 => ?_) (fun c54 => ?_)
                    · have i55 : (((-1) : Int) = ((-1) : Int)) = False := vq_ne c54 (vq_iv hf53) (by decide +kernel)
                      exact ((c54 (iv_one hf53 (iv_c (-1) (a := (-1)) (b := (-1)) (by decide +kernel)) (by decide +kernel)))).elim
                    · have i56 : ((-1) : Int) = ((-1) : Int) := vq_eq c54 (vq_iv hf53) (by decide +kernel)
                      have B57_55 : ∀ (N : Nat) (H : Heap) (locs : List Loc) (ls : Array Slot) (z57_4 : Int32) (z57_5 : Int32) (a57 : Int) (ru57 : Nat → Int), 0 ≤ a57 → a57 ≤ sgL2 P → a + 0 ≤ a57 → sgG (KE a57 a57 (-1) (-1) d1 d2 (zQ (ru57, q.2) o) P) D vwCl (fun q : Nat => base ≤ q) tys ad ks H → va_S (fun q : Nat => base ≤ q) s.heap H locs → lv_has ls 6 [(0, .ref a0), (1, .int x1), (2, .ref a2), (3, .ref ta), (4, .int z57_4), (5, .int z57_5)] → iv 0 127 z57_4 → iv 0 6 z57_5 → (vRuM (sgU2 P) (sgL2 P) 0 vUsu (vX (sgU2 P) (sgL2 P) a) = vRuM (sgU2 P) (sgL2 P) z57_4 ru57 a57 ∧ vX (sgU2 P) (sgL2 P) a57 = a57 ∧ (z57_5 : Int32).toInt = vRul (vC (sgU2 P) (sgL2 P) a57)) → (242 - a57).toNat ≤ N → W p l e (headSpec (Cond.code yX12_readItems cX12_readItems 6 none :: sg_tbl) ({ frames := 5, cells := 0, slots := 0, locals := 107 })).room s m #[.ref a0, .int x1, .ref a2, .ref ta] below meth c H locs 0 0 (MQ below (va_Qv (fun (_ : Unit) => True) (fun _ => fun t => (∃ (a1 : Int) (f1 : Nat → Int), vRuM (sgU2 P) (sgL2 P) 0 vUsu (vX (sgU2 P) (sgL2 P) a) = (true, vX (sgU2 P) (sgL2 P) a1, f1) ∧ a + 0 ≤ a1 ∧ a1 ≤ sgL2 P ∧ sgB (KE a1 a1 (-1) (-1) d1 d2 (zQ (f1, q.2) o) P) D vwCl base tys ad ks t) ∨ (∃ (w : Int) (f1 : Nat → Int) (z1 : sgZt), vRuM (sgU2 P) (sgL2 P) 0 vUsu (vX (sgU2 P) (sgL2 P) a) = (false, w, f1) ∧ 0 ≤ w ∧ w ≤ 240 ∧ sgB (KE 0 241 w w d1 d2 z1 P) D vwCl base tys ad ks t)) (fun q : Nat => base ≤ q)) #[.ref a0, .int x1, .ref a2, .ref ta] s 0 0 (fun q : Nat => base ≤ q)) (F0 m 55 ls []) := by
                        intro N; induction N with
                        | zero =>
                          intro H locs ls z57_4 z57_5 a57 ru57 jl57 jm57 jk57 hG hS hl hz57_4 hz57_5 xf57 hN
                          exact absurd hN (by have := jm57; omega)
                        | succ N ih57 =>
                          intro H locs ls z57_4 z57_5 a57 ru57 jl57 jm57 jk57 hG hS hl hz57_4 hz57_5 xf57 hN57
                          have k58 := vq_neg xf57.2.2 hz57_5
                          refine lv_iload X.1 X.2.1 dX12_readItems_55 (lv_at hl 4 rfl) ?_
                          refine lv_iload X.1 X.2.1 dX12_readItems_57 (lv_at hl 5 rfl) ?_
                          refine ca_X12_has_e X hK (ke_toKT hG (by decide) (by decide) hd0.1 hd0.2) hC (fun _ h => h) hS hb z57_4 z57_5 wl_7_174 hl.1 (rest := []) rfl (Nat.le_of_ble_eq_true rfl) ⟨Nat.le_of_ble_eq_true rfl, Nat.le_of_ble_eq_true rfl⟩ ⟨Nat.le_of_ble_eq_true rfl, Nat.le_of_ble_eq_true rfl⟩ dX12_readItems_59 (fun f59 locs hf59 hS => ?_)
                          refine lv_if_eq (tgt := 71) X.1 X.2.1 dX12_readItems_62 (by decide) (fun c60 => ?_) (fun c60 => ?_)
                          · have j61 := vq_says0 hf59 c60
                            have k62 : ((z57_4 >>> ((Int32.ofInt (vRul (vC (sgU2 P) (sgL2 P) a57))) &&& 31)) &&& 1 = 1) = False := by have z := j61; rw [(vq_oi (x := z57_5) xf57.2.2)] at z; exact z
                            refine lv_iload X.1 X.2.1 dX12_readItems_71 (lv_at hl 4 rfl) ?_
                            refine lv_iconst (v := 1) X.1 X.2.1 dX12_readItems_73 (by decide +kernel) ?_
                            refine lv_iload X.1 X.2.1 dX12_readItems_74 (lv_at hl 5 rfl) ?_
                            refine lv_ishl X.1 X.2.1 dX12_readItems_76 ?_
                            refine lv_topi (fun f65 ef65 => ?_)
                            have wf65 : f65 = ((1 : Int32) <<< ((Int32.ofInt (vRul (vC (sgU2 P) (sgL2 P) a57))) &&& 31)) := ef65.trans (by rw [(vq_oi (x := z57_5) xf57.2.2)])
                            refine lv_ior X.1 X.2.1 dX12_readItems_77 ?_
                            refine lv_topi (fun f66 ef66 => ?_)
                            have wf66 : f66 = (z57_4 ||| ((1 : Int32) <<< ((Int32.ofInt (vRul (vC (sgU2 P) (sgL2 P) a57))) &&& 31))) := ef66.trans (by rw [wf65])
                            refine lv_istore (lv' := [(4, .int f66), (0, .ref a0), (1, .int x1), (2, .ref a2), (3, .ref ta), (5, .int z57_5)]) X.1 X.2.1 dX12_readItems_78 hl (by decide) rfl (fun ls hl => ?_)
                            refine lv_aload_n X.1 X.2.1 dX12_readItems_80 rfl (lv_at hl 1 rfl) ?_
                            refine lv_dup X.1 X.2.1 dX12_readItems_81 rfl ?_
                            refine gf_X12_10e X hK hG h0 wl_6_188 dX12_readItems_82 (fun f67 hf67 => ?_)
                            have xf67 : f67.toInt = a57 := vq_iv hf67
                            have yf67 : iv 0 240 f67 := vq_240 hl0 (And.intro jl57 jm57) xf67
                            refine lv_iconst (v := 1) X.1 X.2.1 dX12_readItems_85 (by decide +kernel) ?_
                            refine lv_iadd X.1 X.2.1 dX12_readItems_86 ?_
                            refine lv_topi (fun f68 ef68 => ?_)
                            have xf68 : f68.toInt = (a57 + 1) := sg_exadd ef68 yf67 (iv_c 1 (a := 1) (b := 1) (by decide +kernel)) (by decide +kernel) xf67 (by decide +kernel)
                            refine pf_X12_10E (b1 := (a57 + 1)) (b2 := (a57 + 1)) X hK hG hS h0 wl_6_188 (vq_of (lo := (a57 + 1)) (hi := (a57 + 1)) xf68 ⟨Int.le_refl _, Int.le_refl _⟩) dX12_readItems_87 (fun H locs hG hS => ?_)
                            have l69 := (vC_lt (b := sgU2 P) (n := sgL2 P) (a := a57) (vRul_ne (k58).1)).2
                            have b70 := vq_bd1 (And.intro jl57 jm57) l69
                            have pb70 : a + 1 ≤ (a57 + 1) := vq_pg jk57 (m := 1) (Int.le_refl _) (by decide)
                            refine lv_aload_n X.1 X.2.1 dX12_readItems_90 rfl (lv_at hl 3 rfl) ?_
                            refine lv_iload X.1 X.2.1 dX12_readItems_91 (lv_at hl 5 rfl) ?_
                            refine lv_aload_n X.1 X.2.1 dX12_readItems_93 rfl (lv_at hl 1 rfl) ?_
                            refine lv_iload_n X.1 X.2.1 dX12_readItems_94 rfl (lv_at hl 2 rfl) ?_
                            refine lv_iload X.1 X.2.1 dX12_readItems_95 (lv_at hl 5 rfl) ?_
                            refine ca_X12_leastOf_e115 X hK (ke_toKT hG (by decide) (by decide) hd0.1 hd0.2) hC (fun _ h => h) hS hb x1 h1 z57_5 hz57_5 wl_7_177 hl.1 (rest := [.ref a0, .int z57_5, .ref a2]) rfl (Nat.le_of_ble_eq_true rfl) ⟨Nat.le_of_ble_eq_true rfl, Nat.le_of_ble_eq_true rfl⟩ ⟨Nat.le_of_ble_eq_true rfl, Nat.le_of_ble_eq_true rfl⟩ dX12_readItems_97 (fun f71 locs hf71 hS => ?_)
                            have xf71 : f71.toInt = vLst (vRul (vC (sgU2 P) (sgL2 P) a57)).toNat := hf71.trans (by rw [xf57.2.2])
                            refine lv_iload_n X.1 X.2.1 dX12_readItems_100 rfl (lv_at hl 2 rfl) ?_
                            refine lv_iload X.1 X.2.1 dX12_readItems_101 (lv_at hl 5 rfl) ?_
                            refine ca_X12_mostOf_e115 X hK (ke_toKT hG (by decide) (by decide) hd0.1 hd0.2) hC (fun _ h => h) hS hb x1 h1 z57_5 hz57_5 wl_7_180 hl.1 (rest := [.int f71, .ref a0, .int z57_5, .ref a2]) rfl (Nat.le_of_ble_eq_true rfl) ⟨Nat.le_of_ble_eq_true rfl, Nat.le_of_ble_eq_true rfl⟩ ⟨Nat.le_of_ble_eq_true rfl, Nat.le_of_ble_eq_true rfl⟩ dX12_readItems_103 (fun f72 locs hf72 hS => ?_)
                            have xf72 : f72.toInt = vMst (vRul (vC (sgU2 P) (sgL2 P) a57)).toNat := hf72.trans (by rw [xf57.2.2])
                            refine ca_X12_number_e X hK hG hC hS hb a0 h0 f71 f72 hl0 b70 hby (by omega) (show (f71 : Int32).toInt = (vLst (vRul (vC (sgU2 P) (sgL2 P) a57)).toNat) ∧ (f72 : Int32).toInt = (vMst (vRul (vC (sgU2 P) (sgL2 P) a57)).toNat) from ⟨xf71, xf72⟩) wl_7_183 hl.1 (rest := [.int z57_5, .ref a2]) rfl (Nat.le_of_ble_eq_true rfl) ⟨Nat.le_of_ble_eq_true rfl, Nat.le_of_ble_eq_true rfl⟩ ⟨Nat.le_of_ble_eq_true rfl, Nat.le_of_ble_eq_true rfl⟩ dX12_readItems_106 (fun f73 tf73 H locs htf73 hf73 hWf73 hS => ?_)
                            rcases hWf73 with ⟨av74, nv74, pv74, xv74, g1v74, g2v74, gav74, gbv74, hBf73⟩ | ⟨wv74, pv74, w1v74, w2v74, hBf73⟩
                            · have hG := hBf73.2.2.2
                              rw [htf73] at hG
                              have bv74 := vq_bd2 (k := 1) b70 (by decide) gav74 gbv74
                              have p2v74 : a + 2 ≤ av74 := vq_pg pb70 gav74 (by decide)
                              refine as_50Z X hK hG hS h2 (iv_vpin hz57_5 (by decide +kernel)) dX12_readItems_109 (fun H locs hG hS => ?_)
                              rw [vq_ix7 (x := z57_5) xf57.2.2, xv74, zq_r (k58).2] at hG
                              have hG : sgG (KE av74 av74 (-1) (-1) d1 d2 (zQ ((fnUp ru57 (vRul (vC (sgU2 P) (sgL2 P) a57)).toNat nv74), q.2) o) P) D vwCl _ tys ad ks _ := hG
                              refine lv_aload_n X.1 X.2.1 dX12_readItems_110 rfl (lv_at hl 1 rfl) ?_
                              refine gf_X12_11e X hK hG h0 wl_6_189 dX12_readItems_111 (fun f75 hf75 => ?_)
                              refine lv_iconst (v := (-1)) X.1 X.2.1 dX12_readItems_114 (by decide +kernel) ?_
                              refine lv_icmp_ne (tgt := 41) X.1 X.2.1 dX12_readItems_115 (by decide) (fun c76 => ?_) (fun c76 => ?_)
                              · have i77 : (((-1) : Int) = ((-1) : Int)) = False := vq_ne c76 (vq_iv hf75) (by decide +kernel)
                                exact ((c76 (iv_one hf75 (iv_c (-1) (a := (-1)) (b := (-1)) (by decide +kernel)) (by decide +kernel)))).elim
                              · have i78 : ((-1) : Int) = ((-1) : Int) := vq_eq c76 (vq_iv hf75) (by decide +kernel)
                                refine lv_aload_n X.1 X.2.1 dX12_readItems_118 rfl (lv_at hl 4 rfl) ?_
                                refine lv_aload_n X.1 X.2.1 dX12_readItems_119 rfl (lv_at hl 1 rfl) ?_
                                refine ca_X12_look_e X hK hG hC hS hb a0 h0 hl0 bv74 hby wl_7_137 hl.1 (rest := [.ref ta]) rfl (Nat.le_of_ble_eq_true rfl) ⟨Nat.le_of_ble_eq_true rfl, Nat.le_of_ble_eq_true rfl⟩ ⟨Nat.le_of_ble_eq_true rfl, Nat.le_of_ble_eq_true rfl⟩ dX12_readItems_120 (fun f79 tf79 H locs htf79 hf79 hWf79 hS => ?_)
                                have hBf79 := hWf79.2
                                have xf79 := hWf79.1
                                have hG := hBf79.2.2.2
                                rw [htf79] at hG
                                have b80 := vq_bdL (b := sgU2 P) bv74
                                have eb80 : av74 ≤ vX (sgU2 P) (sgL2 P) av74 := (vX_ge (sgU2 P) (sgL2 P) av74).1
                                have pb80 : a + 2 ≤ vX (sgU2 P) (sgL2 P) av74 := Int.le_trans p2v74 (vX_ge (sgU2 P) (sgL2 P) av74).1
                                have yf79 : iv (-1) 255 f79 := vq_lk xf79 (vC_by2 hby _)
                                refine ca_X12_spotOf_e7 X hK (ke_toKT hG (by decide) (by decide) hd0.1 hd0.2) hC (fun _ h => h) hS hb hp f79 htb wl_7_151 hl.1 (rest := []) rfl (Nat.le_of_ble_eq_true rfl) ⟨Nat.le_of_ble_eq_true rfl, Nat.le_of_ble_eq_true rfl⟩ ⟨Nat.le_of_ble_eq_true rfl, Nat.le_of_ble_eq_true rfl⟩ dX12_readItems_123 (fun f81 locs hf81 hS => ?_)
                                have xf81 : f81.toInt = vRul (vC (sgU2 P) (sgL2 P) (vX (sgU2 P) (sgL2 P) av74)) := hf81.2.1.trans (by rw [xf79, hte]; exact vRul_E _)
                                refine lv_istore (lv' := [(5, .int f81), (4, .int f66), (0, .ref a0), (1, .int x1), (2, .ref a2), (3, .ref ta)]) X.1 X.2.1 dX12_readItems_126 hl (by decide) rfl (fun ls hl => ?_)
                                refine lv_goto (tgt := 41) X.1 X.2.1 dX12_readItems_128 (by decide) ?_
                                refine lv_iload X.1 X.2.1 dX12_readItems_41 (lv_at hl 0 rfl) ?_
                                refine lv_iconst (v := (-1)) X.1 X.2.1 dX12_readItems_43 (by decide +kernel) ?_
                                refine lv_icmp_eq (tgt := 131) X.1 X.2.1 dX12_readItems_44 (by decide) (fun c82 => ?_) (fun c82 => ?_)
                                · have i83 : vRul (vC (sgU2 P) (sgL2 P) (vX (sgU2 P) (sgL2 P) av74)) = ((-1) : Int) := vq_eq c82 xf81 (by decide +kernel)
                                  have spr : vRuM (sgU2 P) (sgL2 P) 0 vUsu (vX (sgU2 P) (sgL2 P) a) = (true, vX (sgU2 P) (sgL2 P) (vX (sgU2 P) (sgL2 P) av74), (fnUp ru57 (vRul (vC (sgU2 P) (sgL2 P) a57)).toNat nv74)) := by rw [vX_idem]; exact xf57.1.trans ((vRuM_step2 (k58).1 (lwHas_f k62) pv74 (vq_l2 gav74 (vX_ge (sgU2 P) (sgL2 P) av74).1) (vC_lt (b := sgU2 P) (n := sgL2 P) (vRul_ne (k58).1)).2).trans (vRuM_no (by rw [i83]; decide)))
                                  exact sg_vret2 X hr hlk hS (fun t ht hW => (Or.inl ⟨_, _, spr, vq_pgw pb80 (by decide), (b80).2, sg_post hb hK hC hG hS ht hW⟩)) dX12_readItems_131
                                · have i84 : (vRul (vC (sgU2 P) (sgL2 P) (vX (sgU2 P) (sgL2 P) av74)) = ((-1) : Int)) = False := vq_ne c82 xf81 (by decide +kernel)
                                  refine lv_aload_n X.1 X.2.1 dX12_readItems_47 rfl (lv_at hl 2 rfl) ?_
                                  refine gf_X12_11e X hK hG h0 wl_6_189 dX12_readItems_48 (fun f85 hf85 => ?_)
                                  refine lv_iconst (v := (-1)) X.1 X.2.1 dX12_readItems_51 (by decide +kernel) ?_
                                  refine lv_icmp_ne (tgt := 131) X.1 X.2.1 dX12_readItems_52 (by decide) (fun c86 => ?_) (fun c86 => ?_)
                                  · have i87 : (((-1) : Int) = ((-1) : Int)) = False := vq_ne c86 (vq_iv hf85) (by decide +kernel)
                                    exact ((c86 (iv_one hf85 (iv_c (-1) (a := (-1)) (b := (-1)) (by decide +kernel)) (by decide +kernel)))).elim
                                  · have i88 : ((-1) : Int) = ((-1) : Int) := vq_eq c86 (vq_iv hf85) (by decide +kernel)
                                    exact ih57 H _ _ f66 f81 ((vX (sgU2 P) (sgL2 P) av74)) (fnUp ru57 (vRul (vC (sgU2 P) (sgL2 P) a57)).toNat nv74) (b80).1 (b80).2 (vq_pgw pb80 (by decide)) hG hS (lv_sub hl [2, 3, 4, 5, 1, 0] rfl) (iv_of (iv_or 7 ef66 hz57_4 (sg_shl1 ef65 hz57_5 (by decide +kernel)) (by decide +kernel)) (a' := 0) (b' := 127) (by decide +kernel)) (iv_ne_lo (a' := 0) c82 hf81.1 (by decide +kernel)) ⟨by rw [wf66]; exact xf57.1.trans (vRuM_step2 (k58).1 (lwHas_f k62) pv74 (vq_l2 gav74 (vX_ge (sgU2 P) (sgL2 P) av74).1) (vC_lt (b := sgU2 P) (n := sgL2 P) (vRul_ne (k58).1)).2), vX_idem _ _ _, xf81⟩ (by omega)
                            · have hG := hBf73.2.2.2
                              rw [htf73] at hG
                              refine as_50Z X hK hG hS h2 (iv_vpin hz57_5 (by decide +kernel)) dX12_readItems_109 (fun H locs hG hS => ?_)
                              refine lv_aload_n X.1 X.2.1 dX12_readItems_110 rfl (lv_at hl 1 rfl) ?_
                              refine gf_X12_11e X hK hG h0 wl_6_189 dX12_readItems_111 (fun f89 hf89 => ?_)
                              have xf89 : f89.toInt = wv74 := vq_iv hf89
                              have yf89 : iv 0 240 f89 := vq_of xf89 (And.intro w1v74 w2v74)
                              refine lv_iconst (v := (-1)) X.1 X.2.1 dX12_readItems_114 (by decide +kernel) ?_
                              refine lv_icmp_ne (tgt := 41) X.1 X.2.1 dX12_readItems_115 (by decide) (fun c90 => ?_) (fun c90 => ?_)
                              · have i91 : (wv74 = ((-1) : Int)) = False := vq_ne c90 xf89 (by decide +kernel)
                                refine lv_iload X.1 X.2.1 dX12_readItems_41 (lv_at hl 5 rfl) ?_
                                refine lv_iconst (v := (-1)) X.1 X.2.1 dX12_readItems_43 (by decide +kernel) ?_
                                refine lv_icmp_eq (tgt := 131) X.1 X.2.1 dX12_readItems_44 (by decide) (fun c93 => ?_) (fun c93 => ?_)
                                · have i94 : vRul (vC (sgU2 P) (sgL2 P) a57) = ((-1) : Int) := vq_eq c93 xf57.2.2 (by decide +kernel)
                                  exact ((iv_no (a := 0) (b := (-1)) (iv_eqm c93 hz57_5 (iv_c (-1) (a := (-1)) (b := (-1)) (by decide +kernel)) (by decide +kernel)) (by decide +kernel))).elim
                                · have i95 : (vRul (vC (sgU2 P) (sgL2 P) a57) = ((-1) : Int)) = False := vq_ne c93 xf57.2.2 (by decide +kernel)
                                  refine lv_aload_n X.1 X.2.1 dX12_readItems_47 rfl (lv_at hl 1 rfl) ?_
                                  refine gf_X12_11e X hK hG h0 wl_6_189 dX12_readItems_48 (fun f96 hf96 => ?_)
                                  have xf96 : f96.toInt = wv74 := vq_iv hf96
                                  have yf96 : iv 0 240 f96 := vq_of xf96 (And.intro w1v74 w2v74)
                                  refine lv_iconst (v := (-1)) X.1 X.2.1 dX12_readItems_51 (by decide +kernel) ?_
                                  refine lv_icmp_ne (tgt := 131) X.1 X.2.1 dX12_readItems_52 (by decide) (fun c97 => ?_) (fun c97 => ?_)
                                  · have i98 : (wv74 = ((-1) : Int)) = False := vq_ne c97 xf96 (by decide +kernel)
                                    have spr : vRuM (sgU2 P) (sgL2 P) 0 vUsu (vX (sgU2 P) (sgL2 P) a) = (false, wv74, ru57) := xf57.1.trans (vRuM_bad2 (k58).1 (lwHas_f k62) pv74)
                                    have hG := ke_weak (b1 := 0) (b2 := 241) (g1 := wv74) (g2 := wv74) (e1 := d1) (e2 := d2) hG (Int.le_refl _) (Int.le_refl _) (Int.le_refl _) (Int.le_refl _) (Int.le_refl _) (Int.le_refl _)
                                    exact sg_vret2 X hr hlk hS (fun t ht hW => (Or.inr ⟨_, _, _, spr, ((And.intro w1v74 w2v74)).1, ((And.intro w1v74 w2v74)).2, sg_post hb hK hC hG hS ht hW⟩)) dX12_readItems_131
                                  · have i99 : wv74 = ((-1) : Int) := vq_eq c97 xf96 (by decide +kernel)
                                    exact ((iv_no (a := 0) (b := (-1)) (iv_eqm c97 yf96 (iv_c (-1) (a := (-1)) (b := (-1)) (by decide +kernel)) (by decide +kernel)) (by decide +kernel))).elim
                              · have i92 : wv74 = ((-1) : Int) := vq_eq c90 xf89 (by decide +kernel)
                                exact ((iv_no (a := 0) (b := (-1)) (iv_eqm c90 yf89 (iv_c (-1) (a := (-1)) (b := (-1)) (by decide +kernel)) (by decide +kernel)) (by decide +kernel))).elim
                          · have j63 := vq_says1 hf59 c60
                            have k64 : (z57_4 >>> ((Int32.ofInt (vRul (vC (sgU2 P) (sgL2 P) a57))) &&& 31)) &&& 1 = 1 := by have z := j63; rw [(vq_oi (x := z57_5) xf57.2.2)] at z; exact z
                            refine lv_aload_n X.1 X.2.1 dX12_readItems_65 rfl (lv_at hl 0 rfl) ?_
                            refine ca_X12_fails_e X hK hG hC hS hb a0 h0 hl0 (And.intro jl57 jm57) wl_7_141 hl.1 (rest := []) rfl (Nat.le_of_ble_eq_true rfl) ⟨Nat.le_of_ble_eq_true rfl, Nat.le_of_ble_eq_true rfl⟩ ⟨Nat.le_of_ble_eq_true rfl, Nat.le_of_ble_eq_true rfl⟩ dX12_readItems_66 (fun f100 tf100 H locs htf100 hf100 hWf100 hS => ?_)
                            have hG := hWf100.2.2.2
                            rw [htf100] at hG
                            obtain rfl : f100 = 0 := sg_is0 hf100
                            refine lv_pop X.1 X.2.1 dX12_readItems_69 rfl ?_
                            have spr : vRuM (sgU2 P) (sgL2 P) 0 vUsu (vX (sgU2 P) (sgL2 P) a) = (false, a57, ru57) := xf57.1.trans (vRuM_dup (k58).1 (lwHas_t k64))
                            have hG := ke_weak (b1 := 0) (b2 := 241) (g1 := a57) (g2 := a57) (e1 := d1) (e2 := d2) hG ((And.intro jl57 jm57)).1 (Int.le_trans ((And.intro jl57 jm57)).2 (Int.le_trans hl0.2 (by decide))) (Int.le_refl _) (Int.le_refl _) (Int.le_refl _) (Int.le_refl _)
                            exact sg_vret2 X hr hlk hS (fun t ht hW => (Or.inr ⟨_, _, _, spr, ((vq_bw (And.intro jl57 jm57) hl0)).1, ((vq_bw (And.intro jl57 jm57) hl0)).2, sg_post hb hK hC hG hS ht hW⟩)) dX12_readItems_70
                      exact B57_55 _ H _ _ 0 f49 ((vX (sgU2 P) (sgL2 P) a)) vUsu (b48).1 (b48).2 (vq_pgw pb48 (by decide)) hG hS (lv_sub hl [2, 3, 4, 5, 1, 0] rfl) (iv_of (iv_c 0 (a := 0) (b := 0) (by decide +kernel)) (a' := 0) (b' := 127) (by decide +kernel)) (iv_ne_lo (a' := 0) c50 hf49.1 (by decide +kernel)) ⟨rfl, vX_idem _ _ _, xf49⟩ (Nat.le_refl _)
                · have i46 : ((((((((0 + 1) + 1) + 1) + 1) + 1) + 1) + 1) : Int) < (7 : Int) := vq_lt (iv_gt_of c44) xy42 (vq_iv hf43)
                  exact ((iv_no (iv_lt (b' := 6) (iv_gt_of c44) (iv_add (a' := 7) (b' := 7) ey42 (iv_add (a' := 6) (b' := 6) ey36 (iv_add (a' := 5) (b' := 5) ey30 (iv_add (a' := 4) (b' := 4) ey24 (iv_add (a' := 3) (b' := 3) ey18 (iv_add (a' := 2) (b' := 2) ey12 (iv_add (a' := 1) (b' := 1) ey6 (iv_c 0 (a := 0) (b := 0) (by decide +kernel)) (iv_c _ (a := 1) (b := 1) (by decide +kernel)) (by decide +kernel)) (iv_c _ (a := 1) (b := 1) (by decide +kernel)) (by decide +kernel)) (iv_c _ (a := 1) (b := 1) (by decide +kernel)) (by decide +kernel)) (iv_c _ (a := 1) (b := 1) (by decide +kernel)) (by decide +kernel)) (iv_c _ (a := 1) (b := 1) (by decide +kernel)) (by decide +kernel)) (iv_c _ (a := 1) (b := 1) (by decide +kernel)) (by decide +kernel)) (iv_c _ (a := 1) (b := 1) (by decide +kernel)) (by decide +kernel)) hf43 (by decide +kernel)) (by decide +kernel))).elim

theorem ca_X12_readItems_es  {a d1 d2 : Int} {q : sgLwn} {o : sgO}  (X : CallFix p m c cc nL s args sg_tbl own) (hK : va_K D vwCl tys s) (hG : sgG (KE a a (-1) (-1) d1 d2 (zQ q o) P) D vwCl (fun q : Nat => base ≤ q) tys ad ks H) (hC : sgC base s) (hS : va_S (fun q : Nat => base ≤ q) s.heap H locs)  (hb : base ≤ s.heap.size) {ta tv : Nat} {tb : List Int32} (hp : P_S ta tv 7 tb (fun q : Nat => base ≤ q) s) (a0 : Nat) (h0 : isK ad ks 12 a0) (x1 : Int32) (h1 : iv 115 115 x1) (a2 : Nat) (h2 : isK ad ks 50 a2) (hl0 : 0 ≤ sgL2 P ∧ sgL2 P ≤ 240) (hav : 0 ≤ a ∧ a ≤ sgL2 P) (hby : sgBy2 P) (hd0 : 0 ≤ d1 ∧ d2 ≤ 6) (htb : ∀ j : Nat, j < 7 → iv 0 127 (tb.getD j 0)) (hte : tb = [119, 104, 113, 107, 108, 117, 120]) (hl : Cond.methodLink own index yX12_readItems ∈ sg_tbl) (hsize : ls.size = nL) (hst : st0 = [.int x1, .ref a2, .ref ta].reverse ++ .ref a0 :: rest) (hW : (rest.map fun v => v.category).sum ≤ 8) (hR : 6 ≤ R.frames ∧ 132 ≤ R.locals) (hf : cells ≤ R.cells ∧ slots ≤ R.slots) (hdg : decode cc pc = .ok (.invokevirtual index, 3)) (kk : ∀ (t : State) (H1 : Heap) (locs1 : List Loc), t.heap = H1 → ((fun t => (∃ (a1 : Int) (f1 : Nat → Int), vRuM (sgU2 P) (sgL2 P) 0 vUsu (vX (sgU2 P) (sgL2 P) a) = (true, vX (sgU2 P) (sgL2 P) a1, f1) ∧ a + 0 ≤ a1 ∧ a1 ≤ sgL2 P ∧ sgB (KE a1 a1 (-1) (-1) d1 d2 (zQ (f1, q.2) o) P) D vwCl base tys ad ks t) ∨ (∃ (w : Int) (f1 : Nat → Int) (z1 : sgZt), vRuM (sgU2 P) (sgL2 P) 0 vUsu (vX (sgU2 P) (sgL2 P) a) = (false, w, f1) ∧ 0 ≤ w ∧ w ≤ 240 ∧ sgB (KE 0 241 w w d1 d2 z1 P) D vwCl base tys ad ks t)) t) → va_S (fun q : Nat => base ≤ q) s.heap H1 locs1 → W p l e R s m args below meth c H1 locs1 cells slots Q (F0 m (pc + 3) ls rest)) : W p l e R s m args below meth c H locs cells slots Q (F0 m pc ls st0) :=
  sg_callQv X hK hG hC hS hb hp (m_X12_readItems_es l ta tv tb a0 h0 x1 h1 a2 h2 hl0 hav hby hd0 htb hte) h0 (k := 12) (ci := 12) rfl (C := RX12) (T := TX12) (N := 53) rfl wl_7_149 wl_1_13 wl_7_148 wl_0_54 (n := 3) (by decide +kernel) rfl rfl rfl hl hsize hst hW hR hf hdg kk
end
