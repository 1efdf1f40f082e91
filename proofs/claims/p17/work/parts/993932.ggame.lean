
section
variable {p : Program} {l : Launch} {e : Env} {R : Room} {s : State} {m : MethodId} {args : Array Value} {below : List Frame} {meth : Method} {c : Code} {H : Heap} {locs : List Loc} {cells slots : Nat} {Q : State → Prop} {cc : ByteArray} {nL pc : Nat} {ls : Array Slot} {rest : List Value} {own : String} {D : va_G} {A : Nat → Prop} {tys : List (ClassId × FieldType)} {ad ks : List Nat} {P : sgPm} {H0 : Heap} {index : Nat} {base : Nat} {st0 : List Value} {a : Nat}

set_option maxHeartbeats 8000000 in
set_option maxRecDepth 100000 in
theorem m_X3_packed_w (l : Launch) {D : va_G} {base : Nat} {tys : List (ClassId × FieldType)} {ad ks : List Nat} {P : sgPm} {Hx : Heap} (x0 : Int32) (h0 : iv 0 3 x0) (x1 : Int32) (h1 : iv (-1) 29 x1) (x2 : Int32) (h2 : iv 0 1 x2) (x3 : Int32) (h3 : iv 0 5 x3) : sgPi l (KT P) D vwCl base tys ad ks Hx yX3_packed cX3_packed 4 (some .int) ({ frames := 0, cells := 0, slots := 0, locals := 0 }) [.int x0, .int x1, .int x2, .int x3] (fun r : Int32 => iv 0 1487 r ∧ r.toInt = pkI x0.toInt x1.toInt x2.toInt x3.toInt) := by
  refine sg_ofP (Pq := fun Hx => va_Qi (fun r (_ : Unit) => (fun r : Int32 => iv 0 1487 r ∧ r.toInt = pkI x0.toInt x1.toInt x2.toInt x3.toInt) r) (fun _ t => t.heap = Hx) (fun _ : Nat => False)) (by decide +kernel) (Nat.le_of_ble_eq_true rfl) (fun p e s m below meth c X hr hlk hb hK hC hG ls hl => ?_)
  have hS : va_S (fun _ : Nat => False) s.heap s.heap [] := va_S.rf
  have hl : lv_has ls 4 [(0, .int x0), (1, .int x1), (2, .int x2), (3, .int x3)] := hl
  refine lv_iload_n X.1 X.2.1 dX3_packed_0 rfl (lv_at hl 0 rfl) ?_
  refine lv_bipush (v := 31) X.1 X.2.1 dX3_packed_1 (by decide +kernel) ?_
  refine lv_imul X.1 X.2.1 dX3_packed_3 ?_
  refine lv_topi (fun f1 ef1 => ?_)
  have xf1 : f1.toInt = (x0.toInt * 31) := sg_exmul ef1 h0 (iv_c 31 (a := 31) (b := 31) (by decide +kernel)) (by decide +kernel) rfl (by decide +kernel)
  refine lv_iload_n X.1 X.2.1 dX3_packed_4 rfl (lv_at hl 1 rfl) ?_
  refine lv_iadd X.1 X.2.1 dX3_packed_5 ?_
  refine lv_topi (fun f2 ef2 => ?_)
  have xf2 : f2.toInt = ((x0.toInt * 31) + x1.toInt) := sg_exadd ef2 (iv_mul (a' := 0) (b' := 93) ef1 h0 (iv_c 31 (a := 31) (b := 31) (by decide +kernel)) (by decide +kernel)) h1 (by decide +kernel) xf1 rfl
  refine lv_iconst (v := 1) X.1 X.2.1 dX3_packed_6 (by decide +kernel) ?_
  refine lv_iadd X.1 X.2.1 dX3_packed_7 ?_
  refine lv_topi (fun f3 ef3 => ?_)
  have xf3 : f3.toInt = (((x0.toInt * 31) + x1.toInt) + 1) := sg_exadd ef3 (iv_add (a' := (-1)) (b' := 122) ef2 (iv_mul (a' := 0) (b' := 93) ef1 h0 (iv_c 31 (a := 31) (b := 31) (by decide +kernel)) (by decide +kernel)) h1 (by decide +kernel)) (iv_c 1 (a := 1) (b := 1) (by decide +kernel)) (by decide +kernel) xf2 (by decide +kernel)
  refine lv_iconst (v := 2) X.1 X.2.1 dX3_packed_8 (by decide +kernel) ?_
  refine lv_imul X.1 X.2.1 dX3_packed_9 ?_
  refine lv_topi (fun f4 ef4 => ?_)
  have xf4 : f4.toInt = ((((x0.toInt * 31) + x1.toInt) + 1) * 2) := sg_exmul ef4 (iv_add (a' := 0) (b' := 123) ef3 (iv_add (a' := (-1)) (b' := 122) ef2 (iv_mul (a' := 0) (b' := 93) ef1 h0 (iv_c 31 (a := 31) (b := 31) (by decide +kernel)) (by decide +kernel)) h1 (by decide +kernel)) (iv_c 1 (a := 1) (b := 1) (by decide +kernel)) (by decide +kernel)) (iv_c 2 (a := 2) (b := 2) (by decide +kernel)) (by decide +kernel) xf3 (by decide +kernel)
  refine lv_iload_n X.1 X.2.1 dX3_packed_10 rfl (lv_at hl 2 rfl) ?_
  refine lv_iadd X.1 X.2.1 dX3_packed_11 ?_
  refine lv_topi (fun f5 ef5 => ?_)
  have xf5 : f5.toInt = (((((x0.toInt * 31) + x1.toInt) + 1) * 2) + x2.toInt) := sg_exadd ef5 (iv_mul (a' := 0) (b' := 246) ef4 (iv_add (a' := 0) (b' := 123) ef3 (iv_add (a' := (-1)) (b' := 122) ef2 (iv_mul (a' := 0) (b' := 93) ef1 h0 (iv_c 31 (a := 31) (b := 31) (by decide +kernel)) (by decide +kernel)) h1 (by decide +kernel)) (iv_c 1 (a := 1) (b := 1) (by decide +kernel)) (by decide +kernel)) (iv_c 2 (a := 2) (b := 2) (by decide +kernel)) (by decide +kernel)) h2 (by decide +kernel) xf4 rfl
  refine lv_bipush (v := 6) X.1 X.2.1 dX3_packed_12 (by decide +kernel) ?_
  refine lv_imul X.1 X.2.1 dX3_packed_14 ?_
  refine lv_topi (fun f6 ef6 => ?_)
  have xf6 : f6.toInt = ((((((x0.toInt * 31) + x1.toInt) + 1) * 2) + x2.toInt) * 6) := sg_exmul ef6 (iv_add (a' := 0) (b' := 247) ef5 (iv_mul (a' := 0) (b' := 246) ef4 (iv_add (a' := 0) (b' := 123) ef3 (iv_add (a' := (-1)) (b' := 122) ef2 (iv_mul (a' := 0) (b' := 93) ef1 h0 (iv_c 31 (a := 31) (b := 31) (by decide +kernel)) (by decide +kernel)) h1 (by decide +kernel)) (iv_c 1 (a := 1) (b := 1) (by decide +kernel)) (by decide +kernel)) (iv_c 2 (a := 2) (b := 2) (by decide +kernel)) (by decide +kernel)) h2 (by decide +kernel)) (iv_c 6 (a := 6) (b := 6) (by decide +kernel)) (by decide +kernel) xf5 (by decide +kernel)
  refine lv_iload_n X.1 X.2.1 dX3_packed_15 rfl (lv_at hl 3 rfl) ?_
  refine lv_iadd X.1 X.2.1 dX3_packed_16 ?_
  refine lv_topi (fun f7 ef7 => ?_)
  have xf7 : f7.toInt = (((((((x0.toInt * 31) + x1.toInt) + 1) * 2) + x2.toInt) * 6) + x3.toInt) := sg_exadd ef7 (iv_mul (a' := 0) (b' := 1482) ef6 (iv_add (a' := 0) (b' := 247) ef5 (iv_mul (a' := 0) (b' := 246) ef4 (iv_add (a' := 0) (b' := 123) ef3 (iv_add (a' := (-1)) (b' := 122) ef2 (iv_mul (a' := 0) (b' := 93) ef1 h0 (iv_c 31 (a := 31) (b := 31) (by decide +kernel)) (by decide +kernel)) h1 (by decide +kernel)) (iv_c 1 (a := 1) (b := 1) (by decide +kernel)) (by decide +kernel)) (iv_c 2 (a := 2) (b := 2) (by decide +kernel)) (by decide +kernel)) h2 (by decide +kernel)) (iv_c 6 (a := 6) (b := 6) (by decide +kernel)) (by decide +kernel)) h3 (by decide +kernel) xf6 rfl
  exact sg_iretP X hr hlk hS ⟨(iv_add (a' := 0) (b' := 1487) ef7 (iv_mul (a' := 0) (b' := 1482) ef6 (iv_add (a' := 0) (b' := 247) ef5 (iv_mul (a' := 0) (b' := 246) ef4 (iv_add (a' := 0) (b' := 123) ef3 (iv_add (a' := (-1)) (b' := 122) ef2 (iv_mul (a' := 0) (b' := 93) ef1 h0 (iv_c 31 (a := 31) (b := 31) (by decide +kernel)) (by decide +kernel)) h1 (by decide +kernel)) (iv_c 1 (a := 1) (b := 1) (by decide +kernel)) (by decide +kernel)) (iv_c 2 (a := 2) (b := 2) (by decide +kernel)) (by decide +kernel)) h2 (by decide +kernel)) (iv_c 6 (a := 6) (b := 6) (by decide +kernel)) (by decide +kernel)) h3 (by decide +kernel)), xf7⟩ dX3_packed_17

theorem ca_X3_packed_w   (X : CallFix p m c cc nL s args sg_tbl own) (hK : va_K D vwCl tys s) (hG : sgG (KT P) D vwCl (fun q : Nat => base ≤ q) tys ad ks H) (hC : sgC base s) (hA : ∀ q : Nat, A q → base ≤ q) (hS : va_S A s.heap H locs) (hb : base ≤ s.heap.size) (x0 : Int32) (h0 : iv 0 3 x0) (x1 : Int32) (h1 : iv (-1) 29 x1) (x2 : Int32) (h2 : iv 0 1 x2) (x3 : Int32) (h3 : iv 0 5 x3) (hl : Cond.methodLink own index yX3_packed ∈ sg_tbl) (hsize : ls.size = nL) (hst : st0 = [.int x0, .int x1, .int x2, .int x3].reverse ++ rest) (hW : (rest.map fun v => v.category).sum ≤ 8) (hR : 1 ≤ R.frames ∧ 23 ≤ R.locals) (hf : cells ≤ R.cells ∧ slots ≤ R.slots) (hdg : decode cc pc = .ok (.invokestatic index, 3)) (kk : ∀ (r : Int32) (locs1 : List Loc), (fun r : Int32 => iv 0 1487 r ∧ r.toInt = pkI x0.toInt x1.toInt x2.toInt x3.toInt) r → va_S A s.heap H locs1 → W p l e R s m args below meth c H locs1 cells slots Q (F0 m (pc + 3) ls (.int r :: rest))) : W p l e R s m args below meth c H locs cells slots Q (F0 m pc ls st0) :=
  sg_callPSi X hK hG hC hA hS hb (m_X3_packed_w l x0 h0 x1 h1 x2 h2 x3 h3) wl_4_28 wl_1_4 wl_4_27 (n := 4) (by decide +kernel) rfl rfl rfl hl hsize hst hW hR hf hdg kk

set_option maxHeartbeats 8000000 in
set_option maxRecDepth 100000 in
theorem m_X3_readCut_g (l : Launch) {D : va_G} {base : Nat} {tys : List (ClassId × FieldType)} {ad ks : List Nat} {P : sgPm}{a w1 w2 : Int} {z : sgZg}  (a0 : Nat) (h0 : isK ad ks 10 a0) (x1 : Int32) (h1 : iv 0 29 x1) (hl0 : 0 ≤ sgL1 P ∧ sgL1 P ≤ 240) (hav : 0 ≤ a ∧ a ≤ sgL1 P) (hby : ∀ j : Nat, (↑j : Int) < sgL1 P → 1 ≤ sgT1 P j ∧ sgT1 P j ≤ 255) : Met l yX3_readCut (Cond.code yX3_readCut cX3_readCut 4 (some .int) :: sg_tbl) ({ frames := 2, cells := 0, slots := 0, locals := 34 }) (va_Pc [.ref a0, .int x1] (sgB (KG a a w1 w2 z P) D vwCl base tys ad ks)) (va_Qi (fun r (u : Int32) => u = r ∧ (fun r : Int32 => True) r) (fun u t => (∃ a1 : Int, vCut (sgT1 P) (sgL1 P) a = (true, a1) ∧ u.toInt = pkI 1 x1.toInt (vCw (sgT1 P) (sgL1 P) a) (vCk (sgT1 P) (sgL1 P) a) ∧ 0 ≤ u.toInt ∧ u.toInt ≤ 1487 ∧ a + 1 ≤ a1 ∧ a1 ≤ sgL1 P ∧ sgB (KG a1 a1 w1 w2 z P) D vwCl base tys ad ks t) ∨ (u = -1 ∧ ∃ w : Int, vCut (sgT1 P) (sgL1 P) a = (false, w) ∧ sgB (KG 0 240 w w z P) D vwCl base tys ad ks t)) (fun q : Nat => base ≤ q)) 0 0 (fun q : Nat => base ≤ q) := by
  refine sg_ofW (by decide +kernel) (Nat.le_of_ble_eq_true rfl) (fun p e s m below meth c X hr hlk hb hK hC hG ls hl => ?_)
  have hS : va_S (fun q : Nat => base ≤ q) s.heap s.heap [] := va_S.rf
  have hl : lv_has ls 4 [(0, .ref a0), (1, .int x1)] := hl
  refine lv_aload_n X.1 X.2.1 dX3_readCut_0 rfl (lv_at hl 0 rfl) ?_
  refine ca_X10_sign_g X hK hG hC (fun _ h => h) hS hb a0 h0 hl0 hav wl_4_23 hl.1 (rest := []) rfl (Nat.le_of_ble_eq_true rfl) ⟨Nat.le_of_ble_eq_true rfl, Nat.le_of_ble_eq_true rfl⟩ ⟨Nat.le_of_ble_eq_true rfl, Nat.le_of_ble_eq_true rfl⟩ dX3_readCut_1 (fun f1 locs hf1 hS => ?_)
  have yf1 : iv 0 255 f1 := vq_255 hf1 hby
  refine lv_istore_n (lv' := [(2, .int f1), (0, .ref a0), (1, .int x1)]) X.1 X.2.1 dX3_readCut_4 rfl hl (by decide) rfl (fun ls hl => ?_)
  refine lv_iload_n X.1 X.2.1 dX3_readCut_5 rfl (lv_at hl 0 rfl) ?_
  refine lv_bipush (v := 114) X.1 X.2.1 dX3_readCut_6 (by decide +kernel) ?_
  refine lv_icmp_eq (tgt := 24) X.1 X.2.1 dX3_readCut_8 (by decide) (fun c2 => ?_) (fun c2 => ?_)
  · have i3 : vC (sgT1 P) (sgL1 P) a = (114 : Int) := vq_eq c2 hf1 (by decide +kernel)
    refine lv_aload_n X.1 X.2.1 dX3_readCut_24 rfl (lv_at hl 1 rfl) ?_
    refine ca_X10_step_g X hK hG hC hS hb a0 h0 hl0 (vC_lt (b := sgT1 P) (by rw [i3]; decide)) wl_4_25 hl.1 (rest := []) rfl (Nat.le_of_ble_eq_true rfl) ⟨Nat.le_of_ble_eq_true rfl, Nat.le_of_ble_eq_true rfl⟩ ⟨Nat.le_of_ble_eq_true rfl, Nat.le_of_ble_eq_true rfl⟩ dX3_readCut_25 (fun tg5 H locs htg5 hWg5 hS => ?_)
    have b6 := vC_lt (b := sgT1 P) (n := sgL1 P) (a := a) (by rw [i3]; decide)
    have bb6 := vq_bdX (b := sgT1 P) b6
    have qb6 : a + 1 ≤ vX (sgT1 P) (sgL1 P) (a + 1) := (vX_ge (sgT1 P) (sgL1 P) (a + 1)).1
    have pb6 : a + 1 ≤ vX (sgT1 P) (sgL1 P) (a + 1) := vq_pg (vq_pg0 a) (m := 1) (vX_ge (sgT1 P) (sgL1 P) (a + 1)).1 (by decide)
    have hG := hWg5.2.2.2
    rw [htg5] at hG
    refine lv_aload_n X.1 X.2.1 dX3_readCut_28 rfl (lv_at hl 1 rfl) ?_
    refine ca_X10_sign_g X hK hG hC (fun _ h => h) hS hb a0 h0 hl0 bb6 wl_4_23 hl.1 (rest := []) rfl (Nat.le_of_ble_eq_true rfl) ⟨Nat.le_of_ble_eq_true rfl, Nat.le_of_ble_eq_true rfl⟩ ⟨Nat.le_of_ble_eq_true rfl, Nat.le_of_ble_eq_true rfl⟩ dX3_readCut_29 (fun f7 locs hf7 hS => ?_)
    have yf7 : iv 0 255 f7 := vq_255 hf7 hby
    refine lv_bipush (v := 48) X.1 X.2.1 dX3_readCut_32 (by decide +kernel) ?_
    refine lv_isub X.1 X.2.1 dX3_readCut_34 ?_
    refine lv_topi (fun f8 ef8 => ?_)
    have xf8 : f8.toInt = (vC (sgT1 P) (sgL1 P) (vX (sgT1 P) (sgL1 P) (a + 1)) - 48) := sg_exsub ef8 yf7 (iv_c 48 (a := 48) (b := 48) (by decide +kernel)) (by decide +kernel) hf7 (by decide +kernel)
    refine lv_istore_n (lv' := [(3, .int f8), (2, .int f1), (0, .ref a0), (1, .int x1)]) X.1 X.2.1 dX3_readCut_35 rfl hl (by decide) rfl (fun ls hl => ?_)
    refine lv_iload_n X.1 X.2.1 dX3_readCut_36 rfl (lv_at hl 0 rfl) ?_
    refine lv_iconst (v := 1) X.1 X.2.1 dX3_readCut_37 (by decide +kernel) ?_
    refine lv_icmp_lt (tgt := 46) X.1 X.2.1 dX3_readCut_38 (by decide) (fun c9 => ?_) (fun c9 => ?_)
    · have i10 : (vC (sgT1 P) (sgL1 P) (vX (sgT1 P) (sgL1 P) (a + 1)) - 48) < (1 : Int) := vq_lt c9 xf8 (by decide +kernel)
      refine lv_aload_n X.1 X.2.1 dX3_readCut_46 rfl (lv_at hl 2 rfl) ?_
      refine ca_X10_wrong_g X hK hG hC hS hb a0 h0 hl0 bb6 wl_4_24 hl.1 (rest := []) rfl (Nat.le_of_ble_eq_true rfl) ⟨Nat.le_of_ble_eq_true rfl, Nat.le_of_ble_eq_true rfl⟩ ⟨Nat.le_of_ble_eq_true rfl, Nat.le_of_ble_eq_true rfl⟩ dX3_readCut_47 (fun f12 tf12 H locs htf12 hf12 hWf12 hS => ?_)
      have hG := hWf12.2.2.2
      rw [htf12] at hG
      obtain rfl : f12 = 0 := sg_is0 hf12
      refine lv_pop X.1 X.2.1 dX3_readCut_50 rfl ?_
      refine lv_iconst (v := (-1)) X.1 X.2.1 dX3_readCut_51 (by decide +kernel) ?_
      have spr : vCut (sgT1 P) (sgL1 P) a = (false, (vX (sgT1 P) (sgL1 P) (a + 1))) := by simp only [vCut, vCut1, i3, i10, cond_true, cond_false, vB_t, vB_f, if_true, if_false, eq_self, not_true_eq_false, not_false_eq_true, Int.reduceEq, Int.reduceLT, or_false, false_or, or_true, true_or]
      have hG := kg_weak (b1 := 0) (b2 := 240) (c1 := (vX (sgT1 P) (sgL1 P) (a + 1))) (c2 := (vX (sgT1 P) (sgL1 P) (a + 1))) hG (bb6).1 (Int.le_trans (bb6).2 hl0.2) (Int.le_refl _) (Int.le_refl _)
      exact sg_iret2 X hr hlk hS trivial (fun t ht hW => (Or.inr ⟨rfl, _, spr, sg_post hb hK hC hG hS ht hW⟩)) dX3_readCut_52
    · have i11 : ¬ (vC (sgT1 P) (sgL1 P) (vX (sgT1 P) (sgL1 P) (a + 1)) - 48) < (1 : Int) := vq_le (iv_ge_of c9) (by decide +kernel) xf8
      refine lv_iload_n X.1 X.2.1 dX3_readCut_41 rfl (lv_at hl 0 rfl) ?_
      refine lv_iconst (v := 5) X.1 X.2.1 dX3_readCut_42 (by decide +kernel) ?_
      refine lv_icmp_le (tgt := 53) X.1 X.2.1 dX3_readCut_43 (by decide) (fun c13 => ?_) (fun c13 => ?_)
      · have i14 : ¬ (5 : Int) < (vC (sgT1 P) (sgL1 P) (vX (sgT1 P) (sgL1 P) (a + 1)) - 48) := vq_le c13 xf8 (by decide +kernel)
        refine lv_aload_n X.1 X.2.1 dX3_readCut_53 rfl (lv_at hl 2 rfl) ?_
        refine ca_X10_step_g X hK hG hC hS hb a0 h0 hl0 (vC_lt (b := sgT1 P) (by omega)) wl_4_25 hl.1 (rest := []) rfl (Nat.le_of_ble_eq_true rfl) ⟨Nat.le_of_ble_eq_true rfl, Nat.le_of_ble_eq_true rfl⟩ ⟨Nat.le_of_ble_eq_true rfl, Nat.le_of_ble_eq_true rfl⟩ dX3_readCut_54 (fun tg16 H locs htg16 hWg16 hS => ?_)
        have b17 := vC_lt (b := sgT1 P) (n := sgL1 P) (a := (vX (sgT1 P) (sgL1 P) (a + 1))) (by omega)
        have bb17 := vq_bdX (b := sgT1 P) b17
        have qb17 : (vX (sgT1 P) (sgL1 P) (a + 1)) + 1 ≤ vX (sgT1 P) (sgL1 P) ((vX (sgT1 P) (sgL1 P) (a + 1)) + 1) := (vX_ge (sgT1 P) (sgL1 P) ((vX (sgT1 P) (sgL1 P) (a + 1)) + 1)).1
        have pb17 : a + 2 ≤ vX (sgT1 P) (sgL1 P) ((vX (sgT1 P) (sgL1 P) (a + 1)) + 1) := vq_pg pb6 (m := 1) (vX_ge (sgT1 P) (sgL1 P) ((vX (sgT1 P) (sgL1 P) (a + 1)) + 1)).1 (by decide)
        have hG := hWg16.2.2.2
        rw [htg16] at hG
        refine lv_iconst (v := 1) X.1 X.2.1 dX3_readCut_57 (by decide +kernel) ?_
        refine lv_iload_n X.1 X.2.1 dX3_readCut_58 rfl (lv_at hl 3 rfl) ?_
        refine lv_iload_n X.1 X.2.1 dX3_readCut_59 rfl (lv_at hl 1 rfl) ?_
        refine lv_bipush (v := 100) X.1 X.2.1 dX3_readCut_60 (by decide +kernel) ?_
        refine lv_icmp_ne (tgt := 69) X.1 X.2.1 dX3_readCut_62 (by decide) (fun c18 => ?_) (fun c18 => ?_)
        · have i19 : (vC (sgT1 P) (sgL1 P) a = (100 : Int)) = False := vq_ne c18 hf1 (by decide +kernel)
          refine lv_iconst (v := 0) X.1 X.2.1 dX3_readCut_69 (by decide +kernel) ?_
          refine lv_iload_n X.1 X.2.1 dX3_readCut_70 rfl (lv_at hl 0 rfl) ?_
          refine ca_X3_packed_w X hK (sg_emp (kt := KT P)) hC (fun _ h => h) hS hb 1 (iv_of (iv_c 1 (a := 1) (b := 1) (by decide +kernel)) (a' := 0) (b' := 3) (by decide +kernel)) x1 (iv_of h1 (a' := (-1)) (b' := 29) (by decide +kernel)) 0 (iv_of (iv_c 0 (a := 0) (b := 0) (by decide +kernel)) (a' := 0) (b' := 1) (by decide +kernel)) f8 (iv_of (iv_le (b' := 5) c13 (iv_ler (c' := 1) (iv_ge_of c9) (iv_c 1 (a := 1) (b := 1) (by decide +kernel)) (iv_sub (a' := (-48)) (b' := 207) ef8 yf7 (iv_c 48 (a := 48) (b := 48) (by decide +kernel)) (by decide +kernel)) (by decide +kernel)) (iv_c 5 (a := 5) (b := 5) (by decide +kernel)) (by decide +kernel)) (a' := 0) (b' := 5) (by decide +kernel)) wl_4_26 hl.1 (rest := []) rfl (Nat.le_of_ble_eq_true rfl) ⟨Nat.le_of_ble_eq_true rfl, Nat.le_of_ble_eq_true rfl⟩ ⟨Nat.le_of_ble_eq_true rfl, Nat.le_of_ble_eq_true rfl⟩ dX3_readCut_71 (fun f21 locs hf21 hS => ?_)
          have xf21 : f21.toInt = pkI (1) (x1.toInt) (0) (vC (sgT1 P) (sgL1 P) (vX (sgT1 P) (sgL1 P) (a + 1)) - 48) := pk_of hf21.2 (show (1 : Int32).toInt = 1 from by decide +kernel) rfl (show (0 : Int32).toInt = 0 from by decide +kernel) xf8
          have spr : vCut (sgT1 P) (sgL1 P) a = (true, (vX (sgT1 P) (sgL1 P) ((vX (sgT1 P) (sgL1 P) (a + 1)) + 1))) := by simp only [vCut, vCut1, i3, i11, i14, i19, cond_true, cond_false, vB_t, vB_f, if_true, if_false, eq_self, not_true_eq_false, not_false_eq_true, Int.reduceEq, Int.reduceLT, or_false, false_or, or_true, true_or]
          have hv8 : iv 0 1487 f21 := hf21.1
          have hv9 : f21.toInt = pkI 1 x1.toInt (vCw (sgT1 P) (sgL1 P) a) (vCk (sgT1 P) (sgL1 P) a) := xf21.trans (by rw [vCw_0 i3]; rfl)
          exact sg_iret2 X hr hlk hS trivial (fun t ht hW => (Or.inl ⟨_, spr, hv9, hv8.1, hv8.2, vq_pgw pb17 (by decide), (bb17).2, sg_post hb hK hC hG hS ht hW⟩)) dX3_readCut_74
        · have i20 : vC (sgT1 P) (sgL1 P) a = (100 : Int) := vq_eq c18 hf1 (by decide +kernel)
          exact ((iv_no (a := 114) (b := 100) (iv_eqm c18 (iv_eqm (a' := 114) (b' := 114) c2 yf1 (iv_c 114 (a := 114) (b := 114) (by decide +kernel)) (by decide +kernel)) (iv_c 100 (a := 100) (b := 100) (by decide +kernel)) (by decide +kernel)) (by decide +kernel))).elim
      · have i15 : (5 : Int) < (vC (sgT1 P) (sgL1 P) (vX (sgT1 P) (sgL1 P) (a + 1)) - 48) := vq_lt (iv_gt_of c13) (by decide +kernel) xf8
        refine lv_aload_n X.1 X.2.1 dX3_readCut_46 rfl (lv_at hl 2 rfl) ?_
        refine ca_X10_wrong_g X hK hG hC hS hb a0 h0 hl0 bb6 wl_4_24 hl.1 (rest := []) rfl (Nat.le_of_ble_eq_true rfl) ⟨Nat.le_of_ble_eq_true rfl, Nat.le_of_ble_eq_true rfl⟩ ⟨Nat.le_of_ble_eq_true rfl, Nat.le_of_ble_eq_true rfl⟩ dX3_readCut_47 (fun f22 tf22 H locs htf22 hf22 hWf22 hS => ?_)
        have hG := hWf22.2.2.2
        rw [htf22] at hG
        obtain rfl : f22 = 0 := sg_is0 hf22
        refine lv_pop X.1 X.2.1 dX3_readCut_50 rfl ?_
        refine lv_iconst (v := (-1)) X.1 X.2.1 dX3_readCut_51 (by decide +kernel) ?_
        have spr : vCut (sgT1 P) (sgL1 P) a = (false, (vX (sgT1 P) (sgL1 P) (a + 1))) := by simp only [vCut, vCut1, i3, i11, i15, cond_true, cond_false, vB_t, vB_f, if_true, if_false, eq_self, not_true_eq_false, not_false_eq_true, Int.reduceEq, Int.reduceLT, or_false, false_or, or_true, true_or]
        have hG := kg_weak (b1 := 0) (b2 := 240) (c1 := (vX (sgT1 P) (sgL1 P) (a + 1))) (c2 := (vX (sgT1 P) (sgL1 P) (a + 1))) hG (bb6).1 (Int.le_trans (bb6).2 hl0.2) (Int.le_refl _) (Int.le_refl _)
        exact sg_iret2 X hr hlk hS trivial (fun t ht hW => (Or.inr ⟨rfl, _, spr, sg_post hb hK hC hG hS ht hW⟩)) dX3_readCut_52
  · have i4 : (vC (sgT1 P) (sgL1 P) a = (114 : Int)) = False := vq_ne c2 hf1 (by decide +kernel)
    refine lv_iload_n X.1 X.2.1 dX3_readCut_11 rfl (lv_at hl 0 rfl) ?_
    refine lv_bipush (v := 100) X.1 X.2.1 dX3_readCut_12 (by decide +kernel) ?_
    refine lv_icmp_eq (tgt := 24) X.1 X.2.1 dX3_readCut_14 (by decide) (fun c23 => ?_) (fun c23 => ?_)
    · have i24 : vC (sgT1 P) (sgL1 P) a = (100 : Int) := vq_eq c23 hf1 (by decide +kernel)
      refine lv_aload_n X.1 X.2.1 dX3_readCut_24 rfl (lv_at hl 1 rfl) ?_
      refine ca_X10_step_g X hK hG hC hS hb a0 h0 hl0 (vC_lt (b := sgT1 P) (by rw [i24]; decide)) wl_4_25 hl.1 (rest := []) rfl (Nat.le_of_ble_eq_true rfl) ⟨Nat.le_of_ble_eq_true rfl, Nat.le_of_ble_eq_true rfl⟩ ⟨Nat.le_of_ble_eq_true rfl, Nat.le_of_ble_eq_true rfl⟩ dX3_readCut_25 (fun tg26 H locs htg26 hWg26 hS => ?_)
      have b27 := vC_lt (b := sgT1 P) (n := sgL1 P) (a := a) (by rw [i24]; decide)
      have bb27 := vq_bdX (b := sgT1 P) b27
      have qb27 : a + 1 ≤ vX (sgT1 P) (sgL1 P) (a + 1) := (vX_ge (sgT1 P) (sgL1 P) (a + 1)).1
      have pb27 : a + 1 ≤ vX (sgT1 P) (sgL1 P) (a + 1) := vq_pg (vq_pg0 a) (m := 1) (vX_ge (sgT1 P) (sgL1 P) (a + 1)).1 (by decide)
      have hG := hWg26.2.2.2
      rw [htg26] at hG
      refine lv_aload_n X.1 X.2.1 dX3_readCut_28 rfl (lv_at hl 1 rfl) ?_
      refine ca_X10_sign_g X hK hG hC (fun _ h => h) hS hb a0 h0 hl0 bb27 wl_4_23 hl.1 (rest := []) rfl (Nat.le_of_ble_eq_true rfl) ⟨Nat.le_of_ble_eq_true rfl, Nat.le_of_ble_eq_true rfl⟩ ⟨Nat.le_of_ble_eq_true rfl, Nat.le_of_ble_eq_true rfl⟩ dX3_readCut_29 (fun f28 locs hf28 hS => ?_)
      have yf28 : iv 0 255 f28 := vq_255 hf28 hby
      refine lv_bipush (v := 48) X.1 X.2.1 dX3_readCut_32 (by decide +kernel) ?_
      refine lv_isub X.1 X.2.1 dX3_readCut_34 ?_
      refine lv_topi (fun f29 ef29 => ?_)
      have xf29 : f29.toInt = (vC (sgT1 P) (sgL1 P) (vX (sgT1 P) (sgL1 P) (a + 1)) - 48) := sg_exsub ef29 yf28 (iv_c 48 (a := 48) (b := 48) (by decide +kernel)) (by decide +kernel) hf28 (by decide +kernel)
      refine lv_istore_n (lv' := [(3, .int f29), (2, .int f1), (0, .ref a0), (1, .int x1)]) X.1 X.2.1 dX3_readCut_35 rfl hl (by decide) rfl (fun ls hl => ?_)
      refine lv_iload_n X.1 X.2.1 dX3_readCut_36 rfl (lv_at hl 0 rfl) ?_
      refine lv_iconst (v := 1) X.1 X.2.1 dX3_readCut_37 (by decide +kernel) ?_
      refine lv_icmp_lt (tgt := 46) X.1 X.2.1 dX3_readCut_38 (by decide) (fun c30 => ?_) (fun c30 => ?_)
      · have i31 : (vC (sgT1 P) (sgL1 P) (vX (sgT1 P) (sgL1 P) (a + 1)) - 48) < (1 : Int) := vq_lt c30 xf29 (by decide +kernel)
        refine lv_aload_n X.1 X.2.1 dX3_readCut_46 rfl (lv_at hl 2 rfl) ?_
        refine ca_X10_wrong_g X hK hG hC hS hb a0 h0 hl0 bb27 wl_4_24 hl.1 (rest := []) rfl (Nat.le_of_ble_eq_true rfl) ⟨Nat.le_of_ble_eq_true rfl, Nat.le_of_ble_eq_true rfl⟩ ⟨Nat.le_of_ble_eq_true rfl, Nat.le_of_ble_eq_true rfl⟩ dX3_readCut_47 (fun f33 tf33 H locs htf33 hf33 hWf33 hS => ?_)
        have hG := hWf33.2.2.2
        rw [htf33] at hG
        obtain rfl : f33 = 0 := sg_is0 hf33
        refine lv_pop X.1 X.2.1 dX3_readCut_50 rfl ?_
        refine lv_iconst (v := (-1)) X.1 X.2.1 dX3_readCut_51 (by decide +kernel) ?_
        have spr : vCut (sgT1 P) (sgL1 P) a = (false, (vX (sgT1 P) (sgL1 P) (a + 1))) := by simp only [vCut, vCut1, i4, i24, i31, cond_true, cond_false, vB_t, vB_f, if_true, if_false, eq_self, not_true_eq_false, not_false_eq_true, Int.reduceEq, Int.reduceLT, or_false, false_or, or_true, true_or]
        have hG := kg_weak (b1 := 0) (b2 := 240) (c1 := (vX (sgT1 P) (sgL1 P) (a + 1))) (c2 := (vX (sgT1 P) (sgL1 P) (a + 1))) hG (bb27).1 (Int.le_trans (bb27).2 hl0.2) (Int.le_refl _) (Int.le_refl _)
        exact sg_iret2 X hr hlk hS trivial (fun t ht hW => (Or.inr ⟨rfl, _, spr, sg_post hb hK hC hG hS ht hW⟩)) dX3_readCut_52
      · have i32 : ¬ (vC (sgT1 P) (sgL1 P) (vX (sgT1 P) (sgL1 P) (a + 1)) - 48) < (1 : Int) := vq_le (iv_ge_of c30) (by decide +kernel) xf29
        refine lv_iload_n X.1 X.2.1 dX3_readCut_41 rfl (lv_at hl 0 rfl) ?_
        refine lv_iconst (v := 5) X.1 X.2.1 dX3_readCut_42 (by decide +kernel) ?_
        refine lv_icmp_le (tgt := 53) X.1 X.2.1 dX3_readCut_43 (by decide) (fun c34 => ?_) (fun c34 => ?_)
        · have i35 : ¬ (5 : Int) < (vC (sgT1 P) (sgL1 P) (vX (sgT1 P) (sgL1 P) (a + 1)) - 48) := vq_le c34 xf29 (by decide +kernel)
          refine lv_aload_n X.1 X.2.1 dX3_readCut_53 rfl (lv_at hl 2 rfl) ?_
          refine ca_X10_step_g X hK hG hC hS hb a0 h0 hl0 (vC_lt (b := sgT1 P) (by omega)) wl_4_25 hl.1 (rest := []) rfl (Nat.le_of_ble_eq_true rfl) ⟨Nat.le_of_ble_eq_true rfl, Nat.le_of_ble_eq_true rfl⟩ ⟨Nat.le_of_ble_eq_true rfl, Nat.le_of_ble_eq_true rfl⟩ dX3_readCut_54 (fun tg37 H locs htg37 hWg37 hS => ?_)
          have b38 := vC_lt (b := sgT1 P) (n := sgL1 P) (a := (vX (sgT1 P) (sgL1 P) (a + 1))) (by omega)
          have bb38 := vq_bdX (b := sgT1 P) b38
          have qb38 : (vX (sgT1 P) (sgL1 P) (a + 1)) + 1 ≤ vX (sgT1 P) (sgL1 P) ((vX (sgT1 P) (sgL1 P) (a + 1)) + 1) := (vX_ge (sgT1 P) (sgL1 P) ((vX (sgT1 P) (sgL1 P) (a + 1)) + 1)).1
          have pb38 : a + 2 ≤ vX (sgT1 P) (sgL1 P) ((vX (sgT1 P) (sgL1 P) (a + 1)) + 1) := vq_pg pb27 (m := 1) (vX_ge (sgT1 P) (sgL1 P) ((vX (sgT1 P) (sgL1 P) (a + 1)) + 1)).1 (by decide)
          have hG := hWg37.2.2.2
          rw [htg37] at hG
          refine lv_iconst (v := 1) X.1 X.2.1 dX3_readCut_57 (by decide +kernel) ?_
          refine lv_iload_n X.1 X.2.1 dX3_readCut_58 rfl (lv_at hl 3 rfl) ?_
          refine lv_iload_n X.1 X.2.1 dX3_readCut_59 rfl (lv_at hl 1 rfl) ?_
          refine lv_bipush (v := 100) X.1 X.2.1 dX3_readCut_60 (by decide +kernel) ?_
          refine lv_icmp_ne (tgt := 69) X.1 X.2.1 dX3_readCut_62 (by decide) (fun c39 => ?_) (fun c39 => ?_)
          · have i40 : (vC (sgT1 P) (sgL1 P) a = (100 : Int)) = False := vq_ne c39 hf1 (by decide +kernel)
            exact ((c39 (iv_one (iv_eqm (a' := 100) (b' := 100) c23 yf1 (iv_c 100 (a := 100) (b := 100) (by decide +kernel)) (by decide +kernel)) (iv_c 100 (a := 100) (b := 100) (by decide +kernel)) (by decide +kernel)))).elim
          · have i41 : vC (sgT1 P) (sgL1 P) a = (100 : Int) := vq_eq c39 hf1 (by decide +kernel)
            refine lv_iconst (v := 1) X.1 X.2.1 dX3_readCut_65 (by decide +kernel) ?_
            refine lv_goto (tgt := 70) X.1 X.2.1 dX3_readCut_66 (by decide) ?_
            refine lv_iload_n X.1 X.2.1 dX3_readCut_70 rfl (lv_at hl 0 rfl) ?_
            refine ca_X3_packed_w X hK (sg_emp (kt := KT P)) hC (fun _ h => h) hS hb 1 (iv_of (iv_c 1 (a := 1) (b := 1) (by decide +kernel)) (a' := 0) (b' := 3) (by decide +kernel)) x1 (iv_of h1 (a' := (-1)) (b' := 29) (by decide +kernel)) 1 (iv_of (iv_c 1 (a := 1) (b := 1) (by decide +kernel)) (a' := 0) (b' := 1) (by decide +kernel)) f29 (iv_of (iv_le (b' := 5) c34 (iv_ler (c' := 1) (iv_ge_of c30) (iv_c 1 (a := 1) (b := 1) (by decide +kernel)) (iv_sub (a' := (-48)) (b' := 207) ef29 yf28 (iv_c 48 (a := 48) (b := 48) (by decide +kernel)) (by decide +kernel)) (by decide +kernel)) (iv_c 5 (a := 5) (b := 5) (by decide +kernel)) (by decide +kernel)) (a' := 0) (b' := 5) (by decide +kernel)) wl_4_26 hl.1 (rest := []) rfl (Nat.le_of_ble_eq_true rfl) ⟨Nat.le_of_ble_eq_true rfl, Nat.le_of_ble_eq_true rfl⟩ ⟨Nat.le_of_ble_eq_true rfl, Nat.le_of_ble_eq_true rfl⟩ dX3_readCut_71 (fun f42 locs hf42 hS => ?_)
            have xf42 : f42.toInt = pkI (1) (x1.toInt) (1) (vC (sgT1 P) (sgL1 P) (vX (sgT1 P) (sgL1 P) (a + 1)) - 48) := pk_of hf42.2 (show (1 : Int32).toInt = 1 from by decide +kernel) rfl (show (1 : Int32).toInt = 1 from by decide +kernel) xf29
            have spr : vCut (sgT1 P) (sgL1 P) a = (true, (vX (sgT1 P) (sgL1 P) ((vX (sgT1 P) (sgL1 P) (a + 1)) + 1))) := by simp only [vCut, vCut1, i4, i24, i32, i35, i41, cond_true, cond_false, vB_t, vB_f, if_true, if_false, eq_self, not_true_eq_false, not_false_eq_true, Int.reduceEq, Int.reduceLT, or_false, false_or, or_true, true_or]
            have hv8 : iv 0 1487 f42 := hf42.1
            have hv9 : f42.toInt = pkI 1 x1.toInt (vCw (sgT1 P) (sgL1 P) a) (vCk (sgT1 P) (sgL1 P) a) := xf42.trans (by rw [vCw_1 i41]; rfl)
            exact sg_iret2 X hr hlk hS trivial (fun t ht hW => (Or.inl ⟨_, spr, hv9, hv8.1, hv8.2, vq_pgw pb38 (by decide), (bb38).2, sg_post hb hK hC hG hS ht hW⟩)) dX3_readCut_74
        · have i36 : (5 : Int) < (vC (sgT1 P) (sgL1 P) (vX (sgT1 P) (sgL1 P) (a + 1)) - 48) := vq_lt (iv_gt_of c34) (by decide +kernel) xf29
          refine lv_aload_n X.1 X.2.1 dX3_readCut_46 rfl (lv_at hl 2 rfl) ?_
          refine ca_X10_wrong_g X hK hG hC hS hb a0 h0 hl0 bb27 wl_4_24 hl.1 (rest := []) rfl (Nat.le_of_ble_eq_true rfl) ⟨Nat.le_of_ble_eq_true rfl, Nat.le_of_ble_eq_true rfl⟩ ⟨Nat.le_of_ble_eq_true rfl, Nat.le_of_ble_eq_true rfl⟩ dX3_readCut_47 (fun f43 tf43 H locs htf43 hf43 hWf43 hS => ?_)
          have hG := hWf43.2.2.2
          rw [htf43] at hG
          obtain rfl : f43 = 0 := sg_is0 hf43
          refine lv_pop X.1 X.2.1 dX3_readCut_50 rfl ?_
          refine lv_iconst (v := (-1)) X.1 X.2.1 dX3_readCut_51 (by decide +kernel) ?_
          have spr : vCut (sgT1 P) (sgL1 P) a = (false, (vX (sgT1 P) (sgL1 P) (a + 1))) := by simp only [vCut, vCut1, i4, i24, i32, i36, cond_true, cond_false, vB_t, vB_f, if_true, if_false, eq_self, not_true_eq_false, not_false_eq_true, Int.reduceEq, Int.reduceLT, or_false, false_or, or_true, true_or]
          have hG := kg_weak (b1 := 0) (b2 := 240) (c1 := (vX (sgT1 P) (sgL1 P) (a + 1))) (c2 := (vX (sgT1 P) (sgL1 P) (a + 1))) hG (bb27).1 (Int.le_trans (bb27).2 hl0.2) (Int.le_refl _) (Int.le_refl _)
          exact sg_iret2 X hr hlk hS trivial (fun t ht hW => (Or.inr ⟨rfl, _, spr, sg_post hb hK hC hG hS ht hW⟩)) dX3_readCut_52
    · have i25 : (vC (sgT1 P) (sgL1 P) a = (100 : Int)) = False := vq_ne c23 hf1 (by decide +kernel)
      refine lv_aload_n X.1 X.2.1 dX3_readCut_17 rfl (lv_at hl 1 rfl) ?_
      refine ca_X10_wrong_g X hK hG hC hS hb a0 h0 hl0 hav wl_4_24 hl.1 (rest := []) rfl (Nat.le_of_ble_eq_true rfl) ⟨Nat.le_of_ble_eq_true rfl, Nat.le_of_ble_eq_true rfl⟩ ⟨Nat.le_of_ble_eq_true rfl, Nat.le_of_ble_eq_true rfl⟩ dX3_readCut_18 (fun f44 tf44 H locs htf44 hf44 hWf44 hS => ?_)
      have hG := hWf44.2.2.2
      rw [htf44] at hG
      obtain rfl : f44 = 0 := sg_is0 hf44
      refine lv_pop X.1 X.2.1 dX3_readCut_21 rfl ?_
      refine lv_iconst (v := (-1)) X.1 X.2.1 dX3_readCut_22 (by decide +kernel) ?_
      have spr : vCut (sgT1 P) (sgL1 P) a = (false, a) := by simp only [vCut, vCut1, i4, i25, cond_true, cond_false, vB_t, vB_f, if_true, if_false, eq_self, not_true_eq_false, not_false_eq_true, Int.reduceEq, Int.reduceLT, or_false, false_or, or_true, true_or]
      have hG := kg_weak (b1 := 0) (b2 := 240) (c1 := a) (c2 := a) hG (hav).1 (Int.le_trans (hav).2 hl0.2) (Int.le_refl _) (Int.le_refl _)
      exact sg_iret2 X hr hlk hS trivial (fun t ht hW => (Or.inr ⟨rfl, _, spr, sg_post hb hK hC hG hS ht hW⟩)) dX3_readCut_23

theorem ca_X3_readCut_g  {a w1 w2 : Int} {z : sgZg}  (X : CallFix p m c cc nL s args sg_tbl own) (hK : va_K D vwCl tys s) (hG : sgG (KG a a w1 w2 z P) D vwCl (fun q : Nat => base ≤ q) tys ad ks H) (hC : sgC base s) (hS : va_S (fun q : Nat => base ≤ q) s.heap H locs) (hb : base ≤ s.heap.size) (a0 : Nat) (h0 : isK ad ks 10 a0) (x1 : Int32) (h1 : iv 0 29 x1) (hl0 : 0 ≤ sgL1 P ∧ sgL1 P ≤ 240) (hav : 0 ≤ a ∧ a ≤ sgL1 P) (hby : ∀ j : Nat, (↑j : Int) < sgL1 P → 1 ≤ sgT1 P j ∧ sgT1 P j ≤ 255) (hl : Cond.methodLink own index yX3_readCut ∈ sg_tbl) (hsize : ls.size = nL) (hst : st0 = [.ref a0, .int x1].reverse ++ rest) (hW : (rest.map fun v => v.category).sum ≤ 8) (hR : 3 ≤ R.frames ∧ 57 ≤ R.locals) (hf : cells ≤ R.cells ∧ slots ≤ R.slots) (hdg : decode cc pc = .ok (.invokestatic index, 3)) (kk : ∀ (r : Int32) (t : State) (H1 : Heap) (locs1 : List Loc), t.heap = H1 → (fun r : Int32 => True) r → ((∃ a1 : Int, vCut (sgT1 P) (sgL1 P) a = (true, a1) ∧ r.toInt = pkI 1 x1.toInt (vCw (sgT1 P) (sgL1 P) a) (vCk (sgT1 P) (sgL1 P) a) ∧ 0 ≤ r.toInt ∧ r.toInt ≤ 1487 ∧ a + 1 ≤ a1 ∧ a1 ≤ sgL1 P ∧ sgB (KG a1 a1 w1 w2 z P) D vwCl base tys ad ks t) ∨ (r = -1 ∧ ∃ w : Int, vCut (sgT1 P) (sgL1 P) a = (false, w) ∧ sgB (KG 0 240 w w z P) D vwCl base tys ad ks t)) → va_S (fun q : Nat => base ≤ q) s.heap H1 locs1 → W p l e R s m args below meth c H1 locs1 cells slots Q (F0 m (pc + 3) ls (.int r :: rest))) : W p l e R s m args below meth c H locs cells slots Q (F0 m pc ls st0) :=
  sg_callS2i X hK hG hC hS hb (m_X3_readCut_g l a0 h0 x1 h1 hl0 hav hby) wl_4_32 wl_1_4 wl_4_31 (n := 2) (by decide +kernel) rfl rfl rfl hl hsize hst hW hR hf hdg kk

set_option maxHeartbeats 8000000 in
set_option maxRecDepth 100000 in
theorem m_X3_readMove_g (l : Launch) {D : va_G} {base : Nat} {tys : List (ClassId × FieldType)} {ad ks : List Nat} {P : sgPm}{a w1 w2 : Int} {z : sgZg}  (a0 : Nat) (h0 : isK ad ks 8 a0) (a1 : Nat) (h1 : isK ad ks 10 a1) (hl0 : 0 ≤ sgL1 P ∧ sgL1 P ≤ 240) (hav : 0 ≤ a ∧ a ≤ sgL1 P) (hby : ∀ j : Nat, (↑j : Int) < sgL1 P → 1 ≤ sgT1 P j ∧ sgT1 P j ≤ 255) : Met l yX3_readMove (Cond.code yX3_readMove cX3_readMove 4 (some .int) :: sg_tbl) ({ frames := 3, cells := 0, slots := 0, locals := 57 }) (va_Pc [.ref a0, .ref a1] (sgB (KG a a w1 w2 z P) D vwCl base tys ad ks)) (va_Qi (fun r (u : Int32) => u = r ∧ (fun r : Int32 => True) r) (fun u t => (∃ a1 : Int, vMv (sgT1 P) (sgL1 P) a = (true, a1) ∧ u.toInt = pkQ (vMq (sgT1 P) (sgL1 P) a) ∧ 0 ≤ u.toInt ∧ u.toInt ≤ 1487 ∧ a + 1 ≤ a1 ∧ a1 ≤ sgL1 P ∧ sgB (KG a1 a1 w1 w2 z P) D vwCl base tys ad ks t) ∨ (u = -1 ∧ ∃ w : Int, vMv (sgT1 P) (sgL1 P) a = (false, w) ∧ sgB (KG 0 240 w w z P) D vwCl base tys ad ks t)) (fun q : Nat => base ≤ q)) 0 0 (fun q : Nat => base ≤ q) := by
  refine sg_ofW (by decide +kernel) (Nat.le_of_ble_eq_true rfl) (fun p e s m below meth c X hr hlk hb hK hC hG ls hl => ?_)
  have hS : va_S (fun q : Nat => base ≤ q) s.heap s.heap [] := va_S.rf
  have hl : lv_has ls 4 [(0, .ref a0), (1, .ref a1)] := hl
  refine lv_aload_n X.1 X.2.1 dX3_readMove_0 rfl (lv_at hl 1 rfl) ?_
  refine ca_X10_sign_g X hK hG hC (fun _ h => h) hS hb a1 h1 hl0 hav wl_4_23 hl.1 (rest := []) rfl (Nat.le_of_ble_eq_true rfl) ⟨Nat.le_of_ble_eq_true rfl, Nat.le_of_ble_eq_true rfl⟩ ⟨Nat.le_of_ble_eq_true rfl, Nat.le_of_ble_eq_true rfl⟩ dX3_readMove_1 (fun f1 locs hf1 hS => ?_)
  have yf1 : iv 0 255 f1 := vq_255 hf1 hby
  refine lv_istore_n (lv' := [(2, .int f1), (0, .ref a0), (1, .ref a1)]) X.1 X.2.1 dX3_readMove_4 rfl hl (by decide) rfl (fun ls hl => ?_)
  refine lv_iload_n X.1 X.2.1 dX3_readMove_5 rfl (lv_at hl 0 rfl) ?_
  refine lv_bipush (v := 103) X.1 X.2.1 dX3_readMove_6 (by decide +kernel) ?_
  refine lv_icmp_eq (tgt := 36) X.1 X.2.1 dX3_readMove_8 (by decide) (fun c2 => ?_) (fun c2 => ?_)
  · have i3 : vC (sgT1 P) (sgL1 P) a = (103 : Int) := vq_eq c2 hf1 (by decide +kernel)
    refine lv_aload_n X.1 X.2.1 dX3_readMove_36 rfl (lv_at hl 2 rfl) ?_
    refine ca_X10_step_g X hK hG hC hS hb a1 h1 hl0 (vC_lt (b := sgT1 P) (by rw [i3]; decide)) wl_4_25 hl.1 (rest := []) rfl (Nat.le_of_ble_eq_true rfl) ⟨Nat.le_of_ble_eq_true rfl, Nat.le_of_ble_eq_true rfl⟩ ⟨Nat.le_of_ble_eq_true rfl, Nat.le_of_ble_eq_true rfl⟩ dX3_readMove_37 (fun tg5 H locs htg5 hWg5 hS => ?_)
    have b6 := vC_lt (b := sgT1 P) (n := sgL1 P) (a := a) (by rw [i3]; decide)
    have bb6 := vq_bdX (b := sgT1 P) b6
    have qb6 : a + 1 ≤ vX (sgT1 P) (sgL1 P) (a + 1) := (vX_ge (sgT1 P) (sgL1 P) (a + 1)).1
    have pb6 : a + 1 ≤ vX (sgT1 P) (sgL1 P) (a + 1) := vq_pg (vq_pg0 a) (m := 1) (vX_ge (sgT1 P) (sgL1 P) (a + 1)).1 (by decide)
    have hG := hWg5.2.2.2
    rw [htg5] at hG
    refine lv_iload_n X.1 X.2.1 dX3_readMove_40 rfl (lv_at hl 0 rfl) ?_
    refine lv_bipush (v := 120) X.1 X.2.1 dX3_readMove_41 (by decide +kernel) ?_
    refine lv_icmp_ne (tgt := 54) X.1 X.2.1 dX3_readMove_43 (by decide) (fun c7 => ?_) (fun c7 => ?_)
    · have i8 : (vC (sgT1 P) (sgL1 P) a = (120 : Int)) = False := vq_ne c7 hf1 (by decide +kernel)
      refine lv_iload_n X.1 X.2.1 dX3_readMove_54 rfl (lv_at hl 0 rfl) ?_
      refine lv_bipush (v := 103) X.1 X.2.1 dX3_readMove_55 (by decide +kernel) ?_
      refine lv_icmp_ne (tgt := 91) X.1 X.2.1 dX3_readMove_57 (by decide) (fun c10 => ?_) (fun c10 => ?_)
      · have i11 : (vC (sgT1 P) (sgL1 P) a = (103 : Int)) = False := vq_ne c10 hf1 (by decide +kernel)
        exact ((c10 (iv_one (iv_eqm (a' := 103) (b' := 103) c2 yf1 (iv_c 103 (a := 103) (b := 103) (by decide +kernel)) (by decide +kernel)) (iv_c 103 (a := 103) (b := 103) (by decide +kernel)) (by decide +kernel)))).elim
      · have i12 : vC (sgT1 P) (sgL1 P) a = (103 : Int) := vq_eq c10 hf1 (by decide +kernel)
        refine lv_aload_n X.1 X.2.1 dX3_readMove_60 rfl (lv_at hl 2 rfl) ?_
        refine ca_X10_sign_g X hK hG hC (fun _ h => h) hS hb a1 h1 hl0 bb6 wl_4_23 hl.1 (rest := []) rfl (Nat.le_of_ble_eq_true rfl) ⟨Nat.le_of_ble_eq_true rfl, Nat.le_of_ble_eq_true rfl⟩ ⟨Nat.le_of_ble_eq_true rfl, Nat.le_of_ble_eq_true rfl⟩ dX3_readMove_61 (fun f13 locs hf13 hS => ?_)
        have yf13 : iv 0 255 f13 := vq_255 hf13 hby
        refine lv_bipush (v := 63) X.1 X.2.1 dX3_readMove_64 (by decide +kernel) ?_
        refine lv_icmp_ne (tgt := 91) X.1 X.2.1 dX3_readMove_66 (by decide) (fun c14 => ?_) (fun c14 => ?_)
        · have i15 : (vC (sgT1 P) (sgL1 P) (vX (sgT1 P) (sgL1 P) (a + 1)) = (63 : Int)) = False := vq_ne c14 hf13 (by decide +kernel)
          refine lv_aload_n X.1 X.2.1 dX3_readMove_91 rfl (lv_at hl 2 rfl) ?_
          refine lv_iconst (v := 2) X.1 X.2.1 dX3_readMove_92 (by decide +kernel) ?_
          refine lv_iconst (v := 0) X.1 X.2.1 dX3_readMove_93 (by decide +kernel) ?_
          refine lv_bipush (v := 29) X.1 X.2.1 dX3_readMove_94 (by decide +kernel) ?_
          refine ca_X10_number_g2 X hK hG hC hS hb a1 h1 2 (iv_c 2 (a := 2) (b := 2) (by decide +kernel)) 0 29 hl0 bb6 (show (0 : Int32).toInt = (0 : Int) ∧ (29 : Int32).toInt = (29 : Int) from ⟨(by decide +kernel), (by decide +kernel)⟩) wl_4_29 hl.1 (rest := []) rfl (Nat.le_of_ble_eq_true rfl) ⟨Nat.le_of_ble_eq_true rfl, Nat.le_of_ble_eq_true rfl⟩ ⟨Nat.le_of_ble_eq_true rfl, Nat.le_of_ble_eq_true rfl⟩ dX3_readMove_96 (fun f17 tf17 H locs htf17 hf17 hWf17 hS => ?_)
          rcases hWf17 with ⟨av18, nv18, pv18, xv18, g1v18, g2v18, g3v18, g4v18, gav18, gbv18, hBf17⟩ | ⟨rfl, wv18, pv18, hBf17⟩
          · have hG := hBf17.2.2.2
            rw [htf17] at hG
            have bv18 := vq_bd2 (k := 1) bb6 (by decide) gav18 gbv18
            have p2v18 : a + 2 ≤ av18 := vq_pg pb6 gav18 (by decide)
            have yv18 : iv 0 29 f17 := ⟨by omega, by omega⟩
            refine lv_istore_n (lv' := [(3, .int f17), (2, .int f1), (0, .ref a0), (1, .ref a1)]) X.1 X.2.1 dX3_readMove_99 rfl hl (by decide) rfl (fun ls hl => ?_)
            refine lv_iload_n X.1 X.2.1 dX3_readMove_100 rfl (lv_at hl 0 rfl) ?_
            refine lv_iconst (v := (-1)) X.1 X.2.1 dX3_readMove_101 (by decide +kernel) ?_
            refine lv_icmp_ne (tgt := 107) X.1 X.2.1 dX3_readMove_102 (by decide) (fun c19 => ?_) (fun c19 => ?_)
            · have i20 : (nv18 = ((-1) : Int)) = False := vq_ne c19 xv18 (by decide +kernel)
              refine lv_iload_n X.1 X.2.1 dX3_readMove_107 rfl (lv_at hl 1 rfl) ?_
              refine lv_bipush (v := 99) X.1 X.2.1 dX3_readMove_108 (by decide +kernel) ?_
              refine lv_icmp_ne (tgt := 119) X.1 X.2.1 dX3_readMove_110 (by decide) (fun c22 => ?_) (fun c22 => ?_)
              · have i23 : (vC (sgT1 P) (sgL1 P) a = (99 : Int)) = False := vq_ne c22 hf1 (by decide +kernel)
                refine lv_iload_n X.1 X.2.1 dX3_readMove_119 rfl (lv_at hl 1 rfl) ?_
                refine lv_bipush (v := 103) X.1 X.2.1 dX3_readMove_120 (by decide +kernel) ?_
                refine lv_icmp_ne (tgt := 129) X.1 X.2.1 dX3_readMove_122 (by decide) (fun c25 => ?_) (fun c25 => ?_)
                · have i26 : (vC (sgT1 P) (sgL1 P) a = (103 : Int)) = False := vq_ne c25 hf1 (by decide +kernel)
                  exact ((c25 (iv_one (iv_eqm (a' := 103) (b' := 103) c2 yf1 (iv_c 103 (a := 103) (b := 103) (by decide +kernel)) (by decide +kernel)) (iv_c 103 (a := 103) (b := 103) (by decide +kernel)) (by decide +kernel)))).elim
                · have i27 : vC (sgT1 P) (sgL1 P) a = (103 : Int) := vq_eq c25 hf1 (by decide +kernel)
                  refine lv_iconst (v := 0) X.1 X.2.1 dX3_readMove_125 (by decide +kernel) ?_
                  refine lv_goto (tgt := 130) X.1 X.2.1 dX3_readMove_126 (by decide) ?_
                  refine lv_iload_n X.1 X.2.1 dX3_readMove_130 rfl (lv_at hl 0 rfl) ?_
                  refine lv_iconst (v := 0) X.1 X.2.1 dX3_readMove_131 (by decide +kernel) ?_
                  refine lv_iconst (v := 0) X.1 X.2.1 dX3_readMove_132 (by decide +kernel) ?_
                  refine ca_X3_packed_w X hK (sg_emp (kt := KT P)) hC (fun _ h => h) hS hb 0 (iv_of (iv_c 0 (a := 0) (b := 0) (by decide +kernel)) (a' := 0) (b' := 3) (by decide +kernel)) f17 (iv_of yv18 (a' := (-1)) (b' := 29) (by decide +kernel)) 0 (iv_of (iv_c 0 (a := 0) (b := 0) (by decide +kernel)) (a' := 0) (b' := 1) (by decide +kernel)) 0 (iv_of (iv_c 0 (a := 0) (b := 0) (by decide +kernel)) (a' := 0) (b' := 5) (by decide +kernel)) wl_4_26 hl.1 (rest := []) rfl (Nat.le_of_ble_eq_true rfl) ⟨Nat.le_of_ble_eq_true rfl, Nat.le_of_ble_eq_true rfl⟩ ⟨Nat.le_of_ble_eq_true rfl, Nat.le_of_ble_eq_true rfl⟩ dX3_readMove_133 (fun f28 locs hf28 hS => ?_)
                  have xf28 : f28.toInt = pkI (0) nv18 (0) (0) := pk_of hf28.2 (show (0 : Int32).toInt = 0 from by decide +kernel) xv18 (show (0 : Int32).toInt = 0 from by decide +kernel) (show (0 : Int32).toInt = 0 from by decide +kernel)
                  have spr : vMv (sgT1 P) (sgL1 P) a = (true, av18) := by simp only [vMv, vNu, i3, i8, i12, i15, pv18, i20, i23, i27, cond_true, cond_false, vB_t, vB_f, if_true, if_false, eq_self, not_true_eq_false, not_false_eq_true, Int.reduceEq, Int.reduceLT, or_false, false_or, or_true, true_or]
                  have hv8 : iv 0 1487 f28 := hf28.1
                  have hq9 : vMq (sgT1 P) (sgL1 P) a = (0, nv18, 0, 0) := by simp only [vMq, i3, i8, i12, i15, pv18, i20, i23, i27, cond_true, cond_false, vB_t, vB_f, if_true, if_false, eq_self, not_true_eq_false, not_false_eq_true, Int.reduceEq, Int.reduceLT, or_false, false_or, or_true, true_or]
                  have hv9 : f28.toInt = pkQ (vMq (sgT1 P) (sgL1 P) a) := xf28.trans (by rw [hq9]; rfl)
                  exact sg_iret2 X hr hlk hS trivial (fun t ht hW => (Or.inl ⟨_, spr, hv9, hv8.1, hv8.2, vq_pgw p2v18 (by decide), (bv18).2, sg_post hb hK hC hG hS ht hW⟩)) dX3_readMove_136
              · have i24 : vC (sgT1 P) (sgL1 P) a = (99 : Int) := vq_eq c22 hf1 (by decide +kernel)
                exact ((iv_no (a := 103) (b := 99) (iv_eqm c22 (iv_eqm (a' := 103) (b' := 103) c2 yf1 (iv_c 103 (a := 103) (b := 103) (by decide +kernel)) (by decide +kernel)) (iv_c 99 (a := 99) (b := 99) (by decide +kernel)) (by decide +kernel)) (by decide +kernel))).elim
            · have i21 : nv18 = ((-1) : Int) := vq_eq c19 xv18 (by decide +kernel)
              exact ((iv_no (a := 0) (b := (-1)) (iv_eqm c19 yv18 (iv_c (-1) (a := (-1)) (b := (-1)) (by decide +kernel)) (by decide +kernel)) (by decide +kernel))).elim
          · have hG := hBf17.2.2.2
            rw [htf17] at hG
            refine lv_istore_n (lv' := [(3, .int (-1)), (2, .int f1), (0, .ref a0), (1, .ref a1)]) X.1 X.2.1 dX3_readMove_99 rfl hl (by decide) rfl (fun ls hl => ?_)
            refine lv_iload_n X.1 X.2.1 dX3_readMove_100 rfl (lv_at hl 0 rfl) ?_
            refine lv_iconst (v := (-1)) X.1 X.2.1 dX3_readMove_101 (by decide +kernel) ?_
            refine lv_icmp_ne (tgt := 107) X.1 X.2.1 dX3_readMove_102 (by decide) (fun c29 => ?_) (fun c29 => ?_)
            · exact ((c29 (iv_one (iv_c (-1) (a := (-1)) (b := (-1)) (by decide +kernel)) (iv_c (-1) (a := (-1)) (b := (-1)) (by decide +kernel)) (by decide +kernel)))).elim
            · refine lv_iconst (v := (-1)) X.1 X.2.1 dX3_readMove_105 (by decide +kernel) ?_
              have spr : vMv (sgT1 P) (sgL1 P) a = (false, wv18) := by simp only [vMv, vNu, i3, i8, i12, i15, pv18, cond_true, cond_false, vB_t, vB_f, if_true, if_false, eq_self, not_true_eq_false, not_false_eq_true, Int.reduceEq, Int.reduceLT, or_false, false_or, or_true, true_or]
              have hG := kg_weak (b1 := 0) (b2 := 240) (c1 := wv18) (c2 := wv18) hG (Int.le_refl _) (Int.le_refl _) (Int.le_refl _) (Int.le_refl _)
              exact sg_iret2 X hr hlk hS trivial (fun t ht hW => (Or.inr ⟨rfl, _, spr, sg_post hb hK hC hG hS ht hW⟩)) dX3_readMove_106
        · have i16 : vC (sgT1 P) (sgL1 P) (vX (sgT1 P) (sgL1 P) (a + 1)) = (63 : Int) := vq_eq c14 hf13 (by decide +kernel)
          refine lv_aload_n X.1 X.2.1 dX3_readMove_69 rfl (lv_at hl 2 rfl) ?_
          refine ca_X10_step_g X hK hG hC hS hb a1 h1 hl0 (vC_lt (b := sgT1 P) (by rw [i16]; decide)) wl_4_25 hl.1 (rest := []) rfl (Nat.le_of_ble_eq_true rfl) ⟨Nat.le_of_ble_eq_true rfl, Nat.le_of_ble_eq_true rfl⟩ ⟨Nat.le_of_ble_eq_true rfl, Nat.le_of_ble_eq_true rfl⟩ dX3_readMove_70 (fun tg30 H locs htg30 hWg30 hS => ?_)
          have b31 := vC_lt (b := sgT1 P) (n := sgL1 P) (a := (vX (sgT1 P) (sgL1 P) (a + 1))) (by rw [i16]; decide)
          have bb31 := vq_bdX (b := sgT1 P) b31
          have qb31 : (vX (sgT1 P) (sgL1 P) (a + 1)) + 1 ≤ vX (sgT1 P) (sgL1 P) ((vX (sgT1 P) (sgL1 P) (a + 1)) + 1) := (vX_ge (sgT1 P) (sgL1 P) ((vX (sgT1 P) (sgL1 P) (a + 1)) + 1)).1
          have pb31 : a + 2 ≤ vX (sgT1 P) (sgL1 P) ((vX (sgT1 P) (sgL1 P) (a + 1)) + 1) := vq_pg pb6 (m := 1) (vX_ge (sgT1 P) (sgL1 P) ((vX (sgT1 P) (sgL1 P) (a + 1)) + 1)).1 (by decide)
          have hG := hWg30.2.2.2
          rw [htg30] at hG
          refine lv_aload_n X.1 X.2.1 dX3_readMove_73 rfl (lv_at hl 1 rfl) ?_
          refine lv_dup X.1 X.2.1 dX3_readMove_74 rfl ?_
          refine gf_X3_2g X hK hG h0 wl_1_100 dX3_readMove_75 (fun f32 hf32 => ?_)
          refine lv_iconst (v := 1) X.1 X.2.1 dX3_readMove_78 (by decide +kernel) ?_
          refine lv_iadd X.1 X.2.1 dX3_readMove_79 ?_
          refine lv_topi (fun f33 ef33 => ?_)
          refine pf_X3_2G X hK hG hS h0 wl_1_100 dX3_readMove_80 (fun H locs hG hS => ?_)
          refine lv_iconst (v := 0) X.1 X.2.1 dX3_readMove_83 (by decide +kernel) ?_
          refine lv_iconst (v := (-1)) X.1 X.2.1 dX3_readMove_84 (by decide +kernel) ?_
          refine lv_iconst (v := 0) X.1 X.2.1 dX3_readMove_85 (by decide +kernel) ?_
          refine lv_iconst (v := 0) X.1 X.2.1 dX3_readMove_86 (by decide +kernel) ?_
          refine ca_X3_packed_w X hK (sg_emp (kt := KT P)) hC (fun _ h => h) hS hb 0 (iv_of (iv_c 0 (a := 0) (b := 0) (by decide +kernel)) (a' := 0) (b' := 3) (by decide +kernel)) (-1) (iv_of (iv_c (-1) (a := (-1)) (b := (-1)) (by decide +kernel)) (a' := (-1)) (b' := 29) (by decide +kernel)) 0 (iv_of (iv_c 0 (a := 0) (b := 0) (by decide +kernel)) (a' := 0) (b' := 1) (by decide +kernel)) 0 (iv_of (iv_c 0 (a := 0) (b := 0) (by decide +kernel)) (a' := 0) (b' := 5) (by decide +kernel)) wl_4_26 hl.1 (rest := []) rfl (Nat.le_of_ble_eq_true rfl) ⟨Nat.le_of_ble_eq_true rfl, Nat.le_of_ble_eq_true rfl⟩ ⟨Nat.le_of_ble_eq_true rfl, Nat.le_of_ble_eq_true rfl⟩ dX3_readMove_87 (fun f34 locs hf34 hS => ?_)
          have xf34 : f34.toInt = pkI (0) ((-1)) (0) (0) := pk_of hf34.2 (show (0 : Int32).toInt = 0 from by decide +kernel) (show ((-1) : Int32).toInt = (-1) from by decide +kernel) (show (0 : Int32).toInt = 0 from by decide +kernel) (show (0 : Int32).toInt = 0 from by decide +kernel)
          have spr : vMv (sgT1 P) (sgL1 P) a = (true, (vX (sgT1 P) (sgL1 P) ((vX (sgT1 P) (sgL1 P) (a + 1)) + 1))) := by simp only [vMv, vNu, i3, i8, i12, i16, cond_true, cond_false, vB_t, vB_f, if_true, if_false, eq_self, not_true_eq_false, not_false_eq_true, Int.reduceEq, Int.reduceLT, or_false, false_or, or_true, true_or]
          have hv8 : iv 0 1487 f34 := hf34.1
          have hq9 : vMq (sgT1 P) (sgL1 P) a = (0, -1, 0, 0) := by simp only [vMq, i3, i8, i12, i16, cond_true, cond_false, vB_t, vB_f, if_true, if_false, eq_self, not_true_eq_false, not_false_eq_true, Int.reduceEq, Int.reduceLT, or_false, false_or, or_true, true_or]
          have hv9 : f34.toInt = pkQ (vMq (sgT1 P) (sgL1 P) a) := xf34.trans (by rw [hq9]; rfl)
          exact sg_iret2 X hr hlk hS trivial (fun t ht hW => (Or.inl ⟨_, spr, hv9, hv8.1, hv8.2, vq_pgw pb31 (by decide), (bb31).2, sg_post hb hK hC hG hS ht hW⟩)) dX3_readMove_90
    · have i9 : vC (sgT1 P) (sgL1 P) a = (120 : Int) := vq_eq c7 hf1 (by decide +kernel)
      exact ((iv_no (a := 120) (b := 103) (iv_eqm c7 (iv_eqm (a' := 103) (b' := 103) c2 yf1 (iv_c 103 (a := 103) (b := 103) (by decide +kernel)) (by decide +kernel)) (iv_c 120 (a := 120) (b := 120) (by decide +kernel)) (by decide +kernel)) (by decide +kernel))).elim
  · have i4 : (vC (sgT1 P) (sgL1 P) a = (103 : Int)) = False := vq_ne c2 hf1 (by decide +kernel)
    refine lv_iload_n X.1 X.2.1 dX3_readMove_11 rfl (lv_at hl 0 rfl) ?_
    refine lv_bipush (v := 99) X.1 X.2.1 dX3_readMove_12 (by decide +kernel) ?_
    refine lv_icmp_eq (tgt := 36) X.1 X.2.1 dX3_readMove_14 (by decide) (fun c35 => ?_) (fun c35 => ?_)
    · have i36 : vC (sgT1 P) (sgL1 P) a = (99 : Int) := vq_eq c35 hf1 (by decide +kernel)
      refine lv_aload_n X.1 X.2.1 dX3_readMove_36 rfl (lv_at hl 2 rfl) ?_
      refine ca_X10_step_g X hK hG hC hS hb a1 h1 hl0 (vC_lt (b := sgT1 P) (by rw [i36]; decide)) wl_4_25 hl.1 (rest := []) rfl (Nat.le_of_ble_eq_true rfl) ⟨Nat.le_of_ble_eq_true rfl, Nat.le_of_ble_eq_true rfl⟩ ⟨Nat.le_of_ble_eq_true rfl, Nat.le_of_ble_eq_true rfl⟩ dX3_readMove_37 (fun tg38 H locs htg38 hWg38 hS => ?_)
      have b39 := vC_lt (b := sgT1 P) (n := sgL1 P) (a := a) (by rw [i36]; decide)
      have bb39 := vq_bdX (b := sgT1 P) b39
      have qb39 : a + 1 ≤ vX (sgT1 P) (sgL1 P) (a + 1) := (vX_ge (sgT1 P) (sgL1 P) (a + 1)).1
      have pb39 : a + 1 ≤ vX (sgT1 P) (sgL1 P) (a + 1) := vq_pg (vq_pg0 a) (m := 1) (vX_ge (sgT1 P) (sgL1 P) (a + 1)).1 (by decide)
      have hG := hWg38.2.2.2
      rw [htg38] at hG
      refine lv_iload_n X.1 X.2.1 dX3_readMove_40 rfl (lv_at hl 0 rfl) ?_
      refine lv_bipush (v := 120) X.1 X.2.1 dX3_readMove_41 (by decide +kernel) ?_
      refine lv_icmp_ne (tgt := 54) X.1 X.2.1 dX3_readMove_43 (by decide) (fun c40 => ?_) (fun c40 => ?_)
      · have i41 : (vC (sgT1 P) (sgL1 P) a = (120 : Int)) = False := vq_ne c40 hf1 (by decide +kernel)
        refine lv_iload_n X.1 X.2.1 dX3_readMove_54 rfl (lv_at hl 0 rfl) ?_
        refine lv_bipush (v := 103) X.1 X.2.1 dX3_readMove_55 (by decide +kernel) ?_
        refine lv_icmp_ne (tgt := 91) X.1 X.2.1 dX3_readMove_57 (by decide) (fun c43 => ?_) (fun c43 => ?_)
        · have i44 : (vC (sgT1 P) (sgL1 P) a = (103 : Int)) = False := vq_ne c43 hf1 (by decide +kernel)
          refine lv_aload_n X.1 X.2.1 dX3_readMove_91 rfl (lv_at hl 2 rfl) ?_
          refine lv_iconst (v := 2) X.1 X.2.1 dX3_readMove_92 (by decide +kernel) ?_
          refine lv_iconst (v := 0) X.1 X.2.1 dX3_readMove_93 (by decide +kernel) ?_
          refine lv_bipush (v := 29) X.1 X.2.1 dX3_readMove_94 (by decide +kernel) ?_
          refine ca_X10_number_g2 X hK hG hC hS hb a1 h1 2 (iv_c 2 (a := 2) (b := 2) (by decide +kernel)) 0 29 hl0 bb39 (show (0 : Int32).toInt = (0 : Int) ∧ (29 : Int32).toInt = (29 : Int) from ⟨(by decide +kernel), (by decide +kernel)⟩) wl_4_29 hl.1 (rest := []) rfl (Nat.le_of_ble_eq_true rfl) ⟨Nat.le_of_ble_eq_true rfl, Nat.le_of_ble_eq_true rfl⟩ ⟨Nat.le_of_ble_eq_true rfl, Nat.le_of_ble_eq_true rfl⟩ dX3_readMove_96 (fun f46 tf46 H locs htf46 hf46 hWf46 hS => ?_)
          rcases hWf46 with ⟨av47, nv47, pv47, xv47, g1v47, g2v47, g3v47, g4v47, gav47, gbv47, hBf46⟩ | ⟨rfl, wv47, pv47, hBf46⟩
          · have hG := hBf46.2.2.2
            rw [htf46] at hG
            have bv47 := vq_bd2 (k := 1) bb39 (by decide) gav47 gbv47
            have p2v47 : a + 2 ≤ av47 := vq_pg pb39 gav47 (by decide)
            have yv47 : iv 0 29 f46 := ⟨by omega, by omega⟩
            refine lv_istore_n (lv' := [(3, .int f46), (2, .int f1), (0, .ref a0), (1, .ref a1)]) X.1 X.2.1 dX3_readMove_99 rfl hl (by decide) rfl (fun ls hl => ?_)
            refine lv_iload_n X.1 X.2.1 dX3_readMove_100 rfl (lv_at hl 0 rfl) ?_
            refine lv_iconst (v := (-1)) X.1 X.2.1 dX3_readMove_101 (by decide +kernel) ?_
            refine lv_icmp_ne (tgt := 107) X.1 X.2.1 dX3_readMove_102 (by decide) (fun c48 => ?_) (fun c48 => ?_)
            · have i49 : (nv47 = ((-1) : Int)) = False := vq_ne c48 xv47 (by decide +kernel)
              refine lv_iload_n X.1 X.2.1 dX3_readMove_107 rfl (lv_at hl 1 rfl) ?_
              refine lv_bipush (v := 99) X.1 X.2.1 dX3_readMove_108 (by decide +kernel) ?_
              refine lv_icmp_ne (tgt := 119) X.1 X.2.1 dX3_readMove_110 (by decide) (fun c51 => ?_) (fun c51 => ?_)
              · have i52 : (vC (sgT1 P) (sgL1 P) a = (99 : Int)) = False := vq_ne c51 hf1 (by decide +kernel)
                exact ((c51 (iv_one (iv_eqm (a' := 99) (b' := 99) c35 yf1 (iv_c 99 (a := 99) (b := 99) (by decide +kernel)) (by decide +kernel)) (iv_c 99 (a := 99) (b := 99) (by decide +kernel)) (by decide +kernel)))).elim
              · have i53 : vC (sgT1 P) (sgL1 P) a = (99 : Int) := vq_eq c51 hf1 (by decide +kernel)
                refine lv_aload_n X.1 X.2.1 dX3_readMove_113 rfl (lv_at hl 3 rfl) ?_
                refine lv_iload_n X.1 X.2.1 dX3_readMove_114 rfl (lv_at hl 0 rfl) ?_
                refine ca_X3_readCut_g X hK hG hC hS hb a1 h1 f46 yv47 hl0 bv47 hby wl_4_30 hl.1 (rest := []) rfl (Nat.le_of_ble_eq_true rfl) ⟨Nat.le_of_ble_eq_true rfl, Nat.le_of_ble_eq_true rfl⟩ ⟨Nat.le_of_ble_eq_true rfl, Nat.le_of_ble_eq_true rfl⟩ dX3_readMove_115 (fun f54 tf54 H locs htf54 hf54 hWf54 hS => ?_)
                rcases hWf54 with ⟨av55, pv55, xv55, g1v55, g2v55, gav55, gbv55, hBf54⟩ | ⟨rfl, wv55, pv55, hBf54⟩
                · have hG := hBf54.2.2.2
                  rw [htf54] at hG
                  have bv55 := vq_bd2 (k := 1) bv47 (by decide) gav55 gbv55
                  have p2v55 : a + 3 ≤ av55 := vq_pg p2v47 gav55 (by decide)
                  have spr : vMv (sgT1 P) (sgL1 P) a = (true, av55) := by simp only [vMv, vNu, i4, i36, i41, i44, pv47, i49, i53, pv55, cond_true, cond_false, vB_t, vB_f, if_true, if_false, eq_self, not_true_eq_false, not_false_eq_true, Int.reduceEq, Int.reduceLT, or_false, false_or, or_true, true_or]
                  have hv8 : iv 0 1487 f54 := (show iv 0 1487 f54 from ⟨g1v55, g2v55⟩)
                  have hq9 : vMq (sgT1 P) (sgL1 P) a = (1, nv47, vCw (sgT1 P) (sgL1 P) av47, vCk (sgT1 P) (sgL1 P) av47) := by simp only [vMq, i4, i36, i41, i44, pv47, i49, i53, pv55, cond_true, cond_false, vB_t, vB_f, if_true, if_false, eq_self, not_true_eq_false, not_false_eq_true, Int.reduceEq, Int.reduceLT, or_false, false_or, or_true, true_or]
                  have hv9 : f54.toInt = pkQ (vMq (sgT1 P) (sgL1 P) a) := xv55.trans (by rw [hq9, xv47]; rfl)
                  exact sg_iret2 X hr hlk hS trivial (fun t ht hW => (Or.inl ⟨_, spr, hv9, hv8.1, hv8.2, vq_pgw p2v55 (by decide), (bv55).2, sg_post hb hK hC hG hS ht hW⟩)) dX3_readMove_118
                · have hG := hBf54.2.2.2
                  rw [htf54] at hG
                  have spr : vMv (sgT1 P) (sgL1 P) a = (false, wv55) := by simp only [vMv, vNu, i4, i36, i41, i44, pv47, i49, i53, pv55, cond_true, cond_false, vB_t, vB_f, if_true, if_false, eq_self, not_true_eq_false, not_false_eq_true, Int.reduceEq, Int.reduceLT, or_false, false_or, or_true, true_or]
                  have hG := kg_weak (b1 := 0) (b2 := 240) (c1 := wv55) (c2 := wv55) hG (Int.le_refl _) (Int.le_refl _) (Int.le_refl _) (Int.le_refl _)
                  exact sg_iret2 X hr hlk hS trivial (fun t ht hW => (Or.inr ⟨rfl, _, spr, sg_post hb hK hC hG hS ht hW⟩)) dX3_readMove_118
            · have i50 : nv47 = ((-1) : Int) := vq_eq c48 xv47 (by decide +kernel)
              exact ((iv_no (a := 0) (b := (-1)) (iv_eqm c48 yv47 (iv_c (-1) (a := (-1)) (b := (-1)) (by decide +kernel)) (by decide +kernel)) (by decide +kernel))).elim
          · have hG := hBf46.2.2.2
            rw [htf46] at hG
            refine lv_istore_n (lv' := [(3, .int (-1)), (2, .int f1), (0, .ref a0), (1, .ref a1)]) X.1 X.2.1 dX3_readMove_99 rfl hl (by decide) rfl (fun ls hl => ?_)
            refine lv_iload_n X.1 X.2.1 dX3_readMove_100 rfl (lv_at hl 0 rfl) ?_
            refine lv_iconst (v := (-1)) X.1 X.2.1 dX3_readMove_101 (by decide +kernel) ?_
            refine lv_icmp_ne (tgt := 107) X.1 X.2.1 dX3_readMove_102 (by decide) (fun c56 => ?_) (fun c56 => ?_)
            · exact ((c56 (iv_one (iv_c (-1) (a := (-1)) (b := (-1)) (by decide +kernel)) (iv_c (-1) (a := (-1)) (b := (-1)) (by decide +kernel)) (by decide +kernel)))).elim
            · refine lv_iconst (v := (-1)) X.1 X.2.1 dX3_readMove_105 (by decide +kernel) ?_
              have spr : vMv (sgT1 P) (sgL1 P) a = (false, wv47) := by simp only [vMv, vNu, i4, i36, i41, i44, pv47, cond_true, cond_false, vB_t, vB_f, if_true, if_false, eq_self, not_true_eq_false, not_false_eq_true, Int.reduceEq, Int.reduceLT, or_false, false_or, or_true, true_or]
              have hG := kg_weak (b1 := 0) (b2 := 240) (c1 := wv47) (c2 := wv47) hG (Int.le_refl _) (Int.le_refl _) (Int.le_refl _) (Int.le_refl _)
              exact sg_iret2 X hr hlk hS trivial (fun t ht hW => (Or.inr ⟨rfl, _, spr, sg_post hb hK hC hG hS ht hW⟩)) dX3_readMove_106
        · have i45 : vC (sgT1 P) (sgL1 P) a = (103 : Int) := vq_eq c43 hf1 (by decide +kernel)
          exact ((iv_no (a := 103) (b := 99) (iv_eqm c43 (iv_eqm (a' := 99) (b' := 99) c35 yf1 (iv_c 99 (a := 99) (b := 99) (by decide +kernel)) (by decide +kernel)) (iv_c 103 (a := 103) (b := 103) (by decide +kernel)) (by decide +kernel)) (by decide +kernel))).elim
      · have i42 : vC (sgT1 P) (sgL1 P) a = (120 : Int) := vq_eq c40 hf1 (by decide +kernel)
        exact ((iv_no (a := 120) (b := 99) (iv_eqm c40 (iv_eqm (a' := 99) (b' := 99) c35 yf1 (iv_c 99 (a := 99) (b := 99) (by decide +kernel)) (by decide +kernel)) (iv_c 120 (a := 120) (b := 120) (by decide +kernel)) (by decide +kernel)) (by decide +kernel))).elim
    · have i37 : (vC (sgT1 P) (sgL1 P) a = (99 : Int)) = False := vq_ne c35 hf1 (by decide +kernel)
      refine lv_iload_n X.1 X.2.1 dX3_readMove_17 rfl (lv_at hl 0 rfl) ?_
      refine lv_bipush (v := 109) X.1 X.2.1 dX3_readMove_18 (by decide +kernel) ?_
      refine lv_icmp_eq (tgt := 36) X.1 X.2.1 dX3_readMove_20 (by decide) (fun c57 => ?_) (fun c57 => ?_)
      · have i58 : vC (sgT1 P) (sgL1 P) a = (109 : Int) := vq_eq c57 hf1 (by decide +kernel)
        refine lv_aload_n X.1 X.2.1 dX3_readMove_36 rfl (lv_at hl 2 rfl) ?_
        refine ca_X10_step_g X hK hG hC hS hb a1 h1 hl0 (vC_lt (b := sgT1 P) (by rw [i58]; decide)) wl_4_25 hl.1 (rest := []) rfl (Nat.le_of_ble_eq_true rfl) ⟨Nat.le_of_ble_eq_true rfl, Nat.le_of_ble_eq_true rfl⟩ ⟨Nat.le_of_ble_eq_true rfl, Nat.le_of_ble_eq_true rfl⟩ dX3_readMove_37 (fun tg60 H locs htg60 hWg60 hS => ?_)
        have b61 := vC_lt (b := sgT1 P) (n := sgL1 P) (a := a) (by rw [i58]; decide)
        have bb61 := vq_bdX (b := sgT1 P) b61
        have qb61 : a + 1 ≤ vX (sgT1 P) (sgL1 P) (a + 1) := (vX_ge (sgT1 P) (sgL1 P) (a + 1)).1
        have pb61 : a + 1 ≤ vX (sgT1 P) (sgL1 P) (a + 1) := vq_pg (vq_pg0 a) (m := 1) (vX_ge (sgT1 P) (sgL1 P) (a + 1)).1 (by decide)
        have hG := hWg60.2.2.2
        rw [htg60] at hG
        refine lv_iload_n X.1 X.2.1 dX3_readMove_40 rfl (lv_at hl 0 rfl) ?_
        refine lv_bipush (v := 120) X.1 X.2.1 dX3_readMove_41 (by decide +kernel) ?_
        refine lv_icmp_ne (tgt := 54) X.1 X.2.1 dX3_readMove_43 (by decide) (fun c62 => ?_) (fun c62 => ?_)
        · have i63 : (vC (sgT1 P) (sgL1 P) a = (120 : Int)) = False := vq_ne c62 hf1 (by decide +kernel)
          refine lv_iload_n X.1 X.2.1 dX3_readMove_54 rfl (lv_at hl 0 rfl) ?_
          refine lv_bipush (v := 103) X.1 X.2.1 dX3_readMove_55 (by decide +kernel) ?_
          refine lv_icmp_ne (tgt := 91) X.1 X.2.1 dX3_readMove_57 (by decide) (fun c65 => ?_) (fun c65 => ?_)
          · have i66 : (vC (sgT1 P) (sgL1 P) a = (103 : Int)) = False := vq_ne c65 hf1 (by decide +kernel)
            refine lv_aload_n X.1 X.2.1 dX3_readMove_91 rfl (lv_at hl 2 rfl) ?_
            refine lv_iconst (v := 2) X.1 X.2.1 dX3_readMove_92 (by decide +kernel) ?_
            refine lv_iconst (v := 0) X.1 X.2.1 dX3_readMove_93 (by decide +kernel) ?_
            refine lv_bipush (v := 29) X.1 X.2.1 dX3_readMove_94 (by decide +kernel) ?_
            refine ca_X10_number_g2 X hK hG hC hS hb a1 h1 2 (iv_c 2 (a := 2) (b := 2) (by decide +kernel)) 0 29 hl0 bb61 (show (0 : Int32).toInt = (0 : Int) ∧ (29 : Int32).toInt = (29 : Int) from ⟨(by decide +kernel), (by decide +kernel)⟩) wl_4_29 hl.1 (rest := []) rfl (Nat.le_of_ble_eq_true rfl) ⟨Nat.le_of_ble_eq_true rfl, Nat.le_of_ble_eq_true rfl⟩ ⟨Nat.le_of_ble_eq_true rfl, Nat.le_of_ble_eq_true rfl⟩ dX3_readMove_96 (fun f68 tf68 H locs htf68 hf68 hWf68 hS => ?_)
            rcases hWf68 with ⟨av69, nv69, pv69, xv69, g1v69, g2v69, g3v69, g4v69, gav69, gbv69, hBf68⟩ | ⟨rfl, wv69, pv69, hBf68⟩
            · have hG := hBf68.2.2.2
              rw [htf68] at hG
              have bv69 := vq_bd2 (k := 1) bb61 (by decide) gav69 gbv69
              have p2v69 : a + 2 ≤ av69 := vq_pg pb61 gav69 (by decide)
              have yv69 : iv 0 29 f68 := ⟨by omega, by omega⟩
              refine lv_istore_n (lv' := [(3, .int f68), (2, .int f1), (0, .ref a0), (1, .ref a1)]) X.1 X.2.1 dX3_readMove_99 rfl hl (by decide) rfl (fun ls hl => ?_)
              refine lv_iload_n X.1 X.2.1 dX3_readMove_100 rfl (lv_at hl 0 rfl) ?_
              refine lv_iconst (v := (-1)) X.1 X.2.1 dX3_readMove_101 (by decide +kernel) ?_
              refine lv_icmp_ne (tgt := 107) X.1 X.2.1 dX3_readMove_102 (by decide) (fun c70 => ?_) (fun c70 => ?_)
              · have i71 : (nv69 = ((-1) : Int)) = False := vq_ne c70 xv69 (by decide +kernel)
                refine lv_iload_n X.1 X.2.1 dX3_readMove_107 rfl (lv_at hl 1 rfl) ?_
                refine lv_bipush (v := 99) X.1 X.2.1 dX3_readMove_108 (by decide +kernel) ?_
                refine lv_icmp_ne (tgt := 119) X.1 X.2.1 dX3_readMove_110 (by decide) (fun c73 => ?_) (fun c73 => ?_)
                · have i74 : (vC (sgT1 P) (sgL1 P) a = (99 : Int)) = False := vq_ne c73 hf1 (by decide +kernel)
                  refine lv_iload_n X.1 X.2.1 dX3_readMove_119 rfl (lv_at hl 1 rfl) ?_
                  refine lv_bipush (v := 103) X.1 X.2.1 dX3_readMove_120 (by decide +kernel) ?_
                  refine lv_icmp_ne (tgt := 129) X.1 X.2.1 dX3_readMove_122 (by decide) (fun c76 => ?_) (fun c76 => ?_)
                  · have i77 : (vC (sgT1 P) (sgL1 P) a = (103 : Int)) = False := vq_ne c76 hf1 (by decide +kernel)
                    refine lv_iconst (v := 2) X.1 X.2.1 dX3_readMove_129 (by decide +kernel) ?_
                    refine lv_iload_n X.1 X.2.1 dX3_readMove_130 rfl (lv_at hl 0 rfl) ?_
                    refine lv_iconst (v := 0) X.1 X.2.1 dX3_readMove_131 (by decide +kernel) ?_
                    refine lv_iconst (v := 0) X.1 X.2.1 dX3_readMove_132 (by decide +kernel) ?_
                    refine ca_X3_packed_w X hK (sg_emp (kt := KT P)) hC (fun _ h => h) hS hb 2 (iv_of (iv_c 2 (a := 2) (b := 2) (by decide +kernel)) (a' := 0) (b' := 3) (by decide +kernel)) f68 (iv_of yv69 (a' := (-1)) (b' := 29) (by decide +kernel)) 0 (iv_of (iv_c 0 (a := 0) (b := 0) (by decide +kernel)) (a' := 0) (b' := 1) (by decide +kernel)) 0 (iv_of (iv_c 0 (a := 0) (b := 0) (by decide +kernel)) (a' := 0) (b' := 5) (by decide +kernel)) wl_4_26 hl.1 (rest := []) rfl (Nat.le_of_ble_eq_true rfl) ⟨Nat.le_of_ble_eq_true rfl, Nat.le_of_ble_eq_true rfl⟩ ⟨Nat.le_of_ble_eq_true rfl, Nat.le_of_ble_eq_true rfl⟩ dX3_readMove_133 (fun f79 locs hf79 hS => ?_)
                    have xf79 : f79.toInt = pkI (2) nv69 (0) (0) := pk_of hf79.2 (show (2 : Int32).toInt = 2 from by decide +kernel) xv69 (show (0 : Int32).toInt = 0 from by decide +kernel) (show (0 : Int32).toInt = 0 from by decide +kernel)
                    have spr : vMv (sgT1 P) (sgL1 P) a = (true, av69) := by simp only [vMv, vNu, i4, i37, i58, i63, i66, pv69, i71, i74, i77, cond_true, cond_false, vB_t, vB_f, if_true, if_false, eq_self, not_true_eq_false, not_false_eq_true, Int.reduceEq, Int.reduceLT, or_false, false_or, or_true, true_or]
                    have hv8 : iv 0 1487 f79 := hf79.1
                    have hq9 : vMq (sgT1 P) (sgL1 P) a = (2, nv69, 0, 0) := by simp only [vMq, i4, i37, i58, i63, i66, pv69, i71, i74, i77, cond_true, cond_false, vB_t, vB_f, if_true, if_false, eq_self, not_true_eq_false, not_false_eq_true, Int.reduceEq, Int.reduceLT, or_false, false_or, or_true, true_or]
                    have hv9 : f79.toInt = pkQ (vMq (sgT1 P) (sgL1 P) a) := xf79.trans (by rw [hq9]; rfl)
                    exact sg_iret2 X hr hlk hS trivial (fun t ht hW => (Or.inl ⟨_, spr, hv9, hv8.1, hv8.2, vq_pgw p2v69 (by decide), (bv69).2, sg_post hb hK hC hG hS ht hW⟩)) dX3_readMove_136
                  · have i78 : vC (sgT1 P) (sgL1 P) a = (103 : Int) := vq_eq c76 hf1 (by decide +kernel)
                    exact ((iv_no (a := 109) (b := 103) (iv_eqm c76 (iv_eqm (a' := 109) (b' := 109) c57 yf1 (iv_c 109 (a := 109) (b := 109) (by decide +kernel)) (by decide +kernel)) (iv_c 103 (a := 103) (b := 103) (by decide +kernel)) (by decide +kernel)) (by decide +kernel))).elim
                · have i75 : vC (sgT1 P) (sgL1 P) a = (99 : Int) := vq_eq c73 hf1 (by decide +kernel)
                  exact ((iv_no (a := 109) (b := 99) (iv_eqm c73 (iv_eqm (a' := 109) (b' := 109) c57 yf1 (iv_c 109 (a := 109) (b := 109) (by decide +kernel)) (by decide +kernel)) (iv_c 99 (a := 99) (b := 99) (by decide +kernel)) (by decide +kernel)) (by decide +kernel))).elim
              · have i72 : nv69 = ((-1) : Int) := vq_eq c70 xv69 (by decide +kernel)
                exact ((iv_no (a := 0) (b := (-1)) (iv_eqm c70 yv69 (iv_c (-1) (a := (-1)) (b := (-1)) (by decide +kernel)) (by decide +kernel)) (by decide +kernel))).elim
            · have hG := hBf68.2.2.2
              rw [htf68] at hG
              refine lv_istore_n (lv' := [(3, .int (-1)), (2, .int f1), (0, .ref a0), (1, .ref a1)]) X.1 X.2.1 dX3_readMove_99 rfl hl (by decide) rfl (fun ls hl => ?_)
              refine lv_iload_n X.1 X.2.1 dX3_readMove_100 rfl (lv_at hl 0 rfl) ?_
              refine lv_iconst (v := (-1)) X.1 X.2.1 dX3_readMove_101 (by decide +kernel) ?_
              refine lv_icmp_ne (tgt := 107) X.1 X.2.1 dX3_readMove_102 (by decide) (fun c80 => ?_) (fun c80 => ?_)
              · exact ((c80 (iv_one (iv_c (-1) (a := (-1)) (b := (-1)) (by decide +kernel)) (iv_c (-1) (a := (-1)) (b := (-1)) (by decide +kernel)) (by decide +kernel)))).elim
              · refine lv_iconst (v := (-1)) X.1 X.2.1 dX3_readMove_105 (by decide +kernel) ?_
                have spr : vMv (sgT1 P) (sgL1 P) a = (false, wv69) := by simp only [vMv, vNu, i4, i37, i58, i63, i66, pv69, cond_true, cond_false, vB_t, vB_f, if_true, if_false, eq_self, not_true_eq_false, not_false_eq_true, Int.reduceEq, Int.reduceLT, or_false, false_or, or_true, true_or]
                have hG := kg_weak (b1 := 0) (b2 := 240) (c1 := wv69) (c2 := wv69) hG (Int.le_refl _) (Int.le_refl _) (Int.le_refl _) (Int.le_refl _)
                exact sg_iret2 X hr hlk hS trivial (fun t ht hW => (Or.inr ⟨rfl, _, spr, sg_post hb hK hC hG hS ht hW⟩)) dX3_readMove_106
          · have i67 : vC (sgT1 P) (sgL1 P) a = (103 : Int) := vq_eq c65 hf1 (by decide +kernel)
            exact ((iv_no (a := 109) (b := 103) (iv_eqm c65 (iv_eqm (a' := 109) (b' := 109) c57 yf1 (iv_c 109 (a := 109) (b := 109) (by decide +kernel)) (by decide +kernel)) (iv_c 103 (a := 103) (b := 103) (by decide +kernel)) (by decide +kernel)) (by decide +kernel))).elim
        · have i64 : vC (sgT1 P) (sgL1 P) a = (120 : Int) := vq_eq c62 hf1 (by decide +kernel)
          exact ((iv_no (a := 120) (b := 109) (iv_eqm c62 (iv_eqm (a' := 109) (b' := 109) c57 yf1 (iv_c 109 (a := 109) (b := 109) (by decide +kernel)) (by decide +kernel)) (iv_c 120 (a := 120) (b := 120) (by decide +kernel)) (by decide +kernel)) (by decide +kernel))).elim
      · have i59 : (vC (sgT1 P) (sgL1 P) a = (109 : Int)) = False := vq_ne c57 hf1 (by decide +kernel)
        refine lv_iload_n X.1 X.2.1 dX3_readMove_23 rfl (lv_at hl 0 rfl) ?_
        refine lv_bipush (v := 120) X.1 X.2.1 dX3_readMove_24 (by decide +kernel) ?_
        refine lv_icmp_eq (tgt := 36) X.1 X.2.1 dX3_readMove_26 (by decide) (fun c81 => ?_) (fun c81 => ?_)
        · have i82 : vC (sgT1 P) (sgL1 P) a = (120 : Int) := vq_eq c81 hf1 (by decide +kernel)
          refine lv_aload_n X.1 X.2.1 dX3_readMove_36 rfl (lv_at hl 2 rfl) ?_
          refine ca_X10_step_g X hK hG hC hS hb a1 h1 hl0 (vC_lt (b := sgT1 P) (by rw [i82]; decide)) wl_4_25 hl.1 (rest := []) rfl (Nat.le_of_ble_eq_true rfl) ⟨Nat.le_of_ble_eq_true rfl, Nat.le_of_ble_eq_true rfl⟩ ⟨Nat.le_of_ble_eq_true rfl, Nat.le_of_ble_eq_true rfl⟩ dX3_readMove_37 (fun tg84 H locs htg84 hWg84 hS => ?_)
          have b85 := vC_lt (b := sgT1 P) (n := sgL1 P) (a := a) (by rw [i82]; decide)
          have bb85 := vq_bdX (b := sgT1 P) b85
          have qb85 : a + 1 ≤ vX (sgT1 P) (sgL1 P) (a + 1) := (vX_ge (sgT1 P) (sgL1 P) (a + 1)).1
          have pb85 : a + 1 ≤ vX (sgT1 P) (sgL1 P) (a + 1) := vq_pg (vq_pg0 a) (m := 1) (vX_ge (sgT1 P) (sgL1 P) (a + 1)).1 (by decide)
          have hG := hWg84.2.2.2
          rw [htg84] at hG
          refine lv_iload_n X.1 X.2.1 dX3_readMove_40 rfl (lv_at hl 0 rfl) ?_
          refine lv_bipush (v := 120) X.1 X.2.1 dX3_readMove_41 (by decide +kernel) ?_
          refine lv_icmp_ne (tgt := 54) X.1 X.2.1 dX3_readMove_43 (by decide) (fun c86 => ?_) (fun c86 => ?_)
          · have i87 : (vC (sgT1 P) (sgL1 P) a = (120 : Int)) = False := vq_ne c86 hf1 (by decide +kernel)
            exact ((c86 (iv_one (iv_eqm (a' := 120) (b' := 120) c81 yf1 (iv_c 120 (a := 120) (b := 120) (by decide +kernel)) (by decide +kernel)) (iv_c 120 (a := 120) (b := 120) (by decide +kernel)) (by decide +kernel)))).elim
          · have i88 : vC (sgT1 P) (sgL1 P) a = (120 : Int) := vq_eq c86 hf1 (by decide +kernel)
            refine lv_iconst (v := 3) X.1 X.2.1 dX3_readMove_46 (by decide +kernel) ?_
            refine lv_iconst (v := (-1)) X.1 X.2.1 dX3_readMove_47 (by decide +kernel) ?_
            refine lv_iconst (v := 0) X.1 X.2.1 dX3_readMove_48 (by decide +kernel) ?_
            refine lv_iconst (v := 0) X.1 X.2.1 dX3_readMove_49 (by decide +kernel) ?_
            refine ca_X3_packed_w X hK (sg_emp (kt := KT P)) hC (fun _ h => h) hS hb 3 (iv_of (iv_c 3 (a := 3) (b := 3) (by decide +kernel)) (a' := 0) (b' := 3) (by decide +kernel)) (-1) (iv_of (iv_c (-1) (a := (-1)) (b := (-1)) (by decide +kernel)) (a' := (-1)) (b' := 29) (by decide +kernel)) 0 (iv_of (iv_c 0 (a := 0) (b := 0) (by decide +kernel)) (a' := 0) (b' := 1) (by decide +kernel)) 0 (iv_of (iv_c 0 (a := 0) (b := 0) (by decide +kernel)) (a' := 0) (b' := 5) (by decide +kernel)) wl_4_26 hl.1 (rest := []) rfl (Nat.le_of_ble_eq_true rfl) ⟨Nat.le_of_ble_eq_true rfl, Nat.le_of_ble_eq_true rfl⟩ ⟨Nat.le_of_ble_eq_true rfl, Nat.le_of_ble_eq_true rfl⟩ dX3_readMove_50 (fun f89 locs hf89 hS => ?_)
            have xf89 : f89.toInt = pkI (3) ((-1)) (0) (0) := pk_of hf89.2 (show (3 : Int32).toInt = 3 from by decide +kernel) (show ((-1) : Int32).toInt = (-1) from by decide +kernel) (show (0 : Int32).toInt = 0 from by decide +kernel) (show (0 : Int32).toInt = 0 from by decide +kernel)
            have spr : vMv (sgT1 P) (sgL1 P) a = (true, (vX (sgT1 P) (sgL1 P) (a + 1))) := by simp only [vMv, vNu, i4, i37, i59, i82, i88, cond_true, cond_false, vB_t, vB_f, if_true, if_false, eq_self, not_true_eq_false, not_false_eq_true, Int.reduceEq, Int.reduceLT, or_false, false_or, or_true, true_or]
            have hv8 : iv 0 1487 f89 := hf89.1
            have hq9 : vMq (sgT1 P) (sgL1 P) a = (3, -1, 0, 0) := by simp only [vMq, i4, i37, i59, i82, i88, cond_true, cond_false, vB_t, vB_f, if_true, if_false, eq_self, not_true_eq_false, not_false_eq_true, Int.reduceEq, Int.reduceLT, or_false, false_or, or_true, true_or]
            have hv9 : f89.toInt = pkQ (vMq (sgT1 P) (sgL1 P) a) := xf89.trans (by rw [hq9]; rfl)
            exact sg_iret2 X hr hlk hS trivial (fun t ht hW => (Or.inl ⟨_, spr, hv9, hv8.1, hv8.2, vq_pgw pb85 (by decide), (bb85).2, sg_post hb hK hC hG hS ht hW⟩)) dX3_readMove_53
        · have i83 : (vC (sgT1 P) (sgL1 P) a = (120 : Int)) = False := vq_ne c81 hf1 (by decide +kernel)
          refine lv_aload_n X.1 X.2.1 dX3_readMove_29 rfl (lv_at hl 2 rfl) ?_
          refine ca_X10_wrong_g X hK hG hC hS hb a1 h1 hl0 hav wl_4_24 hl.1 (rest := []) rfl (Nat.le_of_ble_eq_true rfl) ⟨Nat.le_of_ble_eq_true rfl, Nat.le_of_ble_eq_true rfl⟩ ⟨Nat.le_of_ble_eq_true rfl, Nat.le_of_ble_eq_true rfl⟩ dX3_readMove_30 (fun f90 tf90 H locs htf90 hf90 hWf90 hS => ?_)
          have hG := hWf90.2.2.2
          rw [htf90] at hG
          obtain rfl : f90 = 0 := sg_is0 hf90
          refine lv_pop X.1 X.2.1 dX3_readMove_33 rfl ?_
          refine lv_iconst (v := (-1)) X.1 X.2.1 dX3_readMove_34 (by decide +kernel) ?_
          have spr : vMv (sgT1 P) (sgL1 P) a = (false, a) := by simp only [vMv, vNu, i4, i37, i59, i83, cond_true, cond_false, vB_t, vB_f, if_true, if_false, eq_self, not_true_eq_false, not_false_eq_true, Int.reduceEq, Int.reduceLT, or_false, false_or, or_true, true_or]
          have hG := kg_weak (b1 := 0) (b2 := 240) (c1 := a) (c2 := a) hG (hav).1 (Int.le_trans (hav).2 hl0.2) (Int.le_refl _) (Int.le_refl _)
          exact sg_iret2 X hr hlk hS trivial (fun t ht hW => (Or.inr ⟨rfl, _, spr, sg_post hb hK hC hG hS ht hW⟩)) dX3_readMove_35

theorem ca_X3_readMove_g  {a w1 w2 : Int} {z : sgZg}  (X : CallFix p m c cc nL s args sg_tbl own) (hK : va_K D vwCl tys s) (hG : sgG (KG a a w1 w2 z P) D vwCl (fun q : Nat => base ≤ q) tys ad ks H) (hC : sgC base s) (hS : va_S (fun q : Nat => base ≤ q) s.heap H locs) (hb : base ≤ s.heap.size) (a0 : Nat) (h0 : isK ad ks 8 a0) (a1 : Nat) (h1 : isK ad ks 10 a1) (hl0 : 0 ≤ sgL1 P ∧ sgL1 P ≤ 240) (hav : 0 ≤ a ∧ a ≤ sgL1 P) (hby : ∀ j : Nat, (↑j : Int) < sgL1 P → 1 ≤ sgT1 P j ∧ sgT1 P j ≤ 255) (hl : Cond.methodLink own index yX3_readMove ∈ sg_tbl) (hsize : ls.size = nL) (hst : st0 = [.ref a1].reverse ++ .ref a0 :: rest) (hW : (rest.map fun v => v.category).sum ≤ 8) (hR : 4 ≤ R.frames ∧ 80 ≤ R.locals) (hf : cells ≤ R.cells ∧ slots ≤ R.slots) (hdg : decode cc pc = .ok (.invokevirtual index, 3)) (kk : ∀ (r : Int32) (t : State) (H1 : Heap) (locs1 : List Loc), t.heap = H1 → (fun r : Int32 => True) r → ((∃ a1 : Int, vMv (sgT1 P) (sgL1 P) a = (true, a1) ∧ r.toInt = pkQ (vMq (sgT1 P) (sgL1 P) a) ∧ 0 ≤ r.toInt ∧ r.toInt ≤ 1487 ∧ a + 1 ≤ a1 ∧ a1 ≤ sgL1 P ∧ sgB (KG a1 a1 w1 w2 z P) D vwCl base tys ad ks t) ∨ (r = -1 ∧ ∃ w : Int, vMv (sgT1 P) (sgL1 P) a = (false, w) ∧ sgB (KG 0 240 w w z P) D vwCl base tys ad ks t)) → va_S (fun q : Nat => base ≤ q) s.heap H1 locs1 → W p l e R s m args below meth c H1 locs1 cells slots Q (F0 m (pc + 3) ls (.int r :: rest))) : W p l e R s m args below meth c H locs cells slots Q (F0 m pc ls st0) :=
  sg_callV2i X hK hG hC hS hb (m_X3_readMove_g l a0 h0 a1 h1 hl0 hav hby) h0 (k := 8) (ci := 3) rfl (C := RX3) (T := TX3) (N := 3) rfl wl_4_22 wl_1_4 wl_4_21 wl_0_17 (n := 1) (by decide +kernel) rfl rfl rfl hl hsize hst hW hR hf hdg kk

set_option maxHeartbeats 8000000 in
set_option maxRecDepth 100000 in
theorem m_X3_read_g (l : Launch) {D : va_G} {base : Nat} {tys : List (ClassId × FieldType)} {ad ks : List Nat} {P : sgPm}{z : sgZg}  (a0 : Nat) (h0 : isK ad ks 8 a0) (a1 : Nat) (h1 : isK ad ks 10 a1) (hl0 : 0 ≤ sgL1 P ∧ sgL1 P ≤ 240) (hby : ∀ j : Nat, (↑j : Int) < sgL1 P → 1 ≤ sgT1 P j ∧ sgT1 P j ≤ 255) : Met l yX3_read (Cond.code yX3_read cX3_read 4 (some .boolean) :: sg_tbl) ({ frames := 4, cells := 0, slots := 0, locals := 80 }) (va_Pc [.ref a0, .ref a1] (sgB (KG 0 240 (-2147483648) 2147483647 z P) D vwCl base tys ad ks)) (va_Qi (fun r (u : Int32) => u = r ∧ (fun r : Int32 => iv 0 1 r) r) (fun u t => (u = 1 ∧ ∃ (a1 : Int) (k : Nat) (z1 : sgZg), vGame (sgT1 P) (sgL1 P) = (true, a1) ∧ gK (sgT1 P) (sgL1 P) k ∧ z1 5 1 = ((k : Int), (k : Int)) ∧ (∀ j : Nat, j < k → z1 6 j = (pkQ (gmT (sgT1 P) (sgL1 P) j), pkQ (gmT (sgT1 P) (sgL1 P) j)) ∧ mqOk (gmT (sgT1 P) (sgL1 P) j)) ∧ sgB (KG 0 240 (-1) (-1) z1 P) D vwCl base tys ad ks t) ∨ (u = 0 ∧ ∃ (w : Int) (z1 : sgZg), vGame (sgT1 P) (sgL1 P) = (false, w) ∧ sgB (KG 0 240 w w z1 P) D vwCl base tys ad ks t)) (fun q : Nat => base ≤ q)) 0 0 (fun q : Nat => base ≤ q) := by
  refine sg_ofW (by decide +kernel) (Nat.le_of_ble_eq_true rfl) (fun p e s m below meth c X hr hlk hb hK hC hG ls hl => ?_)
  have hS : va_S (fun q : Nat => base ≤ q) s.heap s.heap [] := va_S.rf
  have hl : lv_has ls 4 [(0, .ref a0), (1, .ref a1)] := hl
  refine lv_aload_n X.1 X.2.1 dX3_read_0 rfl (lv_at hl 1 rfl) ?_
  refine ca_X10_rewind_g X hK hG hC hS hb a1 h1 hl0 wl_4_18 hl.1 (rest := []) rfl (Nat.le_of_ble_eq_true rfl) ⟨Nat.le_of_ble_eq_true rfl, Nat.le_of_ble_eq_true rfl⟩ ⟨Nat.le_of_ble_eq_true rfl, Nat.le_of_ble_eq_true rfl⟩ dX3_read_1 (fun tg1 H locs htg1 hWg1 hS => ?_)
  have hG := hWg1.2.2.2
  rw [htg1] at hG
  refine lv_aload_n X.1 X.2.1 dX3_read_4 rfl (lv_at hl 0 rfl) ?_
  refine lv_iconst (v := 0) X.1 X.2.1 dX3_read_5 (by decide +kernel) ?_
  refine pf_X3_2G X hK hG hS h0 wl_1_100 dX3_read_6 (fun H locs hG hS => ?_)
  refine lv_aload_n X.1 X.2.1 dX3_read_9 rfl (lv_at hl 0 rfl) ?_
  refine lv_iconst (v := 0) X.1 X.2.1 dX3_read_10 (by decide +kernel) ?_
  refine pf_X3_1G X hK hG hS h0 wl_1_97 (iv_of (iv_c 0 (a := 0) (b := 0) (by decide +kernel)) (a' := 0) (b' := 16) (by decide +kernel)) dX3_read_11 (fun H locs hG hS => ?_)
  rw [show (0 : Int32).toInt = 0 from by decide +kernel] at hG
  have hG : sgG (KG (vX (sgT1 P) (sgL1 P) 0) (vX (sgT1 P) (sgL1 P) 0) (-1) (-1) (zSet z 5 1 0) P) D vwCl _ tys ad ks _ := hG
  refine lv_iconst (v := 0) X.1 X.2.1 dX3_read_14 (by decide +kernel) ?_
  refine lv_istore_n (lv' := [(2, .int 0), (0, .ref a0), (1, .ref a1)]) X.1 X.2.1 dX3_read_15 rfl hl (by decide) rfl (fun ls hl => ?_)
  have B2_16 : ∀ (N : Nat) (H : Heap) (locs : List Loc) (ls : Array Slot) (z2_2 : Int32) (a2 : Int) (zz2 : sgZg), 0 ≤ a2 → a2 ≤ sgL1 P → sgG (KG a2 a2 (-1) (-1) zz2 P) D vwCl (fun q : Nat => base ≤ q) tys ad ks H → va_S (fun q : Nat => base ≤ q) s.heap H locs → lv_has ls 4 [(0, .ref a0), (1, .ref a1), (2, .int z2_2)] → iv 0 16 z2_2 → (vGame (sgT1 P) (sgL1 P) = vB (vGm (sgT1 P) (sgL1 P) (16 - (z2_2 : Int32).toInt).toNat a2) (vEn (sgT1 P) (sgL1 P)) ∧ (z2_2 : Int32).toInt < 16 ∧ gmI (sgT1 P) (sgL1 P) (z2_2 : Int32).toInt a2 (zz2 6)) → (17 - z2_2.toInt).toNat ≤ N → W p l e (headSpec (Cond.code yX3_read cX3_read 4 (some .boolean) :: sg_tbl) ({ frames := 4, cells := 0, slots := 0, locals := 80 })).room s m #[.ref a0, .ref a1] below meth c H locs 0 0 (MQ below (va_Qi (fun r (u : Int32) => u = r ∧ (fun r : Int32 => iv 0 1 r) r) (fun u t => (u = 1 ∧ ∃ (a1 : Int) (k : Nat) (z1 : sgZg), vGame (sgT1 P) (sgL1 P) = (true, a1) ∧ gK (sgT1 P) (sgL1 P) k ∧ z1 5 1 = ((k : Int), (k : Int)) ∧ (∀ j : Nat, j < k → z1 6 j = (pkQ (gmT (sgT1 P) (sgL1 P) j), pkQ (gmT (sgT1 P) (sgL1 P) j)) ∧ mqOk (gmT (sgT1 P) (sgL1 P) j)) ∧ sgB (KG 0 240 (-1) (-1) z1 P) D vwCl base tys ad ks t) ∨ (u = 0 ∧ ∃ (w : Int) (z1 : sgZg), vGame (sgT1 P) (sgL1 P) = (false, w) ∧ sgB (KG 0 240 w w z1 P) D vwCl base tys ad ks t)) (fun q : Nat => base ≤ q)) #[.ref a0, .ref a1] s 0 0 (fun q : Nat => base ≤ q)) (F0 m 16 ls []) := by
    intro N; induction N with
    | zero =>
      intro H locs ls z2_2 a2 zz2 jl2 jm2 hG hS hl hz2_2 xf2 hN
      exact absurd hN (by have := iv_up hz2_2; omega)
    | succ N ih2 =>
      intro H locs ls z2_2 a2 zz2 jl2 jm2 hG hS hl hz2_2 xf2 hN2
      refine lv_iload_n X.1 X.2.1 dX3_read_16 rfl (lv_at hl 2 rfl) ?_
      refine lv_bipush (v := 16) X.1 X.2.1 dX3_read_17 (by decide +kernel) ?_
      refine lv_icmp_ge (tgt := 80) X.1 X.2.1 dX3_read_19 (by decide) (fun c3 => ?_) (fun c3 => ?_)
      · have i4 : ¬ z2_2.toInt < (16 : Int) := vq_le c3 (by decide +kernel) rfl
        exact absurd xf2.2.1 i4
      · have i5 : z2_2.toInt < (16 : Int) := vq_lt (iv_gt_of c3) rfl (by decide +kernel)
        refine lv_aload_n X.1 X.2.1 dX3_read_22 rfl (lv_at hl 0 rfl) ?_
        refine lv_aload_n X.1 X.2.1 dX3_read_23 rfl (lv_at hl 1 rfl) ?_
        refine ca_X3_readMove_g X hK hG hC hS hb a0 h0 a1 h1 hl0 (And.intro jl2 jm2) hby wl_4_19 hl.1 (rest := []) rfl (Nat.le_of_ble_eq_true rfl) ⟨Nat.le_of_ble_eq_true rfl, Nat.le_of_ble_eq_true rfl⟩ ⟨Nat.le_of_ble_eq_true rfl, Nat.le_of_ble_eq_true rfl⟩ dX3_read_24 (fun f6 tf6 H locs htf6 hf6 hWf6 hS => ?_)
        rcases hWf6 with ⟨av7, pv7, xv7, g1v7, g2v7, gav7, gbv7, hBf6⟩ | ⟨rfl, wv7, pv7, hBf6⟩
        · have hG := hBf6.2.2.2
          rw [htf6] at hG
          have bv7 := vq_bd2 (k := 1) (And.intro jl2 jm2) (by decide) gav7 gbv7
          refine lv_istore_n (lv' := [(3, .int f6), (0, .ref a0), (1, .ref a1), (2, .int z2_2)]) X.1 X.2.1 dX3_read_27 rfl hl (by decide) rfl (fun ls hl => ?_)
          refine lv_iload_n X.1 X.2.1 dX3_read_28 rfl (lv_at hl 0 rfl) ?_
          refine lv_iconst (v := (-1)) X.1 X.2.1 dX3_read_29 (by decide +kernel) ?_
          refine lv_icmp_ne (tgt := 35) X.1 X.2.1 dX3_read_30 (by decide) (fun c8 => ?_) (fun c8 => ?_)
          · have i9 : ((pkQ (vMq (sgT1 P) (sgL1 P) a2)) = ((-1) : Int)) = False := vq_ne c8 xv7 (by decide +kernel)
            refine lv_aload_n X.1 X.2.1 dX3_read_35 rfl (lv_at hl 1 rfl) ?_
            refine gf_X3_0g X hK hG h0 wl_1_94 dX3_read_36 (fun q11 hq11 => ?_)
            refine lv_iload_n X.1 X.2.1 dX3_read_39 rfl (lv_at hl 3 rfl) ?_
            refine lv_iload_n X.1 X.2.1 dX3_read_40 rfl (lv_at hl 0 rfl) ?_
            refine as_49G X hK hG hS hq11 (iv_vpin (iv_lt (b' := 15) (iv_gt_of c3) hz2_2 (iv_c 16 (a := 16) (b := 16) (by decide +kernel)) (by decide +kernel)) (by decide +kernel)) dX3_read_41 (fun H locs hG hS => ?_)
            rw [xv7] at hG
            have hG : sgG (KG av7 av7 (-1) (-1) (zSet zz2 6 z2_2.toNatClampNeg (pkQ (vMq (sgT1 P) (sgL1 P) a2))) P) D vwCl _ tys ad ks _ := hG
            refine lv_aload_n X.1 X.2.1 dX3_read_42 rfl (lv_at hl 1 rfl) ?_
            refine lv_iload_n X.1 X.2.1 dX3_read_43 rfl (lv_at hl 3 rfl) ?_
            refine lv_iconst (v := 1) X.1 X.2.1 dX3_read_44 (by decide +kernel) ?_
            refine lv_iadd X.1 X.2.1 dX3_read_45 ?_
            refine lv_topi (fun f12 ef12 => ?_)
            have xf12 : f12.toInt = (z2_2.toInt + 1) := sg_exadd ef12 (iv_lt (b' := 15) (iv_gt_of c3) hz2_2 (iv_c 16 (a := 16) (b := 16) (by decide +kernel)) (by decide +kernel)) (iv_c 1 (a := 1) (b := 1) (by decide +kernel)) (by decide +kernel) rfl (by decide +kernel)
            refine pf_X3_1G X hK hG hS h0 wl_1_97 (iv_of (iv_add (a' := 1) (b' := 16) ef12 (iv_lt (b' := 15) (iv_gt_of c3) hz2_2 (iv_c 16 (a := 16) (b := 16) (by decide +kernel)) (by decide +kernel)) (iv_c 1 (a := 1) (b := 1) (by decide +kernel)) (by decide +kernel)) (a' := 0) (b' := 16) (by decide +kernel)) dX3_read_46 (fun H locs hG hS => ?_)
            rw [xf12] at hG
            have hG : sgG (KG av7 av7 (-1) (-1) (zSet (zSet zz2 6 z2_2.toNatClampNeg (pkQ (vMq (sgT1 P) (sgL1 P) a2))) 5 1 (z2_2.toInt + 1)) P) D vwCl _ tys ad ks _ := hG
            refine lv_aload_n X.1 X.2.1 dX3_read_49 rfl (lv_at hl 2 rfl) ?_
            refine ca_X10_sign_g X hK hG hC (fun _ h => h) hS hb a1 h1 hl0 bv7 wl_4_23 hl.1 (rest := []) rfl (Nat.le_of_ble_eq_true rfl) ⟨Nat.le_of_ble_eq_true rfl, Nat.le_of_ble_eq_true rfl⟩ ⟨Nat.le_of_ble_eq_true rfl, Nat.le_of_ble_eq_true rfl⟩ dX3_read_50 (fun f13 locs hf13 hS => ?_)
            have yf13 : iv 0 255 f13 := vq_255 hf13 hby
            refine lv_bipush (v := 59) X.1 X.2.1 dX3_read_53 (by decide +kernel) ?_
            refine lv_icmp_ne (tgt := 80) X.1 X.2.1 dX3_read_55 (by decide) (fun c14 => ?_) (fun c14 => ?_)
            · have i15 : (vC (sgT1 P) (sgL1 P) av7 = (59 : Int)) = False := vq_ne c14 hf13 (by decide +kernel)
              refine lv_aload_n X.1 X.2.1 dX3_read_80 rfl (lv_at hl 2 rfl) ?_
              refine ca_X10_ended_g X hK hG hC hS hb a1 h1 hl0 bv7 wl_4_33 hl.1 (rest := []) rfl (Nat.le_of_ble_eq_true rfl) ⟨Nat.le_of_ble_eq_true rfl, Nat.le_of_ble_eq_true rfl⟩ ⟨Nat.le_of_ble_eq_true rfl, Nat.le_of_ble_eq_true rfl⟩ dX3_read_81 (fun f17 tf17 H locs htf17 hf17 hWf17 hS => ?_)
              rcases hWf17 with ⟨rfl, av18, pv18, gav18, gbv18, hBf17⟩ | ⟨rfl, wv18, pv18, hBf17⟩
              · have hG := hBf17.2.2.2
                rw [htf17] at hG
                have bv18 := vq_bd2 (k := 0) bv7 (by decide) gav18 gbv18
                have spr : vGame (sgT1 P) (sgL1 P) = (true, av18) := by exact xf2.1.trans ((congrArg (fun r => vB r (vEn (sgT1 P) (sgL1 P))) (vG_end i5 pv7 (Or.inl i15))).trans pv18)
                have hG := kg_weak (b1 := 0) (b2 := 240) (c1 := (-1)) (c2 := (-1)) hG (bv18).1 (Int.le_trans (bv18).2 hl0.2) (Int.le_refl _) (Int.le_refl _)
                have hge := gmI_e (k := z2_2.toNatClampNeg) (f2 := (zSet (zSet zz2 6 z2_2.toNatClampNeg (pkQ (vMq (sgT1 P) (sgL1 P) a2))) 5 1 (z2_2.toInt + 1)) 6) xf2.2.2 (hz2_2).1 xf2.2.1 pv7 (by rw [vEn_t pv18]; decide) rfl (fun j hj => zs_n hj) zs_y
                exact sg_zret2 X hr (sg_zn (iv_of (iv_c 1 (a := 1) (b := 1) (by decide +kernel)) (a' := 0) (b' := 1) (by decide +kernel))) hlk hS (iv_of (iv_c 1 (a := 1) (b := 1) (by decide +kernel)) (a' := 0) (b' := 1) (by decide +kernel)) (fun t ht hW => (Or.inl ⟨rfl, _, _, (zSet (zSet zz2 6 z2_2.toNatClampNeg (pkQ (vMq (sgT1 P) (sgL1 P) a2))) 5 1 (z2_2.toInt + 1)), spr, hge.1, zc_2 (hz2_2).1, hge.2, sg_post hb hK hC hG hS ht hW⟩)) dX3_read_84
              · have hG := hBf17.2.2.2
                rw [htf17] at hG
                have spr : vGame (sgT1 P) (sgL1 P) = (false, wv18) := by exact xf2.1.trans ((congrArg (fun r => vB r (vEn (sgT1 P) (sgL1 P))) (vG_end i5 pv7 (Or.inl i15))).trans pv18)
                have hG := kg_weak (b1 := 0) (b2 := 240) (c1 := wv18) (c2 := wv18) hG (Int.le_refl _) (Int.le_refl _) (Int.le_refl _) (Int.le_refl _)
                exact sg_zret2 X hr (sg_zn (iv_of (iv_c 0 (a := 0) (b := 0) (by decide +kernel)) (a' := 0) (b' := 1) (by decide +kernel))) hlk hS (iv_of (iv_c 0 (a := 0) (b := 0) (by decide +kernel)) (a' := 0) (b' := 1) (by decide +kernel)) (fun t ht hW => (Or.inr ⟨rfl, _, _, spr, sg_post hb hK hC hG hS ht hW⟩)) dX3_read_84
            · have i16 : vC (sgT1 P) (sgL1 P) av7 = (59 : Int) := vq_eq c14 hf13 (by decide +kernel)
              refine lv_aload_n X.1 X.2.1 dX3_read_58 rfl (lv_at hl 1 rfl) ?_
              refine gf_X3_1g X hK hG h0 wl_1_97 dX3_read_59 (fun f19 hf19 => ?_)
              have xf19 : f19.toInt = (z2_2.toInt + 1) := zc_1 hf19 (iv_of (iv_add (a' := 1) (b' := 16) ef12 (iv_lt (b' := 15) (iv_gt_of c3) hz2_2 (iv_c 16 (a := 16) (b := 16) (by decide +kernel)) (by decide +kernel)) (iv_c 1 (a := 1) (b := 1) (by decide +kernel)) (by decide +kernel)) (a' := 0) (b' := 16) (by decide +kernel)) xf12
              have yf19 : iv 1 16 f19 := vq_of xf19 (by have z1 := ((iv_add (a' := 1) (b' := 16) ef12 (iv_lt (b' := 15) (iv_gt_of c3) hz2_2 (iv_c 16 (a := 16) (b := 16) (by decide +kernel)) (by decide +kernel)) (iv_c 1 (a := 1) (b := 1) (by decide +kernel)) (by decide +kernel))).1; have z2 := ((iv_add (a' := 1) (b' := 16) ef12 (iv_lt (b' := 15) (iv_gt_of c3) hz2_2 (iv_c 16 (a := 16) (b := 16) (by decide +kernel)) (by decide +kernel)) (iv_c 1 (a := 1) (b := 1) (by decide +kernel)) (by decide +kernel))).2; have z3 := (xf12); omega)
              refine lv_bipush (v := 16) X.1 X.2.1 dX3_read_62 (by decide +kernel) ?_
              refine lv_icmp_ne (tgt := 70) X.1 X.2.1 dX3_read_64 (by decide) (fun c20 => ?_) (fun c20 => ?_)
              · have i21 : ((z2_2.toInt + 1) = (16 : Int)) = False := vq_ne c20 xf19 (by decide +kernel)
                refine lv_aload_n X.1 X.2.1 dX3_read_70 rfl (lv_at hl 2 rfl) ?_
                refine ca_X10_step_g X hK hG hC hS hb a1 h1 hl0 (vC_lt (b := sgT1 P) (by rw [i16]; decide)) wl_4_25 hl.1 (rest := []) rfl (Nat.le_of_ble_eq_true rfl) ⟨Nat.le_of_ble_eq_true rfl, Nat.le_of_ble_eq_true rfl⟩ ⟨Nat.le_of_ble_eq_true rfl, Nat.le_of_ble_eq_true rfl⟩ dX3_read_71 (fun tg23 H locs htg23 hWg23 hS => ?_)
                have b24 := vC_lt (b := sgT1 P) (n := sgL1 P) (a := av7) (by rw [i16]; decide)
                have bb24 := vq_bdX (b := sgT1 P) b24
                have qb24 : av7 + 1 ≤ vX (sgT1 P) (sgL1 P) (av7 + 1) := (vX_ge (sgT1 P) (sgL1 P) (av7 + 1)).1
                have hG := hWg23.2.2.2
                rw [htg23] at hG
                obtain ⟨y25, ey25⟩ : ∃ y : Int32, y = z2_2 + Int32.ofInt 1 := ⟨_, rfl⟩
                have xy25 : y25.toInt = (z2_2.toInt + 1) := sg_exadd ey25 (iv_lt (b' := 15) (iv_gt_of c3) hz2_2 (iv_c 16 (a := 16) (b := 16) (by decide +kernel)) (by decide +kernel)) (iv_c _ (a := 1) (b := 1) (by decide +kernel)) (by decide +kernel) rfl (by decide +kernel)
                refine lv_iinc (v := y25) (lv' := [(2, .int y25), (3, .int f6), (0, .ref a0), (1, .ref a1)]) X.1 X.2.1 dX3_read_74 hl (k := 3) rfl ey25.symm (by decide) rfl (fun ls hl => ?_)
                refine lv_goto (tgt := 16) X.1 X.2.1 dX3_read_77 (by decide) ?_
                exact ih2 H _ _ y25 ((vX (sgT1 P) (sgL1 P) (av7 + 1))) (zSet (zSet zz2 6 z2_2.toNatClampNeg (pkQ (vMq (sgT1 P) (sgL1 P) a2))) 5 1 (z2_2.toInt + 1)) (bb24).1 (bb24).2 hG hS (lv_sub hl [2, 3, 0] rfl) (iv_of (iv_add (a' := 1) (b' := 16) ey25 (iv_lt (b' := 15) (iv_gt_of c3) hz2_2 (iv_c 16 (a := 16) (b := 16) (by decide +kernel)) (by decide +kernel)) (iv_c _ (a := 1) (b := 1) (by decide +kernel)) (by decide +kernel)) (a' := 0) (b' := 16) (by decide +kernel)) ⟨xf2.1.trans (congrArg (fun r => vB r (vEn (sgT1 P) (sgL1 P))) (vG_step i5 i21 pv7 i16 (vq_k64 i5 xy25))), vq_g1 i5 i21 xy25, gmI_s xf2.2.2 (hz2_2).1 pv7 i16 xy25 rfl (fun j hj => zs_n hj) zs_y⟩ (iv_stepU ey25 (iv_lt (b' := 15) (iv_gt_of c3) hz2_2 (iv_c 16 (a := 16) (b := 16) (by decide +kernel)) (by decide +kernel)) (by decide +kernel) hN2)
              · have i22 : (z2_2.toInt + 1) = (16 : Int) := vq_eq c20 xf19 (by decide +kernel)
                refine lv_goto (tgt := 80) X.1 X.2.1 dX3_read_67 (by decide) ?_
                refine lv_aload_n X.1 X.2.1 dX3_read_80 rfl (lv_at hl 2 rfl) ?_
                refine ca_X10_ended_g X hK hG hC hS hb a1 h1 hl0 bv7 wl_4_33 hl.1 (rest := []) rfl (Nat.le_of_ble_eq_true rfl) ⟨Nat.le_of_ble_eq_true rfl, Nat.le_of_ble_eq_true rfl⟩ ⟨Nat.le_of_ble_eq_true rfl, Nat.le_of_ble_eq_true rfl⟩ dX3_read_81 (fun f26 tf26 H locs htf26 hf26 hWf26 hS => ?_)
                rcases hWf26 with ⟨rfl, av27, pv27, gav27, gbv27, hBf26⟩ | ⟨rfl, wv27, pv27, hBf26⟩
                · have hG := hBf26.2.2.2
                  rw [htf26] at hG
                  have bv27 := vq_bd2 (k := 0) bv7 (by decide) gav27 gbv27
                  have spr : vGame (sgT1 P) (sgL1 P) = (true, av27) := by exact xf2.1.trans ((congrArg (fun r => vB r (vEn (sgT1 P) (sgL1 P))) (vG_end i5 pv7 (Or.inr i22))).trans pv27)
                  have hG := kg_weak (b1 := 0) (b2 := 240) (c1 := (-1)) (c2 := (-1)) hG (bv27).1 (Int.le_trans (bv27).2 hl0.2) (Int.le_refl _) (Int.le_refl _)
                  have hge := gmI_e (k := z2_2.toNatClampNeg) (f2 := (zSet (zSet zz2 6 z2_2.toNatClampNeg (pkQ (vMq (sgT1 P) (sgL1 P) a2))) 5 1 (z2_2.toInt + 1)) 6) xf2.2.2 (hz2_2).1 xf2.2.1 pv7 (by rw [vEn_t pv27]; decide) rfl (fun j hj => zs_n hj) zs_y
                  exact sg_zret2 X hr (sg_zn (iv_of (iv_c 1 (a := 1) (b := 1) (by decide +kernel)) (a' := 0) (b' := 1) (by decide +kernel))) hlk hS (iv_of (iv_c 1 (a := 1) (b := 1) (by decide +kernel)) (a' := 0) (b' := 1) (by decide +kernel)) (fun t ht hW => (Or.inl ⟨rfl, _, _, (zSet (zSet zz2 6 z2_2.toNatClampNeg (pkQ (vMq (sgT1 P) (sgL1 P) a2))) 5 1 (z2_2.toInt + 1)), spr, hge.1, zc_2 (hz2_2).1, hge.2, sg_post hb hK hC hG hS ht hW⟩)) dX3_read_84
                · have hG := hBf26.2.2.2
                  rw [htf26] at hG
                  have spr : vGame (sgT1 P) (sgL1 P) = (false, wv27) := by exact xf2.1.trans ((congrArg (fun r => vB r (vEn (sgT1 P) (sgL1 P))) (vG_end i5 pv7 (Or.inr i22))).trans pv27)
                  have hG := kg_weak (b1 := 0) (b2 := 240) (c1 := wv27) (c2 := wv27) hG (Int.le_refl _) (Int.le_refl _) (Int.le_refl _) (Int.le_refl _)
                  exact sg_zret2 X hr (sg_zn (iv_of (iv_c 0 (a := 0) (b := 0) (by decide +kernel)) (a' := 0) (b' := 1) (by decide +kernel))) hlk hS (iv_of (iv_c 0 (a := 0) (b := 0) (by decide +kernel)) (a' := 0) (b' := 1) (by decide +kernel)) (fun t ht hW => (Or.inr ⟨rfl, _, _, spr, sg_post hb hK hC hG hS ht hW⟩)) dX3_read_84
          · have i10 : (pkQ (vMq (sgT1 P) (sgL1 P) a2)) = ((-1) : Int) := vq_eq c8 xv7 (by decide +kernel)
            exact ((iv_no (a := 0) (b := (-1)) (iv_eqm c8 (show iv 0 1487 f6 from ⟨g1v7, g2v7⟩) (iv_c (-1) (a := (-1)) (b := (-1)) (by decide +kernel)) (by decide +kernel)) (by decide +kernel))).elim
        · have hG := hBf6.2.2.2
          rw [htf6] at hG
          refine lv_istore_n (lv' := [(3, .int (-1)), (0, .ref a0), (1, .ref a1), (2, .int z2_2)]) X.1 X.2.1 dX3_read_27 rfl hl (by decide) rfl (fun ls hl => ?_)
          refine lv_iload_n X.1 X.2.1 dX3_read_28 rfl (lv_at hl 0 rfl) ?_
          refine lv_iconst (v := (-1)) X.1 X.2.1 dX3_read_29 (by decide +kernel) ?_
          refine lv_icmp_ne (tgt := 35) X.1 X.2.1 dX3_read_30 (by decide) (fun c28 => ?_) (fun c28 => ?_)
          · exact ((c28 (iv_one (iv_c (-1) (a := (-1)) (b := (-1)) (by decide +kernel)) (iv_c (-1) (a := (-1)) (b := (-1)) (by decide +kernel)) (by decide +kernel)))).elim
          · refine lv_iconst (v := 0) X.1 X.2.1 dX3_read_33 (by decide +kernel) ?_
            have spr : vGame (sgT1 P) (sgL1 P) = (false, wv7) := by exact xf2.1.trans (congrArg (fun r => vB r (vEn (sgT1 P) (sgL1 P))) (vG_bad i5 pv7))
            have hG := kg_weak (b1 := 0) (b2 := 240) (c1 := wv7) (c2 := wv7) hG (Int.le_refl _) (Int.le_refl _) (Int.le_refl _) (Int.le_refl _)
            exact sg_zret2 X hr (sg_zn (iv_of (iv_c 0 (a := 0) (b := 0) (by decide +kernel)) (a' := 0) (b' := 1) (by decide +kernel))) hlk hS (iv_of (iv_c 0 (a := 0) (b := 0) (by decide +kernel)) (a' := 0) (b' := 1) (by decide +kernel)) (fun t ht hW => (Or.inr ⟨rfl, _, _, spr, sg_post hb hK hC hG hS ht hW⟩)) dX3_read_34
  exact B2_16 _ H _ _ 0 ((vX (sgT1 P) (sgL1 P) 0)) (zSet z 5 1 0) ((vq_bd0 (b := sgT1 P) hl0.1)).1 ((vq_bd0 (b := sgT1 P) hl0.1)).2 hG hS (lv_sub hl [1, 2, 0] rfl) (iv_of (iv_c 0 (a := 0) (b := 0) (by decide +kernel)) (a' := 0) (b' := 16) (by decide +kernel)) ⟨rfl, vq_g0, gmI_0 (by decide +kernel)⟩ (Nat.le_refl _)

theorem ca_X3_read_g  {z : sgZg}  (X : CallFix p m c cc nL s args sg_tbl own) (hK : va_K D vwCl tys s) (hG : sgG (KG 0 240 (-2147483648) 2147483647 z P) D vwCl (fun q : Nat => base ≤ q) tys ad ks H) (hC : sgC base s) (hS : va_S (fun q : Nat => base ≤ q) s.heap H locs) (hb : base ≤ s.heap.size) (a0 : Nat) (h0 : isK ad ks 8 a0) (a1 : Nat) (h1 : isK ad ks 10 a1) (hl0 : 0 ≤ sgL1 P ∧ sgL1 P ≤ 240) (hby : ∀ j : Nat, (↑j : Int) < sgL1 P → 1 ≤ sgT1 P j ∧ sgT1 P j ≤ 255) (hl : Cond.methodLink own index yX3_read ∈ sg_tbl) (hsize : ls.size = nL) (hst : st0 = [.ref a1].reverse ++ .ref a0 :: rest) (hW : (rest.map fun v => v.category).sum ≤ 8) (hR : 5 ≤ R.frames ∧ 103 ≤ R.locals) (hf : cells ≤ R.cells ∧ slots ≤ R.slots) (hdg : decode cc pc = .ok (.invokevirtual index, 3)) (kk : ∀ (r : Int32) (t : State) (H1 : Heap) (locs1 : List Loc), t.heap = H1 → (fun r : Int32 => iv 0 1 r) r → ((r = 1 ∧ ∃ (a1 : Int) (k : Nat) (z1 : sgZg), vGame (sgT1 P) (sgL1 P) = (true, a1) ∧ gK (sgT1 P) (sgL1 P) k ∧ z1 5 1 = ((k : Int), (k : Int)) ∧ (∀ j : Nat, j < k → z1 6 j = (pkQ (gmT (sgT1 P) (sgL1 P) j), pkQ (gmT (sgT1 P) (sgL1 P) j)) ∧ mqOk (gmT (sgT1 P) (sgL1 P) j)) ∧ sgB (KG 0 240 (-1) (-1) z1 P) D vwCl base tys ad ks t) ∨ (r = 0 ∧ ∃ (w : Int) (z1 : sgZg), vGame (sgT1 P) (sgL1 P) = (false, w) ∧ sgB (KG 0 240 w w z1 P) D vwCl base tys ad ks t)) → va_S (fun q : Nat => base ≤ q) s.heap H1 locs1 → W p l e R s m args below meth c H1 locs1 cells slots Q (F0 m (pc + 3) ls (.int r :: rest))) : W p l e R s m args below meth c H locs cells slots Q (F0 m pc ls st0) :=
  sg_callV2i X hK hG hC hS hb (m_X3_read_g l a0 h0 a1 h1 hl0 hby) h0 (k := 8) (ci := 3) rfl (C := RX3) (T := TX3) (N := 3) rfl wl_4_17 wl_1_4 wl_4_15 wl_4_16 (n := 1) (by decide +kernel) rfl rfl rfl hl hsize hst hW hR hf hdg kk
end
