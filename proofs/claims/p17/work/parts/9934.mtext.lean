
section
variable {p : Program} {l : Launch} {e : Env} {R : Room} {s : State} {m : MethodId} {args : Array Value} {below : List Frame} {meth : Method} {c : Code} {H : Heap} {locs : List Loc} {cells slots : Nat} {Q : State → Prop} {cc : ByteArray} {nL pc : Nat} {ls : Array Slot} {rest : List Value} {own : String} {D : va_G} {A : Nat → Prop} {tys : List (ClassId × FieldType)} {ad ks : List Nat} {P : sgPm} {H0 : Heap} {index : Nat} {base : Nat} {st0 : List Value} {a : Nat}

set_option maxHeartbeats 8000000 in
set_option maxRecDepth 100000 in
theorem m_J1_charAt_3b067_e7 (l : Launch) {D : va_G} {base : Nat} {tys : List (ClassId × FieldType)} {ad ks : List Nat} {P : sgPm} {Hx : Heap} (ta tv : Nat) (tb : List Int32) (x1 : Int32) (h1 : iv 0 6 x1) (htb : ∀ j : Nat, j < 7 → iv 0 127 (tb.getD j 0)) : sgEi l (KT P) D vwCl base tys ad ks Hx ta tv 7 tb yJ1_charAt_3b067 cJ1_charAt_3b067 2 (some .char) ({ frames := 2, cells := 0, slots := 0, locals := 43 }) [.ref tv, .int x1] (fun r : Int32 => iv 0 127 r ∧ r = tb.getD x1.toNatClampNeg 0) := by
  refine sg_ofE (Pq := fun Hx => va_Qi (fun r (_ : Unit) => (fun r : Int32 => iv 0 127 r ∧ r = tb.getD x1.toNatClampNeg 0) r) (fun _ t => t.heap = Hx) (fun _ : Nat => False)) (by decide +kernel) (Nat.le_of_ble_eq_true rfl) (fun p e s m below meth c X hr hlk hb hK hC hG ls hl hp => ?_)
  have hS : va_S (fun _ : Nat => False) s.heap s.heap [] := va_S.rf
  have hl : lv_has ls 2 [(0, .ref tv), (1, .int x1)] := hl
  refine lv_iload_n X.1 X.2.1 dJ1_charAt_3b067_0 rfl (lv_at hl 1 rfl) ?_
  refine lv_aload_n X.1 X.2.1 dJ1_charAt_3b067_1 rfl (lv_at hl 0 rfl) ?_
  refine va_tlen X.1 X.2.1 hp.2.2.2.1 hS (v := 7) rfl dJ1_charAt_3b067_2 ?_
  refine ca_J0_checkIndex_df160_7 X hK hG hC (fun _ h => h.elim) hS hb hp x1 h1 7 (iv_c 7 (a := 7) (b := 7) (by decide +kernel)) wl_7_161 hl.1 (rest := []) rfl (Nat.le_of_ble_eq_true rfl) ⟨Nat.le_of_ble_eq_true rfl, Nat.le_of_ble_eq_true rfl⟩ ⟨Nat.le_of_ble_eq_true rfl, Nat.le_of_ble_eq_true rfl⟩ dJ1_charAt_3b067_3 (fun locs hS => ?_)
  refine lv_aload_n X.1 X.2.1 dJ1_charAt_3b067_6 rfl (lv_at hl 0 rfl) ?_
  refine lv_iload_n X.1 X.2.1 dJ1_charAt_3b067_7 rfl (lv_at hl 1 rfl) ?_
  refine va_tb X.1 X.2.1 hp.2.2.2.1 hS (i := x1) (iv_vpin h1 (by decide +kernel)) rfl dJ1_charAt_3b067_8 ?_
  refine lv_topi (fun f2 ef2 => ?_)
  refine lv_sipush (v := 255) X.1 X.2.1 dJ1_charAt_3b067_9 (by decide +kernel) ?_
  refine lv_iand X.1 X.2.1 dJ1_charAt_3b067_12 ?_
  refine lv_topi (fun f3 ef3 => ?_)
  have zf3 : f3 = f2 := vq_127 ef3 (by rw [ef2]; exact htb _ (sg_inlt (iv_vpin h1 (by decide +kernel))))
  have wf3 : iv 0 127 f3 := by rw [zf3]; exact (by rw [ef2]; exact htb _ (sg_inlt (iv_vpin h1 (by decide +kernel))))
  obtain ⟨f4, ef4⟩ : ∃ y : Int32, y = ((f3 : Int32).toUInt32 % 65536).toInt32 := ⟨_, rfl⟩
  refine lv_i2c (v := f4) X.1 X.2.1 dJ1_charAt_3b067_13 ef4.symm ?_
  have zf4 : f4 = f3 := vq_i2c ef4 (iv_of wf3 (a' := 0) (b' := 255) (by decide +kernel))
  exact sg_zretP X hr (sg_cn (by rw [zf4]; exact wf3)) hlk hS ⟨(by rw [zf4]; exact wf3), (by rw [zf4, zf3]; exact ef2)⟩ dJ1_charAt_3b067_14

theorem ca_J1_charAt_3b067_e7   (X : CallFix p m c cc nL s args sg_tbl own) (hK : va_K D vwCl tys s) (hG : sgG (KT P) D vwCl (fun q : Nat => base ≤ q) tys ad ks H) (hC : sgC base s) (hA : ∀ q : Nat, A q → base ≤ q) (hS : va_S A s.heap H locs)  (hb : base ≤ s.heap.size) {ta tv : Nat} {tb : List Int32} (hp : P_S ta tv 7 tb A s) (x1 : Int32) (h1 : iv 0 6 x1) (htb : ∀ j : Nat, j < 7 → iv 0 127 (tb.getD j 0)) (hl : Cond.methodLink own index yJ1_charAt_3b067 ∈ sg_tbl) (hsize : ls.size = nL) (hst : st0 = [.ref tv, .int x1].reverse ++ rest) (hW : (rest.map fun v => v.category).sum ≤ 8) (hR : 3 ≤ R.frames ∧ 64 ≤ R.locals) (hf : cells ≤ R.cells ∧ slots ≤ R.slots) (hdg : decode cc pc = .ok (.invokestatic index, 3)) (kk : ∀ (r : Int32) (locs1 : List Loc), (fun r : Int32 => iv 0 127 r ∧ r = tb.getD x1.toNatClampNeg 0) r → va_S A s.heap H locs1 → W p l e R s m args below meth c H locs1 cells slots Q (F0 m (pc + 3) ls (.int r :: rest))) : W p l e R s m args below meth c H locs cells slots Q (F0 m pc ls st0) :=
  sg_callESi X hK hG hC hA hS hb hp (m_J1_charAt_3b067_e7 l ta tv tb x1 h1 htb) wl_7_160 wl_1_17 wl_7_159 (n := 2) (by decide +kernel) rfl rfl rfl hl hsize hst hW hR hf hdg kk

set_option maxHeartbeats 8000000 in
set_option maxRecDepth 100000 in
theorem m_J0_charAt_5068e_e7 (l : Launch) {D : va_G} {base : Nat} {tys : List (ClassId × FieldType)} {ad ks : List Nat} {P : sgPm} {Hx : Heap} (ta tv : Nat) (tb : List Int32) (x1 : Int32) (h1 : iv 0 6 x1) (htb : ∀ j : Nat, j < 7 → iv 0 127 (tb.getD j 0)) : sgEi l (KT P) D vwCl base tys ad ks Hx ta tv 7 tb yJ0_charAt_5068e cJ0_charAt_5068e 2 (some .char) ({ frames := 3, cells := 0, slots := 0, locals := 64 }) [.ref ta, .int x1] (fun r : Int32 => iv 0 127 r ∧ r = tb.getD x1.toNatClampNeg 0) := by
  refine sg_ofE (Pq := fun Hx => va_Qi (fun r (_ : Unit) => (fun r : Int32 => iv 0 127 r ∧ r = tb.getD x1.toNatClampNeg 0) r) (fun _ t => t.heap = Hx) (fun _ : Nat => False)) (by decide +kernel) (Nat.le_of_ble_eq_true rfl) (fun p e s m below meth c X hr hlk hb hK hC hG ls hl hp => ?_)
  have hS : va_S (fun _ : Nat => False) s.heap s.heap [] := va_S.rf
  have hl : lv_has ls 2 [(0, .ref ta), (1, .int x1)] := hl
  refine lv_aload_n X.1 X.2.1 dJ0_charAt_5068e_0 rfl (lv_at hl 0 rfl) ?_
  refine ca_J0_isLatin1_aae02_7 X hK hG hC (fun _ h => h.elim) hS hb hp wl_3_79 hl.1 (rest := []) rfl (Nat.le_of_ble_eq_true rfl) ⟨Nat.le_of_ble_eq_true rfl, Nat.le_of_ble_eq_true rfl⟩ ⟨Nat.le_of_ble_eq_true rfl, Nat.le_of_ble_eq_true rfl⟩ dJ0_charAt_5068e_1 (fun f1 locs hf1 hS => ?_)
  refine lv_if_eq (tgt := 16) X.1 X.2.1 dJ0_charAt_5068e_4 (by decide) (fun c2 => ?_) (fun c2 => ?_)
  · have i3 : (1 : Int) = (0 : Int) := vq_eq c2 (vq_iv hf1) (by decide +kernel)
    exact ((iv_no (a := 1) (b := 0) (iv_eqm c2 hf1 (iv_c 0 (a := 0) (b := 0) (by decide +kernel)) (by decide +kernel)) (by decide +kernel))).elim
  · have i4 : ((1 : Int) = (0 : Int)) = False := vq_ne c2 (vq_iv hf1) (by decide +kernel)
    refine lv_aload_n X.1 X.2.1 dJ0_charAt_5068e_7 rfl (lv_at hl 0 rfl) ?_
    refine vk_getf (v := .ref tv) X.1 X.2.1 hp.2.2.1 hS X.2.2.2.1 (X.2.2.2.2 _ wl_9_181) (fun _ h9 => h9) dJ0_charAt_5068e_8 ?_
    refine lv_iload_n X.1 X.2.1 dJ0_charAt_5068e_11 rfl (lv_at hl 1 rfl) ?_
    refine ca_J1_charAt_3b067_e7 X hK hG hC (fun _ h => h.elim) hS hb hp x1 h1 htb wl_7_158 hl.1 (rest := []) rfl (Nat.le_of_ble_eq_true rfl) ⟨Nat.le_of_ble_eq_true rfl, Nat.le_of_ble_eq_true rfl⟩ ⟨Nat.le_of_ble_eq_true rfl, Nat.le_of_ble_eq_true rfl⟩ dJ0_charAt_5068e_12 (fun f5 locs hf5 hS => ?_)
    exact sg_zretP X hr (sg_cn hf5.1) hlk hS ⟨hf5.1, hf5.2⟩ dJ0_charAt_5068e_15

theorem ca_J0_charAt_5068e_e7   (X : CallFix p m c cc nL s args sg_tbl own) (hK : va_K D vwCl tys s) (hG : sgG (KT P) D vwCl (fun q : Nat => base ≤ q) tys ad ks H) (hC : sgC base s) (hA : ∀ q : Nat, A q → base ≤ q) (hS : va_S A s.heap H locs)  (hb : base ≤ s.heap.size) {ta tv : Nat} {tb : List Int32} (hp : P_S ta tv 7 tb A s) (x1 : Int32) (h1 : iv 0 6 x1) (htb : ∀ j : Nat, j < 7 → iv 0 127 (tb.getD j 0)) (hl : Cond.methodLink own index yJ0_charAt_5068e ∈ sg_tbl) (hsize : ls.size = nL) (hst : st0 = [.int x1].reverse ++ .ref ta :: rest) (hW : (rest.map fun v => v.category).sum ≤ 8) (hR : 4 ≤ R.frames ∧ 85 ≤ R.locals) (hf : cells ≤ R.cells ∧ slots ≤ R.slots) (hdg : decode cc pc = .ok (.invokevirtual index, 3)) (kk : ∀ (r : Int32) (locs1 : List Loc), (fun r : Int32 => iv 0 127 r ∧ r = tb.getD x1.toNatClampNeg 0) r → va_S A s.heap H locs1 → W p l e R s m args below meth c H locs1 cells slots Q (F0 m (pc + 3) ls (.int r :: rest))) : W p l e R s m args below meth c H locs cells slots Q (F0 m pc ls st0) :=
  sg_callEVi X hK hG hC hA hS hb hp (m_J0_charAt_5068e_e7 l ta tv tb x1 h1 htb) wl_7_157 wl_1_16 wl_7_155 wl_7_156 (n := 1) (by decide +kernel) rfl rfl rfl hl hsize hst hW hR hf hdg kk

set_option maxHeartbeats 8000000 in
set_option maxRecDepth 100000 in
theorem m_X12_spotOf_e7 (l : Launch) {D : va_G} {base : Nat} {tys : List (ClassId × FieldType)} {ad ks : List Nat} {P : sgPm} {Hx : Heap} (ta tv : Nat) (tb : List Int32) (x1 : Int32) (htb : ∀ j : Nat, j < 7 → iv 0 127 (tb.getD j 0)) : sgEi l (KT P) D vwCl base tys ad ks Hx ta tv 7 tb yX12_spotOf cX12_spotOf 3 (some .int) ({ frames := 4, cells := 0, slots := 0, locals := 85 }) [.ref ta, .int x1] (fun r : Int32 => iv (-1) 6 r ∧ r.toInt = vIx tb x1.toInt 7 0 ∧ (r = -1 ∨ iv 0 127 x1)) := by
  refine sg_ofE (Pq := fun Hx => va_Qi (fun r (_ : Unit) => (fun r : Int32 => iv (-1) 6 r ∧ r.toInt = vIx tb x1.toInt 7 0 ∧ (r = -1 ∨ iv 0 127 x1)) r) (fun _ t => t.heap = Hx) (fun _ : Nat => False)) (by decide +kernel) (Nat.le_of_ble_eq_true rfl) (fun p e s m below meth c X hr hlk hb hK hC hG ls hl hp => ?_)
  have hS : va_S (fun _ : Nat => False) s.heap s.heap [] := va_S.rf
  have hl : lv_has ls 3 [(0, .ref ta), (1, .int x1)] := hl
  refine lv_iconst (v := 0) X.1 X.2.1 dX12_spotOf_0 (by decide +kernel) ?_
  refine lv_istore_n (lv' := [(2, .int 0), (0, .ref ta), (1, .int x1)]) X.1 X.2.1 dX12_spotOf_1 rfl hl (by decide) rfl (fun ls hl => ?_)
  refine lv_iload_n X.1 X.2.1 dX12_spotOf_2 rfl (lv_at hl 0 rfl) ?_
  refine lv_aload_n X.1 X.2.1 dX12_spotOf_3 rfl (lv_at hl 1 rfl) ?_
  refine ca_J0_length_8abf5_7 X hK hG hC (fun _ h => h.elim) hS hb hp wl_7_150 hl.1 (rest := [.int 0]) rfl (Nat.le_of_ble_eq_true rfl) ⟨Nat.le_of_ble_eq_true rfl, Nat.le_of_ble_eq_true rfl⟩ ⟨Nat.le_of_ble_eq_true rfl, Nat.le_of_ble_eq_true rfl⟩ dX12_spotOf_4 (fun f1 locs hf1 hS => ?_)
  refine lv_icmp_ge (tgt := 27) X.1 X.2.1 dX12_spotOf_7 (by decide) (fun c2 => ?_) (fun c2 => ?_)
  · have i3 : ¬ (0 : Int) < (7 : Int) := vq_le c2 (vq_iv hf1) (by decide +kernel)
    exact ((iv_no (iv_le (b' := 0) c2 hf1 (iv_c 0 (a := 0) (b := 0) (by decide +kernel)) (by decide +kernel)) (by decide +kernel))).elim
  · have i4 : (0 : Int) < (7 : Int) := vq_lt (iv_gt_of c2) (by decide +kernel) (vq_iv hf1)
    refine lv_aload_n X.1 X.2.1 dX12_spotOf_10 rfl (lv_at hl 1 rfl) ?_
    refine lv_iload_n X.1 X.2.1 dX12_spotOf_11 rfl (lv_at hl 0 rfl) ?_
    refine ca_J0_charAt_5068e_e7 X hK hG hC (fun _ h => h.elim) hS hb hp 0 (iv_of (iv_c 0 (a := 0) (b := 0) (by decide +kernel)) (a' := 0) (b' := 6) (by decide +kernel)) htb wl_7_154 hl.1 (rest := []) rfl (Nat.le_of_ble_eq_true rfl) ⟨Nat.le_of_ble_eq_true rfl, Nat.le_of_ble_eq_true rfl⟩ ⟨Nat.le_of_ble_eq_true rfl, Nat.le_of_ble_eq_true rfl⟩ dX12_spotOf_12 (fun f5 locs hf5 hS => ?_)
    have xf5 : f5.toInt = (tb.getD 0 0).toInt := by rw [hf5.2, sg_cl (iv_c 0 (a := 0) (b := 0) (by decide +kernel)) (by decide)]; rfl
    refine lv_iload_n X.1 X.2.1 dX12_spotOf_15 rfl (lv_at hl 2 rfl) ?_
    refine lv_icmp_ne (tgt := 21) X.1 X.2.1 dX12_spotOf_16 (by decide) (fun c6 => ?_) (fun c6 => ?_)
    · have i7 : ((tb.getD 0 0).toInt = x1.toInt) = False := vq_ne c6 xf5 rfl
      obtain ⟨y9, ey9⟩ : ∃ y : Int32, y = 0 + Int32.ofInt 1 := ⟨_, rfl⟩
      have xy9 : y9.toInt = (0 + 1) := sg_exadd ey9 (iv_c 0 (a := 0) (b := 0) (by decide +kernel)) (iv_c _ (a := 1) (b := 1) (by decide +kernel)) (by decide +kernel) (by decide +kernel) (by decide +kernel)
      refine lv_iinc (v := y9) (lv' := [(2, .int y9), (0, .ref ta), (1, .int x1)]) X.1 X.2.1 dX12_spotOf_21 hl (k := 0) rfl ey9.symm (by decide) rfl (fun ls hl => ?_)
      refine lv_goto (tgt := 2) X.1 X.2.1 dX12_spotOf_24 (by decide) ?_
      refine lv_iload_n X.1 X.2.1 dX12_spotOf_2 rfl (lv_at hl 0 rfl) ?_
      refine lv_aload_n X.1 X.2.1 dX12_spotOf_3 rfl (lv_at hl 1 rfl) ?_
      refine ca_J0_length_8abf5_7 X hK hG hC (fun _ h => h.elim) hS hb hp wl_7_150 hl.1 (rest := [.int y9]) rfl (Nat.le_of_ble_eq_true rfl) ⟨Nat.le_of_ble_eq_true rfl, Nat.le_of_ble_eq_true rfl⟩ ⟨Nat.le_of_ble_eq_true rfl, Nat.le_of_ble_eq_true rfl⟩ dX12_spotOf_4 (fun f10 locs hf10 hS => ?_)
      refine lv_icmp_ge (tgt := 27) X.1 X.2.1 dX12_spotOf_7 (by decide) (fun c11 => ?_) (fun c11 => ?_)
      · have i12 : ¬ ((0 + 1) : Int) < (7 : Int) := vq_le c11 (vq_iv hf10) xy9
        exact ((iv_no (iv_le (b' := 1) c11 hf10 (iv_add (a' := 1) (b' := 1) ey9 (iv_c 0 (a := 0) (b := 0) (by decide +kernel)) (iv_c _ (a := 1) (b := 1) (by decide +kernel)) (by decide +kernel)) (by decide +kernel)) (by decide +kernel))).elim
      · have i13 : ((0 + 1) : Int) < (7 : Int) := vq_lt (iv_gt_of c11) xy9 (vq_iv hf10)
        refine lv_aload_n X.1 X.2.1 dX12_spotOf_10 rfl (lv_at hl 1 rfl) ?_
        refine lv_iload_n X.1 X.2.1 dX12_spotOf_11 rfl (lv_at hl 0 rfl) ?_
        refine ca_J0_charAt_5068e_e7 X hK hG hC (fun _ h => h.elim) hS hb hp y9 (iv_of (iv_add (a' := 1) (b' := 1) ey9 (iv_c 0 (a := 0) (b := 0) (by decide +kernel)) (iv_c _ (a := 1) (b := 1) (by decide +kernel)) (by decide +kernel)) (a' := 0) (b' := 6) (by decide +kernel)) htb wl_7_154 hl.1 (rest := []) rfl (Nat.le_of_ble_eq_true rfl) ⟨Nat.le_of_ble_eq_true rfl, Nat.le_of_ble_eq_true rfl⟩ ⟨Nat.le_of_ble_eq_true rfl, Nat.le_of_ble_eq_true rfl⟩ dX12_spotOf_12 (fun f14 locs hf14 hS => ?_)
        have xf14 : f14.toInt = (tb.getD 1 0).toInt := by rw [hf14.2, sg_cl (iv_add (a' := 1) (b' := 1) ey9 (iv_c 0 (a := 0) (b := 0) (by decide +kernel)) (iv_c _ (a := 1) (b := 1) (by decide +kernel)) (by decide +kernel)) (by decide)]; rfl
        refine lv_iload_n X.1 X.2.1 dX12_spotOf_15 rfl (lv_at hl 2 rfl) ?_
        refine lv_icmp_ne (tgt := 21) X.1 X.2.1 dX12_spotOf_16 (by decide) (fun c15 => ?_) (fun c15 => ?_)
        · have i16 : ((tb.getD 1 0).toInt = x1.toInt) = False := vq_ne c15 xf14 rfl
          obtain ⟨y18, ey18⟩ : ∃ y : Int32, y = y9 + Int32.ofInt 1 := ⟨_, rfl⟩
          have xy18 : y18.toInt = ((0 + 1) + 1) := sg_exadd ey18 (iv_add (a' := 1) (b' := 1) ey9 (iv_c 0 (a := 0) (b := 0) (by decide +kernel)) (iv_c _ (a := 1) (b := 1) (by decide +kernel)) (by decide +kernel)) (iv_c _ (a := 1) (b := 1) (by decide +kernel)) (by decide +kernel) xy9 (by decide +kernel)
          refine lv_iinc (v := y18) (lv' := [(2, .int y18), (0, .ref ta), (1, .int x1)]) X.1 X.2.1 dX12_spotOf_21 hl (k := 0) rfl ey18.symm (by decide) rfl (fun ls hl => ?_)
          refine lv_goto (tgt := 2) X.1 X.2.1 dX12_spotOf_24 (by decide) ?_
          refine lv_iload_n X.1 X.2.1 dX12_spotOf_2 rfl (lv_at hl 0 rfl) ?_
          refine lv_aload_n X.1 X.2.1 dX12_spotOf_3 rfl (lv_at hl 1 rfl) ?_
          refine ca_J0_length_8abf5_7 X hK hG hC (fun _ h => h.elim) hS hb hp wl_7_150 hl.1 (rest := [.int y18]) rfl (Nat.le_of_ble_eq_true rfl) ⟨Nat.le_of_ble_eq_true rfl, Nat.le_of_ble_eq_true rfl⟩ ⟨Nat.le_of_ble_eq_true rfl, Nat.le_of_ble_eq_true rfl⟩ dX12_spotOf_4 (fun f19 locs hf19 hS => ?_)
          refine lv_icmp_ge (tgt := 27) X.1 X.2.1 dX12_spotOf_7 (by decide) (fun c20 => ?_) (fun c20 => ?_)
          · have i21 : ¬ (((0 + 1) + 1) : Int) < (7 : Int) := vq_le c20 (vq_iv hf19) xy18
            exact ((iv_no (iv_le (b' := 2) c20 hf19 (iv_add (a' := 2) (b' := 2) ey18 (iv_add (a' := 1) (b' := 1) ey9 (iv_c 0 (a := 0) (b := 0) (by decide +kernel)) (iv_c _ (a := 1) (b := 1) (by decide +kernel)) (by decide +kernel)) (iv_c _ (a := 1) (b := 1) (by decide +kernel)) (by decide +kernel)) (by decide +kernel)) (by decide +kernel))).elim
          · have i22 : (((0 + 1) + 1) : Int) < (7 : Int) := vq_lt (iv_gt_of c20) xy18 (vq_iv hf19)
            refine lv_aload_n X.1 X.2.1 dX12_spotOf_10 rfl (lv_at hl 1 rfl) ?_
            refine lv_iload_n X.1 X.2.1 dX12_spotOf_11 rfl (lv_at hl 0 rfl) ?_
            refine ca_J0_charAt_5068e_e7 X hK hG hC (fun _ h => h.elim) hS hb hp y18 (iv_of (iv_add (a' := 2) (b' := 2) ey18 (iv_add (a' := 1) (b' := 1) ey9 (iv_c 0 (a := 0) (b := 0) (by decide +kernel)) (iv_c _ (a := 1) (b := 1) (by decide +kernel)) (by decide +kernel)) (iv_c _ (a := 1) (b := 1) (by decide +kernel)) (by decide +kernel)) (a' := 0) (b' := 6) (by decide +kernel)) htb wl_7_154 hl.1 (rest := []) rfl (Nat.le_of_ble_eq_true rfl) ⟨Nat.le_of_ble_eq_true rfl, Nat.le_of_ble_eq_true rfl⟩ ⟨Nat.le_of_ble_eq_true rfl, Nat.le_of_ble_eq_true rfl⟩ dX12_spotOf_12 (fun f23 locs hf23 hS => ?_)
            have xf23 : f23.toInt = (tb.getD 2 0).toInt := by rw [hf23.2, sg_cl (iv_add (a' := 2) (b' := 2) ey18 (iv_add (a' := 1) (b' := 1) ey9 (iv_c 0 (a := 0) (b := 0) (by decide +kernel)) (iv_c _ (a := 1) (b := 1) (by decide +kernel)) (by decide +kernel)) (iv_c _ (a := 1) (b := 1) (by decide +kernel)) (by decide +kernel)) (by decide)]; rfl
            refine lv_iload_n X.1 X.2.1 dX12_spotOf_15 rfl (lv_at hl 2 rfl) ?_
            refine lv_icmp_ne (tgt := 21) X.1 X.2.1 dX12_spotOf_16 (by decide) (fun c24 => ?_) (fun c24 => ?_)
            · have i25 : ((tb.getD 2 0).toInt = x1.toInt) = False := vq_ne c24 xf23 rfl
              obtain ⟨y27, ey27⟩ : ∃ y : Int32, y = y18 + Int32.ofInt 1 := ⟨_, rfl⟩
              have xy27 : y27.toInt = (((0 + 1) + 1) + 1) := sg_exadd ey27 (iv_add (a' := 2) (b' := 2) ey18 (iv_add (a' := 1) (b' := 1) ey9 (iv_c 0 (a := 0) (b := 0) (by decide +kernel)) (iv_c _ (a := 1) (b := 1) (by decide +kernel)) (by decide +kernel)) (iv_c _ (a := 1) (b := 1) (by decide +kernel)) (by decide +kernel)) (iv_c _ (a := 1) (b := 1) (by decide +kernel)) (by decide +kernel) xy18 (by decide +kernel)
              refine lv_iinc (v := y27) (lv' := [(2, .int y27), (0, .ref ta), (1, .int x1)]) X.1 X.2.1 dX12_spotOf_21 hl (k := 0) rfl ey27.symm (by decide) rfl (fun ls hl => ?_)
              refine lv_goto (tgt := 2) X.1 X.2.1 dX12_spotOf_24 (by decide) ?_
              refine lv_iload_n X.1 X.2.1 dX12_spotOf_2 rfl (lv_at hl 0 rfl) ?_
              refine lv_aload_n X.1 X.2.1 dX12_spotOf_3 rfl (lv_at hl 1 rfl) ?_
              refine ca_J0_length_8abf5_7 X hK hG hC (fun _ h => h.elim) hS hb hp wl_7_150 hl.1 (rest := [.int y27]) rfl (Nat.le_of_ble_eq_true rfl) ⟨Nat.le_of_ble_eq_true rfl, Nat.le_of_ble_eq_true rfl⟩ ⟨Nat.le_of_ble_eq_true rfl, Nat.le_of_ble_eq_true rfl⟩ dX12_spotOf_4 (fun f28 locs hf28 hS => ?_)
              refine lv_icmp_ge (tgt := 27) X.1 X.2.1 dX12_spotOf_7 (by decide) (fun c29 => ?_) (fun c29 => ?_)
              · have i30 : ¬ ((((0 + 1) + 1) + 1) : Int) < (7 : Int) := vq_le c29 (vq_iv hf28) xy27
                exact ((iv_no (iv_le (b' := 3) c29 hf28 (iv_add (a' := 3) (b' := 3) ey27 (iv_add (a' := 2) (b' := 2) ey18 (iv_add (a' := 1) (b' := 1) ey9 (iv_c 0 (a := 0) (b := 0) (by decide +kernel)) (iv_c _ (a := 1) (b := 1) (by decide +kernel)) (by decide +kernel)) (iv_c _ (a := 1) (b := 1) (by decide +kernel)) (by decide +kernel)) (iv_c _ (a := 1) (b := 1) (by decide +kernel)) (by decide +kernel)) (by decide +kernel)) (by decide +kernel))).elim
              · have i31 : ((((0 + 1) + 1) + 1) : Int) < (7 : Int) := vq_lt (iv_gt_of c29) xy27 (vq_iv hf28)
                refine lv_aload_n X.1 X.2.1 dX12_spotOf_10 rfl (lv_at hl 1 rfl) ?_
                refine lv_iload_n X.1 X.2.1 dX12_spotOf_11 rfl (lv_at hl 0 rfl) ?_
                refine ca_J0_charAt_5068e_e7 X hK hG hC (fun _ h => h.elim) hS hb hp y27 (iv_of (iv_add (a' := 3) (b' := 3) ey27 (iv_add (a' := 2) (b' := 2) ey18 (iv_add (a' := 1) (b' := 1) ey9 (iv_c 0 (a := 0) (b := 0) (by decide +kernel)) (iv_c _ (a := 1) (b := 1) (by decide +kernel)) (by decide +kernel)) (iv_c _ (a := 1) (b := 1) (by decide +kernel)) (by decide +kernel)) (iv_c _ (a := 1) (b := 1) (by decide +kernel)) (by decide +kernel)) (a' := 0) (b' := 6) (by decide +kernel)) htb wl_7_154 hl.1 (rest := []) rfl (Nat.le_of_ble_eq_true rfl) ⟨Nat.le_of_ble_eq_true rfl, Nat.le_of_ble_eq_true rfl⟩ ⟨Nat.le_of_ble_eq_true rfl, Nat.le_of_ble_eq_true rfl⟩ dX12_spotOf_12 (fun f32 locs hf32 hS => ?_)
                have xf32 : f32.toInt = (tb.getD 3 0).toInt := by rw [hf32.2, sg_cl (iv_add (a' := 3) (b' := 3) ey27 (iv_add (a' := 2) (b' := 2) ey18 (iv_add (a' := 1) (b' := 1) ey9 (iv_c 0 (a := 0) (b := 0) (by decide +kernel)) (iv_c _ (a := 1) (b := 1) (by decide +kernel)) (by decide +kernel)) (iv_c _ (a := 1) (b := 1) (by decide +kernel)) (by decide +kernel)) (iv_c _ (a := 1) (b := 1) (by decide +kernel)) (by decide +kernel)) (by decide)]; rfl
                refine lv_iload_n X.1 X.2.1 dX12_spotOf_15 rfl (lv_at hl 2 rfl) ?_
                refine lv_icmp_ne (tgt := 21) X.1 X.2.1 dX12_spotOf_16 (by decide) (fun c33 => ?_) (fun c33 => ?_)
                · have i34 : ((tb.getD 3 0).toInt = x1.toInt) = False := vq_ne c33 xf32 rfl
                  obtain ⟨y36, ey36⟩ : ∃ y : Int32, y = y27 + Int32.ofInt 1 := ⟨_, rfl⟩
                  have xy36 : y36.toInt = ((((0 + 1) + 1) + 1) + 1) := sg_exadd ey36 (iv_add (a' := 3) (b' := 3) ey27 (iv_add (a' := 2) (b' := 2) ey18 (iv_add (a' := 1) (b' := 1) ey9 (iv_c 0 (a := 0) (b := 0) (by decide +kernel)) (iv_c _ (a := 1) (b := 1) (by decide +kernel)) (by decide +kernel)) (iv_c _ (a := 1) (b := 1) (by decide +kernel)) (by decide +kernel)) (iv_c _ (a := 1) (b := 1) (by decide +kernel)) (by decide +kernel)) (iv_c _ (a := 1) (b := 1) (by decide +kernel)) (by decide +kernel) xy27 (by decide +kernel)
                  refine lv_iinc (v := y36) (lv' := [(2, .int y36), (0, .ref ta), (1, .int x1)]) X.1 X.2.1 dX12_spotOf_21 hl (k := 0) rfl ey36.symm (by decide) rfl (fun ls hl => ?_)
                  refine lv_goto (tgt := 2) X.1 X.2.1 dX12_spotOf_24 (by decide) ?_
                  refine lv_iload_n X.1 X.2.1 dX12_spotOf_2 rfl (lv_at hl 0 rfl) ?_
                  refine lv_aload_n X.1 X.2.1 dX12_spotOf_3 rfl (lv_at hl 1 rfl) ?_
                  refine ca_J0_length_8abf5_7 X hK hG hC (fun _ h => h.elim) hS hb hp wl_7_150 hl.1 (rest := [.int y36]) rfl (Nat.le_of_ble_eq_true rfl) ⟨Nat.le_of_ble_eq_true rfl, Nat.le_of_ble_eq_true rfl⟩ ⟨Nat.le_of_ble_eq_true rfl, Nat.le_of_ble_eq_true rfl⟩ dX12_spotOf_4 (fun f37 locs hf37 hS => ?_)
                  refine lv_icmp_ge (tgt := 27) X.1 X.2.1 dX12_spotOf_7 (by decide) (fun c38 => ?_) (fun c38 => ?_)
                  · have i39 : ¬ (((((0 + 1) + 1) + 1) + 1) : Int) < (7 : Int) := vq_le c38 (vq_iv hf37) xy36
                    exact ((iv_no (iv_le (b' := 4) c38 hf37 (iv_add (a' := 4) (b' := 4) ey36 (iv_add (a' := 3) (b' := 3) ey27 (iv_add (a' := 2) (b' := 2) ey18 (iv_add (a' := 1) (b' := 1) ey9 (iv_c 0 (a := 0) (b := 0) (by decide +kernel)) (iv_c _ (a := 1) (b := 1) (by decide +kernel)) (by decide +kernel)) (iv_c _ (a := 1) (b := 1) (by decide +kernel)) (by decide +kernel)) (iv_c _ (a := 1) (b := 1) (by decide +kernel)) (by decide +kernel)) (iv_c _ (a := 1) (b := 1) (by decide +kernel)) (by decide +kernel)) (by decide +kernel)) (by decide +kernel))).elim
                  · have i40 : (((((0 + 1) + 1) + 1) + 1) : Int) < (7 : Int) := vq_lt (iv_gt_of c38) xy36 (vq_iv hf37)
                    refine lv_aload_n X.1 X.2.1 dX12_spotOf_10 rfl (lv_at hl 1 rfl) ?_
                    refine lv_iload_n X.1 X.2.1 dX12_spotOf_11 rfl (lv_at hl 0 rfl) ?_
                    refine ca_J0_charAt_5068e_e7 X hK hG hC (fun _ h => h.elim) hS hb hp y36 (iv_of (iv_add (a' := 4) (b' := 4) ey36 (iv_add (a' := 3) (b' := 3) ey27 (iv_add (a' := 2) (b' := 2) ey18 (iv_add (a' := 1) (b' := 1) ey9 (iv_c 0 (a := 0) (b := 0) (by decide +kernel)) (iv_c _ (a := 1) (b := 1) (by decide +kernel)) (by decide +kernel)) (iv_c _ (a := 1) (b := 1) (by decide +kernel)) (by decide +kernel)) (iv_c _ (a := 1) (b := 1) (by decide +kernel)) (by decide +kernel)) (iv_c _ (a := 1) (b := 1) (by decide +kernel)) (by decide +kernel)) (a' := 0) (b' := 6) (by decide +kernel)) htb wl_7_154 hl.1 (rest := []) rfl (Nat.le_of_ble_eq_true rfl) ⟨Nat.le_of_ble_eq_true rfl, Nat.le_of_ble_eq_true rfl⟩ ⟨Nat.le_of_ble_eq_true rfl, Nat.le_of_ble_eq_true rfl⟩ dX12_spotOf_12 (fun f41 locs hf41 hS => ?_)
                    have xf41 : f41.toInt = (tb.getD 4 0).toInt := by rw [hf41.2, sg_cl (iv_add (a' := 4) (b' := 4) ey36 (iv_add (a' := 3) (b' := 3) ey27 (iv_add (a' := 2) (b' := 2) ey18 (iv_add (a' := 1) (b' := 1) ey9 (iv_c 0 (a := 0) (b := 0) (by decide +kernel)) (iv_c _ (a := 1) (b := 1) (by decide +kernel)) (by decide +kernel)) (iv_c _ (a := 1) (b := 1) (by decide +kernel)) (by decide +kernel)) (iv_c _ (a := 1) (b := 1) (by decide +kernel)) (by decide +kernel)) (iv_c _ (a := 1) (b := 1) (by decide +kernel)) (by decide +kernel)) (by decide)]; rfl
                    refine lv_iload_n X.1 X.2.1 dX12_spotOf_15 rfl (lv_at hl 2 rfl) ?_
                    refine lv_icmp_ne (tgt := 21) X.1 X.2.1 dX12_spotOf_16 (by decide) (fun c42 => ?_) (fun c42 => ?_)
                    · have i43 : ((tb.getD 4 0).toInt = x1.toInt) = False := vq_ne c42 xf41 rfl
                      obtain ⟨y45, ey45⟩ : ∃ y : Int32, y = y36 + Int32.ofInt 1 := ⟨_, rfl⟩
                      have xy45 : y45.toInt = (((((0 + 1) + 1) + 1) + 1) + 1) := sg_exadd ey45 (iv_add (a' := 4) (b' := 4) ey36 (iv_add (a' := 3) (b' := 3) ey27 (iv_add (a' := 2) (b' := 2) ey18 (iv_add (a' := 1) (b' := 1) ey9 (iv_c 0 (a := 0) (b := 0) (by decide +kernel)) (iv_c _ (a := 1) (b := 1) (by decide +kernel)) (by decide +kernel)) (iv_c _ (a := 1) (b := 1) (by decide +kernel)) (by decide +kernel)) (iv_c _ (a := 1) (b := 1) (by decide +kernel)) (by decide +kernel)) (iv_c _ (a := 1) (b := 1) (by decide +kernel)) (by decide +kernel)) (iv_c _ (a := 1) (b := 1) (by decide +kernel)) (by decide +kernel) xy36 (by decide +kernel)
                      refine lv_iinc (v := y45) (lv' := [(2, .int y45), (0, .ref ta), (1, .int x1)]) X.1 X.2.1 dX12_spotOf_21 hl (k := 0) rfl ey45.symm (by decide) rfl (fun ls hl => ?_)
                      refine lv_goto (tgt := 2) X.1 X.2.1 dX12_spotOf_24 (by decide) ?_
                      refine lv_iload_n X.1 X.2.1 dX12_spotOf_2 rfl (lv_at hl 0 rfl) ?_
                      refine lv_aload_n X.1 X.2.1 dX12_spotOf_3 rfl (lv_at hl 1 rfl) ?_
                      refine ca_J0_length_8abf5_7 X hK hG hC (fun _ h => h.elim) hS hb hp wl_7_150 hl.1 (rest := [.int y45]) rfl (Nat.le_of_ble_eq_true rfl) ⟨Nat.le_of_ble_eq_true rfl, Nat.le_of_ble_eq_true rfl⟩ ⟨Nat.le_of_ble_eq_true rfl, Nat.le_of_ble_eq_true rfl⟩ dX12_spotOf_4 (fun f46 locs hf46 hS => ?_)
                      refine lv_icmp_ge (tgt := 27) X.1 X.2.1 dX12_spotOf_7 (by decide) (fun c47 => ?_) (fun c47 => ?_)
                      · have i48 : ¬ ((((((0 + 1) + 1) + 1) + 1) + 1) : Int) < (7 : Int) := vq_le c47 (vq_iv hf46) xy45
                        exact ((iv_no (iv_le (b' := 5) c47 hf46 (iv_add (a' := 5) (b' := 5) ey45 (iv_add (a' := 4) (b' := 4) ey36 (iv_add (a' := 3) (b' := 3) ey27 (iv_add (a' := 2) (b' := 2) ey18 (iv_add (a' := 1) (b' := 1) ey9 (iv_c 0 (a := 0) (b := 0) (by decide +kernel)) (iv_c _ (a := 1) (b := 1) (by decide +kernel)) (by decide +kernel)) (iv_c _ (a := 1) (b := 1) (by decide +kernel)) (by decide +kernel)) (iv_c _ (a := 1) (b := 1) (by decide +kernel)) (by decide +kernel)) (iv_c _ (a := 1) (b := 1) (by decide +kernel)) (by decide +kernel)) (iv_c _ (a := 1) (b := 1) (by decide +kernel)) (by decide +kernel)) (by decide +kernel)) (by decide +kernel))).elim
                      · have i49 : ((((((0 + 1) + 1) + 1) + 1) + 1) : Int) < (7 : Int) := vq_lt (iv_gt_of c47) xy45 (vq_iv hf46)
                        refine lv_aload_n X.1 X.2.1 dX12_spotOf_10 rfl (lv_at hl 1 rfl) ?_
                        refine lv_iload_n X.1 X.2.1 dX12_spotOf_11 rfl (lv_at hl 0 rfl) ?_
                        refine ca_J0_charAt_5068e_e7 X hK hG hC (fun _ h => h.elim) hS hb hp y45 (iv_of (iv_add (a' := 5) (b' := 5) ey45 (iv_add (a' := 4) (b' := 4) ey36 (iv_add (a' := 3) (b' := 3) ey27 (iv_add (a' := 2) (b' := 2) ey18 (iv_add (a' := 1) (b' := 1) ey9 (iv_c 0 (a := 0) (b := 0) (by decide +kernel)) (iv_c _ (a := 1) (b := 1) (by decide +kernel)) (by decide +kernel)) (iv_c _ (a := 1) (b := 1) (by decide +kernel)) (by decide +kernel)) (iv_c _ (a := 1) (b := 1) (by decide +kernel)) (by decide +kernel)) (iv_c _ (a := 1) (b := 1) (by decide +kernel)) (by decide +kernel)) (iv_c _ (a := 1) (b := 1) (by decide +kernel)) (by decide +kernel)) (a' := 0) (b' := 6) (by decide +kernel)) htb wl_7_154 hl.1 (rest := []) rfl (Nat.le_of_ble_eq_true rfl) ⟨Nat.le_of_ble_eq_true rfl, Nat.le_of_ble_eq_true rfl⟩ ⟨Nat.le_of_ble_eq_true rfl, Nat.le_of_ble_eq_true rfl⟩ dX12_spotOf_12 (fun f50 locs hf50 hS => ?_)
                        have xf50 : f50.toInt = (tb.getD 5 0).toInt := by rw [hf50.2, sg_cl (iv_add (a' := 5) (b' := 5) ey45 (iv_add (a' := 4) (b' := 4) ey36 (iv_add (a' := 3) (b' := 3) ey27 (iv_add (a' := 2) (b' := 2) ey18 (iv_add (a' := 1) (b' := 1) ey9 (iv_c 0 (a := 0) (b := 0) (by decide +kernel)) (iv_c _ (a := 1) (b := 1) (by decide +kernel)) (by decide +kernel)) (iv_c _ (a := 1) (b := 1) (by decide +kernel)) (by decide +kernel)) (iv_c _ (a := 1) (b := 1) (by decide +kernel)) (by decide +kernel)) (iv_c _ (a := 1) (b := 1) (by decide +kernel)) (by decide +kernel)) (iv_c _ (a := 1) (b := 1) (by decide +kernel)) (by decide +kernel)) (by decide)]; rfl
                        refine lv_iload_n X.1 X.2.1 dX12_spotOf_15 rfl (lv_at hl 2 rfl) ?_
                        refine lv_icmp_ne (tgt := 21) X.1 X.2.1 dX12_spotOf_16 (by decide) (fun c51 => ?_) (fun c51 => ?_)
                        · have i52 : ((tb.getD 5 0).toInt = x1.toInt) = False := vq_ne c51 xf50 rfl
                          obtain ⟨y54, ey54⟩ : ∃ y : Int32, y = y45 + Int32.ofInt 1 := ⟨_, rfl⟩
                          have xy54 : y54.toInt = ((((((0 + 1) + 1) + 1) + 1) + 1) + 1) := sg_exadd ey54 (iv_add (a' := 5) (b' := 5) ey45 (iv_add (a' := 4) (b' := 4) ey36 (iv_add (a' := 3) (b' := 3) ey27 (iv_add (a' := 2) (b' := 2) ey18 (iv_add (a' := 1) (b' := 1) ey9 (iv_c 0 (a := 0) (b := 0) (by decide +kernel)) (iv_c _ (a := 1) (b := 1) (by decide +kernel)) (by decide +kernel)) (iv_c _ (a := 1) (b := 1) (by decide +kernel)) (by decide +kernel)) (iv_c _ (a := 1) (b := 1) (by decide +kernel)) (by decide +kernel)) (iv_c _ (a := 1) (b := 1) (by decide +kernel)) (by decide +kernel)) (iv_c _ (a := 1) (b := 1) (by decide +kernel)) (by decide +kernel)) (iv_c _ (a := 1) (b := 1) (by decide +kernel)) (by decide +kernel) xy45 (by decide +kernel)
                          refine lv_iinc (v := y54) (lv' := [(2, .int y54), (0, .ref ta), (1, .int x1)]) X.1 X.2.1 dX12_spotOf_21 hl (k := 0) rfl ey54.symm (by decide) rfl (fun ls hl => ?_)
                          refine lv_goto (tgt := 2) X.1 X.2.1 dX12_spotOf_24 (by decide) ?_
                          refine lv_iload_n X.1 X.2.1 dX12_spotOf_2 rfl (lv_at hl 0 rfl) ?_
                          refine lv_aload_n X.1 X.2.1 dX12_spotOf_3 rfl (lv_at hl 1 rfl) ?_
                          refine ca_J0_length_8abf5_7 X hK hG hC (fun _ h => h.elim) hS hb hp wl_7_150 hl.1 (rest := [.int y54]) rfl (Nat.le_of_ble_eq_true rfl) ⟨Nat.le_of_ble_eq_true rfl, Nat.le_of_ble_eq_true rfl⟩ ⟨Nat.le_of_ble_eq_true rfl, Nat.le_of_ble_eq_true rfl⟩ dX12_spotOf_4 (fun f55 locs hf55 hS => ?_)
                          refine lv_icmp_ge (tgt := 27) X.1 X.2.1 dX12_spotOf_7 (by decide) (fun c56 => ?_) (fun c56 => ?_)
                          · have i57 : ¬ (((((((0 + 1) + 1) + 1) + 1) + 1) + 1) : Int) < (7 : Int) := vq_le c56 (vq_iv hf55) xy54
                            exact ((iv_no (iv_le (b' := 6) c56 hf55 (iv_add (a' := 6) (b' := 6) ey54 (iv_add (a' := 5) (b' := 5) ey45 (iv_add (a' := 4) (b' := 4) ey36 (iv_add (a' := 3) (b' := 3) ey27 (iv_add (a' := 2) (b' := 2) ey18 (iv_add (a' := 1) (b' := 1) ey9 (iv_c 0 (a := 0) (b := 0) (by decide +kernel)) (iv_c _ (a := 1) (b := 1) (by decide +kernel)) (by decide +kernel)) (iv_c _ (a := 1) (b := 1) (by decide +kernel)) (by decide +kernel)) (iv_c _ (a := 1) (b := 1) (by decide +kernel)) (by decide +kernel)) (iv_c _ (a := 1) (b := 1) (by decide +kernel)) (by decide +kernel)) (iv_c _ (a := 1) (b := 1) (by decide +kernel)) (by decide +kernel)) (iv_c _ (a := 1) (b := 1) (by decide +kernel)) (by decide +kernel)) (by decide +kernel)) (by decide +kernel))).elim
                          · have i58 : (((((((0 + 1) + 1) + 1) + 1) + 1) + 1) : Int) < (7 : Int) := vq_lt (iv_gt_of c56) xy54 (vq_iv hf55)
                            refine lv_aload_n X.1 X.2.1 dX12_spotOf_10 rfl (lv_at hl 1 rfl) ?_
                            refine lv_iload_n X.1 X.2.1 dX12_spotOf_11 rfl (lv_at hl 0 rfl) ?_
                            refine ca_J0_charAt_5068e_e7 X hK hG hC (fun _ h => h.elim) hS hb hp y54 (iv_of (iv_add (a' := 6) (b' := 6) ey54 (iv_add (a' := 5) (b' := 5) ey45 (iv_add (a' := 4) (b' := 4) ey36 (iv_add (a' := 3) (b' := 3) ey27 (iv_add (a' := 2) (b' := 2) ey18 (iv_add (a' := 1) (b' := 1) ey9 (iv_c 0 (a := 0) (b := 0) (by decide +kernel)) (iv_c _ (a := 1) (b := 1) (by decide +kernel)) (by decide +kernel)) (iv_c _ (a := 1) (b := 1) (by decide +kernel)) (by decide +kernel)) (iv_c _ (a := 1) (b := 1) (by decide +kernel)) (by decide +kernel)) (iv_c _ (a := 1) (b := 1) (by decide +kernel)) (by decide +kernel)) (iv_c _ (a := 1) (b := 1) (by decide +kernel)) (by decide +kernel)) (iv_c _ (a := 1) (b := 1) (by decide +kernel)) (by decide +kernel)) (a' := 0) (b' := 6) (by decide +kernel)) htb wl_7_154 hl.1 (rest := []) rfl (Nat.le_of_ble_eq_true rfl) ⟨Nat.le_of_ble_eq_true rfl, Nat.le_of_ble_eq_true rfl⟩ ⟨Nat.le_of_ble_eq_true rfl, Nat.le_of_ble_eq_true rfl⟩ dX12_spotOf_12 (fun f59 locs hf59 hS => ?_)
                            have xf59 : f59.toInt = (tb.getD 6 0).toInt := by rw [hf59.2, sg_cl (iv_add (a' := 6) (b' := 6) ey54 (iv_add (a' := 5) (b' := 5) ey45 (iv_add (a' := 4) (b' := 4) ey36 (iv_add (a' := 3) (b' := 3) ey27 (iv_add (a' := 2) (b' := 2) ey18 (iv_add (a' := 1) (b' := 1) ey9 (iv_c 0 (a := 0) (b := 0) (by decide +kernel)) (iv_c _ (a := 1) (b := 1) (by decide +kernel)) (by decide +kernel)) (iv_c _ (a := 1) (b := 1) (by decide +kernel)) (by decide +kernel)) (iv_c _ (a := 1) (b := 1) (by decide +kernel)) (by decide +kernel)) (iv_c _ (a := 1) (b := 1) (by decide +kernel)) (by decide +kernel)) (iv_c _ (a := 1) (b := 1) (by decide +kernel)) (by decide +kernel)) (iv_c _ (a := 1) (b := 1) (by decide +kernel)) (by decide +kernel)) (by decide)]; rfl
                            refine lv_iload_n X.1 X.2.1 dX12_spotOf_15 rfl (lv_at hl 2 rfl) ?_
                            refine lv_icmp_ne (tgt := 21) X.1 X.2.1 dX12_spotOf_16 (by decide) (fun c60 => ?_) (fun c60 => ?_)
                            · have i61 : ((tb.getD 6 0).toInt = x1.toInt) = False := vq_ne c60 xf59 rfl
                              obtain ⟨y63, ey63⟩ : ∃ y : Int32, y = y54 + Int32.ofInt 1 := ⟨_, rfl⟩
                              have xy63 : y63.toInt = (((((((0 + 1) + 1) + 1) + 1) + 1) + 1) + 1) := sg_exadd ey63 (iv_add (a' := 6) (b' := 6) ey54 (iv_add (a' := 5) (b' := 5) ey45 (iv_add (a' := 4) (b' := 4) ey36 (iv_add (a' := 3) (b' := 3) ey27 (iv_add (a' := 2) (b' := 2) ey18 (iv_add (a' := 1) (b' := 1) ey9 (iv_c 0 (a := 0) (b := 0) (by decide +kernel)) (iv_c _ (a := 1) (b := 1) (by decide +kernel)) (by decide +kernel)) (iv_c _ (a := 1) (b := 1) (by decide +kernel)) (by decide +kernel)) (iv_c _ (a := 1) (b := 1) (by decide +kernel)) (by decide +kernel)) (iv_c _ (a := 1) (b := 1) (by decide +kernel)) (by decide +kernel)) (iv_c _ (a := 1) (b := 1) (by decide +kernel)) (by decide +kernel)) (iv_c _ (a := 1) (b := 1) (by decide +kernel)) (by decide +kernel)) (iv_c _ (a := 1) (b := 1) (by decide +kernel)) (by decide +kernel) xy54 (by decide +kernel)
                              refine lv_iinc (v := y63) (lv' := [(2, .int y63), (0, .ref ta), (1, .int x1)]) X.1 X.2.1 dX12_spotOf_21 hl (k := 0) rfl ey63.symm (by decide) rfl (fun ls hl => ?_)
                              refine lv_goto (tgt := 2) X.1 X.2.1 dX12_spotOf_24 (by decide) ?_
                              refine lv_iload_n X.1 X.2.1 dX12_spotOf_2 rfl (lv_at hl 0 rfl) ?_
                              refine lv_aload_n X.1 X.2.1 dX12_spotOf_3 rfl (lv_at hl 1 rfl) ?_
                              refine ca_J0_length_8abf5_7 X hK hG hC (fun _ h => h.elim) hS hb hp wl_7_150 hl.1 (rest := [.int y63]) rfl (Nat.le_of_ble_eq_true rfl) ⟨Nat.le_of_ble_eq_true rfl, Nat.le_of_ble_eq_true rfl⟩ ⟨Nat.le_of_ble_eq_true rfl, Nat.le_of_ble_eq_true rfl⟩ dX12_spotOf_4 (fun f64 locs hf64 hS => ?_)
                              refine lv_icmp_ge (tgt := 27) X.1 X.2.1 dX12_spotOf_7 (by decide) (fun c65 => ?_) (fun c65 => ?_)
                              · have i66 : ¬ ((((((((0 + 1) + 1) + 1) + 1) + 1) + 1) + 1) : Int) < (7 : Int) := vq_le c65 (vq_iv hf64) xy63
                                refine lv_iconst (v := (-1)) X.1 X.2.1 dX12_spotOf_27 (by decide +kernel) ?_
                                exact sg_iretP X hr hlk hS ⟨(iv_of (iv_c (-1) (a := (-1)) (b := (-1)) (by decide +kernel)) (a' := (-1)) (b' := 6) (by decide +kernel)), (by rw [show ((-1) : Int32).toInt = (-1 : Int) from (by decide +kernel)]; simp only [vIx, i4, i7, i13, i16, i22, i25, i31, i34, i40, i43, i49, i52, i58, i61, i66, if_true, if_false]), Or.inl rfl⟩ dX12_spotOf_28
                              · have i67 : ((((((((0 + 1) + 1) + 1) + 1) + 1) + 1) + 1) : Int) < (7 : Int) := vq_lt (iv_gt_of c65) xy63 (vq_iv hf64)
                                exact ((iv_no (iv_lt (b' := 6) (iv_gt_of c65) (iv_add (a' := 7) (b' := 7) ey63 (iv_add (a' := 6) (b' := 6) ey54 (iv_add (a' := 5) (b' := 5) ey45 (iv_add (a' := 4) (b' := 4) ey36 (iv_add (a' := 3) (b' := 3) ey27 (iv_add (a' := 2) (b' := 2) ey18 (iv_add (a' := 1) (b' := 1) ey9 (iv_c 0 (a := 0) (b := 0) (by decide +kernel)) (iv_c _ (a := 1) (b := 1) (by decide +kernel)) (by decide +kernel)) (iv_c _ (a := 1) (b := 1) (by decide +kernel)) (by decide +kernel)) (iv_c _ (a := 1) (b := 1) (by decide +kernel)) (by decide +kernel)) (iv_c _ (a := 1) (b := 1) (by decide +kernel)) (by decide +kernel)) (iv_c _ (a := 1) (b := 1) (by decide +kernel)) (by decide +kernel)) (iv_c _ (a := 1) (b := 1) (by decide +kernel)) (by decide +kernel)) (iv_c _ (a := 1) (b := 1) (by decide +kernel)) (by decide +kernel)) hf64 (by decide +kernel)) (by decide +kernel))).elim
                            · have i62 : (tb.getD 6 0).toInt = x1.toInt := vq_eq c60 xf59 rfl
                              refine lv_iload_n X.1 X.2.1 dX12_spotOf_19 rfl (lv_at hl 0 rfl) ?_
                              exact sg_iretP X hr hlk hS ⟨(iv_of (iv_add (a' := 6) (b' := 6) ey54 (iv_add (a' := 5) (b' := 5) ey45 (iv_add (a' := 4) (b' := 4) ey36 (iv_add (a' := 3) (b' := 3) ey27 (iv_add (a' := 2) (b' := 2) ey18 (iv_add (a' := 1) (b' := 1) ey9 (iv_c 0 (a := 0) (b := 0) (by decide +kernel)) (iv_c _ (a := 1) (b := 1) (by decide +kernel)) (by decide +kernel)) (iv_c _ (a := 1) (b := 1) (by decide +kernel)) (by decide +kernel)) (iv_c _ (a := 1) (b := 1) (by decide +kernel)) (by decide +kernel)) (iv_c _ (a := 1) (b := 1) (by decide +kernel)) (by decide +kernel)) (iv_c _ (a := 1) (b := 1) (by decide +kernel)) (by decide +kernel)) (iv_c _ (a := 1) (b := 1) (by decide +kernel)) (by decide +kernel)) (a' := (-1)) (b' := 6) (by decide +kernel)), (by rw [show (y54 : Int32).toInt = (6 : Int) from vq_iv ((iv_add (a' := 6) (b' := 6) ey54 (iv_add (a' := 5) (b' := 5) ey45 (iv_add (a' := 4) (b' := 4) ey36 (iv_add (a' := 3) (b' := 3) ey27 (iv_add (a' := 2) (b' := 2) ey18 (iv_add (a' := 1) (b' := 1) ey9 (iv_c 0 (a := 0) (b := 0) (by decide +kernel)) (iv_c _ (a := 1) (b := 1) (by decide +kernel)) (by decide +kernel)) (iv_c _ (a := 1) (b := 1) (by decide +kernel)) (by decide +kernel)) (iv_c _ (a := 1) (b := 1) (by decide +kernel)) (by decide +kernel)) (iv_c _ (a := 1) (b := 1) (by decide +kernel)) (by decide +kernel)) (iv_c _ (a := 1) (b := 1) (by decide +kernel)) (by decide +kernel)) (iv_c _ (a := 1) (b := 1) (by decide +kernel)) (by decide +kernel)))]; simp only [vIx, i4, i7, i13, i16, i22, i25, i31, i34, i40, i43, i49, i52, i58, i62, if_true, if_false]; rfl), Or.inr (by have z := htb 6 (by decide); exact ⟨by have := z.1; omega, by have := z.2; omega⟩)⟩ dX12_spotOf_20
                        · have i53 : (tb.getD 5 0).toInt = x1.toInt := vq_eq c51 xf50 rfl
                          refine lv_iload_n X.1 X.2.1 dX12_spotOf_19 rfl (lv_at hl 0 rfl) ?_
                          exact sg_iretP X hr hlk hS ⟨(iv_of (iv_add (a' := 5) (b' := 5) ey45 (iv_add (a' := 4) (b' := 4) ey36 (iv_add (a' := 3) (b' := 3) ey27 (iv_add (a' := 2) (b' := 2) ey18 (iv_add (a' := 1) (b' := 1) ey9 (iv_c 0 (a := 0) (b := 0) (by decide +kernel)) (iv_c _ (a := 1) (b := 1) (by decide +kernel)) (by decide +kernel)) (iv_c _ (a := 1) (b := 1) (by decide +kernel)) (by decide +kernel)) (iv_c _ (a := 1) (b := 1) (by decide +kernel)) (by decide +kernel)) (iv_c _ (a := 1) (b := 1) (by decide +kernel)) (by decide +kernel)) (iv_c _ (a := 1) (b := 1) (by decide +kernel)) (by decide +kernel)) (a' := (-1)) (b' := 6) (by decide +kernel)), (by rw [show (y45 : Int32).toInt = (5 : Int) from vq_iv ((iv_add (a' := 5) (b' := 5) ey45 (iv_add (a' := 4) (b' := 4) ey36 (iv_add (a' := 3) (b' := 3) ey27 (iv_add (a' := 2) (b' := 2) ey18 (iv_add (a' := 1) (b' := 1) ey9 (iv_c 0 (a := 0) (b := 0) (by decide +kernel)) (iv_c _ (a := 1) (b := 1) (by decide +kernel)) (by decide +kernel)) (iv_c _ (a := 1) (b := 1) (by decide +kernel)) (by decide +kernel)) (iv_c _ (a := 1) (b := 1) (by decide +kernel)) (by decide +kernel)) (iv_c _ (a := 1) (b := 1) (by decide +kernel)) (by decide +kernel)) (iv_c _ (a := 1) (b := 1) (by decide +kernel)) (by decide +kernel)))]; simp only [vIx, i4, i7, i13, i16, i22, i25, i31, i34, i40, i43, i49, i53, if_true, if_false]; rfl), Or.inr (by have z := htb 5 (by decide); exact ⟨by have := z.1; omega, by have := z.2; omega⟩)⟩ dX12_spotOf_20
                    · have i44 : (tb.getD 4 0).toInt = x1.toInt := vq_eq c42 xf41 rfl
                      refine lv_iload_n X.1 X.2.1 dX12_spotOf_19 rfl (lv_at hl 0 rfl) ?_
                      exact sg_iretP X hr hlk hS ⟨(iv_of (iv_add (a' := 4) (b' := 4) ey36 (iv_add (a' := 3) (b' := 3) ey27 (iv_add (a' := 2) (b' := 2) ey18 (iv_add (a' := 1) (b' := 1) ey9 (iv_c 0 (a := 0) (b := 0) (by decide +kernel)) (iv_c _ (a := 1) (b := 1) (by decide +kernel)) (by decide +kernel)) (iv_c _ (a := 1) (b := 1) (by decide +kernel)) (by decide +kernel)) (iv_c _ (a := 1) (b := 1) (by decide +kernel)) (by decide +kernel)) (iv_c _ (a := 1) (b := 1) (by decide +kernel)) (by decide +kernel)) (a' := (-1)) (b' := 6) (by decide +kernel)), (by rw [show (y36 : Int32).toInt = (4 : Int) from vq_iv ((iv_add (a' := 4) (b' := 4) ey36 (iv_add (a' := 3) (b' := 3) ey27 (iv_add (a' := 2) (b' := 2) ey18 (iv_add (a' := 1) (b' := 1) ey9 (iv_c 0 (a := 0) (b := 0) (by decide +kernel)) (iv_c _ (a := 1) (b := 1) (by decide +kernel)) (by decide +kernel)) (iv_c _ (a := 1) (b := 1) (by decide +kernel)) (by decide +kernel)) (iv_c _ (a := 1) (b := 1) (by decide +kernel)) (by decide +kernel)) (iv_c _ (a := 1) (b := 1) (by decide +kernel)) (by decide +kernel)))]; simp only [vIx, i4, i7, i13, i16, i22, i25, i31, i34, i40, i44, if_true, if_false]; rfl), Or.inr (by have z := htb 4 (by decide); exact ⟨by have := z.1; omega, by have := z.2; omega⟩)⟩ dX12_spotOf_20
                · have i35 : (tb.getD 3 0).toInt = x1.toInt := vq_eq c33 xf32 rfl
                  refine lv_iload_n X.1 X.2.1 dX12_spotOf_19 rfl (lv_at hl 0 rfl) ?_
                  exact sg_iretP X hr hlk hS ⟨(iv_of (iv_add (a' := 3) (b' := 3) ey27 (iv_add (a' := 2) (b' := 2) ey18 (iv_add (a' := 1) (b' := 1) ey9 (iv_c 0 (a := 0) (b := 0) (by decide +kernel)) (iv_c _ (a := 1) (b := 1) (by decide +kernel)) (by decide +kernel)) (iv_c _ (a := 1) (b := 1) (by decide +kernel)) (by decide +kernel)) (iv_c _ (a := 1) (b := 1) (by decide +kernel)) (by decide +kernel)) (a' := (-1)) (b' := 6) (by decide +kernel)), (by rw [show (y27 : Int32).toInt = (3 : Int) from vq_iv ((iv_add (a' := 3) (b' := 3) ey27 (iv_add (a' := 2) (b' := 2) ey18 (iv_add (a' := 1) (b' := 1) ey9 (iv_c 0 (a := 0) (b := 0) (by decide +kernel)) (iv_c _ (a := 1) (b := 1) (by decide +kernel)) (by decide +kernel)) (iv_c _ (a := 1) (b := 1) (by decide +kernel)) (by decide +kernel)) (iv_c _ (a := 1) (b := 1) (by decide +kernel)) (by decide +kernel)))]; simp only [vIx, i4, i7, i13, i16, i22, i25, i31, i35, if_true, if_false]; rfl), Or.inr (by have z := htb 3 (by decide); exact ⟨by have := z.1; omega, by have := z.2; omega⟩)⟩ dX12_spotOf_20
            · have i26 : (tb.getD 2 0).toInt = x1.toInt := vq_eq c24 xf23 rfl
              refine lv_iload_n X.1 X.2.1 dX12_spotOf_19 rfl (lv_at hl 0 rfl) ?_
              exact sg_iretP X hr hlk hS ⟨(iv_of (iv_add (a' := 2) (b' := 2) ey18 (iv_add (a' := 1) (b' := 1) ey9 (iv_c 0 (a := 0) (b := 0) (by decide +kernel)) (iv_c _ (a := 1) (b := 1) (by decide +kernel)) (by decide +kernel)) (iv_c _ (a := 1) (b := 1) (by decide +kernel)) (by decide +kernel)) (a' := (-1)) (b' := 6) (by decide +kernel)), (by rw [show (y18 : Int32).toInt = (2 : Int) from vq_iv ((iv_add (a' := 2) (b' := 2) ey18 (iv_add (a' := 1) (b' := 1) ey9 (iv_c 0 (a := 0) (b := 0) (by decide +kernel)) (iv_c _ (a := 1) (b := 1) (by decide +kernel)) (by decide +kernel)) (iv_c _ (a := 1) (b := 1) (by decide +kernel)) (by decide +kernel)))]; simp only [vIx, i4, i7, i13, i16, i22, i26, if_true, if_false]; rfl), Or.inr (by have z := htb 2 (by decide); exact ⟨by have := z.1; omega, by have := z.2; omega⟩)⟩ dX12_spotOf_20
        · have i17 : (tb.getD 1 0).toInt = x1.toInt := vq_eq c15 xf14 rfl
          refine lv_iload_n X.1 X.2.1 dX12_spotOf_19 rfl (lv_at hl 0 rfl) ?_
          exact sg_iretP X hr hlk hS ⟨(iv_of (iv_add (a' := 1) (b' := 1) ey9 (iv_c 0 (a := 0) (b := 0) (by decide +kernel)) (iv_c _ (a := 1) (b := 1) (by decide +kernel)) (by decide +kernel)) (a' := (-1)) (b' := 6) (by decide +kernel)), (by rw [show (y9 : Int32).toInt = (1 : Int) from vq_iv ((iv_add (a' := 1) (b' := 1) ey9 (iv_c 0 (a := 0) (b := 0) (by decide +kernel)) (iv_c _ (a := 1) (b := 1) (by decide +kernel)) (by decide +kernel)))]; simp only [vIx, i4, i7, i13, i17, if_true, if_false]; rfl), Or.inr (by have z := htb 1 (by decide); exact ⟨by have := z.1; omega, by have := z.2; omega⟩)⟩ dX12_spotOf_20
    · have i8 : (tb.getD 0 0).toInt = x1.toInt := vq_eq c6 xf5 rfl
      refine lv_iload_n X.1 X.2.1 dX12_spotOf_19 rfl (lv_at hl 0 rfl) ?_
      exact sg_iretP X hr hlk hS ⟨(iv_of (iv_c 0 (a := 0) (b := 0) (by decide +kernel)) (a' := (-1)) (b' := 6) (by decide +kernel)), (by rw [show (0 : Int32).toInt = (0 : Int) from (by decide +kernel)]; simp only [vIx, i4, i8, if_true, if_false]; rfl), Or.inr (by have z := htb 0 (by decide); exact ⟨by have := z.1; omega, by have := z.2; omega⟩)⟩ dX12_spotOf_20

theorem ca_X12_spotOf_e7   (X : CallFix p m c cc nL s args sg_tbl own) (hK : va_K D vwCl tys s) (hG : sgG (KT P) D vwCl (fun q : Nat => base ≤ q) tys ad ks H) (hC : sgC base s) (hA : ∀ q : Nat, A q → base ≤ q) (hS : va_S A s.heap H locs)  (hb : base ≤ s.heap.size) {ta tv : Nat} {tb : List Int32} (hp : P_S ta tv 7 tb A s) (x1 : Int32) (htb : ∀ j : Nat, j < 7 → iv 0 127 (tb.getD j 0)) (hl : Cond.methodLink own index yX12_spotOf ∈ sg_tbl) (hsize : ls.size = nL) (hst : st0 = [.ref ta, .int x1].reverse ++ rest) (hW : (rest.map fun v => v.category).sum ≤ 8) (hR : 5 ≤ R.frames ∧ 107 ≤ R.locals) (hf : cells ≤ R.cells ∧ slots ≤ R.slots) (hdg : decode cc pc = .ok (.invokestatic index, 3)) (kk : ∀ (r : Int32) (locs1 : List Loc), (fun r : Int32 => iv (-1) 6 r ∧ r.toInt = vIx tb x1.toInt 7 0 ∧ (r = -1 ∨ iv 0 127 x1)) r → va_S A s.heap H locs1 → W p l e R s m args below meth c H locs1 cells slots Q (F0 m (pc + 3) ls (.int r :: rest))) : W p l e R s m args below meth c H locs cells slots Q (F0 m pc ls st0) :=
  sg_callESi X hK hG hC hA hS hb hp (m_X12_spotOf_e7 l ta tv tb x1 htb) wl_7_153 wl_1_13 wl_7_152 (n := 2) (by decide +kernel) rfl rfl rfl hl hsize hst hW hR hf hdg kk

set_option maxHeartbeats 8000000 in
set_option maxRecDepth 100000 in
theorem m_J1_charAt_3b067_e6 (l : Launch) {D : va_G} {base : Nat} {tys : List (ClassId × FieldType)} {ad ks : List Nat} {P : sgPm} {Hx : Heap} (ta tv : Nat) (tb : List Int32) (x1 : Int32) (h1 : iv 0 5 x1) (htb : ∀ j : Nat, j < 6 → iv 0 127 (tb.getD j 0)) : sgEi l (KT P) D vwCl base tys ad ks Hx ta tv 6 tb yJ1_charAt_3b067 cJ1_charAt_3b067 2 (some .char) ({ frames := 2, cells := 0, slots := 0, locals := 43 }) [.ref tv, .int x1] (fun r : Int32 => iv 0 127 r ∧ r = tb.getD x1.toNatClampNeg 0) := by
  refine sg_ofE (Pq := fun Hx => va_Qi (fun r (_ : Unit) => (fun r : Int32 => iv 0 127 r ∧ r = tb.getD x1.toNatClampNeg 0) r) (fun _ t => t.heap = Hx) (fun _ : Nat => False)) (by decide +kernel) (Nat.le_of_ble_eq_true rfl) (fun p e s m below meth c X hr hlk hb hK hC hG ls hl hp => ?_)
  have hS : va_S (fun _ : Nat => False) s.heap s.heap [] := va_S.rf
  have hl : lv_has ls 2 [(0, .ref tv), (1, .int x1)] := hl
  refine lv_iload_n X.1 X.2.1 dJ1_charAt_3b067_0 rfl (lv_at hl 1 rfl) ?_
  refine lv_aload_n X.1 X.2.1 dJ1_charAt_3b067_1 rfl (lv_at hl 0 rfl) ?_
  refine va_tlen X.1 X.2.1 hp.2.2.2.1 hS (v := 6) rfl dJ1_charAt_3b067_2 ?_
  refine ca_J0_checkIndex_df160_6 X hK hG hC (fun _ h => h.elim) hS hb hp x1 h1 6 (iv_c 6 (a := 6) (b := 6) (by decide +kernel)) wl_7_161 hl.1 (rest := []) rfl (Nat.le_of_ble_eq_true rfl) ⟨Nat.le_of_ble_eq_true rfl, Nat.le_of_ble_eq_true rfl⟩ ⟨Nat.le_of_ble_eq_true rfl, Nat.le_of_ble_eq_true rfl⟩ dJ1_charAt_3b067_3 (fun locs hS => ?_)
  refine lv_aload_n X.1 X.2.1 dJ1_charAt_3b067_6 rfl (lv_at hl 0 rfl) ?_
  refine lv_iload_n X.1 X.2.1 dJ1_charAt_3b067_7 rfl (lv_at hl 1 rfl) ?_
  refine va_tb X.1 X.2.1 hp.2.2.2.1 hS (i := x1) (iv_vpin h1 (by decide +kernel)) rfl dJ1_charAt_3b067_8 ?_
  refine lv_topi (fun f2 ef2 => ?_)
  refine lv_sipush (v := 255) X.1 X.2.1 dJ1_charAt_3b067_9 (by decide +kernel) ?_
  refine lv_iand X.1 X.2.1 dJ1_charAt_3b067_12 ?_
  refine lv_topi (fun f3 ef3 => ?_)
  have zf3 : f3 = f2 := vq_127 ef3 (by rw [ef2]; exact htb _ (sg_inlt (iv_vpin h1 (by decide +kernel))))
  have wf3 : iv 0 127 f3 := by rw [zf3]; exact (by rw [ef2]; exact htb _ (sg_inlt (iv_vpin h1 (by decide +kernel))))
  obtain ⟨f4, ef4⟩ : ∃ y : Int32, y = ((f3 : Int32).toUInt32 % 65536).toInt32 := ⟨_, rfl⟩
  refine lv_i2c (v := f4) X.1 X.2.1 dJ1_charAt_3b067_13 ef4.symm ?_
  have zf4 : f4 = f3 := vq_i2c ef4 (iv_of wf3 (a' := 0) (b' := 255) (by decide +kernel))
  exact sg_zretP X hr (sg_cn (by rw [zf4]; exact wf3)) hlk hS ⟨(by rw [zf4]; exact wf3), (by rw [zf4, zf3]; exact ef2)⟩ dJ1_charAt_3b067_14

theorem ca_J1_charAt_3b067_e6   (X : CallFix p m c cc nL s args sg_tbl own) (hK : va_K D vwCl tys s) (hG : sgG (KT P) D vwCl (fun q : Nat => base ≤ q) tys ad ks H) (hC : sgC base s) (hA : ∀ q : Nat, A q → base ≤ q) (hS : va_S A s.heap H locs)  (hb : base ≤ s.heap.size) {ta tv : Nat} {tb : List Int32} (hp : P_S ta tv 6 tb A s) (x1 : Int32) (h1 : iv 0 5 x1) (htb : ∀ j : Nat, j < 6 → iv 0 127 (tb.getD j 0)) (hl : Cond.methodLink own index yJ1_charAt_3b067 ∈ sg_tbl) (hsize : ls.size = nL) (hst : st0 = [.ref tv, .int x1].reverse ++ rest) (hW : (rest.map fun v => v.category).sum ≤ 8) (hR : 3 ≤ R.frames ∧ 64 ≤ R.locals) (hf : cells ≤ R.cells ∧ slots ≤ R.slots) (hdg : decode cc pc = .ok (.invokestatic index, 3)) (kk : ∀ (r : Int32) (locs1 : List Loc), (fun r : Int32 => iv 0 127 r ∧ r = tb.getD x1.toNatClampNeg 0) r → va_S A s.heap H locs1 → W p l e R s m args below meth c H locs1 cells slots Q (F0 m (pc + 3) ls (.int r :: rest))) : W p l e R s m args below meth c H locs cells slots Q (F0 m pc ls st0) :=
  sg_callESi X hK hG hC hA hS hb hp (m_J1_charAt_3b067_e6 l ta tv tb x1 h1 htb) wl_7_160 wl_1_17 wl_7_159 (n := 2) (by decide +kernel) rfl rfl rfl hl hsize hst hW hR hf hdg kk

set_option maxHeartbeats 8000000 in
set_option maxRecDepth 100000 in
theorem m_J0_charAt_5068e_e6 (l : Launch) {D : va_G} {base : Nat} {tys : List (ClassId × FieldType)} {ad ks : List Nat} {P : sgPm} {Hx : Heap} (ta tv : Nat) (tb : List Int32) (x1 : Int32) (h1 : iv 0 5 x1) (htb : ∀ j : Nat, j < 6 → iv 0 127 (tb.getD j 0)) : sgEi l (KT P) D vwCl base tys ad ks Hx ta tv 6 tb yJ0_charAt_5068e cJ0_charAt_5068e 2 (some .char) ({ frames := 3, cells := 0, slots := 0, locals := 64 }) [.ref ta, .int x1] (fun r : Int32 => iv 0 127 r ∧ r = tb.getD x1.toNatClampNeg 0) := by
  refine sg_ofE (Pq := fun Hx => va_Qi (fun r (_ : Unit) => (fun r : Int32 => iv 0 127 r ∧ r = tb.getD x1.toNatClampNeg 0) r) (fun _ t => t.heap = Hx) (fun _ : Nat => False)) (by decide +kernel) (Nat.le_of_ble_eq_true rfl) (fun p e s m below meth c X hr hlk hb hK hC hG ls hl hp => ?_)
  have hS : va_S (fun _ : Nat => False) s.heap s.heap [] := va_S.rf
  have hl : lv_has ls 2 [(0, .ref ta), (1, .int x1)] := hl
  refine lv_aload_n X.1 X.2.1 dJ0_charAt_5068e_0 rfl (lv_at hl 0 rfl) ?_
  refine ca_J0_isLatin1_aae02_6 X hK hG hC (fun _ h => h.elim) hS hb hp wl_3_79 hl.1 (rest := []) rfl (Nat.le_of_ble_eq_true rfl) ⟨Nat.le_of_ble_eq_true rfl, Nat.le_of_ble_eq_true rfl⟩ ⟨Nat.le_of_ble_eq_true rfl, Nat.le_of_ble_eq_true rfl⟩ dJ0_charAt_5068e_1 (fun f1 locs hf1 hS => ?_)
  refine lv_if_eq (tgt := 16) X.1 X.2.1 dJ0_charAt_5068e_4 (by decide) (fun c2 => ?_) (fun c2 => ?_)
  · have i3 : (1 : Int) = (0 : Int) := vq_eq c2 (vq_iv hf1) (by decide +kernel)
    exact ((iv_no (a := 1) (b := 0) (iv_eqm c2 hf1 (iv_c 0 (a := 0) (b := 0) (by decide +kernel)) (by decide +kernel)) (by decide +kernel))).elim
  · have i4 : ((1 : Int) = (0 : Int)) = False := vq_ne c2 (vq_iv hf1) (by decide +kernel)
    refine lv_aload_n X.1 X.2.1 dJ0_charAt_5068e_7 rfl (lv_at hl 0 rfl) ?_
    refine vk_getf (v := .ref tv) X.1 X.2.1 hp.2.2.1 hS X.2.2.2.1 (X.2.2.2.2 _ wl_9_181) (fun _ h9 => h9) dJ0_charAt_5068e_8 ?_
    refine lv_iload_n X.1 X.2.1 dJ0_charAt_5068e_11 rfl (lv_at hl 1 rfl) ?_
    refine ca_J1_charAt_3b067_e6 X hK hG hC (fun _ h => h.elim) hS hb hp x1 h1 htb wl_7_158 hl.1 (rest := []) rfl (Nat.le_of_ble_eq_true rfl) ⟨Nat.le_of_ble_eq_true rfl, Nat.le_of_ble_eq_true rfl⟩ ⟨Nat.le_of_ble_eq_true rfl, Nat.le_of_ble_eq_true rfl⟩ dJ0_charAt_5068e_12 (fun f5 locs hf5 hS => ?_)
    exact sg_zretP X hr (sg_cn hf5.1) hlk hS ⟨hf5.1, hf5.2⟩ dJ0_charAt_5068e_15

theorem ca_J0_charAt_5068e_e6   (X : CallFix p m c cc nL s args sg_tbl own) (hK : va_K D vwCl tys s) (hG : sgG (KT P) D vwCl (fun q : Nat => base ≤ q) tys ad ks H) (hC : sgC base s) (hA : ∀ q : Nat, A q → base ≤ q) (hS : va_S A s.heap H locs)  (hb : base ≤ s.heap.size) {ta tv : Nat} {tb : List Int32} (hp : P_S ta tv 6 tb A s) (x1 : Int32) (h1 : iv 0 5 x1) (htb : ∀ j : Nat, j < 6 → iv 0 127 (tb.getD j 0)) (hl : Cond.methodLink own index yJ0_charAt_5068e ∈ sg_tbl) (hsize : ls.size = nL) (hst : st0 = [.int x1].reverse ++ .ref ta :: rest) (hW : (rest.map fun v => v.category).sum ≤ 8) (hR : 4 ≤ R.frames ∧ 85 ≤ R.locals) (hf : cells ≤ R.cells ∧ slots ≤ R.slots) (hdg : decode cc pc = .ok (.invokevirtual index, 3)) (kk : ∀ (r : Int32) (locs1 : List Loc), (fun r : Int32 => iv 0 127 r ∧ r = tb.getD x1.toNatClampNeg 0) r → va_S A s.heap H locs1 → W p l e R s m args below meth c H locs1 cells slots Q (F0 m (pc + 3) ls (.int r :: rest))) : W p l e R s m args below meth c H locs cells slots Q (F0 m pc ls st0) :=
  sg_callEVi X hK hG hC hA hS hb hp (m_J0_charAt_5068e_e6 l ta tv tb x1 h1 htb) wl_7_157 wl_1_16 wl_7_155 wl_7_156 (n := 1) (by decide +kernel) rfl rfl rfl hl hsize hst hW hR hf hdg kk

set_option maxHeartbeats 8000000 in
set_option maxRecDepth 100000 in
theorem m_X12_isAmong_e6 (l : Launch) {D : va_G} {base : Nat} {tys : List (ClassId × FieldType)} {ad ks : List Nat} {P : sgPm} {Hx : Heap} (ta tv : Nat) (tb : List Int32) (x1 : Int32) (htb : ∀ j : Nat, j < 6 → iv 0 127 (tb.getD j 0)) : sgEi l (KT P) D vwCl base tys ad ks Hx ta tv 6 tb yX12_isAmong cX12_isAmong 3 (some .boolean) ({ frames := 4, cells := 0, slots := 0, locals := 85 }) [.ref ta, .int x1] (fun r : Int32 => (r = 1 ∧ ¬ vIx tb x1.toInt 6 0 < 0 ∧ iv 0 127 x1) ∨ (r = 0 ∧ vIx tb x1.toInt 6 0 < 0)) := by
  refine sg_ofE (Pq := fun Hx => va_Qi (fun r (_ : Unit) => (fun r : Int32 => (r = 1 ∧ ¬ vIx tb x1.toInt 6 0 < 0 ∧ iv 0 127 x1) ∨ (r = 0 ∧ vIx tb x1.toInt 6 0 < 0)) r) (fun _ t => t.heap = Hx) (fun _ : Nat => False)) (by decide +kernel) (Nat.le_of_ble_eq_true rfl) (fun p e s m below meth c X hr hlk hb hK hC hG ls hl hp => ?_)
  have hS : va_S (fun _ : Nat => False) s.heap s.heap [] := va_S.rf
  have hl : lv_has ls 3 [(0, .ref ta), (1, .int x1)] := hl
  refine lv_iconst (v := 0) X.1 X.2.1 dX12_isAmong_0 (by decide +kernel) ?_
  refine lv_istore_n (lv' := [(2, .int 0), (0, .ref ta), (1, .int x1)]) X.1 X.2.1 dX12_isAmong_1 rfl hl (by decide) rfl (fun ls hl => ?_)
  refine lv_iload_n X.1 X.2.1 dX12_isAmong_2 rfl (lv_at hl 0 rfl) ?_
  refine lv_aload_n X.1 X.2.1 dX12_isAmong_3 rfl (lv_at hl 1 rfl) ?_
  refine ca_J0_length_8abf5_6 X hK hG hC (fun _ h => h.elim) hS hb hp wl_7_150 hl.1 (rest := [.int 0]) rfl (Nat.le_of_ble_eq_true rfl) ⟨Nat.le_of_ble_eq_true rfl, Nat.le_of_ble_eq_true rfl⟩ ⟨Nat.le_of_ble_eq_true rfl, Nat.le_of_ble_eq_true rfl⟩ dX12_isAmong_4 (fun f1 locs hf1 hS => ?_)
  refine lv_icmp_ge (tgt := 27) X.1 X.2.1 dX12_isAmong_7 (by decide) (fun c2 => ?_) (fun c2 => ?_)
  · have i3 : ¬ (0 : Int) < (6 : Int) := vq_le c2 (vq_iv hf1) (by decide +kernel)
    exact ((iv_no (iv_le (b' := 0) c2 hf1 (iv_c 0 (a := 0) (b := 0) (by decide +kernel)) (by decide +kernel)) (by decide +kernel))).elim
  · have i4 : (0 : Int) < (6 : Int) := vq_lt (iv_gt_of c2) (by decide +kernel) (vq_iv hf1)
    refine lv_aload_n X.1 X.2.1 dX12_isAmong_10 rfl (lv_at hl 1 rfl) ?_
    refine lv_iload_n X.1 X.2.1 dX12_isAmong_11 rfl (lv_at hl 0 rfl) ?_
    refine ca_J0_charAt_5068e_e6 X hK hG hC (fun _ h => h.elim) hS hb hp 0 (iv_of (iv_c 0 (a := 0) (b := 0) (by decide +kernel)) (a' := 0) (b' := 5) (by decide +kernel)) htb wl_7_154 hl.1 (rest := []) rfl (Nat.le_of_ble_eq_true rfl) ⟨Nat.le_of_ble_eq_true rfl, Nat.le_of_ble_eq_true rfl⟩ ⟨Nat.le_of_ble_eq_true rfl, Nat.le_of_ble_eq_true rfl⟩ dX12_isAmong_12 (fun f5 locs hf5 hS => ?_)
    have xf5 : f5.toInt = (tb.getD 0 0).toInt := by rw [hf5.2, sg_cl (iv_c 0 (a := 0) (b := 0) (by decide +kernel)) (by decide)]; rfl
    refine lv_iload_n X.1 X.2.1 dX12_isAmong_15 rfl (lv_at hl 2 rfl) ?_
    refine lv_icmp_ne (tgt := 21) X.1 X.2.1 dX12_isAmong_16 (by decide) (fun c6 => ?_) (fun c6 => ?_)
    · have i7 : ((tb.getD 0 0).toInt = x1.toInt) = False := vq_ne c6 xf5 rfl
      obtain ⟨y9, ey9⟩ : ∃ y : Int32, y = 0 + Int32.ofInt 1 := ⟨_, rfl⟩
      have xy9 : y9.toInt = (0 + 1) := sg_exadd ey9 (iv_c 0 (a := 0) (b := 0) (by decide +kernel)) (iv_c _ (a := 1) (b := 1) (by decide +kernel)) (by decide +kernel) (by decide +kernel) (by decide +kernel)
      refine lv_iinc (v := y9) (lv' := [(2, .int y9), (0, .ref ta), (1, .int x1)]) X.1 X.2.1 dX12_isAmong_21 hl (k := 0) rfl ey9.symm (by decide) rfl (fun ls hl => ?_)
      refine lv_goto (tgt := 2) X.1 X.2.1 dX12_isAmong_24 (by decide) ?_
      refine lv_iload_n X.1 X.2.1 dX12_isAmong_2 rfl (lv_at hl 0 rfl) ?_
      refine lv_aload_n X.1 X.2.1 dX12_isAmong_3 rfl (lv_at hl 1 rfl) ?_
      refine ca_J0_length_8abf5_6 X hK hG hC (fun _ h => h.elim) hS hb hp wl_7_150 hl.1 (rest := [.int y9]) rfl (Nat.le_of_ble_eq_true rfl) ⟨Nat.le_of_ble_eq_true rfl, Nat.le_of_ble_eq_true rfl⟩ ⟨Nat.le_of_ble_eq_true rfl, Nat.le_of_ble_eq_true rfl⟩ dX12_isAmong_4 (fun f10 locs hf10 hS => ?_)
      refine lv_icmp_ge (tgt := 27) X.1 X.2.1 dX12_isAmong_7 (by decide) (fun c11 => ?_) (fun c11 => ?_)
      · have i12 : ¬ ((0 + 1) : Int) < (6 : Int) := vq_le c11 (vq_iv hf10) xy9
        exact ((iv_no (iv_le (b' := 1) c11 hf10 (iv_add (a' := 1) (b' := 1) ey9 (iv_c 0 (a := 0) (b := 0) (by decide +kernel)) (iv_c _ (a := 1) (b := 1) (by decide +kernel)) (by decide +kernel)) (by decide +kernel)) (by decide +kernel))).elim
      · have i13 : ((0 + 1) : Int) < (6 : Int) := vq_lt (iv_gt_of c11) xy9 (vq_iv hf10)
        refine lv_aload_n X.1 X.2.1 dX12_isAmong_10 rfl (lv_at hl 1 rfl) ?_
        refine lv_iload_n X.1 X.2.1 dX12_isAmong_11 rfl (lv_at hl 0 rfl) ?_
        refine ca_J0_charAt_5068e_e6 X hK hG hC (fun _ h => h.elim) hS hb hp y9 (iv_of (iv_add (a' := 1) (b' := 1) ey9 (iv_c 0 (a := 0) (b := 0) (by decide +kernel)) (iv_c _ (a := 1) (b := 1) (by decide +kernel)) (by decide +kernel)) (a' := 0) (b' := 5) (by decide +kernel)) htb wl_7_154 hl.1 (rest := []) rfl (Nat.le_of_ble_eq_true rfl) ⟨Nat.le_of_ble_eq_true rfl, Nat.le_of_ble_eq_true rfl⟩ ⟨Nat.le_of_ble_eq_true rfl, Nat.le_of_ble_eq_true rfl⟩ dX12_isAmong_12 (fun f14 locs hf14 hS => ?_)
        have xf14 : f14.toInt = (tb.getD 1 0).toInt := by rw [hf14.2, sg_cl (iv_add (a' := 1) (b' := 1) ey9 (iv_c 0 (a := 0) (b := 0) (by decide +kernel)) (iv_c _ (a := 1) (b := 1) (by decide +kernel)) (by decide +kernel)) (by decide)]; rfl
        refine lv_iload_n X.1 X.2.1 dX12_isAmong_15 rfl (lv_at hl 2 rfl) ?_
        refine lv_icmp_ne (tgt := 21) X.1 X.2.1 dX12_isAmong_16 (by decide) (fun c15 => ?_) (fun c15 => ?_)
        · have i16 : ((tb.getD 1 0).toInt = x1.toInt) = False := vq_ne c15 xf14 rfl
          obtain ⟨y18, ey18⟩ : ∃ y : Int32, y = y9 + Int32.ofInt 1 := ⟨_, rfl⟩
          have xy18 : y18.toInt = ((0 + 1) + 1) := sg_exadd ey18 (iv_add (a' := 1) (b' := 1) ey9 (iv_c 0 (a := 0) (b := 0) (by decide +kernel)) (iv_c _ (a := 1) (b := 1) (by decide +kernel)) (by decide +kernel)) (iv_c _ (a := 1) (b := 1) (by decide +kernel)) (by decide +kernel) xy9 (by decide +kernel)
          refine lv_iinc (v := y18) (lv' := [(2, .int y18), (0, .ref ta), (1, .int x1)]) X.1 X.2.1 dX12_isAmong_21 hl (k := 0) rfl ey18.symm (by decide) rfl (fun ls hl => ?_)
          refine lv_goto (tgt := 2) X.1 X.2.1 dX12_isAmong_24 (by decide) ?_
          refine lv_iload_n X.1 X.2.1 dX12_isAmong_2 rfl (lv_at hl 0 rfl) ?_
          refine lv_aload_n X.1 X.2.1 dX12_isAmong_3 rfl (lv_at hl 1 rfl) ?_
          refine ca_J0_length_8abf5_6 X hK hG hC (fun _ h => h.elim) hS hb hp wl_7_150 hl.1 (rest := [.int y18]) rfl (Nat.le_of_ble_eq_true rfl) ⟨Nat.le_of_ble_eq_true rfl, Nat.le_of_ble_eq_true rfl⟩ ⟨Nat.le_of_ble_eq_true rfl, Nat.le_of_ble_eq_true rfl⟩ dX12_isAmong_4 (fun f19 locs hf19 hS => ?_)
          refine lv_icmp_ge (tgt := 27) X.1 X.2.1 dX12_isAmong_7 (by decide) (fun c20 => ?_) (fun c20 => ?_)
          · have i21 : ¬ (((0 + 1) + 1) : Int) < (6 : Int) := vq_le c20 (vq_iv hf19) xy18
            exact ((iv_no (iv_le (b' := 2) c20 hf19 (iv_add (a' := 2) (b' := 2) ey18 (iv_add (a' := 1) (b' := 1) ey9 (iv_c 0 (a := 0) (b := 0) (by decide +kernel)) (iv_c _ (a := 1) (b := 1) (by decide +kernel)) (by decide +kernel)) (iv_c _ (a := 1) (b := 1) (by decide +kernel)) (by decide +kernel)) (by decide +kernel)) (by decide +kernel))).elim
          · have i22 : (((0 + 1) + 1) : Int) < (6 : Int) := vq_lt (iv_gt_of c20) xy18 (vq_iv hf19)
            refine lv_aload_n X.1 X.2.1 dX12_isAmong_10 rfl (lv_at hl 1 rfl) ?_
            refine lv_iload_n X.1 X.2.1 dX12_isAmong_11 rfl (lv_at hl 0 rfl) ?_
            refine ca_J0_charAt_5068e_e6 X hK hG hC (fun _ h => h.elim) hS hb hp y18 (iv_of (iv_add (a' := 2) (b' := 2) ey18 (iv_add (a' := 1) (b' := 1) ey9 (iv_c 0 (a := 0) (b := 0) (by decide +kernel)) (iv_c _ (a := 1) (b := 1) (by decide +kernel)) (by decide +kernel)) (iv_c _ (a := 1) (b := 1) (by decide +kernel)) (by decide +kernel)) (a' := 0) (b' := 5) (by decide +kernel)) htb wl_7_154 hl.1 (rest := []) rfl (Nat.le_of_ble_eq_true rfl) ⟨Nat.le_of_ble_eq_true rfl, Nat.le_of_ble_eq_true rfl⟩ ⟨Nat.le_of_ble_eq_true rfl, Nat.le_of_ble_eq_true rfl⟩ dX12_isAmong_12 (fun f23 locs hf23 hS => ?_)
            have xf23 : f23.toInt = (tb.getD 2 0).toInt := by rw [hf23.2, sg_cl (iv_add (a' := 2) (b' := 2) ey18 (iv_add (a' := 1) (b' := 1) ey9 (iv_c 0 (a := 0) (b := 0) (by decide +kernel)) (iv_c _ (a := 1) (b := 1) (by decide +kernel)) (by decide +kernel)) (iv_c _ (a := 1) (b := 1) (by decide +kernel)) (by decide +kernel)) (by decide)]; rfl
            refine lv_iload_n X.1 X.2.1 dX12_isAmong_15 rfl (lv_at hl 2 rfl) ?_
            refine lv_icmp_ne (tgt := 21) X.1 X.2.1 dX12_isAmong_16 (by decide) (fun c24 => ?_) (fun c24 => ?_)
            · have i25 : ((tb.getD 2 0).toInt = x1.toInt) = False := vq_ne c24 xf23 rfl
              obtain ⟨y27, ey27⟩ : ∃ y : Int32, y = y18 + Int32.ofInt 1 := ⟨_, rfl⟩
              have xy27 : y27.toInt = (((0 + 1) + 1) + 1) := sg_exadd ey27 (iv_add (a' := 2) (b' := 2) ey18 (iv_add (a' := 1) (b' := 1) ey9 (iv_c 0 (a := 0) (b := 0) (by decide +kernel)) (iv_c _ (a := 1) (b := 1) (by decide +kernel)) (by decide +kernel)) (iv_c _ (a := 1) (b := 1) (by decide +kernel)) (by decide +kernel)) (iv_c _ (a := 1) (b := 1) (by decide +kernel)) (by decide +kernel) xy18 (by decide +kernel)
              refine lv_iinc (v := y27) (lv' := [(2, .int y27), (0, .ref ta), (1, .int x1)]) X.1 X.2.1 dX12_isAmong_21 hl (k := 0) rfl ey27.symm (by decide) rfl (fun ls hl => ?_)
              refine lv_goto (tgt := 2) X.1 X.2.1 dX12_isAmong_24 (by decide) ?_
              refine lv_iload_n X.1 X.2.1 dX12_isAmong_2 rfl (lv_at hl 0 rfl) ?_
              refine lv_aload_n X.1 X.2.1 dX12_isAmong_3 rfl (lv_at hl 1 rfl) ?_
              refine ca_J0_length_8abf5_6 X hK hG hC (fun _ h => h.elim) hS hb hp wl_7_150 hl.1 (rest := [.int y27]) rfl (Nat.le_of_ble_eq_true rfl) ⟨Nat.le_of_ble_eq_true rfl, Nat.le_of_ble_eq_true rfl⟩ ⟨Nat.le_of_ble_eq_true rfl, Nat.le_of_ble_eq_true rfl⟩ dX12_isAmong_4 (fun f28 locs hf28 hS => ?_)
              refine lv_icmp_ge (tgt := 27) X.1 X.2.1 dX12_isAmong_7 (by decide) (fun c29 => ?_) (fun c29 => ?_)
              · have i30 : ¬ ((((0 + 1) + 1) + 1) : Int) < (6 : Int) := vq_le c29 (vq_iv hf28) xy27
                exact ((iv_no (iv_le (b' := 3) c29 hf28 (iv_add (a' := 3) (b' := 3) ey27 (iv_add (a' := 2) (b' := 2) ey18 (iv_add (a' := 1) (b' := 1) ey9 (iv_c 0 (a := 0) (b := 0) (by decide +kernel)) (iv_c _ (a := 1) (b := 1) (by decide +kernel)) (by decide +kernel)) (iv_c _ (a := 1) (b := 1) (by decide +kernel)) (by decide +kernel)) (iv_c _ (a := 1) (b := 1) (by decide +kernel)) (by decide +kernel)) (by decide +kernel)) (by decide +kernel))).elim
              · have i31 : ((((0 + 1) + 1) + 1) : Int) < (6 : Int) := vq_lt (iv_gt_of c29) xy27 (vq_iv hf28)
                refine lv_aload_n X.1 X.2.1 dX12_isAmong_10 rfl (lv_at hl 1 rfl) ?_
                refine lv_iload_n X.1 X.2.1 dX12_isAmong_11 rfl (lv_at hl 0 rfl) ?_
                refine ca_J0_charAt_5068e_e6 X hK hG hC (fun _ h => h.elim) hS hb hp y27 (iv_of (iv_add (a' := 3) (b' := 3) ey27 (iv_add (a' := 2) (b' := 2) ey18 (iv_add (a' := 1) (b' := 1) ey9 (iv_c 0 (a := 0) (b := 0) (by decide +kernel)) (iv_c _ (a := 1) (b := 1) (by decide +kernel)) (by decide +kernel)) (iv_c _ (a := 1) (b := 1) (by decide +kernel)) (by decide +kernel)) (iv_c _ (a := 1) (b := 1) (by decide +kernel)) (by decide +kernel)) (a' := 0) (b' := 5) (by decide +kernel)) htb wl_7_154 hl.1 (rest := []) rfl (Nat.le_of_ble_eq_true rfl) ⟨Nat.le_of_ble_eq_true rfl, Nat.le_of_ble_eq_true rfl⟩ ⟨Nat.le_of_ble_eq_true rfl, Nat.le_of_ble_eq_true rfl⟩ dX12_isAmong_12 (fun f32 locs hf32 hS => ?_)
                have xf32 : f32.toInt = (tb.getD 3 0).toInt := by rw [hf32.2, sg_cl (iv_add (a' := 3) (b' := 3) ey27 (iv_add (a' := 2) (b' := 2) ey18 (iv_add (a' := 1) (b' := 1) ey9 (iv_c 0 (a := 0) (b := 0) (by decide +kernel)) (iv_c _ (a := 1) (b := 1) (by decide +kernel)) (by decide +kernel)) (iv_c _ (a := 1) (b := 1) (by decide +kernel)) (by decide +kernel)) (iv_c _ (a := 1) (b := 1) (by decide +kernel)) (by decide +kernel)) (by decide)]; rfl
                refine lv_iload_n X.1 X.2.1 dX12_isAmong_15 rfl (lv_at hl 2 rfl) ?_
                refine lv_icmp_ne (tgt := 21) X.1 X.2.1 dX12_isAmong_16 (by decide) (fun c33 => ?_) (fun c33 => ?_)
                · have i34 : ((tb.getD 3 0).toInt = x1.toInt) = False := vq_ne c33 xf32 rfl
                  obtain ⟨y36, ey36⟩ : ∃ y : Int32, y = y27 + Int32.ofInt 1 := ⟨_, rfl⟩
                  have xy36 : y36.toInt = ((((0 + 1) + 1) + 1) + 1) := sg_exadd ey36 (iv_add (a' := 3) (b' := 3) ey27 (iv_add (a' := 2) (b' := 2) ey18 (iv_add (a' := 1) (b' := 1) ey9 (iv_c 0 (a := 0) (b := 0) (by decide +kernel)) (iv_c _ (a := 1) (b := 1) (by decide +kernel)) (by decide +kernel)) (iv_c _ (a := 1) (b := 1) (by decide +kernel)) (by decide +kernel)) (iv_c _ (a := 1) (b := 1) (by decide +kernel)) (by decide +kernel)) (iv_c _ (a := 1) (b := 1) (by decide +kernel)) (by decide +kernel) xy27 (by decide +kernel)
                  refine lv_iinc (v := y36) (lv' := [(2, .int y36), (0, .ref ta), (1, .int x1)]) X.1 X.2.1 dX12_isAmong_21 hl (k := 0) rfl ey36.symm (by decide) rfl (fun ls hl => ?_)
                  refine lv_goto (tgt := 2) X.1 X.2.1 dX12_isAmong_24 (by decide) ?_
                  refine lv_iload_n X.1 X.2.1 dX12_isAmong_2 rfl (lv_at hl 0 rfl) ?_
                  refine lv_aload_n X.1 X.2.1 dX12_isAmong_3 rfl (lv_at hl 1 rfl) ?_
                  refine ca_J0_length_8abf5_6 X hK hG hC (fun _ h => h.elim) hS hb hp wl_7_150 hl.1 (rest := [.int y36]) rfl (Nat.le_of_ble_eq_true rfl) ⟨Nat.le_of_ble_eq_true rfl, Nat.le_of_ble_eq_true rfl⟩ ⟨Nat.le_of_ble_eq_true rfl, Nat.le_of_ble_eq_true rfl⟩ dX12_isAmong_4 (fun f37 locs hf37 hS => ?_)
                  refine lv_icmp_ge (tgt := 27) X.1 X.2.1 dX12_isAmong_7 (by decide) (fun c38 => ?_) (fun c38 => ?_)
                  · have i39 : ¬ (((((0 + 1) + 1) + 1) + 1) : Int) < (6 : Int) := vq_le c38 (vq_iv hf37) xy36
                    exact ((iv_no (iv_le (b' := 4) c38 hf37 (iv_add (a' := 4) (b' := 4) ey36 (iv_add (a' := 3) (b' := 3) ey27 (iv_add (a' := 2) (b' := 2) ey18 (iv_add (a' := 1) (b' := 1) ey9 (iv_c 0 (a := 0) (b := 0) (by decide +kernel)) (iv_c _ (a := 1) (b := 1) (by decide +kernel)) (by decide +kernel)) (iv_c _ (a := 1) (b := 1) (by decide +kernel)) (by decide +kernel)) (iv_c _ (a := 1) (b := 1) (by decide +kernel)) (by decide +kernel)) (iv_c _ (a := 1) (b := 1) (by decide +kernel)) (by decide +kernel)) (by decide +kernel)) (by decide +kernel))).elim
                  · have i40 : (((((0 + 1) + 1) + 1) + 1) : Int) < (6 : Int) := vq_lt (iv_gt_of c38) xy36 (vq_iv hf37)
                    refine lv_aload_n X.1 X.2.1 dX12_isAmong_10 rfl (lv_at hl 1 rfl) ?_
                    refine lv_iload_n X.1 X.2.1 dX12_isAmong_11 rfl (lv_at hl 0 rfl) ?_
                    refine ca_J0_charAt_5068e_e6 X hK hG hC (fun _ h => h.elim) hS hb hp y36 (iv_of (iv_add (a' := 4) (b' := 4) ey36 (iv_add (a' := 3) (b' := 3) ey27 (iv_add (a' := 2) (b' := 2) ey18 (iv_add (a' := 1) (b' := 1) ey9 (iv_c 0 (a := 0) (b := 0) (by decide +kernel)) (iv_c _ (a := 1) (b := 1) (by decide +kernel)) (by decide +kernel)) (iv_c _ (a := 1) (b := 1) (by decide +kernel)) (by decide +kernel)) (iv_c _ (a := 1) (b := 1) (by decide +kernel)) (by decide +kernel)) (iv_c _ (a := 1) (b := 1) (by decide +kernel)) (by decide +kernel)) (a' := 0) (b' := 5) (by decide +kernel)) htb wl_7_154 hl.1 (rest := []) rfl (Nat.le_of_ble_eq_true rfl) ⟨Nat.le_of_ble_eq_true rfl, Nat.le_of_ble_eq_true rfl⟩ ⟨Nat.le_of_ble_eq_true rfl, Nat.le_of_ble_eq_true rfl⟩ dX12_isAmong_12 (fun f41 locs hf41 hS => ?_)
                    have xf41 : f41.toInt = (tb.getD 4 0).toInt := by rw [hf41.2, sg_cl (iv_add (a' := 4) (b' := 4) ey36 (iv_add (a' := 3) (b' := 3) ey27 (iv_add (a' := 2) (b' := 2) ey18 (iv_add (a' := 1) (b' := 1) ey9 (iv_c 0 (a := 0) (b := 0) (by decide +kernel)) (iv_c _ (a := 1) (b := 1) (by decide +kernel)) (by decide +kernel)) (iv_c _ (a := 1) (b := 1) (by decide +kernel)) (by decide +kernel)) (iv_c _ (a := 1) (b := 1) (by decide +kernel)) (by decide +kernel)) (iv_c _ (a := 1) (b := 1) (by decide +kernel)) (by decide +kernel)) (by decide)]; rfl
                    refine lv_iload_n X.1 X.2.1 dX12_isAmong_15 rfl (lv_at hl 2 rfl) ?_
                    refine lv_icmp_ne (tgt := 21) X.1 X.2.1 dX12_isAmong_16 (by decide) (fun c42 => ?_) (fun c42 => ?_)
                    · have i43 : ((tb.getD 4 0).toInt = x1.toInt) = False := vq_ne c42 xf41 rfl
                      obtain ⟨y45, ey45⟩ : ∃ y : Int32, y = y36 + Int32.ofInt 1 := ⟨_, rfl⟩
                      have xy45 : y45.toInt = (((((0 + 1) + 1) + 1) + 1) + 1) := sg_exadd ey45 (iv_add (a' := 4) (b' := 4) ey36 (iv_add (a' := 3) (b' := 3) ey27 (iv_add (a' := 2) (b' := 2) ey18 (iv_add (a' := 1) (b' := 1) ey9 (iv_c 0 (a := 0) (b := 0) (by decide +kernel)) (iv_c _ (a := 1) (b := 1) (by decide +kernel)) (by decide +kernel)) (iv_c _ (a := 1) (b := 1) (by decide +kernel)) (by decide +kernel)) (iv_c _ (a := 1) (b := 1) (by decide +kernel)) (by decide +kernel)) (iv_c _ (a := 1) (b := 1) (by decide +kernel)) (by decide +kernel)) (iv_c _ (a := 1) (b := 1) (by decide +kernel)) (by decide +kernel) xy36 (by decide +kernel)
                      refine lv_iinc (v := y45) (lv' := [(2, .int y45), (0, .ref ta), (1, .int x1)]) X.1 X.2.1 dX12_isAmong_21 hl (k := 0) rfl ey45.symm (by decide) rfl (fun ls hl => ?_)
                      refine lv_goto (tgt := 2) X.1 X.2.1 dX12_isAmong_24 (by decide) ?_
                      refine lv_iload_n X.1 X.2.1 dX12_isAmong_2 rfl (lv_at hl 0 rfl) ?_
                      refine lv_aload_n X.1 X.2.1 dX12_isAmong_3 rfl (lv_at hl 1 rfl) ?_
                      refine ca_J0_length_8abf5_6 X hK hG hC (fun _ h => h.elim) hS hb hp wl_7_150 hl.1 (rest := [.int y45]) rfl (Nat.le_of_ble_eq_true rfl) ⟨Nat.le_of_ble_eq_true rfl, Nat.le_of_ble_eq_true rfl⟩ ⟨Nat.le_of_ble_eq_true rfl, Nat.le_of_ble_eq_true rfl⟩ dX12_isAmong_4 (fun f46 locs hf46 hS => ?_)
                      refine lv_icmp_ge (tgt := 27) X.1 X.2.1 dX12_isAmong_7 (by decide) (fun c47 => ?_) (fun c47 => ?_)
                      · have i48 : ¬ ((((((0 + 1) + 1) + 1) + 1) + 1) : Int) < (6 : Int) := vq_le c47 (vq_iv hf46) xy45
                        exact ((iv_no (iv_le (b' := 5) c47 hf46 (iv_add (a' := 5) (b' := 5) ey45 (iv_add (a' := 4) (b' := 4) ey36 (iv_add (a' := 3) (b' := 3) ey27 (iv_add (a' := 2) (b' := 2) ey18 (iv_add (a' := 1) (b' := 1) ey9 (iv_c 0 (a := 0) (b := 0) (by decide +kernel)) (iv_c _ (a := 1) (b := 1) (by decide +kernel)) (by decide +kernel)) (iv_c _ (a := 1) (b := 1) (by decide +kernel)) (by decide +kernel)) (iv_c _ (a := 1) (b := 1) (by decide +kernel)) (by decide +kernel)) (iv_c _ (a := 1) (b := 1) (by decide +kernel)) (by decide +kernel)) (iv_c _ (a := 1) (b := 1) (by decide +kernel)) (by decide +kernel)) (by decide +kernel)) (by decide +kernel))).elim
                      · have i49 : ((((((0 + 1) + 1) + 1) + 1) + 1) : Int) < (6 : Int) := vq_lt (iv_gt_of c47) xy45 (vq_iv hf46)
                        refine lv_aload_n X.1 X.2.1 dX12_isAmong_10 rfl (lv_at hl 1 rfl) ?_
                        refine lv_iload_n X.1 X.2.1 dX12_isAmong_11 rfl (lv_at hl 0 rfl) ?_
                        refine ca_J0_charAt_5068e_e6 X hK hG hC (fun _ h => h.elim) hS hb hp y45 (iv_of (iv_add (a' := 5) (b' := 5) ey45 (iv_add (a' := 4) (b' := 4) ey36 (iv_add (a' := 3) (b' := 3) ey27 (iv_add (a' := 2) (b' := 2) ey18 (iv_add (a' := 1) (b' := 1) ey9 (iv_c 0 (a := 0) (b := 0) (by decide +kernel)) (iv_c _ (a := 1) (b := 1) (by decide +kernel)) (by decide +kernel)) (iv_c _ (a := 1) (b := 1) (by decide +kernel)) (by decide +kernel)) (iv_c _ (a := 1) (b := 1) (by decide +kernel)) (by decide +kernel)) (iv_c _ (a := 1) (b := 1) (by decide +kernel)) (by decide +kernel)) (iv_c _ (a := 1) (b := 1) (by decide +kernel)) (by decide +kernel)) (a' := 0) (b' := 5) (by decide +kernel)) htb wl_7_154 hl.1 (rest := []) rfl (Nat.le_of_ble_eq_true rfl) ⟨Nat.le_of_ble_eq_true rfl, Nat.le_of_ble_eq_true rfl⟩ ⟨Nat.le_of_ble_eq_true rfl, Nat.le_of_ble_eq_true rfl⟩ dX12_isAmong_12 (fun f50 locs hf50 hS => ?_)
                        have xf50 : f50.toInt = (tb.getD 5 0).toInt := by rw [hf50.2, sg_cl (iv_add (a' := 5) (b' := 5) ey45 (iv_add (a' := 4) (b' := 4) ey36 (iv_add (a' := 3) (b' := 3) ey27 (iv_add (a' := 2) (b' := 2) ey18 (iv_add (a' := 1) (b' := 1) ey9 (iv_c 0 (a := 0) (b := 0) (by decide +kernel)) (iv_c _ (a := 1) (b := 1) (by decide +kernel)) (by decide +kernel)) (iv_c _ (a := 1) (b := 1) (by decide +kernel)) (by decide +kernel)) (iv_c _ (a := 1) (b := 1) (by decide +kernel)) (by decide +kernel)) (iv_c _ (a := 1) (b := 1) (by decide +kernel)) (by decide +kernel)) (iv_c _ (a := 1) (b := 1) (by decide +kernel)) (by decide +kernel)) (by decide)]; rfl
                        refine lv_iload_n X.1 X.2.1 dX12_isAmong_15 rfl (lv_at hl 2 rfl) ?_
                        refine lv_icmp_ne (tgt := 21) X.1 X.2.1 dX12_isAmong_16 (by decide) (fun c51 => ?_) (fun c51 => ?_)
                        · have i52 : ((tb.getD 5 0).toInt = x1.toInt) = False := vq_ne c51 xf50 rfl
                          obtain ⟨y54, ey54⟩ : ∃ y : Int32, y = y45 + Int32.ofInt 1 := ⟨_, rfl⟩
                          have xy54 : y54.toInt = ((((((0 + 1) + 1) + 1) + 1) + 1) + 1) := sg_exadd ey54 (iv_add (a' := 5) (b' := 5) ey45 (iv_add (a' := 4) (b' := 4) ey36 (iv_add (a' := 3) (b' := 3) ey27 (iv_add (a' := 2) (b' := 2) ey18 (iv_add (a' := 1) (b' := 1) ey9 (iv_c 0 (a := 0) (b := 0) (by decide +kernel)) (iv_c _ (a := 1) (b := 1) (by decide +kernel)) (by decide +kernel)) (iv_c _ (a := 1) (b := 1) (by decide +kernel)) (by decide +kernel)) (iv_c _ (a := 1) (b := 1) (by decide +kernel)) (by decide +kernel)) (iv_c _ (a := 1) (b := 1) (by decide +kernel)) (by decide +kernel)) (iv_c _ (a := 1) (b := 1) (by decide +kernel)) (by decide +kernel)) (iv_c _ (a := 1) (b := 1) (by decide +kernel)) (by decide +kernel) xy45 (by decide +kernel)
                          refine lv_iinc (v := y54) (lv' := [(2, .int y54), (0, .ref ta), (1, .int x1)]) X.1 X.2.1 dX12_isAmong_21 hl (k := 0) rfl ey54.symm (by decide) rfl (fun ls hl => ?_)
                          refine lv_goto (tgt := 2) X.1 X.2.1 dX12_isAmong_24 (by decide) ?_
                          refine lv_iload_n X.1 X.2.1 dX12_isAmong_2 rfl (lv_at hl 0 rfl) ?_
                          refine lv_aload_n X.1 X.2.1 dX12_isAmong_3 rfl (lv_at hl 1 rfl) ?_
                          refine ca_J0_length_8abf5_6 X hK hG hC (fun _ h => h.elim) hS hb hp wl_7_150 hl.1 (rest := [.int y54]) rfl (Nat.le_of_ble_eq_true rfl) ⟨Nat.le_of_ble_eq_true rfl, Nat.le_of_ble_eq_true rfl⟩ ⟨Nat.le_of_ble_eq_true rfl, Nat.le_of_ble_eq_true rfl⟩ dX12_isAmong_4 (fun f55 locs hf55 hS => ?_)
                          refine lv_icmp_ge (tgt := 27) X.1 X.2.1 dX12_isAmong_7 (by decide) (fun c56 => ?_) (fun c56 => ?_)
                          · have i57 : ¬ (((((((0 + 1) + 1) + 1) + 1) + 1) + 1) : Int) < (6 : Int) := vq_le c56 (vq_iv hf55) xy54
                            refine lv_iconst (v := 0) X.1 X.2.1 dX12_isAmong_27 (by decide +kernel) ?_
                            exact sg_zretP X hr (sg_zn (iv_of (iv_c 0 (a := 0) (b := 0) (by decide +kernel)) (a' := 0) (b' := 1) (by decide +kernel))) hlk hS (Or.inr ⟨rfl, (by simp only [vIx, i4, i7, i13, i16, i22, i25, i31, i34, i40, i43, i49, i52, i57, if_true, if_false]; decide)⟩) dX12_isAmong_28
                          · have i58 : (((((((0 + 1) + 1) + 1) + 1) + 1) + 1) : Int) < (6 : Int) := vq_lt (iv_gt_of c56) xy54 (vq_iv hf55)
                            exact ((iv_no (iv_lt (b' := 5) (iv_gt_of c56) (iv_add (a' := 6) (b' := 6) ey54 (iv_add (a' := 5) (b' := 5) ey45 (iv_add (a' := 4) (b' := 4) ey36 (iv_add (a' := 3) (b' := 3) ey27 (iv_add (a' := 2) (b' := 2) ey18 (iv_add (a' := 1) (b' := 1) ey9 (iv_c 0 (a := 0) (b := 0) (by decide +kernel)) (iv_c _ (a := 1) (b := 1) (by decide +kernel)) (by decide +kernel)) (iv_c _ (a := 1) (b := 1) (by decide +kernel)) (by decide +kernel)) (iv_c _ (a := 1) (b := 1) (by decide +kernel)) (by decide +kernel)) (iv_c _ (a := 1) (b := 1) (by decide +kernel)) (by decide +kernel)) (iv_c _ (a := 1) (b := 1) (by decide +kernel)) (by decide +kernel)) (iv_c _ (a := 1) (b := 1) (by decide +kernel)) (by decide +kernel)) hf55 (by decide +kernel)) (by decide +kernel))).elim
                        · have i53 : (tb.getD 5 0).toInt = x1.toInt := vq_eq c51 xf50 rfl
                          refine lv_iconst (v := 1) X.1 X.2.1 dX12_isAmong_19 (by decide +kernel) ?_
                          exact sg_zretP X hr (sg_zn (iv_of (iv_c 1 (a := 1) (b := 1) (by decide +kernel)) (a' := 0) (b' := 1) (by decide +kernel))) hlk hS (Or.inl ⟨rfl, (by simp only [vIx, i4, i7, i13, i16, i22, i25, i31, i34, i40, i43, i49, i53, if_true, if_false]; decide), (by have z := htb 5 (by decide); exact ⟨by have := z.1; omega, by have := z.2; omega⟩)⟩) dX12_isAmong_20
                    · have i44 : (tb.getD 4 0).toInt = x1.toInt := vq_eq c42 xf41 rfl
                      refine lv_iconst (v := 1) X.1 X.2.1 dX12_isAmong_19 (by decide +kernel) ?_
                      exact sg_zretP X hr (sg_zn (iv_of (iv_c 1 (a := 1) (b := 1) (by decide +kernel)) (a' := 0) (b' := 1) (by decide +kernel))) hlk hS (Or.inl ⟨rfl, (by simp only [vIx, i4, i7, i13, i16, i22, i25, i31, i34, i40, i44, if_true, if_false]; decide), (by have z := htb 4 (by decide); exact ⟨by have := z.1; omega, by have := z.2; omega⟩)⟩) dX12_isAmong_20
                · have i35 : (tb.getD 3 0).toInt = x1.toInt := vq_eq c33 xf32 rfl
                  refine lv_iconst (v := 1) X.1 X.2.1 dX12_isAmong_19 (by decide +kernel) ?_
                  exact sg_zretP X hr (sg_zn (iv_of (iv_c 1 (a := 1) (b := 1) (by decide +kernel)) (a' := 0) (b' := 1) (by decide +kernel))) hlk hS (Or.inl ⟨rfl, (by simp only [vIx, i4, i7, i13, i16, i22, i25, i31, i35, if_true, if_false]; decide), (by have z := htb 3 (by decide); exact ⟨by have := z.1; omega, by have := z.2; omega⟩)⟩) dX12_isAmong_20
            · have i26 : (tb.getD 2 0).toInt = x1.toInt := vq_eq c24 xf23 rfl
              refine lv_iconst (v := 1) X.1 X.2.1 dX12_isAmong_19 (by decide +kernel) ?_
              exact sg_zretP X hr (sg_zn (iv_of (iv_c 1 (a := 1) (b := 1) (by decide +kernel)) (a' := 0) (b' := 1) (by decide +kernel))) hlk hS (Or.inl ⟨rfl, (by simp only [vIx, i4, i7, i13, i16, i22, i26, if_true, if_false]; decide), (by have z := htb 2 (by decide); exact ⟨by have := z.1; omega, by have := z.2; omega⟩)⟩) dX12_isAmong_20
        · have i17 : (tb.getD 1 0).toInt = x1.toInt := vq_eq c15 xf14 rfl
          refine lv_iconst (v := 1) X.1 X.2.1 dX12_isAmong_19 (by decide +kernel) ?_
          exact sg_zretP X hr (sg_zn (iv_of (iv_c 1 (a := 1) (b := 1) (by decide +kernel)) (a' := 0) (b' := 1) (by decide +kernel))) hlk hS (Or.inl ⟨rfl, (by simp only [vIx, i4, i7, i13, i17, if_true, if_false]; decide), (by have z := htb 1 (by decide); exact ⟨by have := z.1; omega, by have := z.2; omega⟩)⟩) dX12_isAmong_20
    · have i8 : (tb.getD 0 0).toInt = x1.toInt := vq_eq c6 xf5 rfl
      refine lv_iconst (v := 1) X.1 X.2.1 dX12_isAmong_19 (by decide +kernel) ?_
      exact sg_zretP X hr (sg_zn (iv_of (iv_c 1 (a := 1) (b := 1) (by decide +kernel)) (a' := 0) (b' := 1) (by decide +kernel))) hlk hS (Or.inl ⟨rfl, (by simp only [vIx, i4, i8, if_true, if_false]; decide), (by have z := htb 0 (by decide); exact ⟨by have := z.1; omega, by have := z.2; omega⟩)⟩) dX12_isAmong_20

theorem ca_X12_isAmong_e6   (X : CallFix p m c cc nL s args sg_tbl own) (hK : va_K D vwCl tys s) (hG : sgG (KT P) D vwCl (fun q : Nat => base ≤ q) tys ad ks H) (hC : sgC base s) (hA : ∀ q : Nat, A q → base ≤ q) (hS : va_S A s.heap H locs)  (hb : base ≤ s.heap.size) {ta tv : Nat} {tb : List Int32} (hp : P_S ta tv 6 tb A s) (x1 : Int32) (htb : ∀ j : Nat, j < 6 → iv 0 127 (tb.getD j 0)) (hl : Cond.methodLink own index yX12_isAmong ∈ sg_tbl) (hsize : ls.size = nL) (hst : st0 = [.ref ta, .int x1].reverse ++ rest) (hW : (rest.map fun v => v.category).sum ≤ 8) (hR : 5 ≤ R.frames ∧ 107 ≤ R.locals) (hf : cells ≤ R.cells ∧ slots ≤ R.slots) (hdg : decode cc pc = .ok (.invokestatic index, 3)) (kk : ∀ (r : Int32) (locs1 : List Loc), (fun r : Int32 => (r = 1 ∧ ¬ vIx tb x1.toInt 6 0 < 0 ∧ iv 0 127 x1) ∨ (r = 0 ∧ vIx tb x1.toInt 6 0 < 0)) r → va_S A s.heap H locs1 → W p l e R s m args below meth c H locs1 cells slots Q (F0 m (pc + 3) ls (.int r :: rest))) : W p l e R s m args below meth c H locs cells slots Q (F0 m pc ls st0) :=
  sg_callESi X hK hG hC hA hS hb hp (m_X12_isAmong_e6 l ta tv tb x1 htb) wl_7_216 wl_1_13 wl_7_215 (n := 2) (by decide +kernel) rfl rfl rfl hl hsize hst hW hR hf hdg kk

set_option maxHeartbeats 8000000 in
set_option maxRecDepth 100000 in
theorem m_J1_charAt_3b067_e4 (l : Launch) {D : va_G} {base : Nat} {tys : List (ClassId × FieldType)} {ad ks : List Nat} {P : sgPm} {Hx : Heap} (ta tv : Nat) (tb : List Int32) (x1 : Int32) (h1 : iv 0 3 x1) (htb : ∀ j : Nat, j < 4 → iv 0 127 (tb.getD j 0)) : sgEi l (KT P) D vwCl base tys ad ks Hx ta tv 4 tb yJ1_charAt_3b067 cJ1_charAt_3b067 2 (some .char) ({ frames := 2, cells := 0, slots := 0, locals := 43 }) [.ref tv, .int x1] (fun r : Int32 => iv 0 127 r ∧ r = tb.getD x1.toNatClampNeg 0) := by
  refine sg_ofE (Pq := fun Hx => va_Qi (fun r (_ : Unit) => (fun r : Int32 => iv 0 127 r ∧ r = tb.getD x1.toNatClampNeg 0) r) (fun _ t => t.heap = Hx) (fun _ : Nat => False)) (by decide +kernel) (Nat.le_of_ble_eq_true rfl) (fun p e s m below meth c X hr hlk hb hK hC hG ls hl hp => ?_)
  have hS : va_S (fun _ : Nat => False) s.heap s.heap [] := va_S.rf
  have hl : lv_has ls 2 [(0, .ref tv), (1, .int x1)] := hl
  refine lv_iload_n X.1 X.2.1 dJ1_charAt_3b067_0 rfl (lv_at hl 1 rfl) ?_
  refine lv_aload_n X.1 X.2.1 dJ1_charAt_3b067_1 rfl (lv_at hl 0 rfl) ?_
  refine va_tlen X.1 X.2.1 hp.2.2.2.1 hS (v := 4) rfl dJ1_charAt_3b067_2 ?_
  refine ca_J0_checkIndex_df160_4 X hK hG hC (fun _ h => h.elim) hS hb hp x1 h1 4 (iv_c 4 (a := 4) (b := 4) (by decide +kernel)) wl_7_161 hl.1 (rest := []) rfl (Nat.le_of_ble_eq_true rfl) ⟨Nat.le_of_ble_eq_true rfl, Nat.le_of_ble_eq_true rfl⟩ ⟨Nat.le_of_ble_eq_true rfl, Nat.le_of_ble_eq_true rfl⟩ dJ1_charAt_3b067_3 (fun locs hS => ?_)
  refine lv_aload_n X.1 X.2.1 dJ1_charAt_3b067_6 rfl (lv_at hl 0 rfl) ?_
  refine lv_iload_n X.1 X.2.1 dJ1_charAt_3b067_7 rfl (lv_at hl 1 rfl) ?_
  refine va_tb X.1 X.2.1 hp.2.2.2.1 hS (i := x1) (iv_vpin h1 (by decide +kernel)) rfl dJ1_charAt_3b067_8 ?_
  refine lv_topi (fun f2 ef2 => ?_)
  refine lv_sipush (v := 255) X.1 X.2.1 dJ1_charAt_3b067_9 (by decide +kernel) ?_
  refine lv_iand X.1 X.2.1 dJ1_charAt_3b067_12 ?_
  refine lv_topi (fun f3 ef3 => ?_)
  have zf3 : f3 = f2 := vq_127 ef3 (by rw [ef2]; exact htb _ (sg_inlt (iv_vpin h1 (by decide +kernel))))
  have wf3 : iv 0 127 f3 := by rw [zf3]; exact (by rw [ef2]; exact htb _ (sg_inlt (iv_vpin h1 (by decide +kernel))))
  obtain ⟨f4, ef4⟩ : ∃ y : Int32, y = ((f3 : Int32).toUInt32 % 65536).toInt32 := ⟨_, rfl⟩
  refine lv_i2c (v := f4) X.1 X.2.1 dJ1_charAt_3b067_13 ef4.symm ?_
  have zf4 : f4 = f3 := vq_i2c ef4 (iv_of wf3 (a' := 0) (b' := 255) (by decide +kernel))
  exact sg_zretP X hr (sg_cn (by rw [zf4]; exact wf3)) hlk hS ⟨(by rw [zf4]; exact wf3), (by rw [zf4, zf3]; exact ef2)⟩ dJ1_charAt_3b067_14

theorem ca_J1_charAt_3b067_e4   (X : CallFix p m c cc nL s args sg_tbl own) (hK : va_K D vwCl tys s) (hG : sgG (KT P) D vwCl (fun q : Nat => base ≤ q) tys ad ks H) (hC : sgC base s) (hA : ∀ q : Nat, A q → base ≤ q) (hS : va_S A s.heap H locs)  (hb : base ≤ s.heap.size) {ta tv : Nat} {tb : List Int32} (hp : P_S ta tv 4 tb A s) (x1 : Int32) (h1 : iv 0 3 x1) (htb : ∀ j : Nat, j < 4 → iv 0 127 (tb.getD j 0)) (hl : Cond.methodLink own index yJ1_charAt_3b067 ∈ sg_tbl) (hsize : ls.size = nL) (hst : st0 = [.ref tv, .int x1].reverse ++ rest) (hW : (rest.map fun v => v.category).sum ≤ 8) (hR : 3 ≤ R.frames ∧ 64 ≤ R.locals) (hf : cells ≤ R.cells ∧ slots ≤ R.slots) (hdg : decode cc pc = .ok (.invokestatic index, 3)) (kk : ∀ (r : Int32) (locs1 : List Loc), (fun r : Int32 => iv 0 127 r ∧ r = tb.getD x1.toNatClampNeg 0) r → va_S A s.heap H locs1 → W p l e R s m args below meth c H locs1 cells slots Q (F0 m (pc + 3) ls (.int r :: rest))) : W p l e R s m args below meth c H locs cells slots Q (F0 m pc ls st0) :=
  sg_callESi X hK hG hC hA hS hb hp (m_J1_charAt_3b067_e4 l ta tv tb x1 h1 htb) wl_7_160 wl_1_17 wl_7_159 (n := 2) (by decide +kernel) rfl rfl rfl hl hsize hst hW hR hf hdg kk

set_option maxHeartbeats 8000000 in
set_option maxRecDepth 100000 in
theorem m_J0_charAt_5068e_e4 (l : Launch) {D : va_G} {base : Nat} {tys : List (ClassId × FieldType)} {ad ks : List Nat} {P : sgPm} {Hx : Heap} (ta tv : Nat) (tb : List Int32) (x1 : Int32) (h1 : iv 0 3 x1) (htb : ∀ j : Nat, j < 4 → iv 0 127 (tb.getD j 0)) : sgEi l (KT P) D vwCl base tys ad ks Hx ta tv 4 tb yJ0_charAt_5068e cJ0_charAt_5068e 2 (some .char) ({ frames := 3, cells := 0, slots := 0, locals := 64 }) [.ref ta, .int x1] (fun r : Int32 => iv 0 127 r ∧ r = tb.getD x1.toNatClampNeg 0) := by
  refine sg_ofE (Pq := fun Hx => va_Qi (fun r (_ : Unit) => (fun r : Int32 => iv 0 127 r ∧ r = tb.getD x1.toNatClampNeg 0) r) (fun _ t => t.heap = Hx) (fun _ : Nat => False)) (by decide +kernel) (Nat.le_of_ble_eq_true rfl) (fun p e s m below meth c X hr hlk hb hK hC hG ls hl hp => ?_)
  have hS : va_S (fun _ : Nat => False) s.heap s.heap [] := va_S.rf
  have hl : lv_has ls 2 [(0, .ref ta), (1, .int x1)] := hl
  refine lv_aload_n X.1 X.2.1 dJ0_charAt_5068e_0 rfl (lv_at hl 0 rfl) ?_
  refine ca_J0_isLatin1_aae02_4 X hK hG hC (fun _ h => h.elim) hS hb hp wl_3_79 hl.1 (rest := []) rfl (Nat.le_of_ble_eq_true rfl) ⟨Nat.le_of_ble_eq_true rfl, Nat.le_of_ble_eq_true rfl⟩ ⟨Nat.le_of_ble_eq_true rfl, Nat.le_of_ble_eq_true rfl⟩ dJ0_charAt_5068e_1 (fun f1 locs hf1 hS => ?_)
  refine lv_if_eq (tgt := 16) X.1 X.2.1 dJ0_charAt_5068e_4 (by decide) (fun c2 => ?_) (fun c2 => ?_)
  · have i3 : (1 : Int) = (0 : Int) := vq_eq c2 (vq_iv hf1) (by decide +kernel)
    exact ((iv_no (a := 1) (b := 0) (iv_eqm c2 hf1 (iv_c 0 (a := 0) (b := 0) (by decide +kernel)) (by decide +kernel)) (by decide +kernel))).elim
  · have i4 : ((1 : Int) = (0 : Int)) = False := vq_ne c2 (vq_iv hf1) (by decide +kernel)
    refine lv_aload_n X.1 X.2.1 dJ0_charAt_5068e_7 rfl (lv_at hl 0 rfl) ?_
    refine vk_getf (v := .ref tv) X.1 X.2.1 hp.2.2.1 hS X.2.2.2.1 (X.2.2.2.2 _ wl_9_181) (fun _ h9 => h9) dJ0_charAt_5068e_8 ?_
    refine lv_iload_n X.1 X.2.1 dJ0_charAt_5068e_11 rfl (lv_at hl 1 rfl) ?_
    refine ca_J1_charAt_3b067_e4 X hK hG hC (fun _ h => h.elim) hS hb hp x1 h1 htb wl_7_158 hl.1 (rest := []) rfl (Nat.le_of_ble_eq_true rfl) ⟨Nat.le_of_ble_eq_true rfl, Nat.le_of_ble_eq_true rfl⟩ ⟨Nat.le_of_ble_eq_true rfl, Nat.le_of_ble_eq_true rfl⟩ dJ0_charAt_5068e_12 (fun f5 locs hf5 hS => ?_)
    exact sg_zretP X hr (sg_cn hf5.1) hlk hS ⟨hf5.1, hf5.2⟩ dJ0_charAt_5068e_15

theorem ca_J0_charAt_5068e_e4   (X : CallFix p m c cc nL s args sg_tbl own) (hK : va_K D vwCl tys s) (hG : sgG (KT P) D vwCl (fun q : Nat => base ≤ q) tys ad ks H) (hC : sgC base s) (hA : ∀ q : Nat, A q → base ≤ q) (hS : va_S A s.heap H locs)  (hb : base ≤ s.heap.size) {ta tv : Nat} {tb : List Int32} (hp : P_S ta tv 4 tb A s) (x1 : Int32) (h1 : iv 0 3 x1) (htb : ∀ j : Nat, j < 4 → iv 0 127 (tb.getD j 0)) (hl : Cond.methodLink own index yJ0_charAt_5068e ∈ sg_tbl) (hsize : ls.size = nL) (hst : st0 = [.int x1].reverse ++ .ref ta :: rest) (hW : (rest.map fun v => v.category).sum ≤ 8) (hR : 4 ≤ R.frames ∧ 85 ≤ R.locals) (hf : cells ≤ R.cells ∧ slots ≤ R.slots) (hdg : decode cc pc = .ok (.invokevirtual index, 3)) (kk : ∀ (r : Int32) (locs1 : List Loc), (fun r : Int32 => iv 0 127 r ∧ r = tb.getD x1.toNatClampNeg 0) r → va_S A s.heap H locs1 → W p l e R s m args below meth c H locs1 cells slots Q (F0 m (pc + 3) ls (.int r :: rest))) : W p l e R s m args below meth c H locs cells slots Q (F0 m pc ls st0) :=
  sg_callEVi X hK hG hC hA hS hb hp (m_J0_charAt_5068e_e4 l ta tv tb x1 h1 htb) wl_7_157 wl_1_16 wl_7_155 wl_7_156 (n := 1) (by decide +kernel) rfl rfl rfl hl hsize hst hW hR hf hdg kk

set_option maxHeartbeats 8000000 in
set_option maxRecDepth 100000 in
theorem m_X12_spotOf_e4 (l : Launch) {D : va_G} {base : Nat} {tys : List (ClassId × FieldType)} {ad ks : List Nat} {P : sgPm} {Hx : Heap} (ta tv : Nat) (tb : List Int32) (x1 : Int32) (htb : ∀ j : Nat, j < 4 → iv 0 127 (tb.getD j 0)) : sgEi l (KT P) D vwCl base tys ad ks Hx ta tv 4 tb yX12_spotOf cX12_spotOf 3 (some .int) ({ frames := 4, cells := 0, slots := 0, locals := 85 }) [.ref ta, .int x1] (fun r : Int32 => iv (-1) 3 r ∧ r.toInt = vIx tb x1.toInt 4 0 ∧ (r = -1 ∨ iv 0 127 x1)) := by
  refine sg_ofE (Pq := fun Hx => va_Qi (fun r (_ : Unit) => (fun r : Int32 => iv (-1) 3 r ∧ r.toInt = vIx tb x1.toInt 4 0 ∧ (r = -1 ∨ iv 0 127 x1)) r) (fun _ t => t.heap = Hx) (fun _ : Nat => False)) (by decide +kernel) (Nat.le_of_ble_eq_true rfl) (fun p e s m below meth c X hr hlk hb hK hC hG ls hl hp => ?_)
  have hS : va_S (fun _ : Nat => False) s.heap s.heap [] := va_S.rf
  have hl : lv_has ls 3 [(0, .ref ta), (1, .int x1)] := hl
  refine lv_iconst (v := 0) X.1 X.2.1 dX12_spotOf_0 (by decide +kernel) ?_
  refine lv_istore_n (lv' := [(2, .int 0), (0, .ref ta), (1, .int x1)]) X.1 X.2.1 dX12_spotOf_1 rfl hl (by decide) rfl (fun ls hl => ?_)
  refine lv_iload_n X.1 X.2.1 dX12_spotOf_2 rfl (lv_at hl 0 rfl) ?_
  refine lv_aload_n X.1 X.2.1 dX12_spotOf_3 rfl (lv_at hl 1 rfl) ?_
  refine ca_J0_length_8abf5_4 X hK hG hC (fun _ h => h.elim) hS hb hp wl_7_150 hl.1 (rest := [.int 0]) rfl (Nat.le_of_ble_eq_true rfl) ⟨Nat.le_of_ble_eq_true rfl, Nat.le_of_ble_eq_true rfl⟩ ⟨Nat.le_of_ble_eq_true rfl, Nat.le_of_ble_eq_true rfl⟩ dX12_spotOf_4 (fun f1 locs hf1 hS => ?_)
  refine lv_icmp_ge (tgt := 27) X.1 X.2.1 dX12_spotOf_7 (by decide) (fun c2 => ?_) (fun c2 => ?_)
  · have i3 : ¬ (0 : Int) < (4 : Int) := vq_le c2 (vq_iv hf1) (by decide +kernel)
    exact ((iv_no (iv_le (b' := 0) c2 hf1 (iv_c 0 (a := 0) (b := 0) (by decide +kernel)) (by decide +kernel)) (by decide +kernel))).elim
  · have i4 : (0 : Int) < (4 : Int) := vq_lt (iv_gt_of c2) (by decide +kernel) (vq_iv hf1)
    refine lv_aload_n X.1 X.2.1 dX12_spotOf_10 rfl (lv_at hl 1 rfl) ?_
    refine lv_iload_n X.1 X.2.1 dX12_spotOf_11 rfl (lv_at hl 0 rfl) ?_
    refine ca_J0_charAt_5068e_e4 X hK hG hC (fun _ h => h.elim) hS hb hp 0 (iv_of (iv_c 0 (a := 0) (b := 0) (by decide +kernel)) (a' := 0) (b' := 3) (by decide +kernel)) htb wl_7_154 hl.1 (rest := []) rfl (Nat.le_of_ble_eq_true rfl) ⟨Nat.le_of_ble_eq_true rfl, Nat.le_of_ble_eq_true rfl⟩ ⟨Nat.le_of_ble_eq_true rfl, Nat.le_of_ble_eq_true rfl⟩ dX12_spotOf_12 (fun f5 locs hf5 hS => ?_)
    have xf5 : f5.toInt = (tb.getD 0 0).toInt := by rw [hf5.2, sg_cl (iv_c 0 (a := 0) (b := 0) (by decide +kernel)) (by decide)]; rfl
    refine lv_iload_n X.1 X.2.1 dX12_spotOf_15 rfl (lv_at hl 2 rfl) ?_
    refine lv_icmp_ne (tgt := 21) X.1 X.2.1 dX12_spotOf_16 (by decide) (fun c6 => ?_) (fun c6 => ?_)
    · have i7 : ((tb.getD 0 0).toInt = x1.toInt) = False := vq_ne c6 xf5 rfl
      obtain ⟨y9, ey9⟩ : ∃ y : Int32, y = 0 + Int32.ofInt 1 := ⟨_, rfl⟩
      have xy9 : y9.toInt = (0 + 1) := sg_exadd ey9 (iv_c 0 (a := 0) (b := 0) (by decide +kernel)) (iv_c _ (a := 1) (b := 1) (by decide +kernel)) (by decide +kernel) (by decide +kernel) (by decide +kernel)
      refine lv_iinc (v := y9) (lv' := [(2, .int y9), (0, .ref ta), (1, .int x1)]) X.1 X.2.1 dX12_spotOf_21 hl (k := 0) rfl ey9.symm (by decide) rfl (fun ls hl => ?_)
      refine lv_goto (tgt := 2) X.1 X.2.1 dX12_spotOf_24 (by decide) ?_
      refine lv_iload_n X.1 X.2.1 dX12_spotOf_2 rfl (lv_at hl 0 rfl) ?_
      refine lv_aload_n X.1 X.2.1 dX12_spotOf_3 rfl (lv_at hl 1 rfl) ?_
      refine ca_J0_length_8abf5_4 X hK hG hC (fun _ h => h.elim) hS hb hp wl_7_150 hl.1 (rest := [.int y9]) rfl (Nat.le_of_ble_eq_true rfl) ⟨Nat.le_of_ble_eq_true rfl, Nat.le_of_ble_eq_true rfl⟩ ⟨Nat.le_of_ble_eq_true rfl, Nat.le_of_ble_eq_true rfl⟩ dX12_spotOf_4 (fun f10 locs hf10 hS => ?_)
      refine lv_icmp_ge (tgt := 27) X.1 X.2.1 dX12_spotOf_7 (by decide) (fun c11 => ?_) (fun c11 => ?_)
      · have i12 : ¬ ((0 + 1) : Int) < (4 : Int) := vq_le c11 (vq_iv hf10) xy9
        exact ((iv_no (iv_le (b' := 1) c11 hf10 (iv_add (a' := 1) (b' := 1) ey9 (iv_c 0 (a := 0) (b := 0) (by decide +kernel)) (iv_c _ (a := 1) (b := 1) (by decide +kernel)) (by decide +kernel)) (by decide +kernel)) (by decide +kernel))).elim
      · have i13 : ((0 + 1) : Int) < (4 : Int) := vq_lt (iv_gt_of c11) xy9 (vq_iv hf10)
        refine lv_aload_n X.1 X.2.1 dX12_spotOf_10 rfl (lv_at hl 1 rfl) ?_
        refine lv_iload_n X.1 X.2.1 dX12_spotOf_11 rfl (lv_at hl 0 rfl) ?_
        refine ca_J0_charAt_5068e_e4 X hK hG hC (fun _ h => h.elim) hS hb hp y9 (iv_of (iv_add (a' := 1) (b' := 1) ey9 (iv_c 0 (a := 0) (b := 0) (by decide +kernel)) (iv_c _ (a := 1) (b := 1) (by decide +kernel)) (by decide +kernel)) (a' := 0) (b' := 3) (by decide +kernel)) htb wl_7_154 hl.1 (rest := []) rfl (Nat.le_of_ble_eq_true rfl) ⟨Nat.le_of_ble_eq_true rfl, Nat.le_of_ble_eq_true rfl⟩ ⟨Nat.le_of_ble_eq_true rfl, Nat.le_of_ble_eq_true rfl⟩ dX12_spotOf_12 (fun f14 locs hf14 hS => ?_)
        have xf14 : f14.toInt = (tb.getD 1 0).toInt := by rw [hf14.2, sg_cl (iv_add (a' := 1) (b' := 1) ey9 (iv_c 0 (a := 0) (b := 0) (by decide +kernel)) (iv_c _ (a := 1) (b := 1) (by decide +kernel)) (by decide +kernel)) (by decide)]; rfl
        refine lv_iload_n X.1 X.2.1 dX12_spotOf_15 rfl (lv_at hl 2 rfl) ?_
        refine lv_icmp_ne (tgt := 21) X.1 X.2.1 dX12_spotOf_16 (by decide) (fun c15 => ?_) (fun c15 => ?_)
        · have i16 : ((tb.getD 1 0).toInt = x1.toInt) = False := vq_ne c15 xf14 rfl
          obtain ⟨y18, ey18⟩ : ∃ y : Int32, y = y9 + Int32.ofInt 1 := ⟨_, rfl⟩
          have xy18 : y18.toInt = ((0 + 1) + 1) := sg_exadd ey18 (iv_add (a' := 1) (b' := 1) ey9 (iv_c 0 (a := 0) (b := 0) (by decide +kernel)) (iv_c _ (a := 1) (b := 1) (by decide +kernel)) (by decide +kernel)) (iv_c _ (a := 1) (b := 1) (by decide +kernel)) (by decide +kernel) xy9 (by decide +kernel)
          refine lv_iinc (v := y18) (lv' := [(2, .int y18), (0, .ref ta), (1, .int x1)]) X.1 X.2.1 dX12_spotOf_21 hl (k := 0) rfl ey18.symm (by decide) rfl (fun ls hl => ?_)
          refine lv_goto (tgt := 2) X.1 X.2.1 dX12_spotOf_24 (by decide) ?_
          refine lv_iload_n X.1 X.2.1 dX12_spotOf_2 rfl (lv_at hl 0 rfl) ?_
          refine lv_aload_n X.1 X.2.1 dX12_spotOf_3 rfl (lv_at hl 1 rfl) ?_
          refine ca_J0_length_8abf5_4 X hK hG hC (fun _ h => h.elim) hS hb hp wl_7_150 hl.1 (rest := [.int y18]) rfl (Nat.le_of_ble_eq_true rfl) ⟨Nat.le_of_ble_eq_true rfl, Nat.le_of_ble_eq_true rfl⟩ ⟨Nat.le_of_ble_eq_true rfl, Nat.le_of_ble_eq_true rfl⟩ dX12_spotOf_4 (fun f19 locs hf19 hS => ?_)
          refine lv_icmp_ge (tgt := 27) X.1 X.2.1 dX12_spotOf_7 (by decide) (fun c20 => ?_) (fun c20 => ?_)
          · have i21 : ¬ (((0 + 1) + 1) : Int) < (4 : Int) := vq_le c20 (vq_iv hf19) xy18
            exact ((iv_no (iv_le (b' := 2) c20 hf19 (iv_add (a' := 2) (b' := 2) ey18 (iv_add (a' := 1) (b' := 1) ey9 (iv_c 0 (a := 0) (b := 0) (by decide +kernel)) (iv_c _ (a := 1) (b := 1) (by decide +kernel)) (by decide +kernel)) (iv_c _ (a := 1) (b := 1) (by decide +kernel)) (by decide +kernel)) (by decide +kernel)) (by decide +kernel))).elim
          · have i22 : (((0 + 1) + 1) : Int) < (4 : Int) := vq_lt (iv_gt_of c20) xy18 (vq_iv hf19)
            refine lv_aload_n X.1 X.2.1 dX12_spotOf_10 rfl (lv_at hl 1 rfl) ?_
            refine lv_iload_n X.1 X.2.1 dX12_spotOf_11 rfl (lv_at hl 0 rfl) ?_
            refine ca_J0_charAt_5068e_e4 X hK hG hC (fun _ h => h.elim) hS hb hp y18 (iv_of (iv_add (a' := 2) (b' := 2) ey18 (iv_add (a' := 1) (b' := 1) ey9 (iv_c 0 (a := 0) (b := 0) (by decide +kernel)) (iv_c _ (a := 1) (b := 1) (by decide +kernel)) (by decide +kernel)) (iv_c _ (a := 1) (b := 1) (by decide +kernel)) (by decide +kernel)) (a' := 0) (b' := 3) (by decide +kernel)) htb wl_7_154 hl.1 (rest := []) rfl (Nat.le_of_ble_eq_true rfl) ⟨Nat.le_of_ble_eq_true rfl, Nat.le_of_ble_eq_true rfl⟩ ⟨Nat.le_of_ble_eq_true rfl, Nat.le_of_ble_eq_true rfl⟩ dX12_spotOf_12 (fun f23 locs hf23 hS => ?_)
            have xf23 : f23.toInt = (tb.getD 2 0).toInt := by rw [hf23.2, sg_cl (iv_add (a' := 2) (b' := 2) ey18 (iv_add (a' := 1) (b' := 1) ey9 (iv_c 0 (a := 0) (b := 0) (by decide +kernel)) (iv_c _ (a := 1) (b := 1) (by decide +kernel)) (by decide +kernel)) (iv_c _ (a := 1) (b := 1) (by decide +kernel)) (by decide +kernel)) (by decide)]; rfl
            refine lv_iload_n X.1 X.2.1 dX12_spotOf_15 rfl (lv_at hl 2 rfl) ?_
            refine lv_icmp_ne (tgt := 21) X.1 X.2.1 dX12_spotOf_16 (by decide) (fun c24 => ?_) (fun c24 => ?_)
            · have i25 : ((tb.getD 2 0).toInt = x1.toInt) = False := vq_ne c24 xf23 rfl
              obtain ⟨y27, ey27⟩ : ∃ y : Int32, y = y18 + Int32.ofInt 1 := ⟨_, rfl⟩
              have xy27 : y27.toInt = (((0 + 1) + 1) + 1) := sg_exadd ey27 (iv_add (a' := 2) (b' := 2) ey18 (iv_add (a' := 1) (b' := 1) ey9 (iv_c 0 (a := 0) (b := 0) (by decide +kernel)) (iv_c _ (a := 1) (b := 1) (by decide +kernel)) (by decide +kernel)) (iv_c _ (a := 1) (b := 1) (by decide +kernel)) (by decide +kernel)) (iv_c _ (a := 1) (b := 1) (by decide +kernel)) (by decide +kernel) xy18 (by decide +kernel)
              refine lv_iinc (v := y27) (lv' := [(2, .int y27), (0, .ref ta), (1, .int x1)]) X.1 X.2.1 dX12_spotOf_21 hl (k := 0) rfl ey27.symm (by decide) rfl (fun ls hl => ?_)
              refine lv_goto (tgt := 2) X.1 X.2.1 dX12_spotOf_24 (by decide) ?_
              refine lv_iload_n X.1 X.2.1 dX12_spotOf_2 rfl (lv_at hl 0 rfl) ?_
              refine lv_aload_n X.1 X.2.1 dX12_spotOf_3 rfl (lv_at hl 1 rfl) ?_
              refine ca_J0_length_8abf5_4 X hK hG hC (fun _ h => h.elim) hS hb hp wl_7_150 hl.1 (rest := [.int y27]) rfl (Nat.le_of_ble_eq_true rfl) ⟨Nat.le_of_ble_eq_true rfl, Nat.le_of_ble_eq_true rfl⟩ ⟨Nat.le_of_ble_eq_true rfl, Nat.le_of_ble_eq_true rfl⟩ dX12_spotOf_4 (fun f28 locs hf28 hS => ?_)
              refine lv_icmp_ge (tgt := 27) X.1 X.2.1 dX12_spotOf_7 (by decide) (fun c29 => ?_) (fun c29 => ?_)
              · have i30 : ¬ ((((0 + 1) + 1) + 1) : Int) < (4 : Int) := vq_le c29 (vq_iv hf28) xy27
                exact ((iv_no (iv_le (b' := 3) c29 hf28 (iv_add (a' := 3) (b' := 3) ey27 (iv_add (a' := 2) (b' := 2) ey18 (iv_add (a' := 1) (b' := 1) ey9 (iv_c 0 (a := 0) (b := 0) (by decide +kernel)) (iv_c _ (a := 1) (b := 1) (by decide +kernel)) (by decide +kernel)) (iv_c _ (a := 1) (b := 1) (by decide +kernel)) (by decide +kernel)) (iv_c _ (a := 1) (b := 1) (by decide +kernel)) (by decide +kernel)) (by decide +kernel)) (by decide +kernel))).elim
              · have i31 : ((((0 + 1) + 1) + 1) : Int) < (4 : Int) := vq_lt (iv_gt_of c29) xy27 (vq_iv hf28)
                refine lv_aload_n X.1 X.2.1 dX12_spotOf_10 rfl (lv_at hl 1 rfl) ?_
                refine lv_iload_n X.1 X.2.1 dX12_spotOf_11 rfl (lv_at hl 0 rfl) ?_
                refine ca_J0_charAt_5068e_e4 X hK hG hC (fun _ h => h.elim) hS hb hp y27 (iv_of (iv_add (a' := 3) (b' := 3) ey27 (iv_add (a' := 2) (b' := 2) ey18 (iv_add (a' := 1) (b' := 1) ey9 (iv_c 0 (a := 0) (b := 0) (by decide +kernel)) (iv_c _ (a := 1) (b := 1) (by decide +kernel)) (by decide +kernel)) (iv_c _ (a := 1) (b := 1) (by decide +kernel)) (by decide +kernel)) (iv_c _ (a := 1) (b := 1) (by decide +kernel)) (by decide +kernel)) (a' := 0) (b' := 3) (by decide +kernel)) htb wl_7_154 hl.1 (rest := []) rfl (Nat.le_of_ble_eq_true rfl) ⟨Nat.le_of_ble_eq_true rfl, Nat.le_of_ble_eq_true rfl⟩ ⟨Nat.le_of_ble_eq_true rfl, Nat.le_of_ble_eq_true rfl⟩ dX12_spotOf_12 (fun f32 locs hf32 hS => ?_)
                have xf32 : f32.toInt = (tb.getD 3 0).toInt := by rw [hf32.2, sg_cl (iv_add (a' := 3) (b' := 3) ey27 (iv_add (a' := 2) (b' := 2) ey18 (iv_add (a' := 1) (b' := 1) ey9 (iv_c 0 (a := 0) (b := 0) (by decide +kernel)) (iv_c _ (a := 1) (b := 1) (by decide +kernel)) (by decide +kernel)) (iv_c _ (a := 1) (b := 1) (by decide +kernel)) (by decide +kernel)) (iv_c _ (a := 1) (b := 1) (by decide +kernel)) (by decide +kernel)) (by decide)]; rfl
                refine lv_iload_n X.1 X.2.1 dX12_spotOf_15 rfl (lv_at hl 2 rfl) ?_
                refine lv_icmp_ne (tgt := 21) X.1 X.2.1 dX12_spotOf_16 (by decide) (fun c33 => ?_) (fun c33 => ?_)
                · have i34 : ((tb.getD 3 0).toInt = x1.toInt) = False := vq_ne c33 xf32 rfl
                  obtain ⟨y36, ey36⟩ : ∃ y : Int32, y = y27 + Int32.ofInt 1 := ⟨_, rfl⟩
                  have xy36 : y36.toInt = ((((0 + 1) + 1) + 1) + 1) := sg_exadd ey36 (iv_add (a' := 3) (b' := 3) ey27 (iv_add (a' := 2) (b' := 2) ey18 (iv_add (a' := 1) (b' := 1) ey9 (iv_c 0 (a := 0) (b := 0) (by decide +kernel)) (iv_c _ (a := 1) (b := 1) (by decide +kernel)) (by decide +kernel)) (iv_c _ (a := 1) (b := 1) (by decide +kernel)) (by decide +kernel)) (iv_c _ (a := 1) (b := 1) (by decide +kernel)) (by decide +kernel)) (iv_c _ (a := 1) (b := 1) (by decide +kernel)) (by decide +kernel) xy27 (by decide +kernel)
                  refine lv_iinc (v := y36) (lv' := [(2, .int y36), (0, .ref ta), (1, .int x1)]) X.1 X.2.1 dX12_spotOf_21 hl (k := 0) rfl ey36.symm (by decide) rfl (fun ls hl => ?_)
                  refine lv_goto (tgt := 2) X.1 X.2.1 dX12_spotOf_24 (by decide) ?_
                  refine lv_iload_n X.1 X.2.1 dX12_spotOf_2 rfl (lv_at hl 0 rfl) ?_
                  refine lv_aload_n X.1 X.2.1 dX12_spotOf_3 rfl (lv_at hl 1 rfl) ?_
                  refine ca_J0_length_8abf5_4 X hK hG hC (fun _ h => h.elim) hS hb hp wl_7_150 hl.1 (rest := [.int y36]) rfl (Nat.le_of_ble_eq_true rfl) ⟨Nat.le_of_ble_eq_true rfl, Nat.le_of_ble_eq_true rfl⟩ ⟨Nat.le_of_ble_eq_true rfl, Nat.le_of_ble_eq_true rfl⟩ dX12_spotOf_4 (fun f37 locs hf37 hS => ?_)
                  refine lv_icmp_ge (tgt := 27) X.1 X.2.1 dX12_spotOf_7 (by decide) (fun c38 => ?_) (fun c38 => ?_)
                  · have i39 : ¬ (((((0 + 1) + 1) + 1) + 1) : Int) < (4 : Int) := vq_le c38 (vq_iv hf37) xy36
                    refine lv_iconst (v := (-1)) X.1 X.2.1 dX12_spotOf_27 (by decide +kernel) ?_
                    exact sg_iretP X hr hlk hS ⟨(iv_of (iv_c (-1) (a := (-1)) (b := (-1)) (by decide +kernel)) (a' := (-1)) (b' := 3) (by decide +kernel)), (by rw [show ((-1) : Int32).toInt = (-1 : Int) from (by decide +kernel)]; simp only [vIx, i4, i7, i13, i16, i22, i25, i31, i34, i39, if_true, if_false]), Or.inl rfl⟩ dX12_spotOf_28
                  · have i40 : (((((0 + 1) + 1) + 1) + 1) : Int) < (4 : Int) := vq_lt (iv_gt_of c38) xy36 (vq_iv hf37)
                    exact ((iv_no (iv_lt (b' := 3) (iv_gt_of c38) (iv_add (a' := 4) (b' := 4) ey36 (iv_add (a' := 3) (b' := 3) ey27 (iv_add (a' := 2) (b' := 2) ey18 (iv_add (a' := 1) (b' := 1) ey9 (iv_c 0 (a := 0) (b := 0) (by decide +kernel)) (iv_c _ (a := 1) (b := 1) (by decide +kernel)) (by decide +kernel)) (iv_c _ (a := 1) (b := 1) (by decide +kernel)) (by decide +kernel)) (iv_c _ (a := 1) (b := 1) (by decide +kernel)) (by decide +kernel)) (iv_c _ (a := 1) (b := 1) (by decide +kernel)) (by decide +kernel)) hf37 (by decide +kernel)) (by decide +kernel))).elim
                · have i35 : (tb.getD 3 0).toInt = x1.toInt := vq_eq c33 xf32 rfl
                  refine lv_iload_n X.1 X.2.1 dX12_spotOf_19 rfl (lv_at hl 0 rfl) ?_
                  exact sg_iretP X hr hlk hS ⟨(iv_of (iv_add (a' := 3) (b' := 3) ey27 (iv_add (a' := 2) (b' := 2) ey18 (iv_add (a' := 1) (b' := 1) ey9 (iv_c 0 (a := 0) (b := 0) (by decide +kernel)) (iv_c _ (a := 1) (b := 1) (by decide +kernel)) (by decide +kernel)) (iv_c _ (a := 1) (b := 1) (by decide +kernel)) (by decide +kernel)) (iv_c _ (a := 1) (b := 1) (by decide +kernel)) (by decide +kernel)) (a' := (-1)) (b' := 3) (by decide +kernel)), (by rw [show (y27 : Int32).toInt = (3 : Int) from vq_iv ((iv_add (a' := 3) (b' := 3) ey27 (iv_add (a' := 2) (b' := 2) ey18 (iv_add (a' := 1) (b' := 1) ey9 (iv_c 0 (a := 0) (b := 0) (by decide +kernel)) (iv_c _ (a := 1) (b := 1) (by decide +kernel)) (by decide +kernel)) (iv_c _ (a := 1) (b := 1) (by decide +kernel)) (by decide +kernel)) (iv_c _ (a := 1) (b := 1) (by decide +kernel)) (by decide +kernel)))]; simp only [vIx, i4, i7, i13, i16, i22, i25, i31, i35, if_true, if_false]; rfl), Or.inr (by have z := htb 3 (by decide); exact ⟨by have := z.1; omega, by have := z.2; omega⟩)⟩ dX12_spotOf_20
            · have i26 : (tb.getD 2 0).toInt = x1.toInt := vq_eq c24 xf23 rfl
              refine lv_iload_n X.1 X.2.1 dX12_spotOf_19 rfl (lv_at hl 0 rfl) ?_
              exact sg_iretP X hr hlk hS ⟨(iv_of (iv_add (a' := 2) (b' := 2) ey18 (iv_add (a' := 1) (b' := 1) ey9 (iv_c 0 (a := 0) (b := 0) (by decide +kernel)) (iv_c _ (a := 1) (b := 1) (by decide +kernel)) (by decide +kernel)) (iv_c _ (a := 1) (b := 1) (by decide +kernel)) (by decide +kernel)) (a' := (-1)) (b' := 3) (by decide +kernel)), (by rw [show (y18 : Int32).toInt = (2 : Int) from vq_iv ((iv_add (a' := 2) (b' := 2) ey18 (iv_add (a' := 1) (b' := 1) ey9 (iv_c 0 (a := 0) (b := 0) (by decide +kernel)) (iv_c _ (a := 1) (b := 1) (by decide +kernel)) (by decide +kernel)) (iv_c _ (a := 1) (b := 1) (by decide +kernel)) (by decide +kernel)))]; simp only [vIx, i4, i7, i13, i16, i22, i26, if_true, if_false]; rfl), Or.inr (by have z := htb 2 (by decide); exact ⟨by have := z.1; omega, by have := z.2; omega⟩)⟩ dX12_spotOf_20
        · have i17 : (tb.getD 1 0).toInt = x1.toInt := vq_eq c15 xf14 rfl
          refine lv_iload_n X.1 X.2.1 dX12_spotOf_19 rfl (lv_at hl 0 rfl) ?_
          exact sg_iretP X hr hlk hS ⟨(iv_of (iv_add (a' := 1) (b' := 1) ey9 (iv_c 0 (a := 0) (b := 0) (by decide +kernel)) (iv_c _ (a := 1) (b := 1) (by decide +kernel)) (by decide +kernel)) (a' := (-1)) (b' := 3) (by decide +kernel)), (by rw [show (y9 : Int32).toInt = (1 : Int) from vq_iv ((iv_add (a' := 1) (b' := 1) ey9 (iv_c 0 (a := 0) (b := 0) (by decide +kernel)) (iv_c _ (a := 1) (b := 1) (by decide +kernel)) (by decide +kernel)))]; simp only [vIx, i4, i7, i13, i17, if_true, if_false]; rfl), Or.inr (by have z := htb 1 (by decide); exact ⟨by have := z.1; omega, by have := z.2; omega⟩)⟩ dX12_spotOf_20
    · have i8 : (tb.getD 0 0).toInt = x1.toInt := vq_eq c6 xf5 rfl
      refine lv_iload_n X.1 X.2.1 dX12_spotOf_19 rfl (lv_at hl 0 rfl) ?_
      exact sg_iretP X hr hlk hS ⟨(iv_of (iv_c 0 (a := 0) (b := 0) (by decide +kernel)) (a' := (-1)) (b' := 3) (by decide +kernel)), (by rw [show (0 : Int32).toInt = (0 : Int) from (by decide +kernel)]; simp only [vIx, i4, i8, if_true, if_false]; rfl), Or.inr (by have z := htb 0 (by decide); exact ⟨by have := z.1; omega, by have := z.2; omega⟩)⟩ dX12_spotOf_20

theorem ca_X12_spotOf_e4   (X : CallFix p m c cc nL s args sg_tbl own) (hK : va_K D vwCl tys s) (hG : sgG (KT P) D vwCl (fun q : Nat => base ≤ q) tys ad ks H) (hC : sgC base s) (hA : ∀ q : Nat, A q → base ≤ q) (hS : va_S A s.heap H locs)  (hb : base ≤ s.heap.size) {ta tv : Nat} {tb : List Int32} (hp : P_S ta tv 4 tb A s) (x1 : Int32) (htb : ∀ j : Nat, j < 4 → iv 0 127 (tb.getD j 0)) (hl : Cond.methodLink own index yX12_spotOf ∈ sg_tbl) (hsize : ls.size = nL) (hst : st0 = [.ref ta, .int x1].reverse ++ rest) (hW : (rest.map fun v => v.category).sum ≤ 8) (hR : 5 ≤ R.frames ∧ 107 ≤ R.locals) (hf : cells ≤ R.cells ∧ slots ≤ R.slots) (hdg : decode cc pc = .ok (.invokestatic index, 3)) (kk : ∀ (r : Int32) (locs1 : List Loc), (fun r : Int32 => iv (-1) 3 r ∧ r.toInt = vIx tb x1.toInt 4 0 ∧ (r = -1 ∨ iv 0 127 x1)) r → va_S A s.heap H locs1 → W p l e R s m args below meth c H locs1 cells slots Q (F0 m (pc + 3) ls (.int r :: rest))) : W p l e R s m args below meth c H locs cells slots Q (F0 m pc ls st0) :=
  sg_callESi X hK hG hC hA hS hb hp (m_X12_spotOf_e4 l ta tv tb x1 htb) wl_7_153 wl_1_13 wl_7_152 (n := 2) (by decide +kernel) rfl rfl rfl hl hsize hst hW hR hf hdg kk

set_option maxHeartbeats 8000000 in
set_option maxRecDepth 100000 in
theorem m_J1_charAt_3b067_e2 (l : Launch) {D : va_G} {base : Nat} {tys : List (ClassId × FieldType)} {ad ks : List Nat} {P : sgPm} {Hx : Heap} (ta tv : Nat) (tb : List Int32) (x1 : Int32) (h1 : iv 0 1 x1) (htb : ∀ j : Nat, j < 2 → iv 0 127 (tb.getD j 0)) : sgEi l (KT P) D vwCl base tys ad ks Hx ta tv 2 tb yJ1_charAt_3b067 cJ1_charAt_3b067 2 (some .char) ({ frames := 2, cells := 0, slots := 0, locals := 43 }) [.ref tv, .int x1] (fun r : Int32 => iv 0 127 r ∧ r = tb.getD x1.toNatClampNeg 0) := by
  refine sg_ofE (Pq := fun Hx => va_Qi (fun r (_ : Unit) => (fun r : Int32 => iv 0 127 r ∧ r = tb.getD x1.toNatClampNeg 0) r) (fun _ t => t.heap = Hx) (fun _ : Nat => False)) (by decide +kernel) (Nat.le_of_ble_eq_true rfl) (fun p e s m below meth c X hr hlk hb hK hC hG ls hl hp => ?_)
  have hS : va_S (fun _ : Nat => False) s.heap s.heap [] := va_S.rf
  have hl : lv_has ls 2 [(0, .ref tv), (1, .int x1)] := hl
  refine lv_iload_n X.1 X.2.1 dJ1_charAt_3b067_0 rfl (lv_at hl 1 rfl) ?_
  refine lv_aload_n X.1 X.2.1 dJ1_charAt_3b067_1 rfl (lv_at hl 0 rfl) ?_
  refine va_tlen X.1 X.2.1 hp.2.2.2.1 hS (v := 2) rfl dJ1_charAt_3b067_2 ?_
  refine ca_J0_checkIndex_df160_2 X hK hG hC (fun _ h => h.elim) hS hb hp x1 h1 2 (iv_c 2 (a := 2) (b := 2) (by decide +kernel)) wl_7_161 hl.1 (rest := []) rfl (Nat.le_of_ble_eq_true rfl) ⟨Nat.le_of_ble_eq_true rfl, Nat.le_of_ble_eq_true rfl⟩ ⟨Nat.le_of_ble_eq_true rfl, Nat.le_of_ble_eq_true rfl⟩ dJ1_charAt_3b067_3 (fun locs hS => ?_)
  refine lv_aload_n X.1 X.2.1 dJ1_charAt_3b067_6 rfl (lv_at hl 0 rfl) ?_
  refine lv_iload_n X.1 X.2.1 dJ1_charAt_3b067_7 rfl (lv_at hl 1 rfl) ?_
  refine va_tb X.1 X.2.1 hp.2.2.2.1 hS (i := x1) (iv_vpin h1 (by decide +kernel)) rfl dJ1_charAt_3b067_8 ?_
  refine lv_topi (fun f2 ef2 => ?_)
  refine lv_sipush (v := 255) X.1 X.2.1 dJ1_charAt_3b067_9 (by decide +kernel) ?_
  refine lv_iand X.1 X.2.1 dJ1_charAt_3b067_12 ?_
  refine lv_topi (fun f3 ef3 => ?_)
  have zf3 : f3 = f2 := vq_127 ef3 (by rw [ef2]; exact htb _ (sg_inlt (iv_vpin h1 (by decide +kernel))))
  have wf3 : iv 0 127 f3 := by rw [zf3]; exact (by rw [ef2]; exact htb _ (sg_inlt (iv_vpin h1 (by decide +kernel))))
  obtain ⟨f4, ef4⟩ : ∃ y : Int32, y = ((f3 : Int32).toUInt32 % 65536).toInt32 := ⟨_, rfl⟩
  refine lv_i2c (v := f4) X.1 X.2.1 dJ1_charAt_3b067_13 ef4.symm ?_
  have zf4 : f4 = f3 := vq_i2c ef4 (iv_of wf3 (a' := 0) (b' := 255) (by decide +kernel))
  exact sg_zretP X hr (sg_cn (by rw [zf4]; exact wf3)) hlk hS ⟨(by rw [zf4]; exact wf3), (by rw [zf4, zf3]; exact ef2)⟩ dJ1_charAt_3b067_14

theorem ca_J1_charAt_3b067_e2   (X : CallFix p m c cc nL s args sg_tbl own) (hK : va_K D vwCl tys s) (hG : sgG (KT P) D vwCl (fun q : Nat => base ≤ q) tys ad ks H) (hC : sgC base s) (hA : ∀ q : Nat, A q → base ≤ q) (hS : va_S A s.heap H locs)  (hb : base ≤ s.heap.size) {ta tv : Nat} {tb : List Int32} (hp : P_S ta tv 2 tb A s) (x1 : Int32) (h1 : iv 0 1 x1) (htb : ∀ j : Nat, j < 2 → iv 0 127 (tb.getD j 0)) (hl : Cond.methodLink own index yJ1_charAt_3b067 ∈ sg_tbl) (hsize : ls.size = nL) (hst : st0 = [.ref tv, .int x1].reverse ++ rest) (hW : (rest.map fun v => v.category).sum ≤ 8) (hR : 3 ≤ R.frames ∧ 64 ≤ R.locals) (hf : cells ≤ R.cells ∧ slots ≤ R.slots) (hdg : decode cc pc = .ok (.invokestatic index, 3)) (kk : ∀ (r : Int32) (locs1 : List Loc), (fun r : Int32 => iv 0 127 r ∧ r = tb.getD x1.toNatClampNeg 0) r → va_S A s.heap H locs1 → W p l e R s m args below meth c H locs1 cells slots Q (F0 m (pc + 3) ls (.int r :: rest))) : W p l e R s m args below meth c H locs cells slots Q (F0 m pc ls st0) :=
  sg_callESi X hK hG hC hA hS hb hp (m_J1_charAt_3b067_e2 l ta tv tb x1 h1 htb) wl_7_160 wl_1_17 wl_7_159 (n := 2) (by decide +kernel) rfl rfl rfl hl hsize hst hW hR hf hdg kk

set_option maxHeartbeats 8000000 in
set_option maxRecDepth 100000 in
theorem m_J0_charAt_5068e_e2 (l : Launch) {D : va_G} {base : Nat} {tys : List (ClassId × FieldType)} {ad ks : List Nat} {P : sgPm} {Hx : Heap} (ta tv : Nat) (tb : List Int32) (x1 : Int32) (h1 : iv 0 1 x1) (htb : ∀ j : Nat, j < 2 → iv 0 127 (tb.getD j 0)) : sgEi l (KT P) D vwCl base tys ad ks Hx ta tv 2 tb yJ0_charAt_5068e cJ0_charAt_5068e 2 (some .char) ({ frames := 3, cells := 0, slots := 0, locals := 64 }) [.ref ta, .int x1] (fun r : Int32 => iv 0 127 r ∧ r = tb.getD x1.toNatClampNeg 0) := by
  refine sg_ofE (Pq := fun Hx => va_Qi (fun r (_ : Unit) => (fun r : Int32 => iv 0 127 r ∧ r = tb.getD x1.toNatClampNeg 0) r) (fun _ t => t.heap = Hx) (fun _ : Nat => False)) (by decide +kernel) (Nat.le_of_ble_eq_true rfl) (fun p e s m below meth c X hr hlk hb hK hC hG ls hl hp => ?_)
  have hS : va_S (fun _ : Nat => False) s.heap s.heap [] := va_S.rf
  have hl : lv_has ls 2 [(0, .ref ta), (1, .int x1)] := hl
  refine lv_aload_n X.1 X.2.1 dJ0_charAt_5068e_0 rfl (lv_at hl 0 rfl) ?_
  refine ca_J0_isLatin1_aae02_2 X hK hG hC (fun _ h => h.elim) hS hb hp wl_3_79 hl.1 (rest := []) rfl (Nat.le_of_ble_eq_true rfl) ⟨Nat.le_of_ble_eq_true rfl, Nat.le_of_ble_eq_true rfl⟩ ⟨Nat.le_of_ble_eq_true rfl, Nat.le_of_ble_eq_true rfl⟩ dJ0_charAt_5068e_1 (fun f1 locs hf1 hS => ?_)
  refine lv_if_eq (tgt := 16) X.1 X.2.1 dJ0_charAt_5068e_4 (by decide) (fun c2 => ?_) (fun c2 => ?_)
  · have i3 : (1 : Int) = (0 : Int) := vq_eq c2 (vq_iv hf1) (by decide +kernel)
    exact ((iv_no (a := 1) (b := 0) (iv_eqm c2 hf1 (iv_c 0 (a := 0) (b := 0) (by decide +kernel)) (by decide +kernel)) (by decide +kernel))).elim
  · have i4 : ((1 : Int) = (0 : Int)) = False := vq_ne c2 (vq_iv hf1) (by decide +kernel)
    refine lv_aload_n X.1 X.2.1 dJ0_charAt_5068e_7 rfl (lv_at hl 0 rfl) ?_
    refine vk_getf (v := .ref tv) X.1 X.2.1 hp.2.2.1 hS X.2.2.2.1 (X.2.2.2.2 _ wl_9_181) (fun _ h9 => h9) dJ0_charAt_5068e_8 ?_
    refine lv_iload_n X.1 X.2.1 dJ0_charAt_5068e_11 rfl (lv_at hl 1 rfl) ?_
    refine ca_J1_charAt_3b067_e2 X hK hG hC (fun _ h => h.elim) hS hb hp x1 h1 htb wl_7_158 hl.1 (rest := []) rfl (Nat.le_of_ble_eq_true rfl) ⟨Nat.le_of_ble_eq_true rfl, Nat.le_of_ble_eq_true rfl⟩ ⟨Nat.le_of_ble_eq_true rfl, Nat.le_of_ble_eq_true rfl⟩ dJ0_charAt_5068e_12 (fun f5 locs hf5 hS => ?_)
    exact sg_zretP X hr (sg_cn hf5.1) hlk hS ⟨hf5.1, hf5.2⟩ dJ0_charAt_5068e_15

theorem ca_J0_charAt_5068e_e2   (X : CallFix p m c cc nL s args sg_tbl own) (hK : va_K D vwCl tys s) (hG : sgG (KT P) D vwCl (fun q : Nat => base ≤ q) tys ad ks H) (hC : sgC base s) (hA : ∀ q : Nat, A q → base ≤ q) (hS : va_S A s.heap H locs)  (hb : base ≤ s.heap.size) {ta tv : Nat} {tb : List Int32} (hp : P_S ta tv 2 tb A s) (x1 : Int32) (h1 : iv 0 1 x1) (htb : ∀ j : Nat, j < 2 → iv 0 127 (tb.getD j 0)) (hl : Cond.methodLink own index yJ0_charAt_5068e ∈ sg_tbl) (hsize : ls.size = nL) (hst : st0 = [.int x1].reverse ++ .ref ta :: rest) (hW : (rest.map fun v => v.category).sum ≤ 8) (hR : 4 ≤ R.frames ∧ 85 ≤ R.locals) (hf : cells ≤ R.cells ∧ slots ≤ R.slots) (hdg : decode cc pc = .ok (.invokevirtual index, 3)) (kk : ∀ (r : Int32) (locs1 : List Loc), (fun r : Int32 => iv 0 127 r ∧ r = tb.getD x1.toNatClampNeg 0) r → va_S A s.heap H locs1 → W p l e R s m args below meth c H locs1 cells slots Q (F0 m (pc + 3) ls (.int r :: rest))) : W p l e R s m args below meth c H locs cells slots Q (F0 m pc ls st0) :=
  sg_callEVi X hK hG hC hA hS hb hp (m_J0_charAt_5068e_e2 l ta tv tb x1 h1 htb) wl_7_157 wl_1_16 wl_7_155 wl_7_156 (n := 1) (by decide +kernel) rfl rfl rfl hl hsize hst hW hR hf hdg kk

set_option maxHeartbeats 8000000 in
set_option maxRecDepth 100000 in
theorem m_X12_spotOf_e2 (l : Launch) {D : va_G} {base : Nat} {tys : List (ClassId × FieldType)} {ad ks : List Nat} {P : sgPm} {Hx : Heap} (ta tv : Nat) (tb : List Int32) (x1 : Int32) (htb : ∀ j : Nat, j < 2 → iv 0 127 (tb.getD j 0)) : sgEi l (KT P) D vwCl base tys ad ks Hx ta tv 2 tb yX12_spotOf cX12_spotOf 3 (some .int) ({ frames := 4, cells := 0, slots := 0, locals := 85 }) [.ref ta, .int x1] (fun r : Int32 => iv (-1) 1 r ∧ r.toInt = vIx tb x1.toInt 2 0 ∧ (r = -1 ∨ iv 0 127 x1)) := by
  refine sg_ofE (Pq := fun Hx => va_Qi (fun r (_ : Unit) => (fun r : Int32 => iv (-1) 1 r ∧ r.toInt = vIx tb x1.toInt 2 0 ∧ (r = -1 ∨ iv 0 127 x1)) r) (fun _ t => t.heap = Hx) (fun _ : Nat => False)) (by decide +kernel) (Nat.le_of_ble_eq_true rfl) (fun p e s m below meth c X hr hlk hb hK hC hG ls hl hp => ?_)
  have hS : va_S (fun _ : Nat => False) s.heap s.heap [] := va_S.rf
  have hl : lv_has ls 3 [(0, .ref ta), (1, .int x1)] := hl
  refine lv_iconst (v := 0) X.1 X.2.1 dX12_spotOf_0 (by decide +kernel) ?_
  refine lv_istore_n (lv' := [(2, .int 0), (0, .ref ta), (1, .int x1)]) X.1 X.2.1 dX12_spotOf_1 rfl hl (by decide) rfl (fun ls hl => ?_)
  refine lv_iload_n X.1 X.2.1 dX12_spotOf_2 rfl (lv_at hl 0 rfl) ?_
  refine lv_aload_n X.1 X.2.1 dX12_spotOf_3 rfl (lv_at hl 1 rfl) ?_
  refine ca_J0_length_8abf5_2 X hK hG hC (fun _ h => h.elim) hS hb hp wl_7_150 hl.1 (rest := [.int 0]) rfl (Nat.le_of_ble_eq_true rfl) ⟨Nat.le_of_ble_eq_true rfl, Nat.le_of_ble_eq_true rfl⟩ ⟨Nat.le_of_ble_eq_true rfl, Nat.le_of_ble_eq_true rfl⟩ dX12_spotOf_4 (fun f1 locs hf1 hS => ?_)
  refine lv_icmp_ge (tgt := 27) X.1 X.2.1 dX12_spotOf_7 (by decide) (fun c2 => ?_) (fun c2 => ?_)
  · have i3 : ¬ (0 : Int) < (2 : Int) := vq_le c2 (vq_iv hf1) (by decide +kernel)
    exact ((iv_no (iv_le (b' := 0) c2 hf1 (iv_c 0 (a := 0) (b := 0) (by decide +kernel)) (by decide +kernel)) (by decide +kernel))).elim
  · have i4 : (0 : Int) < (2 : Int) := vq_lt (iv_gt_of c2) (by decide +kernel) (vq_iv hf1)
    refine lv_aload_n X.1 X.2.1 dX12_spotOf_10 rfl (lv_at hl 1 rfl) ?_
    refine lv_iload_n X.1 X.2.1 dX12_spotOf_11 rfl (lv_at hl 0 rfl) ?_
    refine ca_J0_charAt_5068e_e2 X hK hG hC (fun _ h => h.elim) hS hb hp 0 (iv_of (iv_c 0 (a := 0) (b := 0) (by decide +kernel)) (a' := 0) (b' := 1) (by decide +kernel)) htb wl_7_154 hl.1 (rest := []) rfl (Nat.le_of_ble_eq_true rfl) ⟨Nat.le_of_ble_eq_true rfl, Nat.le_of_ble_eq_true rfl⟩ ⟨Nat.le_of_ble_eq_true rfl, Nat.le_of_ble_eq_true rfl⟩ dX12_spotOf_12 (fun f5 locs hf5 hS => ?_)
    have xf5 : f5.toInt = (tb.getD 0 0).toInt := by rw [hf5.2, sg_cl (iv_c 0 (a := 0) (b := 0) (by decide +kernel)) (by decide)]; rfl
    refine lv_iload_n X.1 X.2.1 dX12_spotOf_15 rfl (lv_at hl 2 rfl) ?_
    refine lv_icmp_ne (tgt := 21) X.1 X.2.1 dX12_spotOf_16 (by decide) (fun c6 => ?_) (fun c6 => ?_)
    · have i7 : ((tb.getD 0 0).toInt = x1.toInt) = False := vq_ne c6 xf5 rfl
      obtain ⟨y9, ey9⟩ : ∃ y : Int32, y = 0 + Int32.ofInt 1 := ⟨_, rfl⟩
      have xy9 : y9.toInt = (0 + 1) := sg_exadd ey9 (iv_c 0 (a := 0) (b := 0) (by decide +kernel)) (iv_c _ (a := 1) (b := 1) (by decide +kernel)) (by decide +kernel) (by decide +kernel) (by decide +kernel)
      refine lv_iinc (v := y9) (lv' := [(2, .int y9), (0, .ref ta), (1, .int x1)]) X.1 X.2.1 dX12_spotOf_21 hl (k := 0) rfl ey9.symm (by decide) rfl (fun ls hl => ?_)
      refine lv_goto (tgt := 2) X.1 X.2.1 dX12_spotOf_24 (by decide) ?_
      refine lv_iload_n X.1 X.2.1 dX12_spotOf_2 rfl (lv_at hl 0 rfl) ?_
      refine lv_aload_n X.1 X.2.1 dX12_spotOf_3 rfl (lv_at hl 1 rfl) ?_
      refine ca_J0_length_8abf5_2 X hK hG hC (fun _ h => h.elim) hS hb hp wl_7_150 hl.1 (rest := [.int y9]) rfl (Nat.le_of_ble_eq_true rfl) ⟨Nat.le_of_ble_eq_true rfl, Nat.le_of_ble_eq_true rfl⟩ ⟨Nat.le_of_ble_eq_true rfl, Nat.le_of_ble_eq_true rfl⟩ dX12_spotOf_4 (fun f10 locs hf10 hS => ?_)
      refine lv_icmp_ge (tgt := 27) X.1 X.2.1 dX12_spotOf_7 (by decide) (fun c11 => ?_) (fun c11 => ?_)
      · have i12 : ¬ ((0 + 1) : Int) < (2 : Int) := vq_le c11 (vq_iv hf10) xy9
        exact ((iv_no (iv_le (b' := 1) c11 hf10 (iv_add (a' := 1) (b' := 1) ey9 (iv_c 0 (a := 0) (b := 0) (by decide +kernel)) (iv_c _ (a := 1) (b := 1) (by decide +kernel)) (by decide +kernel)) (by decide +kernel)) (by decide +kernel))).elim
      · have i13 : ((0 + 1) : Int) < (2 : Int) := vq_lt (iv_gt_of c11) xy9 (vq_iv hf10)
        refine lv_aload_n X.1 X.2.1 dX12_spotOf_10 rfl (lv_at hl 1 rfl) ?_
        refine lv_iload_n X.1 X.2.1 dX12_spotOf_11 rfl (lv_at hl 0 rfl) ?_
        refine ca_J0_charAt_5068e_e2 X hK hG hC (fun _ h => h.elim) hS hb hp y9 (iv_of (iv_add (a' := 1) (b' := 1) ey9 (iv_c 0 (a := 0) (b := 0) (by decide +kernel)) (iv_c _ (a := 1) (b := 1) (by decide +kernel)) (by decide +kernel)) (a' := 0) (b' := 1) (by decide +kernel)) htb wl_7_154 hl.1 (rest := []) rfl (Nat.le_of_ble_eq_true rfl) ⟨Nat.le_of_ble_eq_true rfl, Nat.le_of_ble_eq_true rfl⟩ ⟨Nat.le_of_ble_eq_true rfl, Nat.le_of_ble_eq_true rfl⟩ dX12_spotOf_12 (fun f14 locs hf14 hS => ?_)
        have xf14 : f14.toInt = (tb.getD 1 0).toInt := by rw [hf14.2, sg_cl (iv_add (a' := 1) (b' := 1) ey9 (iv_c 0 (a := 0) (b := 0) (by decide +kernel)) (iv_c _ (a := 1) (b := 1) (by decide +kernel)) (by decide +kernel)) (by decide)]; rfl
        refine lv_iload_n X.1 X.2.1 dX12_spotOf_15 rfl (lv_at hl 2 rfl) ?_
        refine lv_icmp_ne (tgt := 21) X.1 X.2.1 dX12_spotOf_16 (by decide) (fun c15 => ?_) (fun c15 => ?_)
        · have i16 : ((tb.getD 1 0).toInt = x1.toInt) = False := vq_ne c15 xf14 rfl
          obtain ⟨y18, ey18⟩ : ∃ y : Int32, y = y9 + Int32.ofInt 1 := ⟨_, rfl⟩
          have xy18 : y18.toInt = ((0 + 1) + 1) := sg_exadd ey18 (iv_add (a' := 1) (b' := 1) ey9 (iv_c 0 (a := 0) (b := 0) (by decide +kernel)) (iv_c _ (a := 1) (b := 1) (by decide +kernel)) (by decide +kernel)) (iv_c _ (a := 1) (b := 1) (by decide +kernel)) (by decide +kernel) xy9 (by decide +kernel)
          refine lv_iinc (v := y18) (lv' := [(2, .int y18), (0, .ref ta), (1, .int x1)]) X.1 X.2.1 dX12_spotOf_21 hl (k := 0) rfl ey18.symm (by decide) rfl (fun ls hl => ?_)
          refine lv_goto (tgt := 2) X.1 X.2.1 dX12_spotOf_24 (by decide) ?_
          refine lv_iload_n X.1 X.2.1 dX12_spotOf_2 rfl (lv_at hl 0 rfl) ?_
          refine lv_aload_n X.1 X.2.1 dX12_spotOf_3 rfl (lv_at hl 1 rfl) ?_
          refine ca_J0_length_8abf5_2 X hK hG hC (fun _ h => h.elim) hS hb hp wl_7_150 hl.1 (rest := [.int y18]) rfl (Nat.le_of_ble_eq_true rfl) ⟨Nat.le_of_ble_eq_true rfl, Nat.le_of_ble_eq_true rfl⟩ ⟨Nat.le_of_ble_eq_true rfl, Nat.le_of_ble_eq_true rfl⟩ dX12_spotOf_4 (fun f19 locs hf19 hS => ?_)
          refine lv_icmp_ge (tgt := 27) X.1 X.2.1 dX12_spotOf_7 (by decide) (fun c20 => ?_) (fun c20 => ?_)
          · have i21 : ¬ (((0 + 1) + 1) : Int) < (2 : Int) := vq_le c20 (vq_iv hf19) xy18
            refine lv_iconst (v := (-1)) X.1 X.2.1 dX12_spotOf_27 (by decide +kernel) ?_
            exact sg_iretP X hr hlk hS ⟨(iv_of (iv_c (-1) (a := (-1)) (b := (-1)) (by decide +kernel)) (a' := (-1)) (b' := 1) (by decide +kernel)), (by rw [show ((-1) : Int32).toInt = (-1 : Int) from (by decide +kernel)]; simp only [vIx, i4, i7, i13, i16, i21, if_true, if_false]), Or.inl rfl⟩ dX12_spotOf_28
          · have i22 : (((0 + 1) + 1) : Int) < (2 : Int) := vq_lt (iv_gt_of c20) xy18 (vq_iv hf19)
            exact ((iv_no (iv_lt (b' := 1) (iv_gt_of c20) (iv_add (a' := 2) (b' := 2) ey18 (iv_add (a' := 1) (b' := 1) ey9 (iv_c 0 (a := 0) (b := 0) (by decide +kernel)) (iv_c _ (a := 1) (b := 1) (by decide +kernel)) (by decide +kernel)) (iv_c _ (a := 1) (b := 1) (by decide +kernel)) (by decide +kernel)) hf19 (by decide +kernel)) (by decide +kernel))).elim
        · have i17 : (tb.getD 1 0).toInt = x1.toInt := vq_eq c15 xf14 rfl
          refine lv_iload_n X.1 X.2.1 dX12_spotOf_19 rfl (lv_at hl 0 rfl) ?_
          exact sg_iretP X hr hlk hS ⟨(iv_of (iv_add (a' := 1) (b' := 1) ey9 (iv_c 0 (a := 0) (b := 0) (by decide +kernel)) (iv_c _ (a := 1) (b := 1) (by decide +kernel)) (by decide +kernel)) (a' := (-1)) (b' := 1) (by decide +kernel)), (by rw [show (y9 : Int32).toInt = (1 : Int) from vq_iv ((iv_add (a' := 1) (b' := 1) ey9 (iv_c 0 (a := 0) (b := 0) (by decide +kernel)) (iv_c _ (a := 1) (b := 1) (by decide +kernel)) (by decide +kernel)))]; simp only [vIx, i4, i7, i13, i17, if_true, if_false]; rfl), Or.inr (by have z := htb 1 (by decide); exact ⟨by have := z.1; omega, by have := z.2; omega⟩)⟩ dX12_spotOf_20
    · have i8 : (tb.getD 0 0).toInt = x1.toInt := vq_eq c6 xf5 rfl
      refine lv_iload_n X.1 X.2.1 dX12_spotOf_19 rfl (lv_at hl 0 rfl) ?_
      exact sg_iretP X hr hlk hS ⟨(iv_of (iv_c 0 (a := 0) (b := 0) (by decide +kernel)) (a' := (-1)) (b' := 1) (by decide +kernel)), (by rw [show (0 : Int32).toInt = (0 : Int) from (by decide +kernel)]; simp only [vIx, i4, i8, if_true, if_false]; rfl), Or.inr (by have z := htb 0 (by decide); exact ⟨by have := z.1; omega, by have := z.2; omega⟩)⟩ dX12_spotOf_20

theorem ca_X12_spotOf_e2   (X : CallFix p m c cc nL s args sg_tbl own) (hK : va_K D vwCl tys s) (hG : sgG (KT P) D vwCl (fun q : Nat => base ≤ q) tys ad ks H) (hC : sgC base s) (hA : ∀ q : Nat, A q → base ≤ q) (hS : va_S A s.heap H locs)  (hb : base ≤ s.heap.size) {ta tv : Nat} {tb : List Int32} (hp : P_S ta tv 2 tb A s) (x1 : Int32) (htb : ∀ j : Nat, j < 2 → iv 0 127 (tb.getD j 0)) (hl : Cond.methodLink own index yX12_spotOf ∈ sg_tbl) (hsize : ls.size = nL) (hst : st0 = [.ref ta, .int x1].reverse ++ rest) (hW : (rest.map fun v => v.category).sum ≤ 8) (hR : 5 ≤ R.frames ∧ 107 ≤ R.locals) (hf : cells ≤ R.cells ∧ slots ≤ R.slots) (hdg : decode cc pc = .ok (.invokestatic index, 3)) (kk : ∀ (r : Int32) (locs1 : List Loc), (fun r : Int32 => iv (-1) 1 r ∧ r.toInt = vIx tb x1.toInt 2 0 ∧ (r = -1 ∨ iv 0 127 x1)) r → va_S A s.heap H locs1 → W p l e R s m args below meth c H locs1 cells slots Q (F0 m (pc + 3) ls (.int r :: rest))) : W p l e R s m args below meth c H locs cells slots Q (F0 m pc ls st0) :=
  sg_callESi X hK hG hC hA hS hb hp (m_X12_spotOf_e2 l ta tv tb x1 htb) wl_7_153 wl_1_13 wl_7_152 (n := 2) (by decide +kernel) rfl rfl rfl hl hsize hst hW hR hf hdg kk

set_option maxHeartbeats 8000000 in
set_option maxRecDepth 100000 in
theorem m_J1_charAt_3b067_e1 (l : Launch) {D : va_G} {base : Nat} {tys : List (ClassId × FieldType)} {ad ks : List Nat} {P : sgPm} {Hx : Heap} (ta tv : Nat) (tb : List Int32) (x1 : Int32) (h1 : iv 0 0 x1) (htb : ∀ j : Nat, j < 1 → iv 0 127 (tb.getD j 0)) : sgEi l (KT P) D vwCl base tys ad ks Hx ta tv 1 tb yJ1_charAt_3b067 cJ1_charAt_3b067 2 (some .char) ({ frames := 2, cells := 0, slots := 0, locals := 43 }) [.ref tv, .int x1] (fun r : Int32 => iv 0 127 r ∧ r = tb.getD x1.toNatClampNeg 0) := by
  refine sg_ofE (Pq := fun Hx => va_Qi (fun r (_ : Unit) => (fun r : Int32 => iv 0 127 r ∧ r = tb.getD x1.toNatClampNeg 0) r) (fun _ t => t.heap = Hx) (fun _ : Nat => False)) (by decide +kernel) (Nat.le_of_ble_eq_true rfl) (fun p e s m below meth c X hr hlk hb hK hC hG ls hl hp => ?_)
  have hS : va_S (fun _ : Nat => False) s.heap s.heap [] := va_S.rf
  have hl : lv_has ls 2 [(0, .ref tv), (1, .int x1)] := hl
  refine lv_iload_n X.1 X.2.1 dJ1_charAt_3b067_0 rfl (lv_at hl 1 rfl) ?_
  refine lv_aload_n X.1 X.2.1 dJ1_charAt_3b067_1 rfl (lv_at hl 0 rfl) ?_
  refine va_tlen X.1 X.2.1 hp.2.2.2.1 hS (v := 1) rfl dJ1_charAt_3b067_2 ?_
  refine ca_J0_checkIndex_df160_1 X hK hG hC (fun _ h => h.elim) hS hb hp x1 h1 1 (iv_c 1 (a := 1) (b := 1) (by decide +kernel)) wl_7_161 hl.1 (rest := []) rfl (Nat.le_of_ble_eq_true rfl) ⟨Nat.le_of_ble_eq_true rfl, Nat.le_of_ble_eq_true rfl⟩ ⟨Nat.le_of_ble_eq_true rfl, Nat.le_of_ble_eq_true rfl⟩ dJ1_charAt_3b067_3 (fun locs hS => ?_)
  refine lv_aload_n X.1 X.2.1 dJ1_charAt_3b067_6 rfl (lv_at hl 0 rfl) ?_
  refine lv_iload_n X.1 X.2.1 dJ1_charAt_3b067_7 rfl (lv_at hl 1 rfl) ?_
  refine va_tb X.1 X.2.1 hp.2.2.2.1 hS (i := x1) (iv_vpin h1 (by decide +kernel)) rfl dJ1_charAt_3b067_8 ?_
  refine lv_topi (fun f2 ef2 => ?_)
  refine lv_sipush (v := 255) X.1 X.2.1 dJ1_charAt_3b067_9 (by decide +kernel) ?_
  refine lv_iand X.1 X.2.1 dJ1_charAt_3b067_12 ?_
  refine lv_topi (fun f3 ef3 => ?_)
  have zf3 : f3 = f2 := vq_127 ef3 (by rw [ef2]; exact htb _ (sg_inlt (iv_vpin h1 (by decide +kernel))))
  have wf3 : iv 0 127 f3 := by rw [zf3]; exact (by rw [ef2]; exact htb _ (sg_inlt (iv_vpin h1 (by decide +kernel))))
  obtain ⟨f4, ef4⟩ : ∃ y : Int32, y = ((f3 : Int32).toUInt32 % 65536).toInt32 := ⟨_, rfl⟩
  refine lv_i2c (v := f4) X.1 X.2.1 dJ1_charAt_3b067_13 ef4.symm ?_
  have zf4 : f4 = f3 := vq_i2c ef4 (iv_of wf3 (a' := 0) (b' := 255) (by decide +kernel))
  exact sg_zretP X hr (sg_cn (by rw [zf4]; exact wf3)) hlk hS ⟨(by rw [zf4]; exact wf3), (by rw [zf4, zf3]; exact ef2)⟩ dJ1_charAt_3b067_14

theorem ca_J1_charAt_3b067_e1   (X : CallFix p m c cc nL s args sg_tbl own) (hK : va_K D vwCl tys s) (hG : sgG (KT P) D vwCl (fun q : Nat => base ≤ q) tys ad ks H) (hC : sgC base s) (hA : ∀ q : Nat, A q → base ≤ q) (hS : va_S A s.heap H locs)  (hb : base ≤ s.heap.size) {ta tv : Nat} {tb : List Int32} (hp : P_S ta tv 1 tb A s) (x1 : Int32) (h1 : iv 0 0 x1) (htb : ∀ j : Nat, j < 1 → iv 0 127 (tb.getD j 0)) (hl : Cond.methodLink own index yJ1_charAt_3b067 ∈ sg_tbl) (hsize : ls.size = nL) (hst : st0 = [.ref tv, .int x1].reverse ++ rest) (hW : (rest.map fun v => v.category).sum ≤ 8) (hR : 3 ≤ R.frames ∧ 64 ≤ R.locals) (hf : cells ≤ R.cells ∧ slots ≤ R.slots) (hdg : decode cc pc = .ok (.invokestatic index, 3)) (kk : ∀ (r : Int32) (locs1 : List Loc), (fun r : Int32 => iv 0 127 r ∧ r = tb.getD x1.toNatClampNeg 0) r → va_S A s.heap H locs1 → W p l e R s m args below meth c H locs1 cells slots Q (F0 m (pc + 3) ls (.int r :: rest))) : W p l e R s m args below meth c H locs cells slots Q (F0 m pc ls st0) :=
  sg_callESi X hK hG hC hA hS hb hp (m_J1_charAt_3b067_e1 l ta tv tb x1 h1 htb) wl_7_160 wl_1_17 wl_7_159 (n := 2) (by decide +kernel) rfl rfl rfl hl hsize hst hW hR hf hdg kk

set_option maxHeartbeats 8000000 in
set_option maxRecDepth 100000 in
theorem m_J0_charAt_5068e_e1 (l : Launch) {D : va_G} {base : Nat} {tys : List (ClassId × FieldType)} {ad ks : List Nat} {P : sgPm} {Hx : Heap} (ta tv : Nat) (tb : List Int32) (x1 : Int32) (h1 : iv 0 0 x1) (htb : ∀ j : Nat, j < 1 → iv 0 127 (tb.getD j 0)) : sgEi l (KT P) D vwCl base tys ad ks Hx ta tv 1 tb yJ0_charAt_5068e cJ0_charAt_5068e 2 (some .char) ({ frames := 3, cells := 0, slots := 0, locals := 64 }) [.ref ta, .int x1] (fun r : Int32 => iv 0 127 r ∧ r = tb.getD x1.toNatClampNeg 0) := by
  refine sg_ofE (Pq := fun Hx => va_Qi (fun r (_ : Unit) => (fun r : Int32 => iv 0 127 r ∧ r = tb.getD x1.toNatClampNeg 0) r) (fun _ t => t.heap = Hx) (fun _ : Nat => False)) (by decide +kernel) (Nat.le_of_ble_eq_true rfl) (fun p e s m below meth c X hr hlk hb hK hC hG ls hl hp => ?_)
  have hS : va_S (fun _ : Nat => False) s.heap s.heap [] := va_S.rf
  have hl : lv_has ls 2 [(0, .ref ta), (1, .int x1)] := hl
  refine lv_aload_n X.1 X.2.1 dJ0_charAt_5068e_0 rfl (lv_at hl 0 rfl) ?_
  refine ca_J0_isLatin1_aae02_1 X hK hG hC (fun _ h => h.elim) hS hb hp wl_3_79 hl.1 (rest := []) rfl (Nat.le_of_ble_eq_true rfl) ⟨Nat.le_of_ble_eq_true rfl, Nat.le_of_ble_eq_true rfl⟩ ⟨Nat.le_of_ble_eq_true rfl, Nat.le_of_ble_eq_true rfl⟩ dJ0_charAt_5068e_1 (fun f1 locs hf1 hS => ?_)
  refine lv_if_eq (tgt := 16) X.1 X.2.1 dJ0_charAt_5068e_4 (by decide) (fun c2 => ?_) (fun c2 => ?_)
  · have i3 : (1 : Int) = (0 : Int) := vq_eq c2 (vq_iv hf1) (by decide +kernel)
    exact ((iv_no (a := 1) (b := 0) (iv_eqm c2 hf1 (iv_c 0 (a := 0) (b := 0) (by decide +kernel)) (by decide +kernel)) (by decide +kernel))).elim
  · have i4 : ((1 : Int) = (0 : Int)) = False := vq_ne c2 (vq_iv hf1) (by decide +kernel)
    refine lv_aload_n X.1 X.2.1 dJ0_charAt_5068e_7 rfl (lv_at hl 0 rfl) ?_
    refine vk_getf (v := .ref tv) X.1 X.2.1 hp.2.2.1 hS X.2.2.2.1 (X.2.2.2.2 _ wl_9_181) (fun _ h9 => h9) dJ0_charAt_5068e_8 ?_
    refine lv_iload_n X.1 X.2.1 dJ0_charAt_5068e_11 rfl (lv_at hl 1 rfl) ?_
    refine ca_J1_charAt_3b067_e1 X hK hG hC (fun _ h => h.elim) hS hb hp x1 h1 htb wl_7_158 hl.1 (rest := []) rfl (Nat.le_of_ble_eq_true rfl) ⟨Nat.le_of_ble_eq_true rfl, Nat.le_of_ble_eq_true rfl⟩ ⟨Nat.le_of_ble_eq_true rfl, Nat.le_of_ble_eq_true rfl⟩ dJ0_charAt_5068e_12 (fun f5 locs hf5 hS => ?_)
    exact sg_zretP X hr (sg_cn hf5.1) hlk hS ⟨hf5.1, hf5.2⟩ dJ0_charAt_5068e_15

theorem ca_J0_charAt_5068e_e1   (X : CallFix p m c cc nL s args sg_tbl own) (hK : va_K D vwCl tys s) (hG : sgG (KT P) D vwCl (fun q : Nat => base ≤ q) tys ad ks H) (hC : sgC base s) (hA : ∀ q : Nat, A q → base ≤ q) (hS : va_S A s.heap H locs)  (hb : base ≤ s.heap.size) {ta tv : Nat} {tb : List Int32} (hp : P_S ta tv 1 tb A s) (x1 : Int32) (h1 : iv 0 0 x1) (htb : ∀ j : Nat, j < 1 → iv 0 127 (tb.getD j 0)) (hl : Cond.methodLink own index yJ0_charAt_5068e ∈ sg_tbl) (hsize : ls.size = nL) (hst : st0 = [.int x1].reverse ++ .ref ta :: rest) (hW : (rest.map fun v => v.category).sum ≤ 8) (hR : 4 ≤ R.frames ∧ 85 ≤ R.locals) (hf : cells ≤ R.cells ∧ slots ≤ R.slots) (hdg : decode cc pc = .ok (.invokevirtual index, 3)) (kk : ∀ (r : Int32) (locs1 : List Loc), (fun r : Int32 => iv 0 127 r ∧ r = tb.getD x1.toNatClampNeg 0) r → va_S A s.heap H locs1 → W p l e R s m args below meth c H locs1 cells slots Q (F0 m (pc + 3) ls (.int r :: rest))) : W p l e R s m args below meth c H locs cells slots Q (F0 m pc ls st0) :=
  sg_callEVi X hK hG hC hA hS hb hp (m_J0_charAt_5068e_e1 l ta tv tb x1 h1 htb) wl_7_157 wl_1_16 wl_7_155 wl_7_156 (n := 1) (by decide +kernel) rfl rfl rfl hl hsize hst hW hR hf hdg kk

set_option maxHeartbeats 8000000 in
set_option maxRecDepth 100000 in
theorem m_X12_isAmong_e1 (l : Launch) {D : va_G} {base : Nat} {tys : List (ClassId × FieldType)} {ad ks : List Nat} {P : sgPm} {Hx : Heap} (ta tv : Nat) (tb : List Int32) (x1 : Int32) (htb : ∀ j : Nat, j < 1 → iv 0 127 (tb.getD j 0)) : sgEi l (KT P) D vwCl base tys ad ks Hx ta tv 1 tb yX12_isAmong cX12_isAmong 3 (some .boolean) ({ frames := 4, cells := 0, slots := 0, locals := 85 }) [.ref ta, .int x1] (fun r : Int32 => (r = 1 ∧ ¬ vIx tb x1.toInt 1 0 < 0 ∧ iv 0 127 x1) ∨ (r = 0 ∧ vIx tb x1.toInt 1 0 < 0)) := by
  refine sg_ofE (Pq := fun Hx => va_Qi (fun r (_ : Unit) => (fun r : Int32 => (r = 1 ∧ ¬ vIx tb x1.toInt 1 0 < 0 ∧ iv 0 127 x1) ∨ (r = 0 ∧ vIx tb x1.toInt 1 0 < 0)) r) (fun _ t => t.heap = Hx) (fun _ : Nat => False)) (by decide +kernel) (Nat.le_of_ble_eq_true rfl) (fun p e s m below meth c X hr hlk hb hK hC hG ls hl hp => ?_)
  have hS : va_S (fun _ : Nat => False) s.heap s.heap [] := va_S.rf
  have hl : lv_has ls 3 [(0, .ref ta), (1, .int x1)] := hl
  refine lv_iconst (v := 0) X.1 X.2.1 dX12_isAmong_0 (by decide +kernel) ?_
  refine lv_istore_n (lv' := [(2, .int 0), (0, .ref ta), (1, .int x1)]) X.1 X.2.1 dX12_isAmong_1 rfl hl (by decide) rfl (fun ls hl => ?_)
  refine lv_iload_n X.1 X.2.1 dX12_isAmong_2 rfl (lv_at hl 0 rfl) ?_
  refine lv_aload_n X.1 X.2.1 dX12_isAmong_3 rfl (lv_at hl 1 rfl) ?_
  refine ca_J0_length_8abf5_1 X hK hG hC (fun _ h => h.elim) hS hb hp wl_7_150 hl.1 (rest := [.int 0]) rfl (Nat.le_of_ble_eq_true rfl) ⟨Nat.le_of_ble_eq_true rfl, Nat.le_of_ble_eq_true rfl⟩ ⟨Nat.le_of_ble_eq_true rfl, Nat.le_of_ble_eq_true rfl⟩ dX12_isAmong_4 (fun f1 locs hf1 hS => ?_)
  refine lv_icmp_ge (tgt := 27) X.1 X.2.1 dX12_isAmong_7 (by decide) (fun c2 => ?_) (fun c2 => ?_)
  · have i3 : ¬ (0 : Int) < (1 : Int) := vq_le c2 (vq_iv hf1) (by decide +kernel)
    exact ((iv_no (iv_le (b' := 0) c2 hf1 (iv_c 0 (a := 0) (b := 0) (by decide +kernel)) (by decide +kernel)) (by decide +kernel))).elim
  · have i4 : (0 : Int) < (1 : Int) := vq_lt (iv_gt_of c2) (by decide +kernel) (vq_iv hf1)
    refine lv_aload_n X.1 X.2.1 dX12_isAmong_10 rfl (lv_at hl 1 rfl) ?_
    refine lv_iload_n X.1 X.2.1 dX12_isAmong_11 rfl (lv_at hl 0 rfl) ?_
    refine ca_J0_charAt_5068e_e1 X hK hG hC (fun _ h => h.elim) hS hb hp 0 (iv_c 0 (a := 0) (b := 0) (by decide +kernel)) htb wl_7_154 hl.1 (rest := []) rfl (Nat.le_of_ble_eq_true rfl) ⟨Nat.le_of_ble_eq_true rfl, Nat.le_of_ble_eq_true rfl⟩ ⟨Nat.le_of_ble_eq_true rfl, Nat.le_of_ble_eq_true rfl⟩ dX12_isAmong_12 (fun f5 locs hf5 hS => ?_)
    have xf5 : f5.toInt = (tb.getD 0 0).toInt := by rw [hf5.2, sg_cl (iv_c 0 (a := 0) (b := 0) (by decide +kernel)) (by decide)]; rfl
    refine lv_iload_n X.1 X.2.1 dX12_isAmong_15 rfl (lv_at hl 2 rfl) ?_
    refine lv_icmp_ne (tgt := 21) X.1 X.2.1 dX12_isAmong_16 (by decide) (fun c6 => ?_) (fun c6 => ?_)
    · have i7 : ((tb.getD 0 0).toInt = x1.toInt) = False := vq_ne c6 xf5 rfl
      obtain ⟨y9, ey9⟩ : ∃ y : Int32, y = 0 + Int32.ofInt 1 := ⟨_, rfl⟩
      have xy9 : y9.toInt = (0 + 1) := sg_exadd ey9 (iv_c 0 (a := 0) (b := 0) (by decide +kernel)) (iv_c _ (a := 1) (b := 1) (by decide +kernel)) (by decide +kernel) (by decide +kernel) (by decide +kernel)
      refine lv_iinc (v := y9) (lv' := [(2, .int y9), (0, .ref ta), (1, .int x1)]) X.1 X.2.1 dX12_isAmong_21 hl (k := 0) rfl ey9.symm (by decide) rfl (fun ls hl => ?_)
      refine lv_goto (tgt := 2) X.1 X.2.1 dX12_isAmong_24 (by decide) ?_
      refine lv_iload_n X.1 X.2.1 dX12_isAmong_2 rfl (lv_at hl 0 rfl) ?_
      refine lv_aload_n X.1 X.2.1 dX12_isAmong_3 rfl (lv_at hl 1 rfl) ?_
      refine ca_J0_length_8abf5_1 X hK hG hC (fun _ h => h.elim) hS hb hp wl_7_150 hl.1 (rest := [.int y9]) rfl (Nat.le_of_ble_eq_true rfl) ⟨Nat.le_of_ble_eq_true rfl, Nat.le_of_ble_eq_true rfl⟩ ⟨Nat.le_of_ble_eq_true rfl, Nat.le_of_ble_eq_true rfl⟩ dX12_isAmong_4 (fun f10 locs hf10 hS => ?_)
      refine lv_icmp_ge (tgt := 27) X.1 X.2.1 dX12_isAmong_7 (by decide) (fun c11 => ?_) (fun c11 => ?_)
      · have i12 : ¬ ((0 + 1) : Int) < (1 : Int) := vq_le c11 (vq_iv hf10) xy9
        refine lv_iconst (v := 0) X.1 X.2.1 dX12_isAmong_27 (by decide +kernel) ?_
        exact sg_zretP X hr (sg_zn (iv_of (iv_c 0 (a := 0) (b := 0) (by decide +kernel)) (a' := 0) (b' := 1) (by decide +kernel))) hlk hS (Or.inr ⟨rfl, (by simp only [vIx, i4, i7, i12, if_true, if_false]; decide)⟩) dX12_isAmong_28
      · have i13 : ((0 + 1) : Int) < (1 : Int) := vq_lt (iv_gt_of c11) xy9 (vq_iv hf10)
        exact ((iv_no (iv_lt (b' := 0) (iv_gt_of c11) (iv_add (a' := 1) (b' := 1) ey9 (iv_c 0 (a := 0) (b := 0) (by decide +kernel)) (iv_c _ (a := 1) (b := 1) (by decide +kernel)) (by decide +kernel)) hf10 (by decide +kernel)) (by decide +kernel))).elim
    · have i8 : (tb.getD 0 0).toInt = x1.toInt := vq_eq c6 xf5 rfl
      refine lv_iconst (v := 1) X.1 X.2.1 dX12_isAmong_19 (by decide +kernel) ?_
      exact sg_zretP X hr (sg_zn (iv_of (iv_c 1 (a := 1) (b := 1) (by decide +kernel)) (a' := 0) (b' := 1) (by decide +kernel))) hlk hS (Or.inl ⟨rfl, (by simp only [vIx, i4, i8, if_true, if_false]; decide), (by have z := htb 0 (by decide); exact ⟨by have := z.1; omega, by have := z.2; omega⟩)⟩) dX12_isAmong_20

theorem ca_X12_isAmong_e1   (X : CallFix p m c cc nL s args sg_tbl own) (hK : va_K D vwCl tys s) (hG : sgG (KT P) D vwCl (fun q : Nat => base ≤ q) tys ad ks H) (hC : sgC base s) (hA : ∀ q : Nat, A q → base ≤ q) (hS : va_S A s.heap H locs)  (hb : base ≤ s.heap.size) {ta tv : Nat} {tb : List Int32} (hp : P_S ta tv 1 tb A s) (x1 : Int32) (htb : ∀ j : Nat, j < 1 → iv 0 127 (tb.getD j 0)) (hl : Cond.methodLink own index yX12_isAmong ∈ sg_tbl) (hsize : ls.size = nL) (hst : st0 = [.ref ta, .int x1].reverse ++ rest) (hW : (rest.map fun v => v.category).sum ≤ 8) (hR : 5 ≤ R.frames ∧ 107 ≤ R.locals) (hf : cells ≤ R.cells ∧ slots ≤ R.slots) (hdg : decode cc pc = .ok (.invokestatic index, 3)) (kk : ∀ (r : Int32) (locs1 : List Loc), (fun r : Int32 => (r = 1 ∧ ¬ vIx tb x1.toInt 1 0 < 0 ∧ iv 0 127 x1) ∨ (r = 0 ∧ vIx tb x1.toInt 1 0 < 0)) r → va_S A s.heap H locs1 → W p l e R s m args below meth c H locs1 cells slots Q (F0 m (pc + 3) ls (.int r :: rest))) : W p l e R s m args below meth c H locs cells slots Q (F0 m pc ls st0) :=
  sg_callESi X hK hG hC hA hS hb hp (m_X12_isAmong_e1 l ta tv tb x1 htb) wl_7_216 wl_1_13 wl_7_215 (n := 2) (by decide +kernel) rfl rfl rfl hl hsize hst hW hR hf hdg kk

set_option maxHeartbeats 8000000 in
set_option maxRecDepth 100000 in
theorem m_X12_spotOf_e1 (l : Launch) {D : va_G} {base : Nat} {tys : List (ClassId × FieldType)} {ad ks : List Nat} {P : sgPm} {Hx : Heap} (ta tv : Nat) (tb : List Int32) (x1 : Int32) (htb : ∀ j : Nat, j < 1 → iv 0 127 (tb.getD j 0)) : sgEi l (KT P) D vwCl base tys ad ks Hx ta tv 1 tb yX12_spotOf cX12_spotOf 3 (some .int) ({ frames := 4, cells := 0, slots := 0, locals := 85 }) [.ref ta, .int x1] (fun r : Int32 => iv (-1) 0 r ∧ r.toInt = vIx tb x1.toInt 1 0 ∧ (r = -1 ∨ iv 0 127 x1)) := by
  refine sg_ofE (Pq := fun Hx => va_Qi (fun r (_ : Unit) => (fun r : Int32 => iv (-1) 0 r ∧ r.toInt = vIx tb x1.toInt 1 0 ∧ (r = -1 ∨ iv 0 127 x1)) r) (fun _ t => t.heap = Hx) (fun _ : Nat => False)) (by decide +kernel) (Nat.le_of_ble_eq_true rfl) (fun p e s m below meth c X hr hlk hb hK hC hG ls hl hp => ?_)
  have hS : va_S (fun _ : Nat => False) s.heap s.heap [] := va_S.rf
  have hl : lv_has ls 3 [(0, .ref ta), (1, .int x1)] := hl
  refine lv_iconst (v := 0) X.1 X.2.1 dX12_spotOf_0 (by decide +kernel) ?_
  refine lv_istore_n (lv' := [(2, .int 0), (0, .ref ta), (1, .int x1)]) X.1 X.2.1 dX12_spotOf_1 rfl hl (by decide) rfl (fun ls hl => ?_)
  refine lv_iload_n X.1 X.2.1 dX12_spotOf_2 rfl (lv_at hl 0 rfl) ?_
  refine lv_aload_n X.1 X.2.1 dX12_spotOf_3 rfl (lv_at hl 1 rfl) ?_
  refine ca_J0_length_8abf5_1 X hK hG hC (fun _ h => h.elim) hS hb hp wl_7_150 hl.1 (rest := [.int 0]) rfl (Nat.le_of_ble_eq_true rfl) ⟨Nat.le_of_ble_eq_true rfl, Nat.le_of_ble_eq_true rfl⟩ ⟨Nat.le_of_ble_eq_true rfl, Nat.le_of_ble_eq_true rfl⟩ dX12_spotOf_4 (fun f1 locs hf1 hS => ?_)
  refine lv_icmp_ge (tgt := 27) X.1 X.2.1 dX12_spotOf_7 (by decide) (fun c2 => ?_) (fun c2 => ?_)
  · have i3 : ¬ (0 : Int) < (1 : Int) := vq_le c2 (vq_iv hf1) (by decide +kernel)
    exact ((iv_no (iv_le (b' := 0) c2 hf1 (iv_c 0 (a := 0) (b := 0) (by decide +kernel)) (by decide +kernel)) (by decide +kernel))).elim
  · have i4 : (0 : Int) < (1 : Int) := vq_lt (iv_gt_of c2) (by decide +kernel) (vq_iv hf1)
    refine lv_aload_n X.1 X.2.1 dX12_spotOf_10 rfl (lv_at hl 1 rfl) ?_
    refine lv_iload_n X.1 X.2.1 dX12_spotOf_11 rfl (lv_at hl 0 rfl) ?_
    refine ca_J0_charAt_5068e_e1 X hK hG hC (fun _ h => h.elim) hS hb hp 0 (iv_c 0 (a := 0) (b := 0) (by decide +kernel)) htb wl_7_154 hl.1 (rest := []) rfl (Nat.le_of_ble_eq_true rfl) ⟨Nat.le_of_ble_eq_true rfl, Nat.le_of_ble_eq_true rfl⟩ ⟨Nat.le_of_ble_eq_true rfl, Nat.le_of_ble_eq_true rfl⟩ dX12_spotOf_12 (fun f5 locs hf5 hS => ?_)
    have xf5 : f5.toInt = (tb.getD 0 0).toInt := by rw [hf5.2, sg_cl (iv_c 0 (a := 0) (b := 0) (by decide +kernel)) (by decide)]; rfl
    refine lv_iload_n X.1 X.2.1 dX12_spotOf_15 rfl (lv_at hl 2 rfl) ?_
    refine lv_icmp_ne (tgt := 21) X.1 X.2.1 dX12_spotOf_16 (by decide) (fun c6 => ?_) (fun c6 => ?_)
    · have i7 : ((tb.getD 0 0).toInt = x1.toInt) = False := vq_ne c6 xf5 rfl
      obtain ⟨y9, ey9⟩ : ∃ y : Int32, y = 0 + Int32.ofInt 1 := ⟨_, rfl⟩
      have xy9 : y9.toInt = (0 + 1) := sg_exadd ey9 (iv_c 0 (a := 0) (b := 0) (by decide +kernel)) (iv_c _ (a := 1) (b := 1) (by decide +kernel)) (by decide +kernel) (by decide +kernel) (by decide +kernel)
      refine lv_iinc (v := y9) (lv' := [(2, .int y9), (0, .ref ta), (1, .int x1)]) X.1 X.2.1 dX12_spotOf_21 hl (k := 0) rfl ey9.symm (by decide) rfl (fun ls hl => ?_)
      refine lv_goto (tgt := 2) X.1 X.2.1 dX12_spotOf_24 (by decide) ?_
      refine lv_iload_n X.1 X.2.1 dX12_spotOf_2 rfl (lv_at hl 0 rfl) ?_
      refine lv_aload_n X.1 X.2.1 dX12_spotOf_3 rfl (lv_at hl 1 rfl) ?_
      refine ca_J0_length_8abf5_1 X hK hG hC (fun _ h => h.elim) hS hb hp wl_7_150 hl.1 (rest := [.int y9]) rfl (Nat.le_of_ble_eq_true rfl) ⟨Nat.le_of_ble_eq_true rfl, Nat.le_of_ble_eq_true rfl⟩ ⟨Nat.le_of_ble_eq_true rfl, Nat.le_of_ble_eq_true rfl⟩ dX12_spotOf_4 (fun f10 locs hf10 hS => ?_)
      refine lv_icmp_ge (tgt := 27) X.1 X.2.1 dX12_spotOf_7 (by decide) (fun c11 => ?_) (fun c11 => ?_)
      · have i12 : ¬ ((0 + 1) : Int) < (1 : Int) := vq_le c11 (vq_iv hf10) xy9
        refine lv_iconst (v := (-1)) X.1 X.2.1 dX12_spotOf_27 (by decide +kernel) ?_
        exact sg_iretP X hr hlk hS ⟨(iv_of (iv_c (-1) (a := (-1)) (b := (-1)) (by decide +kernel)) (a' := (-1)) (b' := 0) (by decide +kernel)), (by rw [show ((-1) : Int32).toInt = (-1 : Int) from (by decide +kernel)]; simp only [vIx, i4, i7, i12, if_true, if_false]), Or.inl rfl⟩ dX12_spotOf_28
      · have i13 : ((0 + 1) : Int) < (1 : Int) := vq_lt (iv_gt_of c11) xy9 (vq_iv hf10)
        exact ((iv_no (iv_lt (b' := 0) (iv_gt_of c11) (iv_add (a' := 1) (b' := 1) ey9 (iv_c 0 (a := 0) (b := 0) (by decide +kernel)) (iv_c _ (a := 1) (b := 1) (by decide +kernel)) (by decide +kernel)) hf10 (by decide +kernel)) (by decide +kernel))).elim
    · have i8 : (tb.getD 0 0).toInt = x1.toInt := vq_eq c6 xf5 rfl
      refine lv_iload_n X.1 X.2.1 dX12_spotOf_19 rfl (lv_at hl 0 rfl) ?_
      exact sg_iretP X hr hlk hS ⟨(iv_of (iv_c 0 (a := 0) (b := 0) (by decide +kernel)) (a' := (-1)) (b' := 0) (by decide +kernel)), (by rw [show (0 : Int32).toInt = (0 : Int) from (by decide +kernel)]; simp only [vIx, i4, i8, if_true, if_false]; rfl), Or.inr (by have z := htb 0 (by decide); exact ⟨by have := z.1; omega, by have := z.2; omega⟩)⟩ dX12_spotOf_20

theorem ca_X12_spotOf_e1   (X : CallFix p m c cc nL s args sg_tbl own) (hK : va_K D vwCl tys s) (hG : sgG (KT P) D vwCl (fun q : Nat => base ≤ q) tys ad ks H) (hC : sgC base s) (hA : ∀ q : Nat, A q → base ≤ q) (hS : va_S A s.heap H locs)  (hb : base ≤ s.heap.size) {ta tv : Nat} {tb : List Int32} (hp : P_S ta tv 1 tb A s) (x1 : Int32) (htb : ∀ j : Nat, j < 1 → iv 0 127 (tb.getD j 0)) (hl : Cond.methodLink own index yX12_spotOf ∈ sg_tbl) (hsize : ls.size = nL) (hst : st0 = [.ref ta, .int x1].reverse ++ rest) (hW : (rest.map fun v => v.category).sum ≤ 8) (hR : 5 ≤ R.frames ∧ 107 ≤ R.locals) (hf : cells ≤ R.cells ∧ slots ≤ R.slots) (hdg : decode cc pc = .ok (.invokestatic index, 3)) (kk : ∀ (r : Int32) (locs1 : List Loc), (fun r : Int32 => iv (-1) 0 r ∧ r.toInt = vIx tb x1.toInt 1 0 ∧ (r = -1 ∨ iv 0 127 x1)) r → va_S A s.heap H locs1 → W p l e R s m args below meth c H locs1 cells slots Q (F0 m (pc + 3) ls (.int r :: rest))) : W p l e R s m args below meth c H locs cells slots Q (F0 m pc ls st0) :=
  sg_callESi X hK hG hC hA hS hb hp (m_X12_spotOf_e1 l ta tv tb x1 htb) wl_7_153 wl_1_13 wl_7_152 (n := 2) (by decide +kernel) rfl rfl rfl hl hsize hst hW hR hf hdg kk

set_option maxHeartbeats 8000000 in
set_option maxRecDepth 100000 in
theorem m_X12_isSign_e (l : Launch) {D : va_G} {base : Nat} {tys : List (ClassId × FieldType)} {ad ks : List Nat} {P : sgPm} {Hx : Heap} (x0 : Int32) : sgPi l (KT P) D vwCl base tys ad ks Hx yX12_isSign cX12_isSign 1 (some .boolean) ({ frames := 0, cells := 0, slots := 0, locals := 0 }) [.int x0] (fun r : Int32 => (r = 1 ∧ (vCm x0.toInt = 0) = False) ∨ (r = 0 ∧ vCm x0.toInt = 0)) := by
  refine sg_ofP (Pq := fun Hx => va_Qi (fun r (_ : Unit) => (fun r : Int32 => (r = 1 ∧ (vCm x0.toInt = 0) = False) ∨ (r = 0 ∧ vCm x0.toInt = 0)) r) (fun _ t => t.heap = Hx) (fun _ : Nat => False)) (by decide +kernel) (Nat.le_of_ble_eq_true rfl) (fun p e s m below meth c X hr hlk hb hK hC hG ls hl => ?_)
  have hS : va_S (fun _ : Nat => False) s.heap s.heap [] := va_S.rf
  have hl : lv_has ls 1 [(0, .int x0)] := hl
  refine lv_iload_n X.1 X.2.1 dX12_isSign_0 rfl (lv_at hl 0 rfl) ?_
  refine lv_bipush (v := 61) X.1 X.2.1 dX12_isSign_1 (by decide +kernel) ?_
  refine lv_icmp_eq (tgt := 18) X.1 X.2.1 dX12_isSign_3 (by decide) (fun c1 => ?_) (fun c1 => ?_)
  · have i2 : x0.toInt = (61 : Int) := vq_eq c1 rfl (by decide +kernel)
    refine lv_iconst (v := 1) X.1 X.2.1 dX12_isSign_18 (by decide +kernel) ?_
    refine lv_goto (tgt := 23) X.1 X.2.1 dX12_isSign_19 (by decide) ?_
    exact sg_zretP X hr (sg_zn (iv_of (iv_c 1 (a := 1) (b := 1) (by decide +kernel)) (a' := 0) (b' := 1) (by decide +kernel))) hlk hS (Or.inl ⟨rfl, (by simp only [vCm, i2, cond_true, cond_false, vB_t, vB_f, if_true, if_false, eq_self, not_true_eq_false, not_false_eq_true, Int.reduceEq, Int.reduceLT, or_false, false_or, or_true, true_or])⟩) dX12_isSign_23
  · have i3 : (x0.toInt = (61 : Int)) = False := vq_ne c1 rfl (by decide +kernel)
    refine lv_iload_n X.1 X.2.1 dX12_isSign_6 rfl (lv_at hl 0 rfl) ?_
    refine lv_bipush (v := 60) X.1 X.2.1 dX12_isSign_7 (by decide +kernel) ?_
    refine lv_icmp_eq (tgt := 18) X.1 X.2.1 dX12_isSign_9 (by decide) (fun c4 => ?_) (fun c4 => ?_)
    · have i5 : x0.toInt = (60 : Int) := vq_eq c4 rfl (by decide +kernel)
      refine lv_iconst (v := 1) X.1 X.2.1 dX12_isSign_18 (by decide +kernel) ?_
      refine lv_goto (tgt := 23) X.1 X.2.1 dX12_isSign_19 (by decide) ?_
      exact sg_zretP X hr (sg_zn (iv_of (iv_c 1 (a := 1) (b := 1) (by decide +kernel)) (a' := 0) (b' := 1) (by decide +kernel))) hlk hS (Or.inl ⟨rfl, (by simp only [vCm, i3, i5, cond_true, cond_false, vB_t, vB_f, if_true, if_false, eq_self, not_true_eq_false, not_false_eq_true, Int.reduceEq, Int.reduceLT, or_false, false_or, or_true, true_or])⟩) dX12_isSign_23
    · have i6 : (x0.toInt = (60 : Int)) = False := vq_ne c4 rfl (by decide +kernel)
      refine lv_iload_n X.1 X.2.1 dX12_isSign_12 rfl (lv_at hl 0 rfl) ?_
      refine lv_bipush (v := 62) X.1 X.2.1 dX12_isSign_13 (by decide +kernel) ?_
      refine lv_icmp_ne (tgt := 22) X.1 X.2.1 dX12_isSign_15 (by decide) (fun c7 => ?_) (fun c7 => ?_)
      · have i8 : (x0.toInt = (62 : Int)) = False := vq_ne c7 rfl (by decide +kernel)
        refine lv_iconst (v := 0) X.1 X.2.1 dX12_isSign_22 (by decide +kernel) ?_
        exact sg_zretP X hr (sg_zn (iv_of (iv_c 0 (a := 0) (b := 0) (by decide +kernel)) (a' := 0) (b' := 1) (by decide +kernel))) hlk hS (Or.inr ⟨rfl, (by simp only [vCm, i3, i6, i8, cond_true, cond_false, vB_t, vB_f, if_true, if_false, eq_self, not_true_eq_false, not_false_eq_true, Int.reduceEq, Int.reduceLT, or_false, false_or, or_true, true_or])⟩) dX12_isSign_23
      · have i9 : x0.toInt = (62 : Int) := vq_eq c7 rfl (by decide +kernel)
        refine lv_iconst (v := 1) X.1 X.2.1 dX12_isSign_18 (by decide +kernel) ?_
        refine lv_goto (tgt := 23) X.1 X.2.1 dX12_isSign_19 (by decide) ?_
        exact sg_zretP X hr (sg_zn (iv_of (iv_c 1 (a := 1) (b := 1) (by decide +kernel)) (a' := 0) (b' := 1) (by decide +kernel))) hlk hS (Or.inl ⟨rfl, (by simp only [vCm, i3, i6, i9, cond_true, cond_false, vB_t, vB_f, if_true, if_false, eq_self, not_true_eq_false, not_false_eq_true, Int.reduceEq, Int.reduceLT, or_false, false_or, or_true, true_or])⟩) dX12_isSign_23

theorem ca_X12_isSign_e   (X : CallFix p m c cc nL s args sg_tbl own) (hK : va_K D vwCl tys s) (hG : sgG (KT P) D vwCl (fun q : Nat => base ≤ q) tys ad ks H) (hC : sgC base s) (hA : ∀ q : Nat, A q → base ≤ q) (hS : va_S A s.heap H locs) (hb : base ≤ s.heap.size) (x0 : Int32) (hl : Cond.methodLink own index yX12_isSign ∈ sg_tbl) (hsize : ls.size = nL) (hst : st0 = [.int x0].reverse ++ rest) (hW : (rest.map fun v => v.category).sum ≤ 8) (hR : 1 ≤ R.frames ∧ 20 ≤ R.locals) (hf : cells ≤ R.cells ∧ slots ≤ R.slots) (hdg : decode cc pc = .ok (.invokestatic index, 3)) (kk : ∀ (r : Int32) (locs1 : List Loc), (fun r : Int32 => (r = 1 ∧ (vCm x0.toInt = 0) = False) ∨ (r = 0 ∧ vCm x0.toInt = 0)) r → va_S A s.heap H locs1 → W p l e R s m args below meth c H locs1 cells slots Q (F0 m (pc + 3) ls (.int r :: rest))) : W p l e R s m args below meth c H locs cells slots Q (F0 m pc ls st0) :=
  sg_callPSi X hK hG hC hA hS hb (m_X12_isSign_e l x0) wl_8_22 wl_1_13 wl_8_21 (n := 1) (by decide +kernel) rfl rfl rfl hl hsize hst hW hR hf hdg kk

set_option maxHeartbeats 8000000 in
set_option maxRecDepth 100000 in
theorem m_X12_fails_e (l : Launch) {D : va_G} {base : Nat} {tys : List (ClassId × FieldType)} {ad ks : List Nat} {P : sgPm}{a d1 d2 : Int} {z : sgZt}  (a0 : Nat) (h0 : isK ad ks 12 a0) (hl0 : 0 ≤ sgL2 P ∧ sgL2 P ≤ 240) (hav : 0 ≤ a ∧ a ≤ sgL2 P) : Met l yX12_fails (Cond.code yX12_fails cX12_fails 1 (some .boolean) :: sg_tbl) ({ frames := 0, cells := 0, slots := 0, locals := 0 }) (va_Pc [.ref a0] (sgB (KE a a (-1) (-1) d1 d2 z P) D vwCl base tys ad ks)) (va_Qi (fun r (u : Int32) => u = r ∧ (fun r : Int32 => iv 0 0 r) r) (fun u t => sgB (KE a a a a d1 d2 z P) D vwCl base tys ad ks t) (fun q : Nat => base ≤ q)) 0 0 (fun q : Nat => base ≤ q) := by
  refine sg_ofW (by decide +kernel) (Nat.le_of_ble_eq_true rfl) (fun p e s m below meth c X hr hlk hb hK hC hG ls hl => ?_)
  have hS : va_S (fun q : Nat => base ≤ q) s.heap s.heap [] := va_S.rf
  have hl : lv_has ls 1 [(0, .ref a0)] := hl
  refine lv_aload_n X.1 X.2.1 dX12_fails_0 rfl (lv_at hl 0 rfl) ?_
  refine gf_X12_11e X hK hG h0 wl_6_189 dX12_fails_1 (fun f1 hf1 => ?_)
  refine lv_iconst (v := (-1)) X.1 X.2.1 dX12_fails_4 (by decide +kernel) ?_
  refine lv_icmp_ne (tgt := 16) X.1 X.2.1 dX12_fails_5 (by decide) (fun c2 => ?_) (fun c2 => ?_)
  · have i3 : (((-1) : Int) = ((-1) : Int)) = False := vq_ne c2 (vq_iv hf1) (by decide +kernel)
    exact ((c2 (iv_one hf1 (iv_c (-1) (a := (-1)) (b := (-1)) (by decide +kernel)) (by decide +kernel)))).elim
  · have i4 : ((-1) : Int) = ((-1) : Int) := vq_eq c2 (vq_iv hf1) (by decide +kernel)
    refine lv_aload_n X.1 X.2.1 dX12_fails_8 rfl (lv_at hl 0 rfl) ?_
    refine lv_aload_n X.1 X.2.1 dX12_fails_9 rfl (lv_at hl 0 rfl) ?_
    refine gf_X12_10e X hK hG h0 wl_6_188 dX12_fails_10 (fun f5 hf5 => ?_)
    have xf5 : f5.toInt = a := vq_iv hf5
    have yf5 : iv 0 240 f5 := vq_240 hl0 hav xf5
    refine pf_X12_11E (b1 := a) (b2 := a) X hK hG hS h0 wl_6_189 (vq_of (lo := a) (hi := a) xf5 ⟨Int.le_refl _, Int.le_refl _⟩) dX12_fails_13 (fun H locs hG hS => ?_)
    refine lv_iconst (v := 0) X.1 X.2.1 dX12_fails_16 (by decide +kernel) ?_
    exact sg_zret2 X hr (sg_zn (iv_of (iv_c 0 (a := 0) (b := 0) (by decide +kernel)) (a' := 0) (b' := 1) (by decide +kernel))) hlk hS (iv_c 0 (a := 0) (b := 0) (by decide +kernel)) (fun t ht hW => sg_post hb hK hC hG hS ht hW) dX12_fails_17

theorem ca_X12_fails_e  {a d1 d2 : Int} {z : sgZt}  (X : CallFix p m c cc nL s args sg_tbl own) (hK : va_K D vwCl tys s) (hG : sgG (KE a a (-1) (-1) d1 d2 z P) D vwCl (fun q : Nat => base ≤ q) tys ad ks H) (hC : sgC base s) (hS : va_S (fun q : Nat => base ≤ q) s.heap H locs) (hb : base ≤ s.heap.size) (a0 : Nat) (h0 : isK ad ks 12 a0) (hl0 : 0 ≤ sgL2 P ∧ sgL2 P ≤ 240) (hav : 0 ≤ a ∧ a ≤ sgL2 P) (hl : Cond.methodLink own index yX12_fails ∈ sg_tbl) (hsize : ls.size = nL) (hst : st0 = [].reverse ++ .ref a0 :: rest) (hW : (rest.map fun v => v.category).sum ≤ 8) (hR : 1 ≤ R.frames ∧ 20 ≤ R.locals) (hf : cells ≤ R.cells ∧ slots ≤ R.slots) (hdg : decode cc pc = .ok (.invokevirtual index, 3)) (kk : ∀ (r : Int32) (t : State) (H1 : Heap) (locs1 : List Loc), t.heap = H1 → (fun r : Int32 => iv 0 0 r) r → (sgB (KE a a a a d1 d2 z P) D vwCl base tys ad ks t) → va_S (fun q : Nat => base ≤ q) s.heap H1 locs1 → W p l e R s m args below meth c H1 locs1 cells slots Q (F0 m (pc + 3) ls (.int r :: rest))) : W p l e R s m args below meth c H locs cells slots Q (F0 m pc ls st0) :=
  sg_callV2i X hK hG hC hS hb (m_X12_fails_e l a0 h0 hl0 hav) h0 (k := 12) (ci := 12) rfl (C := RX12) (T := TX12) (N := 53) rfl wl_7_144 wl_1_13 wl_7_143 wl_0_53 (n := 0) (by decide +kernel) rfl rfl rfl hl hsize hst hW hR hf hdg kk

set_option maxHeartbeats 8000000 in
set_option maxRecDepth 100000 in
theorem m_X12_fails_eb (l : Launch) {D : va_G} {base : Nat} {tys : List (ClassId × FieldType)} {ad ks : List Nat} {P : sgPm}{w d1 d2 : Int} {z : sgZt}  (a0 : Nat) (h0 : isK ad ks 12 a0) (hw0 : 0 ≤ w ∧ w ≤ 240) : Met l yX12_fails (Cond.code yX12_fails cX12_fails 1 (some .boolean) :: sg_tbl) ({ frames := 0, cells := 0, slots := 0, locals := 0 }) (va_Pc [.ref a0] (sgB (KE 0 241 w w d1 d2 z P) D vwCl base tys ad ks)) (va_Qi (fun r (u : Int32) => u = r ∧ (fun r : Int32 => iv 0 0 r) r) (fun u t => sgB (KE 0 241 w w d1 d2 z P) D vwCl base tys ad ks t) (fun q : Nat => base ≤ q)) 0 0 (fun q : Nat => base ≤ q) := by
  refine sg_ofW (by decide +kernel) (Nat.le_of_ble_eq_true rfl) (fun p e s m below meth c X hr hlk hb hK hC hG ls hl => ?_)
  have hS : va_S (fun q : Nat => base ≤ q) s.heap s.heap [] := va_S.rf
  have hl : lv_has ls 1 [(0, .ref a0)] := hl
  refine lv_aload_n X.1 X.2.1 dX12_fails_0 rfl (lv_at hl 0 rfl) ?_
  refine gf_X12_11e X hK hG h0 wl_6_189 dX12_fails_1 (fun f1 hf1 => ?_)
  have xf1 : f1.toInt = w := vq_iv hf1
  have yf1 : iv 0 240 f1 := vq_of xf1 hw0
  refine lv_iconst (v := (-1)) X.1 X.2.1 dX12_fails_4 (by decide +kernel) ?_
  refine lv_icmp_ne (tgt := 16) X.1 X.2.1 dX12_fails_5 (by decide) (fun c2 => ?_) (fun c2 => ?_)
  · have i3 : (w = ((-1) : Int)) = False := vq_ne c2 xf1 (by decide +kernel)
    refine lv_iconst (v := 0) X.1 X.2.1 dX12_fails_16 (by decide +kernel) ?_
    exact sg_zret2 X hr (sg_zn (iv_of (iv_c 0 (a := 0) (b := 0) (by decide +kernel)) (a' := 0) (b' := 1) (by decide +kernel))) hlk hS (iv_c 0 (a := 0) (b := 0) (by decide +kernel)) (fun t ht hW => sg_post hb hK hC hG hS ht hW) dX12_fails_17
  · have i4 : w = ((-1) : Int) := vq_eq c2 xf1 (by decide +kernel)
    exact ((iv_no (a := 0) (b := (-1)) (iv_eqm c2 yf1 (iv_c (-1) (a := (-1)) (b := (-1)) (by decide +kernel)) (by decide +kernel)) (by decide +kernel))).elim

theorem ca_X12_fails_eb  {w d1 d2 : Int} {z : sgZt}  (X : CallFix p m c cc nL s args sg_tbl own) (hK : va_K D vwCl tys s) (hG : sgG (KE 0 241 w w d1 d2 z P) D vwCl (fun q : Nat => base ≤ q) tys ad ks H) (hC : sgC base s) (hS : va_S (fun q : Nat => base ≤ q) s.heap H locs) (hb : base ≤ s.heap.size) (a0 : Nat) (h0 : isK ad ks 12 a0) (hw0 : 0 ≤ w ∧ w ≤ 240) (hl : Cond.methodLink own index yX12_fails ∈ sg_tbl) (hsize : ls.size = nL) (hst : st0 = [].reverse ++ .ref a0 :: rest) (hW : (rest.map fun v => v.category).sum ≤ 8) (hR : 1 ≤ R.frames ∧ 20 ≤ R.locals) (hf : cells ≤ R.cells ∧ slots ≤ R.slots) (hdg : decode cc pc = .ok (.invokevirtual index, 3)) (kk : ∀ (r : Int32) (t : State) (H1 : Heap) (locs1 : List Loc), t.heap = H1 → (fun r : Int32 => iv 0 0 r) r → (sgB (KE 0 241 w w d1 d2 z P) D vwCl base tys ad ks t) → va_S (fun q : Nat => base ≤ q) s.heap H1 locs1 → W p l e R s m args below meth c H1 locs1 cells slots Q (F0 m (pc + 3) ls (.int r :: rest))) : W p l e R s m args below meth c H locs cells slots Q (F0 m pc ls st0) :=
  sg_callV2i X hK hG hC hS hb (m_X12_fails_eb l a0 h0 hw0) h0 (k := 12) (ci := 12) rfl (C := RX12) (T := TX12) (N := 53) rfl wl_7_144 wl_1_13 wl_7_143 wl_0_53 (n := 0) (by decide +kernel) rfl rfl rfl hl hsize hst hW hR hf hdg kk
end
