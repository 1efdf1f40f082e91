
section
variable {p : Program} {l : Launch} {e : Env} {R : Room} {s : State} {m : MethodId} {args : Array Value} {below : List Frame} {meth : Method} {c : Code} {H : Heap} {locs : List Loc} {cells slots : Nat} {Q : State → Prop} {cc : ByteArray} {nL pc : Nat} {ls : Array Slot} {rest : List Value} {own : String} {D : va_G} {A : Nat → Prop} {tys : List (ClassId × FieldType)} {ad ks : List Nat} {P : sgPm} {H0 : Heap} {index : Nat} {base : Nat} {st0 : List Value} {a : Nat}

set_option maxHeartbeats 8000000 in
set_option maxRecDepth 100000 in
theorem m_X12_usual_e116 (l : Launch) {D : va_G} {base : Nat} {tys : List (ClassId × FieldType)} {ad ks : List Nat} {P : sgPm} {Hx : Heap} (x0 : Int32) (h0 : iv 116 116 x0) (x1 : Int32) (h1 : iv 0 0 x1) : sgPi l (KT P) D vwCl base tys ad ks Hx yX12_usual cX12_usual 2 (some .int) ({ frames := 0, cells := 0, slots := 0, locals := 0 }) [.int x0, .int x1] (fun r : Int32 => iv 0 0 r) := by
  refine sg_ofP (Pq := fun Hx => va_Qi (fun r (_ : Unit) => (fun r : Int32 => iv 0 0 r) r) (fun _ t => t.heap = Hx) (fun _ : Nat => False)) (by decide +kernel) (Nat.le_of_ble_eq_true rfl) (fun p e s m below meth c X hr hlk hb hK hC hG ls hl => ?_)
  have hS : va_S (fun _ : Nat => False) s.heap s.heap [] := va_S.rf
  have hl : lv_has ls 2 [(0, .int x0), (1, .int x1)] := hl
  refine lv_iload_n X.1 X.2.1 dX12_usual_0 rfl (lv_at hl 0 rfl) ?_
  refine lv_bipush (v := 115) X.1 X.2.1 dX12_usual_1 (by decide +kernel) ?_
  refine lv_icmp_eq (tgt := 8) X.1 X.2.1 dX12_usual_3 (by decide) (fun c1 => ?_) (fun c1 => ?_)
  · have i2 : x0.toInt = (115 : Int) := vq_eq c1 rfl (by decide +kernel)
    exact ((iv_no (a := 116) (b := 115) (iv_eqm c1 h0 (iv_c 115 (a := 115) (b := 115) (by decide +kernel)) (by decide +kernel)) (by decide +kernel))).elim
  · have i3 : (x0.toInt = (115 : Int)) = False := vq_ne c1 rfl (by decide +kernel)
    refine lv_iconst (v := 0) X.1 X.2.1 dX12_usual_6 (by decide +kernel) ?_
    exact sg_iretP X hr hlk hS (iv_c 0 (a := 0) (b := 0) (by decide +kernel)) dX12_usual_7

theorem ca_X12_usual_e116   (X : CallFix p m c cc nL s args sg_tbl own) (hK : va_K D vwCl tys s) (hG : sgG (KT P) D vwCl (fun q : Nat => base ≤ q) tys ad ks H) (hC : sgC base s) (hA : ∀ q : Nat, A q → base ≤ q) (hS : va_S A s.heap H locs) (hb : base ≤ s.heap.size) (x0 : Int32) (h0 : iv 116 116 x0) (x1 : Int32) (h1 : iv 0 0 x1) (hl : Cond.methodLink own index yX12_usual ∈ sg_tbl) (hsize : ls.size = nL) (hst : st0 = [.int x0, .int x1].reverse ++ rest) (hW : (rest.map fun v => v.category).sum ≤ 8) (hR : 1 ≤ R.frames ∧ 21 ≤ R.locals) (hf : cells ≤ R.cells ∧ slots ≤ R.slots) (hdg : decode cc pc = .ok (.invokestatic index, 3)) (kk : ∀ (r : Int32) (locs1 : List Loc), (fun r : Int32 => iv 0 0 r) r → va_S A s.heap H locs1 → W p l e R s m args below meth c H locs1 cells slots Q (F0 m (pc + 3) ls (.int r :: rest))) : W p l e R s m args below meth c H locs cells slots Q (F0 m pc ls st0) :=
  sg_callPSi X hK hG hC hA hS hb (m_X12_usual_e116 l x0 h0 x1 h1) wl_7_132 wl_1_13 wl_7_131 (n := 2) (by decide +kernel) rfl rfl rfl hl hsize hst hW hR hf hdg kk

set_option maxHeartbeats 8000000 in
set_option maxRecDepth 100000 in
theorem m_X12_leastOf_e116 (l : Launch) {D : va_G} {base : Nat} {tys : List (ClassId × FieldType)} {ad ks : List Nat} {P : sgPm} {Hx : Heap} (x0 : Int32) (h0 : iv 116 116 x0) (x1 : Int32) (h1 : iv 0 0 x1) : sgPi l (KT P) D vwCl base tys ad ks Hx yX12_leastOf cX12_leastOf 2 (some .int) ({ frames := 0, cells := 0, slots := 0, locals := 0 }) [.int x0, .int x1] (fun r : Int32 => iv 0 0 r) := by
  refine sg_ofP (Pq := fun Hx => va_Qi (fun r (_ : Unit) => (fun r : Int32 => iv 0 0 r) r) (fun _ t => t.heap = Hx) (fun _ : Nat => False)) (by decide +kernel) (Nat.le_of_ble_eq_true rfl) (fun p e s m below meth c X hr hlk hb hK hC hG ls hl => ?_)
  have hS : va_S (fun _ : Nat => False) s.heap s.heap [] := va_S.rf
  have hl : lv_has ls 2 [(0, .int x0), (1, .int x1)] := hl
  refine lv_iload_n X.1 X.2.1 dX12_leastOf_0 rfl (lv_at hl 0 rfl) ?_
  refine lv_bipush (v := 115) X.1 X.2.1 dX12_leastOf_1 (by decide +kernel) ?_
  refine lv_icmp_ne (tgt := 24) X.1 X.2.1 dX12_leastOf_3 (by decide) (fun c1 => ?_) (fun c1 => ?_)
  · have i2 : (x0.toInt = (115 : Int)) = False := vq_ne c1 rfl (by decide +kernel)
    refine lv_iconst (v := 0) X.1 X.2.1 dX12_leastOf_24 (by decide +kernel) ?_
    exact sg_iretP X hr hlk hS (iv_c 0 (a := 0) (b := 0) (by decide +kernel)) dX12_leastOf_25
  · have i3 : x0.toInt = (115 : Int) := vq_eq c1 rfl (by decide +kernel)
    exact ((iv_no (a := 116) (b := 115) (iv_eqm c1 h0 (iv_c 115 (a := 115) (b := 115) (by decide +kernel)) (by decide +kernel)) (by decide +kernel))).elim

theorem ca_X12_leastOf_e116   (X : CallFix p m c cc nL s args sg_tbl own) (hK : va_K D vwCl tys s) (hG : sgG (KT P) D vwCl (fun q : Nat => base ≤ q) tys ad ks H) (hC : sgC base s) (hA : ∀ q : Nat, A q → base ≤ q) (hS : va_S A s.heap H locs) (hb : base ≤ s.heap.size) (x0 : Int32) (h0 : iv 116 116 x0) (x1 : Int32) (h1 : iv 0 0 x1) (hl : Cond.methodLink own index yX12_leastOf ∈ sg_tbl) (hsize : ls.size = nL) (hst : st0 = [.int x0, .int x1].reverse ++ rest) (hW : (rest.map fun v => v.category).sum ≤ 8) (hR : 1 ≤ R.frames ∧ 21 ≤ R.locals) (hf : cells ≤ R.cells ∧ slots ≤ R.slots) (hdg : decode cc pc = .ok (.invokestatic index, 3)) (kk : ∀ (r : Int32) (locs1 : List Loc), (fun r : Int32 => iv 0 0 r) r → va_S A s.heap H locs1 → W p l e R s m args below meth c H locs1 cells slots Q (F0 m (pc + 3) ls (.int r :: rest))) : W p l e R s m args below meth c H locs cells slots Q (F0 m pc ls st0) :=
  sg_callPSi X hK hG hC hA hS hb (m_X12_leastOf_e116 l x0 h0 x1 h1) wl_7_179 wl_1_13 wl_7_178 (n := 2) (by decide +kernel) rfl rfl rfl hl hsize hst hW hR hf hdg kk

set_option maxHeartbeats 8000000 in
set_option maxRecDepth 100000 in
theorem m_X12_mostOf_e116 (l : Launch) {D : va_G} {base : Nat} {tys : List (ClassId × FieldType)} {ad ks : List Nat} {P : sgPm} {Hx : Heap} (x0 : Int32) (h0 : iv 116 116 x0) (x1 : Int32) (h1 : iv 0 0 x1) : sgPi l (KT P) D vwCl base tys ad ks Hx yX12_mostOf cX12_mostOf 2 (some .int) ({ frames := 0, cells := 0, slots := 0, locals := 0 }) [.int x0, .int x1] (fun r : Int32 => iv 29 29 r) := by
  refine sg_ofP (Pq := fun Hx => va_Qi (fun r (_ : Unit) => (fun r : Int32 => iv 29 29 r) r) (fun _ t => t.heap = Hx) (fun _ : Nat => False)) (by decide +kernel) (Nat.le_of_ble_eq_true rfl) (fun p e s m below meth c X hr hlk hb hK hC hG ls hl => ?_)
  have hS : va_S (fun _ : Nat => False) s.heap s.heap [] := va_S.rf
  have hl : lv_has ls 2 [(0, .int x0), (1, .int x1)] := hl
  refine lv_iload_n X.1 X.2.1 dX12_mostOf_0 rfl (lv_at hl 0 rfl) ?_
  refine lv_bipush (v := 115) X.1 X.2.1 dX12_mostOf_1 (by decide +kernel) ?_
  refine lv_icmp_eq (tgt := 9) X.1 X.2.1 dX12_mostOf_3 (by decide) (fun c1 => ?_) (fun c1 => ?_)
  · have i2 : x0.toInt = (115 : Int) := vq_eq c1 rfl (by decide +kernel)
    exact ((iv_no (a := 116) (b := 115) (iv_eqm c1 h0 (iv_c 115 (a := 115) (b := 115) (by decide +kernel)) (by decide +kernel)) (by decide +kernel))).elim
  · have i3 : (x0.toInt = (115 : Int)) = False := vq_ne c1 rfl (by decide +kernel)
    refine lv_bipush (v := 29) X.1 X.2.1 dX12_mostOf_6 (by decide +kernel) ?_
    exact sg_iretP X hr hlk hS (iv_c 29 (a := 29) (b := 29) (by decide +kernel)) dX12_mostOf_8

theorem ca_X12_mostOf_e116   (X : CallFix p m c cc nL s args sg_tbl own) (hK : va_K D vwCl tys s) (hG : sgG (KT P) D vwCl (fun q : Nat => base ≤ q) tys ad ks H) (hC : sgC base s) (hA : ∀ q : Nat, A q → base ≤ q) (hS : va_S A s.heap H locs) (hb : base ≤ s.heap.size) (x0 : Int32) (h0 : iv 116 116 x0) (x1 : Int32) (h1 : iv 0 0 x1) (hl : Cond.methodLink own index yX12_mostOf ∈ sg_tbl) (hsize : ls.size = nL) (hst : st0 = [.int x0, .int x1].reverse ++ rest) (hW : (rest.map fun v => v.category).sum ≤ 8) (hR : 1 ≤ R.frames ∧ 21 ≤ R.locals) (hf : cells ≤ R.cells ∧ slots ≤ R.slots) (hdg : decode cc pc = .ok (.invokestatic index, 3)) (kk : ∀ (r : Int32) (locs1 : List Loc), (fun r : Int32 => iv 29 29 r) r → va_S A s.heap H locs1 → W p l e R s m args below meth c H locs1 cells slots Q (F0 m (pc + 3) ls (.int r :: rest))) : W p l e R s m args below meth c H locs cells slots Q (F0 m pc ls st0) :=
  sg_callPSi X hK hG hC hA hS hb (m_X12_mostOf_e116 l x0 h0 x1 h1) wl_7_182 wl_1_13 wl_7_181 (n := 2) (by decide +kernel) rfl rfl rfl hl hsize hst hW hR hf hdg kk

set_option maxHeartbeats 8000000 in
set_option maxRecDepth 100000 in
theorem m_X12_readItems_eo116 (l : Launch) {D : va_G} {base : Nat} {tys : List (ClassId × FieldType)} {ad ks : List Nat} {P : sgPm}{a d1 d2 : Int} {q : sgLwn} {o : sgO}  (ta tv : Nat) (tb : List Int32) (a0 : Nat) (h0 : isK ad ks 12 a0) (x1 : Int32) (h1 : iv 116 116 x1) (a2 : Nat) (h2 : isK ad ks 51 a2) (hl0 : 0 ≤ sgL2 P ∧ sgL2 P ≤ 240) (hav : 0 ≤ a ∧ a ≤ sgL2 P) (hby : sgBy2 P) (hd0 : 0 ≤ d1 ∧ d2 ≤ 6) (htb : ∀ j : Nat, j < 1 → iv 0 127 (tb.getD j 0)) (hte : tb = [99]) : Met l yX12_readItems (Cond.code yX12_readItems cX12_readItems 6 none :: sg_tbl) ({ frames := 5, cells := 0, slots := 0, locals := 107 }) (va_Pc [.ref a0, .int x1, .ref a2, .ref ta] (fun U => P_S ta tv 1 tb (fun q : Nat => base ≤ q) U ∧ sgB (KE a a (-1) (-1) d1 d2 (zQ q o) P) D vwCl base tys ad ks U)) (va_Qv (fun (_ : Unit) => True) (fun _ => fun t => (∃ (a1 v1 : Int), vSpM (sgU2 P) (sgL2 P) (vX (sgU2 P) (sgL2 P) a) = (true, vX (sgU2 P) (sgL2 P) a1, v1) ∧ 0 ≤ v1 ∧ v1 ≤ 29 ∧ a + 0 ≤ a1 ∧ a1 ≤ sgL2 P ∧ sgB (KE a1 a1 (-1) (-1) d1 d2 (zQ q (zO v1 o)) P) D vwCl base tys ad ks t) ∨ (∃ (w v1 : Int) (z1 : sgZt), vSpM (sgU2 P) (sgL2 P) (vX (sgU2 P) (sgL2 P) a) = (false, w, v1) ∧ 0 ≤ w ∧ w ≤ 240 ∧ sgB (KE 0 241 w w d1 d2 z1 P) D vwCl base tys ad ks t)) (fun q : Nat => base ≤ q)) 0 0 (fun q : Nat => base ≤ q) := by
  refine sg_ofQ (by decide +kernel) (Nat.le_of_ble_eq_true rfl) (fun p e s m below meth c X hr hlk hb hK hC hG ls hl hp => ?_)
  have hS : va_S (fun q : Nat => base ≤ q) s.heap s.heap [] := va_S.rf
  have hl : lv_has ls 6 [(0, .ref a0), (1, .int x1), (2, .ref a2), (3, .ref ta)] := hl
  refine lv_iconst (v := 0) X.1 X.2.1 dX12_readItems_0 (by decide +kernel) ?_
  refine lv_istore (lv' := [(4, .int 0), (0, .ref a0), (1, .int x1), (2, .ref a2), (3, .ref ta)]) X.1 X.2.1 dX12_readItems_1 hl (by decide) rfl (fun ls hl => ?_)
  refine lv_iload X.1 X.2.1 dX12_readItems_3 (lv_at hl 0 rfl) ?_
  refine lv_aload_n X.1 X.2.1 dX12_readItems_5 rfl (lv_at hl 4 rfl) ?_
  refine ca_J0_length_8abf5_1 X hK (ke_toKT hG (by decide) (by decide) hd0.1 hd0.2) hC (fun _ h => h) hS hb hp wl_7_150 hl.1 (rest := [.int 0]) rfl (Nat.le_of_ble_eq_true rfl) ⟨Nat.le_of_ble_eq_true rfl, Nat.le_of_ble_eq_true rfl⟩ ⟨Nat.le_of_ble_eq_true rfl, Nat.le_of_ble_eq_true rfl⟩ dX12_readItems_6 (fun f1 locs hf1 hS => ?_)
  refine lv_icmp_ge (tgt := 28) X.1 X.2.1 dX12_readItems_9 (by decide) (fun c2 => ?_) (fun c2 => ?_)
  · have i3 : ¬ (0 : Int) < (1 : Int) := vq_le c2 (vq_iv hf1) (by decide +kernel)
    exact ((iv_no (iv_le (b' := 0) c2 hf1 (iv_c 0 (a := 0) (b := 0) (by decide +kernel)) (by decide +kernel)) (by decide +kernel))).elim
  · have i4 : (0 : Int) < (1 : Int) := vq_lt (iv_gt_of c2) (by decide +kernel) (vq_iv hf1)
    refine lv_aload_n X.1 X.2.1 dX12_readItems_12 rfl (lv_at hl 3 rfl) ?_
    refine lv_iload X.1 X.2.1 dX12_readItems_13 (lv_at hl 0 rfl) ?_
    refine lv_iload_n X.1 X.2.1 dX12_readItems_15 rfl (lv_at hl 2 rfl) ?_
    refine lv_iload X.1 X.2.1 dX12_readItems_16 (lv_at hl 0 rfl) ?_
    refine ca_X12_usual_e116 X hK (ke_toKT hG (by decide) (by decide) hd0.1 hd0.2) hC (fun _ h => h) hS hb x1 h1 0 (iv_c 0 (a := 0) (b := 0) (by decide +kernel)) wl_7_130 hl.1 (rest := [.int 0, .ref a2]) rfl (Nat.le_of_ble_eq_true rfl) ⟨Nat.le_of_ble_eq_true rfl, Nat.le_of_ble_eq_true rfl⟩ ⟨Nat.le_of_ble_eq_true rfl, Nat.le_of_ble_eq_true rfl⟩ dX12_readItems_18 (fun f5 locs hf5 hS => ?_)
    refine as_51Z X hK hG hS h2 (iv_vpin (iv_c 0 (a := 0) (b := 0) (by decide +kernel)) (by decide +kernel)) dX12_readItems_21 (fun H locs hG hS => ?_)
    rw [(vq_iv hf5), zq_o] at hG
    have hG : sgG (KE a a (-1) (-1) d1 d2 (zQ q (zO 0 o)) P) D vwCl _ tys ad ks _ := hG
    obtain ⟨y6, ey6⟩ : ∃ y : Int32, y = 0 + Int32.ofInt 1 := ⟨_, rfl⟩
    have xy6 : y6.toInt = (0 + 1) := sg_exadd ey6 (iv_c 0 (a := 0) (b := 0) (by decide +kernel)) (iv_c _ (a := 1) (b := 1) (by decide +kernel)) (by decide +kernel) (by decide +kernel) (by decide +kernel)
    refine lv_iinc (v := y6) (lv' := [(4, .int y6), (0, .ref a0), (1, .int x1), (2, .ref a2), (3, .ref ta)]) X.1 X.2.1 dX12_readItems_22 hl (k := 0) rfl ey6.symm (by decide) rfl (fun ls hl => ?_)
    refine lv_goto (tgt := 3) X.1 X.2.1 dX12_readItems_25 (by decide) ?_
    refine lv_iload X.1 X.2.1 dX12_readItems_3 (lv_at hl 0 rfl) ?_
    refine lv_aload_n X.1 X.2.1 dX12_readItems_5 rfl (lv_at hl 4 rfl) ?_
    refine ca_J0_length_8abf5_1 X hK (ke_toKT hG (by decide) (by decide) hd0.1 hd0.2) hC (fun _ h => h) hS hb hp wl_7_150 hl.1 (rest := [.int y6]) rfl (Nat.le_of_ble_eq_true rfl) ⟨Nat.le_of_ble_eq_true rfl, Nat.le_of_ble_eq_true rfl⟩ ⟨Nat.le_of_ble_eq_true rfl, Nat.le_of_ble_eq_true rfl⟩ dX12_readItems_6 (fun f7 locs hf7 hS => ?_)
    refine lv_icmp_ge (tgt := 28) X.1 X.2.1 dX12_readItems_9 (by decide) (fun c8 => ?_) (fun c8 => ?_)
    · have i9 : ¬ ((0 + 1) : Int) < (1 : Int) := vq_le c8 (vq_iv hf7) xy6
      refine lv_iconst (v := 0) X.1 X.2.1 dX12_readItems_28 (by decide +kernel) ?_
      refine lv_istore (lv' := [(4, .int 0), (0, .ref a0), (1, .int x1), (2, .ref a2), (3, .ref ta)]) X.1 X.2.1 dX12_readItems_29 hl (by decide) rfl (fun ls hl => ?_)
      refine lv_aload_n X.1 X.2.1 dX12_readItems_31 rfl (lv_at hl 4 rfl) ?_
      refine lv_aload_n X.1 X.2.1 dX12_readItems_32 rfl (lv_at hl 1 rfl) ?_
      refine ca_X12_look_e X hK hG hC hS hb a0 h0 hl0 hav hby wl_7_137 hl.1 (rest := [.ref ta]) rfl (Nat.le_of_ble_eq_true rfl) ⟨Nat.le_of_ble_eq_true rfl, Nat.le_of_ble_eq_true rfl⟩ ⟨Nat.le_of_ble_eq_true rfl, Nat.le_of_ble_eq_true rfl⟩ dX12_readItems_33 (fun f11 tf11 H locs htf11 hf11 hWf11 hS => ?_)
      have hBf11 := hWf11.2
      have xf11 := hWf11.1
      have hG := hBf11.2.2.2
      rw [htf11] at hG
      have b12 := vq_bdL (b := sgU2 P) hav
      have eb12 : a ≤ vX (sgU2 P) (sgL2 P) a := (vX_ge (sgU2 P) (sgL2 P) a).1
      have pb12 : a + 0 ≤ vX (sgU2 P) (sgL2 P) a := Int.le_trans (vq_pg0 a) (vX_ge (sgU2 P) (sgL2 P) a).1
      have yf11 : iv (-1) 255 f11 := vq_lk xf11 (vC_by2 hby _)
      refine ca_X12_spotOf_e1 X hK (ke_toKT hG (by decide) (by decide) hd0.1 hd0.2) hC (fun _ h => h) hS hb hp f11 htb wl_7_151 hl.1 (rest := []) rfl (Nat.le_of_ble_eq_true rfl) ⟨Nat.le_of_ble_eq_true rfl, Nat.le_of_ble_eq_true rfl⟩ ⟨Nat.le_of_ble_eq_true rfl, Nat.le_of_ble_eq_true rfl⟩ dX12_readItems_36 (fun f13 locs hf13 hS => ?_)
      have xf13 : f13.toInt = vC1 (vC (sgU2 P) (sgL2 P) (vX (sgU2 P) (sgL2 P) a)) := hf13.2.1.trans (by rw [xf11, hte]; exact vC1_E _)
      refine lv_istore (lv' := [(5, .int f13), (4, .int 0), (0, .ref a0), (1, .int x1), (2, .ref a2), (3, .ref ta)]) X.1 X.2.1 dX12_readItems_39 hl (by decide) rfl (fun ls hl => ?_)
      refine lv_iload X.1 X.2.1 dX12_readItems_41 (lv_at hl 0 rfl) ?_
      refine lv_iconst (v := (-1)) X.1 X.2.1 dX12_readItems_43 (by decide +kernel) ?_
      refine lv_icmp_eq (tgt := 131) X.1 X.2.1 dX12_readItems_44 (by decide) (fun c14 => ?_) (fun c14 => ?_)
      · have i15 : vC1 (vC (sgU2 P) (sgL2 P) (vX (sgU2 P) (sgL2 P) a)) = ((-1) : Int) := vq_eq c14 xf13 (by decide +kernel)
        have spr : vSpM (sgU2 P) (sgL2 P) (vX (sgU2 P) (sgL2 P) a) = (true, vX (sgU2 P) (sgL2 P) (vX (sgU2 P) (sgL2 P) a), 0) := by rw [vX_idem]; exact vSpM_0 (vC1_f i15)
        exact sg_vret2 X hr hlk hS (fun t ht hW => (Or.inl ⟨_, 0, spr, by decide, by decide, vq_pgw pb12 (by decide), (b12).2, sg_post hb hK hC hG hS ht hW⟩)) dX12_readItems_131
      · have i16 : (vC1 (vC (sgU2 P) (sgL2 P) (vX (sgU2 P) (sgL2 P) a)) = ((-1) : Int)) = False := vq_ne c14 xf13 (by decide +kernel)
        refine lv_aload_n X.1 X.2.1 dX12_readItems_47 rfl (lv_at hl 2 rfl) ?_
        refine gf_X12_11e X hK hG h0 wl_6_189 dX12_readItems_48 (fun f17 hf17 => ?_)
        refine lv_iconst (v := (-1)) X.1 X.2.1 dX12_readItems_51 (by decide +kernel) ?_
        refine lv_icmp_ne (tgt := 131) X.1 X.2.1 dX12_readItems_52 (by decide) (fun c18 => ?_) (fun c18 => ?_)
        · have i19 : (((-1) : Int) = ((-1) : Int)) = False := vq_ne c18 (vq_iv hf17) (by decide +kernel)
          exact ((c18 (iv_one hf17 (iv_c (-1) (a := (-1)) (b := (-1)) (by decide +kernel)) (by decide +kernel)))).elim
        · have i20 : ((-1) : Int) = ((-1) : Int) := vq_eq c18 (vq_iv hf17) (by decide +kernel)
          have hwf13 : f13.toInt = 0 := vq_iv ((iv_ne_lo (a' := 0) c14 hf13.1 (by decide +kernel)))
          have k21 : vC (sgU2 P) (sgL2 P) (vX (sgU2 P) (sgL2 P) a) = (99 : Int) := vC1_t ((xf13).symm.trans hwf13)
          refine lv_iload X.1 X.2.1 dX12_readItems_55 (lv_at hl 1 rfl) ?_
          refine lv_iload X.1 X.2.1 dX12_readItems_57 (lv_at hl 0 rfl) ?_
          refine ca_X12_has_e X hK (ke_toKT hG (by decide) (by decide) hd0.1 hd0.2) hC (fun _ h => h) hS hb 0 f13 wl_7_174 hl.1 (rest := []) rfl (Nat.le_of_ble_eq_true rfl) ⟨Nat.le_of_ble_eq_true rfl, Nat.le_of_ble_eq_true rfl⟩ ⟨Nat.le_of_ble_eq_true rfl, Nat.le_of_ble_eq_true rfl⟩ dX12_readItems_59 (fun f22 locs hf22 hS => ?_)
          refine lv_if_eq (tgt := 71) X.1 X.2.1 dX12_readItems_62 (by decide) (fun c23 => ?_) (fun c23 => ?_)
          · have j24 := vq_says0 hf22 c23
            have k25 : (((0 : Int32) >>> ((Int32.ofInt 0) &&& 31)) &&& 1 = 1) = False := by have z := j24; rw [(vq_oi (x := f13) hwf13)] at z; exact z
            refine lv_iload X.1 X.2.1 dX12_readItems_71 (lv_at hl 1 rfl) ?_
            refine lv_iconst (v := 1) X.1 X.2.1 dX12_readItems_73 (by decide +kernel) ?_
            refine lv_iload X.1 X.2.1 dX12_readItems_74 (lv_at hl 0 rfl) ?_
            refine lv_ishl X.1 X.2.1 dX12_readItems_76 ?_
            refine lv_topi (fun f28 ef28 => ?_)
            have wf28 : f28 = ((1 : Int32) <<< ((Int32.ofInt 0) &&& 31)) := ef28.trans (by rw [(vq_oi (x := f13) hwf13)])
            refine lv_ior X.1 X.2.1 dX12_readItems_77 ?_
            refine lv_topi (fun f29 ef29 => ?_)
            have wf29 : f29 = ((0 : Int32) ||| ((1 : Int32) <<< ((Int32.ofInt 0) &&& 31))) := ef29.trans (by rw [wf28])
            refine lv_istore (lv' := [(4, .int f29), (5, .int f13), (0, .ref a0), (1, .int x1), (2, .ref a2), (3, .ref ta)]) X.1 X.2.1 dX12_readItems_78 hl (by decide) rfl (fun ls hl => ?_)
            refine lv_aload_n X.1 X.2.1 dX12_readItems_80 rfl (lv_at hl 2 rfl) ?_
            refine lv_dup X.1 X.2.1 dX12_readItems_81 rfl ?_
            refine gf_X12_10e X hK hG h0 wl_6_188 dX12_readItems_82 (fun f30 hf30 => ?_)
            have xf30 : f30.toInt = (vX (sgU2 P) (sgL2 P) a) := vq_iv hf30
            have yf30 : iv 0 240 f30 := vq_240 hl0 b12 xf30
            refine lv_iconst (v := 1) X.1 X.2.1 dX12_readItems_85 (by decide +kernel) ?_
            refine lv_iadd X.1 X.2.1 dX12_readItems_86 ?_
            refine lv_topi (fun f31 ef31 => ?_)
            have xf31 : f31.toInt = ((vX (sgU2 P) (sgL2 P) a) + 1) := sg_exadd ef31 yf30 (iv_c 1 (a := 1) (b := 1) (by decide +kernel)) (by decide +kernel) xf30 (by decide +kernel)
            refine pf_X12_10E (b1 := ((vX (sgU2 P) (sgL2 P) a) + 1)) (b2 := ((vX (sgU2 P) (sgL2 P) a) + 1)) X hK hG hS h0 wl_6_188 (vq_of (lo := ((vX (sgU2 P) (sgL2 P) a) + 1)) (hi := ((vX (sgU2 P) (sgL2 P) a) + 1)) xf31 ⟨Int.le_refl _, Int.le_refl _⟩) dX12_readItems_87 (fun H locs hG hS => ?_)
            have l32 := (vC_lt (b := sgU2 P) (n := sgL2 P) (a := (vX (sgU2 P) (sgL2 P) a)) (by rw [k21]; decide)).2
            have b33 := vq_bd1 b12 l32
            have pb33 : a + 1 ≤ ((vX (sgU2 P) (sgL2 P) a) + 1) := vq_pg pb12 (m := 1) (Int.le_refl _) (by decide)
            refine lv_aload_n X.1 X.2.1 dX12_readItems_90 rfl (lv_at hl 4 rfl) ?_
            refine lv_iload X.1 X.2.1 dX12_readItems_91 (lv_at hl 1 rfl) ?_
            refine lv_aload_n X.1 X.2.1 dX12_readItems_93 rfl (lv_at hl 2 rfl) ?_
            refine lv_iload_n X.1 X.2.1 dX12_readItems_94 rfl (lv_at hl 3 rfl) ?_
            refine lv_iload X.1 X.2.1 dX12_readItems_95 (lv_at hl 1 rfl) ?_
            refine ca_X12_leastOf_e116 X hK (ke_toKT hG (by decide) (by decide) hd0.1 hd0.2) hC (fun _ h => h) hS hb x1 h1 f13 (iv_ne_lo (a' := 0) c14 hf13.1 (by decide +kernel)) wl_7_177 hl.1 (rest := [.ref a0, .int f13, .ref a2]) rfl (Nat.le_of_ble_eq_true rfl) ⟨Nat.le_of_ble_eq_true rfl, Nat.le_of_ble_eq_true rfl⟩ ⟨Nat.le_of_ble_eq_true rfl, Nat.le_of_ble_eq_true rfl⟩ dX12_readItems_97 (fun f34 locs hf34 hS => ?_)
            refine lv_iload_n X.1 X.2.1 dX12_readItems_100 rfl (lv_at hl 3 rfl) ?_
            refine lv_iload X.1 X.2.1 dX12_readItems_101 (lv_at hl 1 rfl) ?_
            refine ca_X12_mostOf_e116 X hK (ke_toKT hG (by decide) (by decide) hd0.1 hd0.2) hC (fun _ h => h) hS hb x1 h1 f13 (iv_ne_lo (a' := 0) c14 hf13.1 (by decide +kernel)) wl_7_180 hl.1 (rest := [.int f34, .ref a0, .int f13, .ref a2]) rfl (Nat.le_of_ble_eq_true rfl) ⟨Nat.le_of_ble_eq_true rfl, Nat.le_of_ble_eq_true rfl⟩ ⟨Nat.le_of_ble_eq_true rfl, Nat.le_of_ble_eq_true rfl⟩ dX12_readItems_103 (fun f35 locs hf35 hS => ?_)
            refine ca_X12_number_e X hK hG hC hS hb a0 h0 f34 f35 hl0 b33 hby (by omega) (show (f34 : Int32).toInt = 0 ∧ (f35 : Int32).toInt = 29 from ⟨(vq_iv hf34), (vq_iv hf35)⟩) wl_7_183 hl.1 (rest := [.int f13, .ref a2]) rfl (Nat.le_of_ble_eq_true rfl) ⟨Nat.le_of_ble_eq_true rfl, Nat.le_of_ble_eq_true rfl⟩ ⟨Nat.le_of_ble_eq_true rfl, Nat.le_of_ble_eq_true rfl⟩ dX12_readItems_106 (fun f36 tf36 H locs htf36 hf36 hWf36 hS => ?_)
            rcases hWf36 with ⟨av37, nv37, pv37, xv37, g1v37, g2v37, gav37, gbv37, hBf36⟩ | ⟨wv37, pv37, w1v37, w2v37, hBf36⟩
            · have hG := hBf36.2.2.2
              rw [htf36] at hG
              have bv37 := vq_bd2 (k := 1) b33 (by decide) gav37 gbv37
              have p2v37 : a + 2 ≤ av37 := vq_pg pb33 gav37 (by decide)
              refine as_51Z X hK hG hS h2 (iv_vpin (iv_ne_lo (a' := 0) c14 hf13.1 (by decide +kernel)) (by decide +kernel)) dX12_readItems_109 (fun H locs hG hS => ?_)
              rw [xv37, zq_o, zO_zO] at hG
              have hG : sgG (KE av37 av37 (-1) (-1) d1 d2 (zQ q (zO nv37 o)) P) D vwCl _ tys ad ks _ := hG
              refine lv_aload_n X.1 X.2.1 dX12_readItems_110 rfl (lv_at hl 2 rfl) ?_
              refine gf_X12_11e X hK hG h0 wl_6_189 dX12_readItems_111 (fun f38 hf38 => ?_)
              refine lv_iconst (v := (-1)) X.1 X.2.1 dX12_readItems_114 (by decide +kernel) ?_
              refine lv_icmp_ne (tgt := 41) X.1 X.2.1 dX12_readItems_115 (by decide) (fun c39 => ?_) (fun c39 => ?_)
              · have i40 : (((-1) : Int) = ((-1) : Int)) = False := vq_ne c39 (vq_iv hf38) (by decide +kernel)
                exact ((c39 (iv_one hf38 (iv_c (-1) (a := (-1)) (b := (-1)) (by decide +kernel)) (by decide +kernel)))).elim
              · have i41 : ((-1) : Int) = ((-1) : Int) := vq_eq c39 (vq_iv hf38) (by decide +kernel)
                refine lv_aload_n X.1 X.2.1 dX12_readItems_118 rfl (lv_at hl 5 rfl) ?_
                refine lv_aload_n X.1 X.2.1 dX12_readItems_119 rfl (lv_at hl 2 rfl) ?_
                refine ca_X12_look_e X hK hG hC hS hb a0 h0 hl0 bv37 hby wl_7_137 hl.1 (rest := [.ref ta]) rfl (Nat.le_of_ble_eq_true rfl) ⟨Nat.le_of_ble_eq_true rfl, Nat.le_of_ble_eq_true rfl⟩ ⟨Nat.le_of_ble_eq_true rfl, Nat.le_of_ble_eq_true rfl⟩ dX12_readItems_120 (fun f42 tf42 H locs htf42 hf42 hWf42 hS => ?_)
                have hBf42 := hWf42.2
                have xf42 := hWf42.1
                have hG := hBf42.2.2.2
                rw [htf42] at hG
                have b43 := vq_bdL (b := sgU2 P) bv37
                have eb43 : av37 ≤ vX (sgU2 P) (sgL2 P) av37 := (vX_ge (sgU2 P) (sgL2 P) av37).1
                have pb43 : a + 2 ≤ vX (sgU2 P) (sgL2 P) av37 := Int.le_trans p2v37 (vX_ge (sgU2 P) (sgL2 P) av37).1
                have yf42 : iv (-1) 255 f42 := vq_lk xf42 (vC_by2 hby _)
                refine ca_X12_spotOf_e1 X hK (ke_toKT hG (by decide) (by decide) hd0.1 hd0.2) hC (fun _ h => h) hS hb hp f42 htb wl_7_151 hl.1 (rest := []) rfl (Nat.le_of_ble_eq_true rfl) ⟨Nat.le_of_ble_eq_true rfl, Nat.le_of_ble_eq_true rfl⟩ ⟨Nat.le_of_ble_eq_true rfl, Nat.le_of_ble_eq_true rfl⟩ dX12_readItems_123 (fun f44 locs hf44 hS => ?_)
                have xf44 : f44.toInt = vC1 (vC (sgU2 P) (sgL2 P) (vX (sgU2 P) (sgL2 P) av37)) := hf44.2.1.trans (by rw [xf42, hte]; exact vC1_E _)
                refine lv_istore (lv' := [(5, .int f44), (4, .int f29), (0, .ref a0), (1, .int x1), (2, .ref a2), (3, .ref ta)]) X.1 X.2.1 dX12_readItems_126 hl (by decide) rfl (fun ls hl => ?_)
                refine lv_goto (tgt := 41) X.1 X.2.1 dX12_readItems_128 (by decide) ?_
                refine lv_iload X.1 X.2.1 dX12_readItems_41 (lv_at hl 0 rfl) ?_
                refine lv_iconst (v := (-1)) X.1 X.2.1 dX12_readItems_43 (by decide +kernel) ?_
                refine lv_icmp_eq (tgt := 131) X.1 X.2.1 dX12_readItems_44 (by decide) (fun c45 => ?_) (fun c45 => ?_)
                · have i46 : vC1 (vC (sgU2 P) (sgL2 P) (vX (sgU2 P) (sgL2 P) av37)) = ((-1) : Int) := vq_eq c45 xf44 (by decide +kernel)
                  have spr : vSpM (sgU2 P) (sgL2 P) (vX (sgU2 P) (sgL2 P) a) = (true, vX (sgU2 P) (sgL2 P) (vX (sgU2 P) (sgL2 P) av37), nv37) := by rw [vX_idem]; exact vSpM_t k21 pv37 (vC1_f i46)
                  exact sg_vret2 X hr hlk hS (fun t ht hW => (Or.inl ⟨_, _, spr, g1v37, g2v37, vq_pgw pb43 (by decide), (b43).2, sg_post hb hK hC hG hS ht hW⟩)) dX12_readItems_131
                · have i47 : (vC1 (vC (sgU2 P) (sgL2 P) (vX (sgU2 P) (sgL2 P) av37)) = ((-1) : Int)) = False := vq_ne c45 xf44 (by decide +kernel)
                  refine lv_aload_n X.1 X.2.1 dX12_readItems_47 rfl (lv_at hl 2 rfl) ?_
                  refine gf_X12_11e X hK hG h0 wl_6_189 dX12_readItems_48 (fun f48 hf48 => ?_)
                  refine lv_iconst (v := (-1)) X.1 X.2.1 dX12_readItems_51 (by decide +kernel) ?_
                  refine lv_icmp_ne (tgt := 131) X.1 X.2.1 dX12_readItems_52 (by decide) (fun c49 => ?_) (fun c49 => ?_)
                  · have i50 : (((-1) : Int) = ((-1) : Int)) = False := vq_ne c49 (vq_iv hf48) (by decide +kernel)
                    exact ((c49 (iv_one hf48 (iv_c (-1) (a := (-1)) (b := (-1)) (by decide +kernel)) (by decide +kernel)))).elim
                  · have i51 : ((-1) : Int) = ((-1) : Int) := vq_eq c49 (vq_iv hf48) (by decide +kernel)
                    have hwf44 : f44.toInt = 0 := vq_iv ((iv_ne_lo (a' := 0) c45 hf44.1 (by decide +kernel)))
                    have k52 : vC (sgU2 P) (sgL2 P) (vX (sgU2 P) (sgL2 P) av37) = (99 : Int) := vC1_t ((xf44).symm.trans hwf44)
                    refine lv_iload X.1 X.2.1 dX12_readItems_55 (lv_at hl 1 rfl) ?_
                    refine lv_iload X.1 X.2.1 dX12_readItems_57 (lv_at hl 0 rfl) ?_
                    refine ca_X12_has_e X hK (ke_toKT hG (by decide) (by decide) hd0.1 hd0.2) hC (fun _ h => h) hS hb f29 f44 wl_7_174 hl.1 (rest := []) rfl (Nat.le_of_ble_eq_true rfl) ⟨Nat.le_of_ble_eq_true rfl, Nat.le_of_ble_eq_true rfl⟩ ⟨Nat.le_of_ble_eq_true rfl, Nat.le_of_ble_eq_true rfl⟩ dX12_readItems_59 (fun f53 locs hf53 hS => ?_)
                    refine lv_if_eq (tgt := 71) X.1 X.2.1 dX12_readItems_62 (by decide) (fun c54 => ?_) (fun c54 => ?_)
                    · have j55 := vq_says0 hf53 c54
                      have k56 : ((((0 : Int32) ||| ((1 : Int32) <<< ((Int32.ofInt 0) &&& 31))) >>> ((Int32.ofInt 0) &&& 31)) &&& 1 = 1) = False := by have z := j55; rw [wf29] at z; rw [(vq_oi (x := f44) hwf44)] at z; exact z
                      exact absurd (by decide +kernel) (of_eq_false k56)
                    · have j57 := vq_says1 hf53 c54
                      have k58 : (((0 : Int32) ||| ((1 : Int32) <<< ((Int32.ofInt 0) &&& 31))) >>> ((Int32.ofInt 0) &&& 31)) &&& 1 = 1 := by have z := j57; rw [wf29] at z; rw [(vq_oi (x := f44) hwf44)] at z; exact z
                      refine lv_aload_n X.1 X.2.1 dX12_readItems_65 rfl (lv_at hl 2 rfl) ?_
                      refine ca_X12_fails_e X hK hG hC hS hb a0 h0 hl0 b43 wl_7_141 hl.1 (rest := []) rfl (Nat.le_of_ble_eq_true rfl) ⟨Nat.le_of_ble_eq_true rfl, Nat.le_of_ble_eq_true rfl⟩ ⟨Nat.le_of_ble_eq_true rfl, Nat.le_of_ble_eq_true rfl⟩ dX12_readItems_66 (fun f59 tf59 H locs htf59 hf59 hWf59 hS => ?_)
                      have hG := hWf59.2.2.2
                      rw [htf59] at hG
                      obtain rfl : f59 = 0 := sg_is0 hf59
                      refine lv_pop X.1 X.2.1 dX12_readItems_69 rfl ?_
                      have spr : vSpM (sgU2 P) (sgL2 P) (vX (sgU2 P) (sgL2 P) a) = (false, (vX (sgU2 P) (sgL2 P) av37), 0) := vSpM_2 k21 pv37 k52
                      have hG := ke_weak (b1 := 0) (b2 := 241) (g1 := (vX (sgU2 P) (sgL2 P) av37)) (g2 := (vX (sgU2 P) (sgL2 P) av37)) (e1 := d1) (e2 := d2) hG (b43).1 (Int.le_trans (b43).2 (Int.le_trans hl0.2 (by decide))) (Int.le_refl _) (Int.le_refl _) (Int.le_refl _) (Int.le_refl _)
                      exact sg_vret2 X hr hlk hS (fun t ht hW => (Or.inr ⟨_, _, _, spr, ((vq_bw b43 hl0)).1, ((vq_bw b43 hl0)).2, sg_post hb hK hC hG hS ht hW⟩)) dX12_readItems_70
            · have hG := hBf36.2.2.2
              rw [htf36] at hG
              refine as_51Z X hK hG hS h2 (iv_vpin (iv_ne_lo (a' := 0) c14 hf13.1 (by decide +kernel)) (by decide +kernel)) dX12_readItems_109 (fun H locs hG hS => ?_)
              refine lv_aload_n X.1 X.2.1 dX12_readItems_110 rfl (lv_at hl 2 rfl) ?_
              refine gf_X12_11e X hK hG h0 wl_6_189 dX12_readItems_111 (fun f60 hf60 => ?_)
              have xf60 : f60.toInt = wv37 := vq_iv hf60
              have yf60 : iv 0 240 f60 := vq_of xf60 (And.intro w1v37 w2v37)
              refine lv_iconst (v := (-1)) X.1 X.2.1 dX12_readItems_114 (by decide +kernel) ?_
              refine lv_icmp_ne (tgt := 41) X.1 X.2.1 dX12_readItems_115 (by decide) (fun c61 => ?_) (fun c61 => ?_)
              · have i62 : (wv37 = ((-1) : Int)) = False := vq_ne c61 xf60 (by decide +kernel)
                refine lv_iload X.1 X.2.1 dX12_readItems_41 (lv_at hl 1 rfl) ?_
                refine lv_iconst (v := (-1)) X.1 X.2.1 dX12_readItems_43 (by decide +kernel) ?_
                refine lv_icmp_eq (tgt := 131) X.1 X.2.1 dX12_readItems_44 (by decide) (fun c64 => ?_) (fun c64 => ?_)
                · have i65 : (0 : Int) = ((-1) : Int) := vq_eq c64 hwf13 (by decide +kernel)
                  exact ((iv_no (a := 0) (b := (-1)) (iv_eqm c64 (iv_ne_lo (a' := 0) c14 hf13.1 (by decide +kernel)) (iv_c (-1) (a := (-1)) (b := (-1)) (by decide +kernel)) (by decide +kernel)) (by decide +kernel))).elim
                · have i66 : ((0 : Int) = ((-1) : Int)) = False := vq_ne c64 hwf13 (by decide +kernel)
                  refine lv_aload_n X.1 X.2.1 dX12_readItems_47 rfl (lv_at hl 2 rfl) ?_
                  refine gf_X12_11e X hK hG h0 wl_6_189 dX12_readItems_48 (fun f67 hf67 => ?_)
                  have xf67 : f67.toInt = wv37 := vq_iv hf67
                  have yf67 : iv 0 240 f67 := vq_of xf67 (And.intro w1v37 w2v37)
                  refine lv_iconst (v := (-1)) X.1 X.2.1 dX12_readItems_51 (by decide +kernel) ?_
                  refine lv_icmp_ne (tgt := 131) X.1 X.2.1 dX12_readItems_52 (by decide) (fun c68 => ?_) (fun c68 => ?_)
                  · have i69 : (wv37 = ((-1) : Int)) = False := vq_ne c68 xf67 (by decide +kernel)
                    have spr : vSpM (sgU2 P) (sgL2 P) (vX (sgU2 P) (sgL2 P) a) = (false, wv37, 0) := vSpM_b k21 pv37
                    have hG := ke_weak (b1 := 0) (b2 := 241) (g1 := wv37) (g2 := wv37) (e1 := d1) (e2 := d2) hG (Int.le_refl _) (Int.le_refl _) (Int.le_refl _) (Int.le_refl _) (Int.le_refl _) (Int.le_refl _)
                    exact sg_vret2 X hr hlk hS (fun t ht hW => (Or.inr ⟨_, _, _, spr, ((And.intro w1v37 w2v37)).1, ((And.intro w1v37 w2v37)).2, sg_post hb hK hC hG hS ht hW⟩)) dX12_readItems_131
                  · have i70 : wv37 = ((-1) : Int) := vq_eq c68 xf67 (by decide +kernel)
                    exact ((iv_no (a := 0) (b := (-1)) (iv_eqm c68 yf67 (iv_c (-1) (a := (-1)) (b := (-1)) (by decide +kernel)) (by decide +kernel)) (by decide +kernel))).elim
              · have i63 : wv37 = ((-1) : Int) := vq_eq c61 xf60 (by decide +kernel)
                exact ((iv_no (a := 0) (b := (-1)) (iv_eqm c61 yf60 (iv_c (-1) (a := (-1)) (b := (-1)) (by decide +kernel)) (by decide +kernel)) (by decide +kernel))).elim
          · have j26 := vq_says1 hf22 c23
            have k27 : ((0 : Int32) >>> ((Int32.ofInt 0) &&& 31)) &&& 1 = 1 := by have z := j26; rw [(vq_oi (x := f13) hwf13)] at z; exact z
            exact absurd k27 (by decide +kernel)
    · have i10 : ((0 + 1) : Int) < (1 : Int) := vq_lt (iv_gt_of c8) xy6 (vq_iv hf7)
      exact ((iv_no (iv_lt (b' := 0) (iv_gt_of c8) (iv_add (a' := 1) (b' := 1) ey6 (iv_c 0 (a := 0) (b := 0) (by decide +kernel)) (iv_c _ (a := 1) (b := 1) (by decide +kernel)) (by decide +kernel)) hf7 (by decide +kernel)) (by decide +kernel))).elim

theorem ca_X12_readItems_eo116  {a d1 d2 : Int} {q : sgLwn} {o : sgO}  (X : CallFix p m c cc nL s args sg_tbl own) (hK : va_K D vwCl tys s) (hG : sgG (KE a a (-1) (-1) d1 d2 (zQ q o) P) D vwCl (fun q : Nat => base ≤ q) tys ad ks H) (hC : sgC base s) (hS : va_S (fun q : Nat => base ≤ q) s.heap H locs)  (hb : base ≤ s.heap.size) {ta tv : Nat} {tb : List Int32} (hp : P_S ta tv 1 tb (fun q : Nat => base ≤ q) s) (a0 : Nat) (h0 : isK ad ks 12 a0) (x1 : Int32) (h1 : iv 116 116 x1) (a2 : Nat) (h2 : isK ad ks 51 a2) (hl0 : 0 ≤ sgL2 P ∧ sgL2 P ≤ 240) (hav : 0 ≤ a ∧ a ≤ sgL2 P) (hby : sgBy2 P) (hd0 : 0 ≤ d1 ∧ d2 ≤ 6) (htb : ∀ j : Nat, j < 1 → iv 0 127 (tb.getD j 0)) (hte : tb = [99]) (hl : Cond.methodLink own index yX12_readItems ∈ sg_tbl) (hsize : ls.size = nL) (hst : st0 = [.int x1, .ref a2, .ref ta].reverse ++ .ref a0 :: rest) (hW : (rest.map fun v => v.category).sum ≤ 8) (hR : 6 ≤ R.frames ∧ 132 ≤ R.locals) (hf : cells ≤ R.cells ∧ slots ≤ R.slots) (hdg : decode cc pc = .ok (.invokevirtual index, 3)) (kk : ∀ (t : State) (H1 : Heap) (locs1 : List Loc), t.heap = H1 → ((fun t => (∃ (a1 v1 : Int), vSpM (sgU2 P) (sgL2 P) (vX (sgU2 P) (sgL2 P) a) = (true, vX (sgU2 P) (sgL2 P) a1, v1) ∧ 0 ≤ v1 ∧ v1 ≤ 29 ∧ a + 0 ≤ a1 ∧ a1 ≤ sgL2 P ∧ sgB (KE a1 a1 (-1) (-1) d1 d2 (zQ q (zO v1 o)) P) D vwCl base tys ad ks t) ∨ (∃ (w v1 : Int) (z1 : sgZt), vSpM (sgU2 P) (sgL2 P) (vX (sgU2 P) (sgL2 P) a) = (false, w, v1) ∧ 0 ≤ w ∧ w ≤ 240 ∧ sgB (KE 0 241 w w d1 d2 z1 P) D vwCl base tys ad ks t)) t) → va_S (fun q : Nat => base ≤ q) s.heap H1 locs1 → W p l e R s m args below meth c H1 locs1 cells slots Q (F0 m (pc + 3) ls rest)) : W p l e R s m args below meth c H locs cells slots Q (F0 m pc ls st0) :=
  sg_callQv X hK hG hC hS hb hp (m_X12_readItems_eo116 l ta tv tb a0 h0 x1 h1 a2 h2 hl0 hav hby hd0 htb hte) h0 (k := 12) (ci := 12) rfl (C := RX12) (T := TX12) (N := 53) rfl wl_7_149 wl_1_13 wl_7_148 wl_0_54 (n := 3) (by decide +kernel) rfl rfl rfl hl hsize hst hW hR hf hdg kk

set_option maxHeartbeats 8000000 in
set_option maxRecDepth 100000 in
theorem m_X12_usual_e98 (l : Launch) {D : va_G} {base : Nat} {tys : List (ClassId × FieldType)} {ad ks : List Nat} {P : sgPm} {Hx : Heap} (x0 : Int32) (h0 : iv 98 98 x0) (x1 : Int32) (h1 : iv 0 0 x1) : sgPi l (KT P) D vwCl base tys ad ks Hx yX12_usual cX12_usual 2 (some .int) ({ frames := 0, cells := 0, slots := 0, locals := 0 }) [.int x0, .int x1] (fun r : Int32 => iv 0 0 r) := by
  refine sg_ofP (Pq := fun Hx => va_Qi (fun r (_ : Unit) => (fun r : Int32 => iv 0 0 r) r) (fun _ t => t.heap = Hx) (fun _ : Nat => False)) (by decide +kernel) (Nat.le_of_ble_eq_true rfl) (fun p e s m below meth c X hr hlk hb hK hC hG ls hl => ?_)
  have hS : va_S (fun _ : Nat => False) s.heap s.heap [] := va_S.rf
  have hl : lv_has ls 2 [(0, .int x0), (1, .int x1)] := hl
  refine lv_iload_n X.1 X.2.1 dX12_usual_0 rfl (lv_at hl 0 rfl) ?_
  refine lv_bipush (v := 115) X.1 X.2.1 dX12_usual_1 (by decide +kernel) ?_
  refine lv_icmp_eq (tgt := 8) X.1 X.2.1 dX12_usual_3 (by decide) (fun c1 => ?_) (fun c1 => ?_)
  · have i2 : x0.toInt = (115 : Int) := vq_eq c1 rfl (by decide +kernel)
    exact ((iv_no (a := 115) (b := 98) (iv_eqm c1 h0 (iv_c 115 (a := 115) (b := 115) (by decide +kernel)) (by decide +kernel)) (by decide +kernel))).elim
  · have i3 : (x0.toInt = (115 : Int)) = False := vq_ne c1 rfl (by decide +kernel)
    refine lv_iconst (v := 0) X.1 X.2.1 dX12_usual_6 (by decide +kernel) ?_
    exact sg_iretP X hr hlk hS (iv_c 0 (a := 0) (b := 0) (by decide +kernel)) dX12_usual_7

theorem ca_X12_usual_e98   (X : CallFix p m c cc nL s args sg_tbl own) (hK : va_K D vwCl tys s) (hG : sgG (KT P) D vwCl (fun q : Nat => base ≤ q) tys ad ks H) (hC : sgC base s) (hA : ∀ q : Nat, A q → base ≤ q) (hS : va_S A s.heap H locs) (hb : base ≤ s.heap.size) (x0 : Int32) (h0 : iv 98 98 x0) (x1 : Int32) (h1 : iv 0 0 x1) (hl : Cond.methodLink own index yX12_usual ∈ sg_tbl) (hsize : ls.size = nL) (hst : st0 = [.int x0, .int x1].reverse ++ rest) (hW : (rest.map fun v => v.category).sum ≤ 8) (hR : 1 ≤ R.frames ∧ 21 ≤ R.locals) (hf : cells ≤ R.cells ∧ slots ≤ R.slots) (hdg : decode cc pc = .ok (.invokestatic index, 3)) (kk : ∀ (r : Int32) (locs1 : List Loc), (fun r : Int32 => iv 0 0 r) r → va_S A s.heap H locs1 → W p l e R s m args below meth c H locs1 cells slots Q (F0 m (pc + 3) ls (.int r :: rest))) : W p l e R s m args below meth c H locs cells slots Q (F0 m pc ls st0) :=
  sg_callPSi X hK hG hC hA hS hb (m_X12_usual_e98 l x0 h0 x1 h1) wl_7_132 wl_1_13 wl_7_131 (n := 2) (by decide +kernel) rfl rfl rfl hl hsize hst hW hR hf hdg kk

set_option maxHeartbeats 8000000 in
set_option maxRecDepth 100000 in
theorem m_X12_leastOf_e98 (l : Launch) {D : va_G} {base : Nat} {tys : List (ClassId × FieldType)} {ad ks : List Nat} {P : sgPm} {Hx : Heap} (x0 : Int32) (h0 : iv 98 98 x0) (x1 : Int32) (h1 : iv 0 0 x1) : sgPi l (KT P) D vwCl base tys ad ks Hx yX12_leastOf cX12_leastOf 2 (some .int) ({ frames := 0, cells := 0, slots := 0, locals := 0 }) [.int x0, .int x1] (fun r : Int32 => iv 0 0 r) := by
  refine sg_ofP (Pq := fun Hx => va_Qi (fun r (_ : Unit) => (fun r : Int32 => iv 0 0 r) r) (fun _ t => t.heap = Hx) (fun _ : Nat => False)) (by decide +kernel) (Nat.le_of_ble_eq_true rfl) (fun p e s m below meth c X hr hlk hb hK hC hG ls hl => ?_)
  have hS : va_S (fun _ : Nat => False) s.heap s.heap [] := va_S.rf
  have hl : lv_has ls 2 [(0, .int x0), (1, .int x1)] := hl
  refine lv_iload_n X.1 X.2.1 dX12_leastOf_0 rfl (lv_at hl 0 rfl) ?_
  refine lv_bipush (v := 115) X.1 X.2.1 dX12_leastOf_1 (by decide +kernel) ?_
  refine lv_icmp_ne (tgt := 24) X.1 X.2.1 dX12_leastOf_3 (by decide) (fun c1 => ?_) (fun c1 => ?_)
  · have i2 : (x0.toInt = (115 : Int)) = False := vq_ne c1 rfl (by decide +kernel)
    refine lv_iconst (v := 0) X.1 X.2.1 dX12_leastOf_24 (by decide +kernel) ?_
    exact sg_iretP X hr hlk hS (iv_c 0 (a := 0) (b := 0) (by decide +kernel)) dX12_leastOf_25
  · have i3 : x0.toInt = (115 : Int) := vq_eq c1 rfl (by decide +kernel)
    exact ((iv_no (a := 115) (b := 98) (iv_eqm c1 h0 (iv_c 115 (a := 115) (b := 115) (by decide +kernel)) (by decide +kernel)) (by decide +kernel))).elim

theorem ca_X12_leastOf_e98   (X : CallFix p m c cc nL s args sg_tbl own) (hK : va_K D vwCl tys s) (hG : sgG (KT P) D vwCl (fun q : Nat => base ≤ q) tys ad ks H) (hC : sgC base s) (hA : ∀ q : Nat, A q → base ≤ q) (hS : va_S A s.heap H locs) (hb : base ≤ s.heap.size) (x0 : Int32) (h0 : iv 98 98 x0) (x1 : Int32) (h1 : iv 0 0 x1) (hl : Cond.methodLink own index yX12_leastOf ∈ sg_tbl) (hsize : ls.size = nL) (hst : st0 = [.int x0, .int x1].reverse ++ rest) (hW : (rest.map fun v => v.category).sum ≤ 8) (hR : 1 ≤ R.frames ∧ 21 ≤ R.locals) (hf : cells ≤ R.cells ∧ slots ≤ R.slots) (hdg : decode cc pc = .ok (.invokestatic index, 3)) (kk : ∀ (r : Int32) (locs1 : List Loc), (fun r : Int32 => iv 0 0 r) r → va_S A s.heap H locs1 → W p l e R s m args below meth c H locs1 cells slots Q (F0 m (pc + 3) ls (.int r :: rest))) : W p l e R s m args below meth c H locs cells slots Q (F0 m pc ls st0) :=
  sg_callPSi X hK hG hC hA hS hb (m_X12_leastOf_e98 l x0 h0 x1 h1) wl_7_179 wl_1_13 wl_7_178 (n := 2) (by decide +kernel) rfl rfl rfl hl hsize hst hW hR hf hdg kk

set_option maxHeartbeats 8000000 in
set_option maxRecDepth 100000 in
theorem m_X12_mostOf_e98 (l : Launch) {D : va_G} {base : Nat} {tys : List (ClassId × FieldType)} {ad ks : List Nat} {P : sgPm} {Hx : Heap} (x0 : Int32) (h0 : iv 98 98 x0) (x1 : Int32) (h1 : iv 0 0 x1) : sgPi l (KT P) D vwCl base tys ad ks Hx yX12_mostOf cX12_mostOf 2 (some .int) ({ frames := 0, cells := 0, slots := 0, locals := 0 }) [.int x0, .int x1] (fun r : Int32 => iv 29 29 r) := by
  refine sg_ofP (Pq := fun Hx => va_Qi (fun r (_ : Unit) => (fun r : Int32 => iv 29 29 r) r) (fun _ t => t.heap = Hx) (fun _ : Nat => False)) (by decide +kernel) (Nat.le_of_ble_eq_true rfl) (fun p e s m below meth c X hr hlk hb hK hC hG ls hl => ?_)
  have hS : va_S (fun _ : Nat => False) s.heap s.heap [] := va_S.rf
  have hl : lv_has ls 2 [(0, .int x0), (1, .int x1)] := hl
  refine lv_iload_n X.1 X.2.1 dX12_mostOf_0 rfl (lv_at hl 0 rfl) ?_
  refine lv_bipush (v := 115) X.1 X.2.1 dX12_mostOf_1 (by decide +kernel) ?_
  refine lv_icmp_eq (tgt := 9) X.1 X.2.1 dX12_mostOf_3 (by decide) (fun c1 => ?_) (fun c1 => ?_)
  · have i2 : x0.toInt = (115 : Int) := vq_eq c1 rfl (by decide +kernel)
    exact ((iv_no (a := 115) (b := 98) (iv_eqm c1 h0 (iv_c 115 (a := 115) (b := 115) (by decide +kernel)) (by decide +kernel)) (by decide +kernel))).elim
  · have i3 : (x0.toInt = (115 : Int)) = False := vq_ne c1 rfl (by decide +kernel)
    refine lv_bipush (v := 29) X.1 X.2.1 dX12_mostOf_6 (by decide +kernel) ?_
    exact sg_iretP X hr hlk hS (iv_c 29 (a := 29) (b := 29) (by decide +kernel)) dX12_mostOf_8

theorem ca_X12_mostOf_e98   (X : CallFix p m c cc nL s args sg_tbl own) (hK : va_K D vwCl tys s) (hG : sgG (KT P) D vwCl (fun q : Nat => base ≤ q) tys ad ks H) (hC : sgC base s) (hA : ∀ q : Nat, A q → base ≤ q) (hS : va_S A s.heap H locs) (hb : base ≤ s.heap.size) (x0 : Int32) (h0 : iv 98 98 x0) (x1 : Int32) (h1 : iv 0 0 x1) (hl : Cond.methodLink own index yX12_mostOf ∈ sg_tbl) (hsize : ls.size = nL) (hst : st0 = [.int x0, .int x1].reverse ++ rest) (hW : (rest.map fun v => v.category).sum ≤ 8) (hR : 1 ≤ R.frames ∧ 21 ≤ R.locals) (hf : cells ≤ R.cells ∧ slots ≤ R.slots) (hdg : decode cc pc = .ok (.invokestatic index, 3)) (kk : ∀ (r : Int32) (locs1 : List Loc), (fun r : Int32 => iv 29 29 r) r → va_S A s.heap H locs1 → W p l e R s m args below meth c H locs1 cells slots Q (F0 m (pc + 3) ls (.int r :: rest))) : W p l e R s m args below meth c H locs cells slots Q (F0 m pc ls st0) :=
  sg_callPSi X hK hG hC hA hS hb (m_X12_mostOf_e98 l x0 h0 x1 h1) wl_7_182 wl_1_13 wl_7_181 (n := 2) (by decide +kernel) rfl rfl rfl hl hsize hst hW hR hf hdg kk

set_option maxHeartbeats 8000000 in
set_option maxRecDepth 100000 in
theorem m_X12_readItems_eo98 (l : Launch) {D : va_G} {base : Nat} {tys : List (ClassId × FieldType)} {ad ks : List Nat} {P : sgPm}{a d1 d2 : Int} {q : sgLwn} {o : sgO}  (ta tv : Nat) (tb : List Int32) (a0 : Nat) (h0 : isK ad ks 12 a0) (x1 : Int32) (h1 : iv 98 98 x1) (a2 : Nat) (h2 : isK ad ks 51 a2) (hl0 : 0 ≤ sgL2 P ∧ sgL2 P ≤ 240) (hav : 0 ≤ a ∧ a ≤ sgL2 P) (hby : sgBy2 P) (hd0 : 0 ≤ d1 ∧ d2 ≤ 6) (htb : ∀ j : Nat, j < 1 → iv 0 127 (tb.getD j 0)) (hte : tb = [99]) : Met l yX12_readItems (Cond.code yX12_readItems cX12_readItems 6 none :: sg_tbl) ({ frames := 5, cells := 0, slots := 0, locals := 107 }) (va_Pc [.ref a0, .int x1, .ref a2, .ref ta] (fun U => P_S ta tv 1 tb (fun q : Nat => base ≤ q) U ∧ sgB (KE a a (-1) (-1) d1 d2 (zQ q o) P) D vwCl base tys ad ks U)) (va_Qv (fun (_ : Unit) => True) (fun _ => fun t => (∃ (a1 v1 : Int), vSpM (sgU2 P) (sgL2 P) (vX (sgU2 P) (sgL2 P) a) = (true, vX (sgU2 P) (sgL2 P) a1, v1) ∧ 0 ≤ v1 ∧ v1 ≤ 29 ∧ a + 0 ≤ a1 ∧ a1 ≤ sgL2 P ∧ sgB (KE a1 a1 (-1) (-1) d1 d2 (zQ q (zO v1 o)) P) D vwCl base tys ad ks t) ∨ (∃ (w v1 : Int) (z1 : sgZt), vSpM (sgU2 P) (sgL2 P) (vX (sgU2 P) (sgL2 P) a) = (false, w, v1) ∧ 0 ≤ w ∧ w ≤ 240 ∧ sgB (KE 0 241 w w d1 d2 z1 P) D vwCl base tys ad ks t)) (fun q : Nat => base ≤ q)) 0 0 (fun q : Nat => base ≤ q) := by
  refine sg_ofQ (by decide +kernel) (Nat.le_of_ble_eq_true rfl) (fun p e s m below meth c X hr hlk hb hK hC hG ls hl hp => ?_)
  have hS : va_S (fun q : Nat => base ≤ q) s.heap s.heap [] := va_S.rf
  have hl : lv_has ls 6 [(0, .ref a0), (1, .int x1), (2, .ref a2), (3, .ref ta)] := hl
  refine lv_iconst (v := 0) X.1 X.2.1 dX12_readItems_0 (by decide +kernel) ?_
  refine lv_istore (lv' := [(4, .int 0), (0, .ref a0), (1, .int x1), (2, .ref a2), (3, .ref ta)]) X.1 X.2.1 dX12_readItems_1 hl (by decide) rfl (fun ls hl => ?_)
  refine lv_iload X.1 X.2.1 dX12_readItems_3 (lv_at hl 0 rfl) ?_
  refine lv_aload_n X.1 X.2.1 dX12_readItems_5 rfl (lv_at hl 4 rfl) ?_
  refine ca_J0_length_8abf5_1 X hK (ke_toKT hG (by decide) (by decide) hd0.1 hd0.2) hC (fun _ h => h) hS hb hp wl_7_150 hl.1 (rest := [.int 0]) rfl (Nat.le_of_ble_eq_true rfl) ⟨Nat.le_of_ble_eq_true rfl, Nat.le_of_ble_eq_true rfl⟩ ⟨Nat.le_of_ble_eq_true rfl, Nat.le_of_ble_eq_true rfl⟩ dX12_readItems_6 (fun f1 locs hf1 hS => ?_)
  refine lv_icmp_ge (tgt := 28) X.1 X.2.1 dX12_readItems_9 (by decide) (fun c2 => ?_) (fun c2 => ?_)
  · have i3 : ¬ (0 : Int) < (1 : Int) := vq_le c2 (vq_iv hf1) (by decide +kernel)
    exact ((iv_no (iv_le (b' := 0) c2 hf1 (iv_c 0 (a := 0) (b := 0) (by decide +kernel)) (by decide +kernel)) (by decide +kernel))).elim
  · have i4 : (0 : Int) < (1 : Int) := vq_lt (iv_gt_of c2) (by decide +kernel) (vq_iv hf1)
    refine lv_aload_n X.1 X.2.1 dX12_readItems_12 rfl (lv_at hl 3 rfl) ?_
    refine lv_iload X.1 X.2.1 dX12_readItems_13 (lv_at hl 0 rfl) ?_
    refine lv_iload_n X.1 X.2.1 dX12_readItems_15 rfl (lv_at hl 2 rfl) ?_
    refine lv_iload X.1 X.2.1 dX12_readItems_16 (lv_at hl 0 rfl) ?_
    refine ca_X12_usual_e98 X hK (ke_toKT hG (by decide) (by decide) hd0.1 hd0.2) hC (fun _ h => h) hS hb x1 h1 0 (iv_c 0 (a := 0) (b := 0) (by decide +kernel)) wl_7_130 hl.1 (rest := [.int 0, .ref a2]) rfl (Nat.le_of_ble_eq_true rfl) ⟨Nat.le_of_ble_eq_true rfl, Nat.le_of_ble_eq_true rfl⟩ ⟨Nat.le_of_ble_eq_true rfl, Nat.le_of_ble_eq_true rfl⟩ dX12_readItems_18 (fun f5 locs hf5 hS => ?_)
    refine as_51Z X hK hG hS h2 (iv_vpin (iv_c 0 (a := 0) (b := 0) (by decide +kernel)) (by decide +kernel)) dX12_readItems_21 (fun H locs hG hS => ?_)
    rw [(vq_iv hf5), zq_o] at hG
    have hG : sgG (KE a a (-1) (-1) d1 d2 (zQ q (zO 0 o)) P) D vwCl _ tys ad ks _ := hG
    obtain ⟨y6, ey6⟩ : ∃ y : Int32, y = 0 + Int32.ofInt 1 := ⟨_, rfl⟩
    have xy6 : y6.toInt = (0 + 1) := sg_exadd ey6 (iv_c 0 (a := 0) (b := 0) (by decide +kernel)) (iv_c _ (a := 1) (b := 1) (by decide +kernel)) (by decide +kernel) (by decide +kernel) (by decide +kernel)
    refine lv_iinc (v := y6) (lv' := [(4, .int y6), (0, .ref a0), (1, .int x1), (2, .ref a2), (3, .ref ta)]) X.1 X.2.1 dX12_readItems_22 hl (k := 0) rfl ey6.symm (by decide) rfl (fun ls hl => ?_)
    refine lv_goto (tgt := 3) X.1 X.2.1 dX12_readItems_25 (by decide) ?_
    refine lv_iload X.1 X.2.1 dX12_readItems_3 (lv_at hl 0 rfl) ?_
    refine lv_aload_n X.1 X.2.1 dX12_readItems_5 rfl (lv_at hl 4 rfl) ?_
    refine ca_J0_length_8abf5_1 X hK (ke_toKT hG (by decide) (by decide) hd0.1 hd0.2) hC (fun _ h => h) hS hb hp wl_7_150 hl.1 (rest := [.int y6]) rfl (Nat.le_of_ble_eq_true rfl) ⟨Nat.le_of_ble_eq_true rfl, Nat.le_of_ble_eq_true rfl⟩ ⟨Nat.le_of_ble_eq_true rfl, Nat.le_of_ble_eq_true rfl⟩ dX12_readItems_6 (fun f7 locs hf7 hS => ?_)
    refine lv_icmp_ge (tgt := 28) X.1 X.2.1 dX12_readItems_9 (by decide) (fun c8 => ?_) (fun c8 => ?_)
    · have i9 : ¬ ((0 + 1) : Int) < (1 : Int) := vq_le c8 (vq_iv hf7) xy6
      refine lv_iconst (v := 0) X.1 X.2.1 dX12_readItems_28 (by decide +kernel) ?_
      refine lv_istore (lv' := [(4, .int 0), (0, .ref a0), (1, .int x1), (2, .ref a2), (3, .ref ta)]) X.1 X.2.1 dX12_readItems_29 hl (by decide) rfl (fun ls hl => ?_)
      refine lv_aload_n X.1 X.2.1 dX12_readItems_31 rfl (lv_at hl 4 rfl) ?_
      refine lv_aload_n X.1 X.2.1 dX12_readItems_32 rfl (lv_at hl 1 rfl) ?_
      refine ca_X12_look_e X hK hG hC hS hb a0 h0 hl0 hav hby wl_7_137 hl.1 (rest := [.ref ta]) rfl (Nat.le_of_ble_eq_true rfl) ⟨Nat.le_of_ble_eq_true rfl, Nat.le_of_ble_eq_true rfl⟩ ⟨Nat.le_of_ble_eq_true rfl, Nat.le_of_ble_eq_true rfl⟩ dX12_readItems_33 (fun f11 tf11 H locs htf11 hf11 hWf11 hS => ?_)
      have hBf11 := hWf11.2
      have xf11 := hWf11.1
      have hG := hBf11.2.2.2
      rw [htf11] at hG
      have b12 := vq_bdL (b := sgU2 P) hav
      have eb12 : a ≤ vX (sgU2 P) (sgL2 P) a := (vX_ge (sgU2 P) (sgL2 P) a).1
      have pb12 : a + 0 ≤ vX (sgU2 P) (sgL2 P) a := Int.le_trans (vq_pg0 a) (vX_ge (sgU2 P) (sgL2 P) a).1
      have yf11 : iv (-1) 255 f11 := vq_lk xf11 (vC_by2 hby _)
      refine ca_X12_spotOf_e1 X hK (ke_toKT hG (by decide) (by decide) hd0.1 hd0.2) hC (fun _ h => h) hS hb hp f11 htb wl_7_151 hl.1 (rest := []) rfl (Nat.le_of_ble_eq_true rfl) ⟨Nat.le_of_ble_eq_true rfl, Nat.le_of_ble_eq_true rfl⟩ ⟨Nat.le_of_ble_eq_true rfl, Nat.le_of_ble_eq_true rfl⟩ dX12_readItems_36 (fun f13 locs hf13 hS => ?_)
      have xf13 : f13.toInt = vC1 (vC (sgU2 P) (sgL2 P) (vX (sgU2 P) (sgL2 P) a)) := hf13.2.1.trans (by rw [xf11, hte]; exact vC1_E _)
      refine lv_istore (lv' := [(5, .int f13), (4, .int 0), (0, .ref a0), (1, .int x1), (2, .ref a2), (3, .ref ta)]) X.1 X.2.1 dX12_readItems_39 hl (by decide) rfl (fun ls hl => ?_)
      refine lv_iload X.1 X.2.1 dX12_readItems_41 (lv_at hl 0 rfl) ?_
      refine lv_iconst (v := (-1)) X.1 X.2.1 dX12_readItems_43 (by decide +kernel) ?_
      refine lv_icmp_eq (tgt := 131) X.1 X.2.1 dX12_readItems_44 (by decide) (fun c14 => ?_) (fun c14 => ?_)
      · have i15 : vC1 (vC (sgU2 P) (sgL2 P) (vX (sgU2 P) (sgL2 P) a)) = ((-1) : Int) := vq_eq c14 xf13 (by decide +kernel)
        have spr : vSpM (sgU2 P) (sgL2 P) (vX (sgU2 P) (sgL2 P) a) = (true, vX (sgU2 P) (sgL2 P) (vX (sgU2 P) (sgL2 P) a), 0) := by rw [vX_idem]; exact vSpM_0 (vC1_f i15)
        exact sg_vret2 X hr hlk hS (fun t ht hW => (Or.inl ⟨_, 0, spr, by decide, by decide, vq_pgw pb12 (by decide), (b12).2, sg_post hb hK hC hG hS ht hW⟩)) dX12_readItems_131
      · have i16 : (vC1 (vC (sgU2 P) (sgL2 P) (vX (sgU2 P) (sgL2 P) a)) = ((-1) : Int)) = False := vq_ne c14 xf13 (by decide +kernel)
        refine lv_aload_n X.1 X.2.1 dX12_readItems_47 rfl (lv_at hl 2 rfl) ?_
        refine gf_X12_11e X hK hG h0 wl_6_189 dX12_readItems_48 (fun f17 hf17 => ?_)
        refine lv_iconst (v := (-1)) X.1 X.2.1 dX12_readItems_51 (by decide +kernel) ?_
        refine lv_icmp_ne (tgt := 131) X.1 X.2.1 dX12_readItems_52 (by decide) (fun c18 => ?_) (fun c18 => ?_)
        · have i19 : (((-1) : Int) = ((-1) : Int)) = False := vq_ne c18 (vq_iv hf17) (by decide +kernel)
          exact ((c18 (iv_one hf17 (iv_c (-1) (a := (-1)) (b := (-1)) (by decide +kernel)) (by decide +kernel)))).elim
        · have i20 : ((-1) : Int) = ((-1) : Int) := vq_eq c18 (vq_iv hf17) (by decide +kernel)
          have hwf13 : f13.toInt = 0 := vq_iv ((iv_ne_lo (a' := 0) c14 hf13.1 (by decide +kernel)))
          have k21 : vC (sgU2 P) (sgL2 P) (vX (sgU2 P) (sgL2 P) a) = (99 : Int) := vC1_t ((xf13).symm.trans hwf13)
          refine lv_iload X.1 X.2.1 dX12_readItems_55 (lv_at hl 1 rfl) ?_
          refine lv_iload X.1 X.2.1 dX12_readItems_57 (lv_at hl 0 rfl) ?_
          refine ca_X12_has_e X hK (ke_toKT hG (by decide) (by decide) hd0.1 hd0.2) hC (fun _ h => h) hS hb 0 f13 wl_7_174 hl.1 (rest := []) rfl (Nat.le_of_ble_eq_true rfl) ⟨Nat.le_of_ble_eq_true rfl, Nat.le_of_ble_eq_true rfl⟩ ⟨Nat.le_of_ble_eq_true rfl, Nat.le_of_ble_eq_true rfl⟩ dX12_readItems_59 (fun f22 locs hf22 hS => ?_)
          refine lv_if_eq (tgt := 71) X.1 X.2.1 dX12_readItems_62 (by decide) (fun c23 => ?_) (fun c23 => ?_)
          · have j24 := vq_says0 hf22 c23
            have k25 : (((0 : Int32) >>> ((Int32.ofInt 0) &&& 31)) &&& 1 = 1) = False := by have z := j24; rw [(vq_oi (x := f13) hwf13)] at z; exact z
            refine lv_iload X.1 X.2.1 dX12_readItems_71 (lv_at hl 1 rfl) ?_
            refine lv_iconst (v := 1) X.1 X.2.1 dX12_readItems_73 (by decide +kernel) ?_
            refine lv_iload X.1 X.2.1 dX12_readItems_74 (lv_at hl 0 rfl) ?_
            refine lv_ishl X.1 X.2.1 dX12_readItems_76 ?_
            refine lv_topi (fun f28 ef28 => ?_)
            have wf28 : f28 = ((1 : Int32) <<< ((Int32.ofInt 0) &&& 31)) := ef28.trans (by rw [(vq_oi (x := f13) hwf13)])
            refine lv_ior X.1 X.2.1 dX12_readItems_77 ?_
            refine lv_topi (fun f29 ef29 => ?_)
            have wf29 : f29 = ((0 : Int32) ||| ((1 : Int32) <<< ((Int32.ofInt 0) &&& 31))) := ef29.trans (by rw [wf28])
            refine lv_istore (lv' := [(4, .int f29), (5, .int f13), (0, .ref a0), (1, .int x1), (2, .ref a2), (3, .ref ta)]) X.1 X.2.1 dX12_readItems_78 hl (by decide) rfl (fun ls hl => ?_)
            refine lv_aload_n X.1 X.2.1 dX12_readItems_80 rfl (lv_at hl 2 rfl) ?_
            refine lv_dup X.1 X.2.1 dX12_readItems_81 rfl ?_
            refine gf_X12_10e X hK hG h0 wl_6_188 dX12_readItems_82 (fun f30 hf30 => ?_)
            have xf30 : f30.toInt = (vX (sgU2 P) (sgL2 P) a) := vq_iv hf30
            have yf30 : iv 0 240 f30 := vq_240 hl0 b12 xf30
            refine lv_iconst (v := 1) X.1 X.2.1 dX12_readItems_85 (by decide +kernel) ?_
            refine lv_iadd X.1 X.2.1 dX12_readItems_86 ?_
            refine lv_topi (fun f31 ef31 => ?_)
            have xf31 : f31.toInt = ((vX (sgU2 P) (sgL2 P) a) + 1) := sg_exadd ef31 yf30 (iv_c 1 (a := 1) (b := 1) (by decide +kernel)) (by decide +kernel) xf30 (by decide +kernel)
            refine pf_X12_10E (b1 := ((vX (sgU2 P) (sgL2 P) a) + 1)) (b2 := ((vX (sgU2 P) (sgL2 P) a) + 1)) X hK hG hS h0 wl_6_188 (vq_of (lo := ((vX (sgU2 P) (sgL2 P) a) + 1)) (hi := ((vX (sgU2 P) (sgL2 P) a) + 1)) xf31 ⟨Int.le_refl _, Int.le_refl _⟩) dX12_readItems_87 (fun H locs hG hS => ?_)
            have l32 := (vC_lt (b := sgU2 P) (n := sgL2 P) (a := (vX (sgU2 P) (sgL2 P) a)) (by rw [k21]; decide)).2
            have b33 := vq_bd1 b12 l32
            have pb33 : a + 1 ≤ ((vX (sgU2 P) (sgL2 P) a) + 1) := vq_pg pb12 (m := 1) (Int.le_refl _) (by decide)
            refine lv_aload_n X.1 X.2.1 dX12_readItems_90 rfl (lv_at hl 4 rfl) ?_
            refine lv_iload X.1 X.2.1 dX12_readItems_91 (lv_at hl 1 rfl) ?_
            refine lv_aload_n X.1 X.2.1 dX12_readItems_93 rfl (lv_at hl 2 rfl) ?_
            refine lv_iload_n X.1 X.2.1 dX12_readItems_94 rfl (lv_at hl 3 rfl) ?_
            refine lv_iload X.1 X.2.1 dX12_readItems_95 (lv_at hl 1 rfl) ?_
            refine ca_X12_leastOf_e98 X hK (ke_toKT hG (by decide) (by decide) hd0.1 hd0.2) hC (fun _ h => h) hS hb x1 h1 f13 (iv_ne_lo (a' := 0) c14 hf13.1 (by decide +kernel)) wl_7_177 hl.1 (rest := [.ref a0, .int f13, .ref a2]) rfl (Nat.le_of_ble_eq_true rfl) ⟨Nat.le_of_ble_eq_true rfl, Nat.le_of_ble_eq_true rfl⟩ ⟨Nat.le_of_ble_eq_true rfl, Nat.le_of_ble_eq_true rfl⟩ dX12_readItems_97 (fun f34 locs hf34 hS => ?_)
            refine lv_iload_n X.1 X.2.1 dX12_readItems_100 rfl (lv_at hl 3 rfl) ?_
            refine lv_iload X.1 X.2.1 dX12_readItems_101 (lv_at hl 1 rfl) ?_
            refine ca_X12_mostOf_e98 X hK (ke_toKT hG (by decide) (by decide) hd0.1 hd0.2) hC (fun _ h => h) hS hb x1 h1 f13 (iv_ne_lo (a' := 0) c14 hf13.1 (by decide +kernel)) wl_7_180 hl.1 (rest := [.int f34, .ref a0, .int f13, .ref a2]) rfl (Nat.le_of_ble_eq_true rfl) ⟨Nat.le_of_ble_eq_true rfl, Nat.le_of_ble_eq_true rfl⟩ ⟨Nat.le_of_ble_eq_true rfl, Nat.le_of_ble_eq_true rfl⟩ dX12_readItems_103 (fun f35 locs hf35 hS => ?_)
            refine ca_X12_number_e X hK hG hC hS hb a0 h0 f34 f35 hl0 b33 hby (by omega) (show (f34 : Int32).toInt = 0 ∧ (f35 : Int32).toInt = 29 from ⟨(vq_iv hf34), (vq_iv hf35)⟩) wl_7_183 hl.1 (rest := [.int f13, .ref a2]) rfl (Nat.le_of_ble_eq_true rfl) ⟨Nat.le_of_ble_eq_true rfl, Nat.le_of_ble_eq_true rfl⟩ ⟨Nat.le_of_ble_eq_true rfl, Nat.le_of_ble_eq_true rfl⟩ dX12_readItems_106 (fun f36 tf36 H locs htf36 hf36 hWf36 hS => ?_)
            rcases hWf36 with ⟨av37, nv37, pv37, xv37, g1v37, g2v37, gav37, gbv37, hBf36⟩ | ⟨wv37, pv37, w1v37, w2v37, hBf36⟩
            · have hG := hBf36.2.2.2
              rw [htf36] at hG
              have bv37 := vq_bd2 (k := 1) b33 (by decide) gav37 gbv37
              have p2v37 : a + 2 ≤ av37 := vq_pg pb33 gav37 (by decide)
              refine as_51Z X hK hG hS h2 (iv_vpin (iv_ne_lo (a' := 0) c14 hf13.1 (by decide +kernel)) (by decide +kernel)) dX12_readItems_109 (fun H locs hG hS => ?_)
              rw [xv37, zq_o, zO_zO] at hG
              have hG : sgG (KE av37 av37 (-1) (-1) d1 d2 (zQ q (zO nv37 o)) P) D vwCl _ tys ad ks _ := hG
              refine lv_aload_n X.1 X.2.1 dX12_readItems_110 rfl (lv_at hl 2 rfl) ?_
              refine gf_X12_11e X hK hG h0 wl_6_189 dX12_readItems_111 (fun f38 hf38 => ?_)
              refine lv_iconst (v := (-1)) X.1 X.2.1 dX12_readItems_114 (by decide +kernel) ?_
              refine lv_icmp_ne (tgt := 41) X.1 X.2.1 dX12_readItems_115 (by decide) (fun c39 => ?_) (fun c39 => ?_)
              · have i40 : (((-1) : Int) = ((-1) : Int)) = False := vq_ne c39 (vq_iv hf38) (by decide +kernel)
                exact ((c39 (iv_one hf38 (iv_c (-1) (a := (-1)) (b := (-1)) (by decide +kernel)) (by decide +kernel)))).elim
              · have i41 : ((-1) : Int) = ((-1) : Int) := vq_eq c39 (vq_iv hf38) (by decide +kernel)
                refine lv_aload_n X.1 X.2.1 dX12_readItems_118 rfl (lv_at hl 5 rfl) ?_
                refine lv_aload_n X.1 X.2.1 dX12_readItems_119 rfl (lv_at hl 2 rfl) ?_
                refine ca_X12_look_e X hK hG hC hS hb a0 h0 hl0 bv37 hby wl_7_137 hl.1 (rest := [.ref ta]) rfl (Nat.le_of_ble_eq_true rfl) ⟨Nat.le_of_ble_eq_true rfl, Nat.le_of_ble_eq_true rfl⟩ ⟨Nat.le_of_ble_eq_true rfl, Nat.le_of_ble_eq_true rfl⟩ dX12_readItems_120 (fun f42 tf42 H locs htf42 hf42 hWf42 hS => ?_)
                have hBf42 := hWf42.2
                have xf42 := hWf42.1
                have hG := hBf42.2.2.2
                rw [htf42] at hG
                have b43 := vq_bdL (b := sgU2 P) bv37
                have eb43 : av37 ≤ vX (sgU2 P) (sgL2 P) av37 := (vX_ge (sgU2 P) (sgL2 P) av37).1
                have pb43 : a + 2 ≤ vX (sgU2 P) (sgL2 P) av37 := Int.le_trans p2v37 (vX_ge (sgU2 P) (sgL2 P) av37).1
                have yf42 : iv (-1) 255 f42 := vq_lk xf42 (vC_by2 hby _)
                refine ca_X12_spotOf_e1 X hK (ke_toKT hG (by decide) (by decide) hd0.1 hd0.2) hC (fun _ h => h) hS hb hp f42 htb wl_7_151 hl.1 (rest := []) rfl (Nat.le_of_ble_eq_true rfl) ⟨Nat.le_of_ble_eq_true rfl, Nat.le_of_ble_eq_true rfl⟩ ⟨Nat.le_of_ble_eq_true rfl, Nat.le_of_ble_eq_true rfl⟩ dX12_readItems_123 (fun f44 locs hf44 hS => ?_)
                have xf44 : f44.toInt = vC1 (vC (sgU2 P) (sgL2 P) (vX (sgU2 P) (sgL2 P) av37)) := hf44.2.1.trans (by rw [xf42, hte]; exact vC1_E _)
                refine lv_istore (lv' := [(5, .int f44), (4, .int f29), (0, .ref a0), (1, .int x1), (2, .ref a2), (3, .ref ta)]) X.1 X.2.1 dX12_readItems_126 hl (by decide) rfl (fun ls hl => ?_)
                refine lv_goto (tgt := 41) X.1 X.2.1 dX12_readItems_128 (by decide) ?_
                refine lv_iload X.1 X.2.1 dX12_readItems_41 (lv_at hl 0 rfl) ?_
                refine lv_iconst (v := (-1)) X.1 X.2.1 dX12_readItems_43 (by decide +kernel) ?_
                refine lv_icmp_eq (tgt := 131) X.1 X.2.1 dX12_readItems_44 (by decide) (fun c45 => ?_) (fun c45 => ?_)
                · have i46 : vC1 (vC (sgU2 P) (sgL2 P) (vX (sgU2 P) (sgL2 P) av37)) = ((-1) : Int) := vq_eq c45 xf44 (by decide +kernel)
                  have spr : vSpM (sgU2 P) (sgL2 P) (vX (sgU2 P) (sgL2 P) a) = (true, vX (sgU2 P) (sgL2 P) (vX (sgU2 P) (sgL2 P) av37), nv37) := by rw [vX_idem]; exact vSpM_t k21 pv37 (vC1_f i46)
                  exact sg_vret2 X hr hlk hS (fun t ht hW => (Or.inl ⟨_, _, spr, g1v37, g2v37, vq_pgw pb43 (by decide), (b43).2, sg_post hb hK hC hG hS ht hW⟩)) dX12_readItems_131
                · have i47 : (vC1 (vC (sgU2 P) (sgL2 P) (vX (sgU2 P) (sgL2 P) av37)) = ((-1) : Int)) = False := vq_ne c45 xf44 (by decide +kernel)
                  refine lv_aload_n X.1 X.2.1 dX12_readItems_47 rfl (lv_at hl 2 rfl) ?_
                  refine gf_X12_11e X hK hG h0 wl_6_189 dX12_readItems_48 (fun f48 hf48 => ?_)
                  refine lv_iconst (v := (-1)) X.1 X.2.1 dX12_readItems_51 (by decide +kernel) ?_
                  refine lv_icmp_ne (tgt := 131) X.1 X.2.1 dX12_readItems_52 (by decide) (fun c49 => ?_) (fun c49 => ?_)
                  · have i50 : (((-1) : Int) = ((-1) : Int)) = False := vq_ne c49 (vq_iv hf48) (by decide +kernel)
                    exact ((c49 (iv_one hf48 (iv_c (-1) (a := (-1)) (b := (-1)) (by decide +kernel)) (by decide +kernel)))).elim
                  · have i51 : ((-1) : Int) = ((-1) : Int) := vq_eq c49 (vq_iv hf48) (by decide +kernel)
                    have hwf44 : f44.toInt = 0 := vq_iv ((iv_ne_lo (a' := 0) c45 hf44.1 (by decide +kernel)))
                    have k52 : vC (sgU2 P) (sgL2 P) (vX (sgU2 P) (sgL2 P) av37) = (99 : Int) := vC1_t ((xf44).symm.trans hwf44)
                    refine lv_iload X.1 X.2.1 dX12_readItems_55 (lv_at hl 1 rfl) ?_
                    refine lv_iload X.1 X.2.1 dX12_readItems_57 (lv_at hl 0 rfl) ?_
                    refine ca_X12_has_e X hK (ke_toKT hG (by decide) (by decide) hd0.1 hd0.2) hC (fun _ h => h) hS hb f29 f44 wl_7_174 hl.1 (rest := []) rfl (Nat.le_of_ble_eq_true rfl) ⟨Nat.le_of_ble_eq_true rfl, Nat.le_of_ble_eq_true rfl⟩ ⟨Nat.le_of_ble_eq_true rfl, Nat.le_of_ble_eq_true rfl⟩ dX12_readItems_59 (fun f53 locs hf53 hS => ?_)
                    refine lv_if_eq (tgt := 71) X.1 X.2.1 dX12_readItems_62 (by decide) (fun c54 => ?_) (fun c54 => ?_)
                    · have j55 := vq_says0 hf53 c54
                      have k56 : ((((0 : Int32) ||| ((1 : Int32) <<< ((Int32.ofInt 0) &&& 31))) >>> ((Int32.ofInt 0) &&& 31)) &&& 1 = 1) = False := by have z := j55; rw [wf29] at z; rw [(vq_oi (x := f44) hwf44)] at z; exact z
                      exact absurd (by decide +kernel) (of_eq_false k56)
                    · have j57 := vq_says1 hf53 c54
                      have k58 : (((0 : Int32) ||| ((1 : Int32) <<< ((Int32.ofInt 0) &&& 31))) >>> ((Int32.ofInt 0) &&& 31)) &&& 1 = 1 := by have z := j57; rw [wf29] at z; rw [(vq_oi (x := f44) hwf44)] at z; exact z
                      refine lv_aload_n X.1 X.2.1 dX12_readItems_65 rfl (lv_at hl 2 rfl) ?_
                      refine ca_X12_fails_e X hK hG hC hS hb a0 h0 hl0 b43 wl_7_141 hl.1 (rest := []) rfl (Nat.le_of_ble_eq_true rfl) ⟨Nat.le_of_ble_eq_true rfl, Nat.le_of_ble_eq_true rfl⟩ ⟨Nat.le_of_ble_eq_true rfl, Nat.le_of_ble_eq_true rfl⟩ dX12_readItems_66 (fun f59 tf59 H locs htf59 hf59 hWf59 hS => ?_)
                      have hG := hWf59.2.2.2
                      rw [htf59] at hG
                      obtain rfl : f59 = 0 := sg_is0 hf59
                      refine lv_pop X.1 X.2.1 dX12_readItems_69 rfl ?_
                      have spr : vSpM (sgU2 P) (sgL2 P) (vX (sgU2 P) (sgL2 P) a) = (false, (vX (sgU2 P) (sgL2 P) av37), 0) := vSpM_2 k21 pv37 k52
                      have hG := ke_weak (b1 := 0) (b2 := 241) (g1 := (vX (sgU2 P) (sgL2 P) av37)) (g2 := (vX (sgU2 P) (sgL2 P) av37)) (e1 := d1) (e2 := d2) hG (b43).1 (Int.le_trans (b43).2 (Int.le_trans hl0.2 (by decide))) (Int.le_refl _) (Int.le_refl _) (Int.le_refl _) (Int.le_refl _)
                      exact sg_vret2 X hr hlk hS (fun t ht hW => (Or.inr ⟨_, _, _, spr, ((vq_bw b43 hl0)).1, ((vq_bw b43 hl0)).2, sg_post hb hK hC hG hS ht hW⟩)) dX12_readItems_70
            · have hG := hBf36.2.2.2
              rw [htf36] at hG
              refine as_51Z X hK hG hS h2 (iv_vpin (iv_ne_lo (a' := 0) c14 hf13.1 (by decide +kernel)) (by decide +kernel)) dX12_readItems_109 (fun H locs hG hS => ?_)
              refine lv_aload_n X.1 X.2.1 dX12_readItems_110 rfl (lv_at hl 2 rfl) ?_
              refine gf_X12_11e X hK hG h0 wl_6_189 dX12_readItems_111 (fun f60 hf60 => ?_)
              have xf60 : f60.toInt = wv37 := vq_iv hf60
              have yf60 : iv 0 240 f60 := vq_of xf60 (And.intro w1v37 w2v37)
              refine lv_iconst (v := (-1)) X.1 X.2.1 dX12_readItems_114 (by decide +kernel) ?_
              refine lv_icmp_ne (tgt := 41) X.1 X.2.1 dX12_readItems_115 (by decide) (fun c61 => ?_) (fun c61 => ?_)
              · have i62 : (wv37 = ((-1) : Int)) = False := vq_ne c61 xf60 (by decide +kernel)
                refine lv_iload X.1 X.2.1 dX12_readItems_41 (lv_at hl 1 rfl) ?_
                refine lv_iconst (v := (-1)) X.1 X.2.1 dX12_readItems_43 (by decide +kernel) ?_
                refine lv_icmp_eq (tgt := 131) X.1 X.2.1 dX12_readItems_44 (by decide) (fun c64 => ?_) (fun c64 => ?_)
                · have i65 : (0 : Int) = ((-1) : Int) := vq_eq c64 hwf13 (by decide +kernel)
                  exact ((iv_no (a := 0) (b := (-1)) (iv_eqm c64 (iv_ne_lo (a' := 0) c14 hf13.1 (by decide +kernel)) (iv_c (-1) (a := (-1)) (b := (-1)) (by decide +kernel)) (by decide +kernel)) (by decide +kernel))).elim
                · have i66 : ((0 : Int) = ((-1) : Int)) = False := vq_ne c64 hwf13 (by decide +kernel)
                  refine lv_aload_n X.1 X.2.1 dX12_readItems_47 rfl (lv_at hl 2 rfl) ?_
                  refine gf_X12_11e X hK hG h0 wl_6_189 dX12_readItems_48 (fun f67 hf67 => ?_)
                  have xf67 : f67.toInt = wv37 := vq_iv hf67
                  have yf67 : iv 0 240 f67 := vq_of xf67 (And.intro w1v37 w2v37)
                  refine lv_iconst (v := (-1)) X.1 X.2.1 dX12_readItems_51 (by decide +kernel) ?_
                  refine lv_icmp_ne (tgt := 131) X.1 X.2.1 dX12_readItems_52 (by decide) (fun c68 => ?_) (fun c68 => ?_)
                  · have i69 : (wv37 = ((-1) : Int)) = False := vq_ne c68 xf67 (by decide +kernel)
                    have spr : vSpM (sgU2 P) (sgL2 P) (vX (sgU2 P) (sgL2 P) a) = (false, wv37, 0) := vSpM_b k21 pv37
                    have hG := ke_weak (b1 := 0) (b2 := 241) (g1 := wv37) (g2 := wv37) (e1 := d1) (e2 := d2) hG (Int.le_refl _) (Int.le_refl _) (Int.le_refl _) (Int.le_refl _) (Int.le_refl _) (Int.le_refl _)
                    exact sg_vret2 X hr hlk hS (fun t ht hW => (Or.inr ⟨_, _, _, spr, ((And.intro w1v37 w2v37)).1, ((And.intro w1v37 w2v37)).2, sg_post hb hK hC hG hS ht hW⟩)) dX12_readItems_131
                  · have i70 : wv37 = ((-1) : Int) := vq_eq c68 xf67 (by decide +kernel)
                    exact ((iv_no (a := 0) (b := (-1)) (iv_eqm c68 yf67 (iv_c (-1) (a := (-1)) (b := (-1)) (by decide +kernel)) (by decide +kernel)) (by decide +kernel))).elim
              · have i63 : wv37 = ((-1) : Int) := vq_eq c61 xf60 (by decide +kernel)
                exact ((iv_no (a := 0) (b := (-1)) (iv_eqm c61 yf60 (iv_c (-1) (a := (-1)) (b := (-1)) (by decide +kernel)) (by decide +kernel)) (by decide +kernel))).elim
          · have j26 := vq_says1 hf22 c23
            have k27 : ((0 : Int32) >>> ((Int32.ofInt 0) &&& 31)) &&& 1 = 1 := by have z := j26; rw [(vq_oi (x := f13) hwf13)] at z; exact z
            exact absurd k27 (by decide +kernel)
    · have i10 : ((0 + 1) : Int) < (1 : Int) := vq_lt (iv_gt_of c8) xy6 (vq_iv hf7)
      exact ((iv_no (iv_lt (b' := 0) (iv_gt_of c8) (iv_add (a' := 1) (b' := 1) ey6 (iv_c 0 (a := 0) (b := 0) (by decide +kernel)) (iv_c _ (a := 1) (b := 1) (by decide +kernel)) (by decide +kernel)) hf7 (by decide +kernel)) (by decide +kernel))).elim

theorem ca_X12_readItems_eo98  {a d1 d2 : Int} {q : sgLwn} {o : sgO}  (X : CallFix p m c cc nL s args sg_tbl own) (hK : va_K D vwCl tys s) (hG : sgG (KE a a (-1) (-1) d1 d2 (zQ q o) P) D vwCl (fun q : Nat => base ≤ q) tys ad ks H) (hC : sgC base s) (hS : va_S (fun q : Nat => base ≤ q) s.heap H locs)  (hb : base ≤ s.heap.size) {ta tv : Nat} {tb : List Int32} (hp : P_S ta tv 1 tb (fun q : Nat => base ≤ q) s) (a0 : Nat) (h0 : isK ad ks 12 a0) (x1 : Int32) (h1 : iv 98 98 x1) (a2 : Nat) (h2 : isK ad ks 51 a2) (hl0 : 0 ≤ sgL2 P ∧ sgL2 P ≤ 240) (hav : 0 ≤ a ∧ a ≤ sgL2 P) (hby : sgBy2 P) (hd0 : 0 ≤ d1 ∧ d2 ≤ 6) (htb : ∀ j : Nat, j < 1 → iv 0 127 (tb.getD j 0)) (hte : tb = [99]) (hl : Cond.methodLink own index yX12_readItems ∈ sg_tbl) (hsize : ls.size = nL) (hst : st0 = [.int x1, .ref a2, .ref ta].reverse ++ .ref a0 :: rest) (hW : (rest.map fun v => v.category).sum ≤ 8) (hR : 6 ≤ R.frames ∧ 132 ≤ R.locals) (hf : cells ≤ R.cells ∧ slots ≤ R.slots) (hdg : decode cc pc = .ok (.invokevirtual index, 3)) (kk : ∀ (t : State) (H1 : Heap) (locs1 : List Loc), t.heap = H1 → ((fun t => (∃ (a1 v1 : Int), vSpM (sgU2 P) (sgL2 P) (vX (sgU2 P) (sgL2 P) a) = (true, vX (sgU2 P) (sgL2 P) a1, v1) ∧ 0 ≤ v1 ∧ v1 ≤ 29 ∧ a + 0 ≤ a1 ∧ a1 ≤ sgL2 P ∧ sgB (KE a1 a1 (-1) (-1) d1 d2 (zQ q (zO v1 o)) P) D vwCl base tys ad ks t) ∨ (∃ (w v1 : Int) (z1 : sgZt), vSpM (sgU2 P) (sgL2 P) (vX (sgU2 P) (sgL2 P) a) = (false, w, v1) ∧ 0 ≤ w ∧ w ≤ 240 ∧ sgB (KE 0 241 w w d1 d2 z1 P) D vwCl base tys ad ks t)) t) → va_S (fun q : Nat => base ≤ q) s.heap H1 locs1 → W p l e R s m args below meth c H1 locs1 cells slots Q (F0 m (pc + 3) ls rest)) : W p l e R s m args below meth c H locs cells slots Q (F0 m pc ls st0) :=
  sg_callQv X hK hG hC hS hb hp (m_X12_readItems_eo98 l ta tv tb a0 h0 x1 h1 a2 h2 hl0 hav hby hd0 htb hte) h0 (k := 12) (ci := 12) rfl (C := RX12) (T := TX12) (N := 53) rfl wl_7_149 wl_1_13 wl_7_148 wl_0_54 (n := 3) (by decide +kernel) rfl rfl rfl hl hsize hst hW hR hf hdg kk
end
