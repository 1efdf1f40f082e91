
section
variable {p : Program} {l : Launch} {e : Env} {R : Room} {s : State} {m : MethodId} {args : Array Value} {below : List Frame} {meth : Method} {c : Code} {H : Heap} {locs : List Loc} {cells slots : Nat} {Q : State → Prop} {cc : ByteArray} {nL pc : Nat} {ls : Array Slot} {rest : List Value} {own : String} {D : va_G} {A : Nat → Prop} {tys : List (ClassId × FieldType)} {ad ks : List Nat} {P : sgPm} {H0 : Heap} {index : Nat} {base : Nat} {st0 : List Value} {a : Nat}

set_option maxHeartbeats 8000000 in
set_option maxRecDepth 100000 in
theorem m_X12_has_e (l : Launch) {D : va_G} {base : Nat} {tys : List (ClassId × FieldType)} {ad ks : List Nat} {P : sgPm} {Hx : Heap} (x0 : Int32) (x1 : Int32) : sgPi l (KT P) D vwCl base tys ad ks Hx yX12_has cX12_has 2 (some .boolean) ({ frames := 0, cells := 0, slots := 0, locals := 0 }) [.int x0, .int x1] (fun r : Int32 => (r = 1 ∧ (x0 >>> (x1 &&& 31)) &&& 1 = 1) ∨ (r = 0 ∧ ((x0 >>> (x1 &&& 31)) &&& 1 = 1) = False)) := by
  refine sg_ofP (Pq := fun Hx => va_Qi (fun r (_ : Unit) => (fun r : Int32 => (r = 1 ∧ (x0 >>> (x1 &&& 31)) &&& 1 = 1) ∨ (r = 0 ∧ ((x0 >>> (x1 &&& 31)) &&& 1 = 1) = False)) r) (fun _ t => t.heap = Hx) (fun _ : Nat => False)) (by decide +kernel) (Nat.le_of_ble_eq_true rfl) (fun p e s m below meth c X hr hlk hb hK hC hG ls hl => ?_)
  have hS : va_S (fun _ : Nat => False) s.heap s.heap [] := va_S.rf
  have hl : lv_has ls 2 [(0, .int x0), (1, .int x1)] := hl
  refine lv_iload_n X.1 X.2.1 dX12_has_0 rfl (lv_at hl 0 rfl) ?_
  refine lv_iload_n X.1 X.2.1 dX12_has_1 rfl (lv_at hl 1 rfl) ?_
  refine lv_ishr X.1 X.2.1 dX12_has_2 ?_
  refine lv_topi (fun f1 ef1 => ?_)
  have wf1 : f1 = (x0 >>> (x1 &&& 31)) := ef1
  refine lv_iconst (v := 1) X.1 X.2.1 dX12_has_3 (by decide +kernel) ?_
  refine lv_iand X.1 X.2.1 dX12_has_4 ?_
  refine lv_topi (fun f2 ef2 => ?_)
  have wf2 : f2 = ((x0 >>> (x1 &&& 31)) &&& (1 : Int32)) := ef2.trans (by rw [wf1])
  refine lv_iconst (v := 1) X.1 X.2.1 dX12_has_5 (by decide +kernel) ?_
  refine lv_icmp_ne (tgt := 13) X.1 X.2.1 dX12_has_6 (by decide) (fun c3 => ?_) (fun c3 => ?_)
  · refine lv_iconst (v := 0) X.1 X.2.1 dX12_has_13 (by decide +kernel) ?_
    exact sg_zretP X hr (sg_zn (iv_of (iv_c 0 (a := 0) (b := 0) (by decide +kernel)) (a' := 0) (b' := 1) (by decide +kernel))) hlk hS (Or.inr ⟨rfl, eq_false (by rw [← ef1, ← ef2]; exact c3)⟩) dX12_has_14
  · refine lv_iconst (v := 1) X.1 X.2.1 dX12_has_9 (by decide +kernel) ?_
    refine lv_goto (tgt := 14) X.1 X.2.1 dX12_has_10 (by decide) ?_
    exact sg_zretP X hr (sg_zn (iv_of (iv_c 1 (a := 1) (b := 1) (by decide +kernel)) (a' := 0) (b' := 1) (by decide +kernel))) hlk hS (Or.inl ⟨rfl, by rw [← ef1, ← ef2]; exact c3⟩) dX12_has_14

theorem ca_X12_has_e   (X : CallFix p m c cc nL s args sg_tbl own) (hK : va_K D vwCl tys s) (hG : sgG (KT P) D vwCl (fun q : Nat => base ≤ q) tys ad ks H) (hC : sgC base s) (hA : ∀ q : Nat, A q → base ≤ q) (hS : va_S A s.heap H locs) (hb : base ≤ s.heap.size) (x0 : Int32) (x1 : Int32) (hl : Cond.methodLink own index yX12_has ∈ sg_tbl) (hsize : ls.size = nL) (hst : st0 = [.int x0, .int x1].reverse ++ rest) (hW : (rest.map fun v => v.category).sum ≤ 8) (hR : 1 ≤ R.frames ∧ 21 ≤ R.locals) (hf : cells ≤ R.cells ∧ slots ≤ R.slots) (hdg : decode cc pc = .ok (.invokestatic index, 3)) (kk : ∀ (r : Int32) (locs1 : List Loc), (fun r : Int32 => (r = 1 ∧ (x0 >>> (x1 &&& 31)) &&& 1 = 1) ∨ (r = 0 ∧ ((x0 >>> (x1 &&& 31)) &&& 1 = 1) = False)) r → va_S A s.heap H locs1 → W p l e R s m args below meth c H locs1 cells slots Q (F0 m (pc + 3) ls (.int r :: rest))) : W p l e R s m args below meth c H locs cells slots Q (F0 m pc ls st0) :=
  sg_callPSi X hK hG hC hA hS hb (m_X12_has_e l x0 x1) wl_7_176 wl_1_13 wl_7_175 (n := 2) (by decide +kernel) rfl rfl rfl hl hsize hst hW hR hf hdg kk

set_option maxHeartbeats 8000000 in
set_option maxRecDepth 100000 in
theorem m_X12_leastOf_e115 (l : Launch) {D : va_G} {base : Nat} {tys : List (ClassId × FieldType)} {ad ks : List Nat} {P : sgPm} {Hx : Heap} (x0 : Int32) (h0 : iv 115 115 x0) (x1 : Int32) (h1 : iv 0 6 x1) : sgPi l (KT P) D vwCl base tys ad ks Hx yX12_leastOf cX12_leastOf 2 (some .int) ({ frames := 0, cells := 0, slots := 0, locals := 0 }) [.int x0, .int x1] (fun r : Int32 => r.toInt = vLst x1.toInt.toNat) := by
  refine sg_ofP (Pq := fun Hx => va_Qi (fun r (_ : Unit) => (fun r : Int32 => r.toInt = vLst x1.toInt.toNat) r) (fun _ t => t.heap = Hx) (fun _ : Nat => False)) (by decide +kernel) (Nat.le_of_ble_eq_true rfl) (fun p e s m below meth c X hr hlk hb hK hC hG ls hl => ?_)
  have hS : va_S (fun _ : Nat => False) s.heap s.heap [] := va_S.rf
  have hl : lv_has ls 2 [(0, .int x0), (1, .int x1)] := hl
  refine lv_iload_n X.1 X.2.1 dX12_leastOf_0 rfl (lv_at hl 0 rfl) ?_
  refine lv_bipush (v := 115) X.1 X.2.1 dX12_leastOf_1 (by decide +kernel) ?_
  refine lv_icmp_ne (tgt := 24) X.1 X.2.1 dX12_leastOf_3 (by decide) (fun c1 => ?_) (fun c1 => ?_)
  · have i2 : (x0.toInt = (115 : Int)) = False := vq_ne c1 rfl (by decide +kernel)
    exact ((c1 (iv_one h0 (iv_c 115 (a := 115) (b := 115) (by decide +kernel)) (by decide +kernel)))).elim
  · have i3 : x0.toInt = (115 : Int) := vq_eq c1 rfl (by decide +kernel)
    refine lv_iload_n X.1 X.2.1 dX12_leastOf_6 rfl (lv_at hl 1 rfl) ?_
    refine lv_iconst (v := 4) X.1 X.2.1 dX12_leastOf_7 (by decide +kernel) ?_
    refine lv_icmp_ge (tgt := 24) X.1 X.2.1 dX12_leastOf_8 (by decide) (fun c4 => ?_) (fun c4 => ?_)
    · have i5 : ¬ x1.toInt < (4 : Int) := vq_le c4 (by decide +kernel) rfl
      refine lv_iconst (v := 0) X.1 X.2.1 dX12_leastOf_24 (by decide +kernel) ?_
      have hp9 : (0 : Int32).toInt = vLst x1.toInt.toNat := by
        rw [show (0 : Int32).toInt = 0 from by decide +kernel]
        have g1 := h1.1
        have g2 := h1.2
        unfold vLst
        repeat' split
        all_goals omega
      exact sg_iretP X hr hlk hS hp9 dX12_leastOf_25
    · have i6 : x1.toInt < (4 : Int) := vq_lt (iv_gt_of c4) rfl (by decide +kernel)
      refine lv_iload_n X.1 X.2.1 dX12_leastOf_11 rfl (lv_at hl 1 rfl) ?_
      refine lv_iconst (v := 2) X.1 X.2.1 dX12_leastOf_12 (by decide +kernel) ?_
      refine lv_icmp_ne (tgt := 20) X.1 X.2.1 dX12_leastOf_13 (by decide) (fun c7 => ?_) (fun c7 => ?_)
      · have i8 : (x1.toInt = (2 : Int)) = False := vq_ne c7 rfl (by decide +kernel)
        refine lv_iconst (v := 1) X.1 X.2.1 dX12_leastOf_20 (by decide +kernel) ?_
        refine lv_goto (tgt := 25) X.1 X.2.1 dX12_leastOf_21 (by decide) ?_
        have hp9 : (1 : Int32).toInt = vLst x1.toInt.toNat := by
          rw [show (1 : Int32).toInt = 1 from by decide +kernel]
          have g1 := h1.1
          have g2 := h1.2
          have ni8 := of_eq_false i8
          unfold vLst
          repeat' split
          all_goals omega
        exact sg_iretP X hr hlk hS hp9 dX12_leastOf_25
      · have i9 : x1.toInt = (2 : Int) := vq_eq c7 rfl (by decide +kernel)
        refine lv_iconst (v := 2) X.1 X.2.1 dX12_leastOf_16 (by decide +kernel) ?_
        refine lv_goto (tgt := 25) X.1 X.2.1 dX12_leastOf_17 (by decide) ?_
        have hp9 : (2 : Int32).toInt = vLst x1.toInt.toNat := by
          rw [show (2 : Int32).toInt = 2 from by decide +kernel]
          have g1 := h1.1
          have g2 := h1.2
          unfold vLst
          repeat' split
          all_goals omega
        exact sg_iretP X hr hlk hS hp9 dX12_leastOf_25

theorem ca_X12_leastOf_e115   (X : CallFix p m c cc nL s args sg_tbl own) (hK : va_K D vwCl tys s) (hG : sgG (KT P) D vwCl (fun q : Nat => base ≤ q) tys ad ks H) (hC : sgC base s) (hA : ∀ q : Nat, A q → base ≤ q) (hS : va_S A s.heap H locs) (hb : base ≤ s.heap.size) (x0 : Int32) (h0 : iv 115 115 x0) (x1 : Int32) (h1 : iv 0 6 x1) (hl : Cond.methodLink own index yX12_leastOf ∈ sg_tbl) (hsize : ls.size = nL) (hst : st0 = [.int x0, .int x1].reverse ++ rest) (hW : (rest.map fun v => v.category).sum ≤ 8) (hR : 1 ≤ R.frames ∧ 21 ≤ R.locals) (hf : cells ≤ R.cells ∧ slots ≤ R.slots) (hdg : decode cc pc = .ok (.invokestatic index, 3)) (kk : ∀ (r : Int32) (locs1 : List Loc), (fun r : Int32 => r.toInt = vLst x1.toInt.toNat) r → va_S A s.heap H locs1 → W p l e R s m args below meth c H locs1 cells slots Q (F0 m (pc + 3) ls (.int r :: rest))) : W p l e R s m args below meth c H locs cells slots Q (F0 m pc ls st0) :=
  sg_callPSi X hK hG hC hA hS hb (m_X12_leastOf_e115 l x0 h0 x1 h1) wl_7_179 wl_1_13 wl_7_178 (n := 2) (by decide +kernel) rfl rfl rfl hl hsize hst hW hR hf hdg kk

set_option maxHeartbeats 8000000 in
set_option maxRecDepth 100000 in
theorem m_X12_mostOf_e115 (l : Launch) {D : va_G} {base : Nat} {tys : List (ClassId × FieldType)} {ad ks : List Nat} {P : sgPm} {Hx : Heap} (x0 : Int32) (h0 : iv 115 115 x0) (x1 : Int32) (h1 : iv 0 6 x1) : sgPi l (KT P) D vwCl base tys ad ks Hx yX12_mostOf cX12_mostOf 2 (some .int) ({ frames := 0, cells := 0, slots := 0, locals := 0 }) [.int x0, .int x1] (fun r : Int32 => r.toInt = vMst x1.toInt.toNat) := by
  refine sg_ofP (Pq := fun Hx => va_Qi (fun r (_ : Unit) => (fun r : Int32 => r.toInt = vMst x1.toInt.toNat) r) (fun _ t => t.heap = Hx) (fun _ : Nat => False)) (by decide +kernel) (Nat.le_of_ble_eq_true rfl) (fun p e s m below meth c X hr hlk hb hK hC hG ls hl => ?_)
  have hS : va_S (fun _ : Nat => False) s.heap s.heap [] := va_S.rf
  have hl : lv_has ls 2 [(0, .int x0), (1, .int x1)] := hl
  refine lv_iload_n X.1 X.2.1 dX12_mostOf_0 rfl (lv_at hl 0 rfl) ?_
  refine lv_bipush (v := 115) X.1 X.2.1 dX12_mostOf_1 (by decide +kernel) ?_
  refine lv_icmp_eq (tgt := 9) X.1 X.2.1 dX12_mostOf_3 (by decide) (fun c1 => ?_) (fun c1 => ?_)
  · have i2 : x0.toInt = (115 : Int) := vq_eq c1 rfl (by decide +kernel)
    refine lv_iload_n X.1 X.2.1 dX12_mostOf_9 rfl (lv_at hl 1 rfl) ?_
    refine lv_if_ne (tgt := 18) X.1 X.2.1 dX12_mostOf_10 (by decide) (fun c4 => ?_) (fun c4 => ?_)
    · have i5 : (x1.toInt = (0 : Int)) = False := vq_ne c4 rfl (by decide +kernel)
      refine lv_iload_n X.1 X.2.1 dX12_mostOf_18 rfl (lv_at hl 1 rfl) ?_
      refine lv_iconst (v := 1) X.1 X.2.1 dX12_mostOf_19 (by decide +kernel) ?_
      refine lv_icmp_eq (tgt := 33) X.1 X.2.1 dX12_mostOf_20 (by decide) (fun c7 => ?_) (fun c7 => ?_)
      · have i8 : x1.toInt = (1 : Int) := vq_eq c7 rfl (by decide +kernel)
        refine lv_iconst (v := 5) X.1 X.2.1 dX12_mostOf_33 (by decide +kernel) ?_
        refine lv_goto (tgt := 49) X.1 X.2.1 dX12_mostOf_34 (by decide) ?_
        have hp9 : (5 : Int32).toInt = vMst x1.toInt.toNat := by
          rw [show (5 : Int32).toInt = 5 from by decide +kernel]
          have g1 := h1.1
          have g2 := h1.2
          have ni5 := of_eq_false i5
          unfold vMst
          repeat' split
          all_goals omega
        exact sg_iretP X hr hlk hS hp9 dX12_mostOf_49
      · have i9 : (x1.toInt = (1 : Int)) = False := vq_ne c7 rfl (by decide +kernel)
        refine lv_iload_n X.1 X.2.1 dX12_mostOf_23 rfl (lv_at hl 1 rfl) ?_
        refine lv_iconst (v := 2) X.1 X.2.1 dX12_mostOf_24 (by decide +kernel) ?_
        refine lv_icmp_eq (tgt := 33) X.1 X.2.1 dX12_mostOf_25 (by decide) (fun c10 => ?_) (fun c10 => ?_)
        · have i11 : x1.toInt = (2 : Int) := vq_eq c10 rfl (by decide +kernel)
          refine lv_iconst (v := 5) X.1 X.2.1 dX12_mostOf_33 (by decide +kernel) ?_
          refine lv_goto (tgt := 49) X.1 X.2.1 dX12_mostOf_34 (by decide) ?_
          have hp9 : (5 : Int32).toInt = vMst x1.toInt.toNat := by
            rw [show (5 : Int32).toInt = 5 from by decide +kernel]
            have g1 := h1.1
            have g2 := h1.2
            have ni5 := of_eq_false i5
            have ni9 := of_eq_false i9
            unfold vMst
            repeat' split
            all_goals omega
          exact sg_iretP X hr hlk hS hp9 dX12_mostOf_49
        · have i12 : (x1.toInt = (2 : Int)) = False := vq_ne c10 rfl (by decide +kernel)
          refine lv_iload_n X.1 X.2.1 dX12_mostOf_28 rfl (lv_at hl 1 rfl) ?_
          refine lv_iconst (v := 3) X.1 X.2.1 dX12_mostOf_29 (by decide +kernel) ?_
          refine lv_icmp_ne (tgt := 37) X.1 X.2.1 dX12_mostOf_30 (by decide) (fun c13 => ?_) (fun c13 => ?_)
          · have i14 : (x1.toInt = (3 : Int)) = False := vq_ne c13 rfl (by decide +kernel)
            refine lv_iload_n X.1 X.2.1 dX12_mostOf_37 rfl (lv_at hl 1 rfl) ?_
            refine lv_bipush (v := 6) X.1 X.2.1 dX12_mostOf_38 (by decide +kernel) ?_
            refine lv_icmp_ne (tgt := 47) X.1 X.2.1 dX12_mostOf_40 (by decide) (fun c16 => ?_) (fun c16 => ?_)
            · have i17 : (x1.toInt = (6 : Int)) = False := vq_ne c16 rfl (by decide +kernel)
              refine lv_bipush (v := 8) X.1 X.2.1 dX12_mostOf_47 (by decide +kernel) ?_
              have hp9 : (8 : Int32).toInt = vMst x1.toInt.toNat := by
                rw [show (8 : Int32).toInt = 8 from by decide +kernel]
                have g1 := h1.1
                have g2 := h1.2
                have ni5 := of_eq_false i5
                have ni9 := of_eq_false i9
                have ni12 := of_eq_false i12
                have ni14 := of_eq_false i14
                have ni17 := of_eq_false i17
                unfold vMst
                repeat' split
                all_goals omega
              exact sg_iretP X hr hlk hS hp9 dX12_mostOf_49
            · have i18 : x1.toInt = (6 : Int) := vq_eq c16 rfl (by decide +kernel)
              refine lv_iconst (v := 1) X.1 X.2.1 dX12_mostOf_43 (by decide +kernel) ?_
              refine lv_goto (tgt := 49) X.1 X.2.1 dX12_mostOf_44 (by decide) ?_
              have hp9 : (1 : Int32).toInt = vMst x1.toInt.toNat := by
                rw [show (1 : Int32).toInt = 1 from by decide +kernel]
                have g1 := h1.1
                have g2 := h1.2
                have ni5 := of_eq_false i5
                have ni9 := of_eq_false i9
                have ni12 := of_eq_false i12
                have ni14 := of_eq_false i14
                unfold vMst
                repeat' split
                all_goals omega
              exact sg_iretP X hr hlk hS hp9 dX12_mostOf_49
          · have i15 : x1.toInt = (3 : Int) := vq_eq c13 rfl (by decide +kernel)
            refine lv_iconst (v := 5) X.1 X.2.1 dX12_mostOf_33 (by decide +kernel) ?_
            refine lv_goto (tgt := 49) X.1 X.2.1 dX12_mostOf_34 (by decide) ?_
            have hp9 : (5 : Int32).toInt = vMst x1.toInt.toNat := by
              rw [show (5 : Int32).toInt = 5 from by decide +kernel]
              have g1 := h1.1
              have g2 := h1.2
              have ni5 := of_eq_false i5
              have ni9 := of_eq_false i9
              have ni12 := of_eq_false i12
              unfold vMst
              repeat' split
              all_goals omega
            exact sg_iretP X hr hlk hS hp9 dX12_mostOf_49
    · have i6 : x1.toInt = (0 : Int) := vq_eq c4 rfl (by decide +kernel)
      refine lv_bipush (v := 6) X.1 X.2.1 dX12_mostOf_13 (by decide +kernel) ?_
      refine lv_goto (tgt := 49) X.1 X.2.1 dX12_mostOf_15 (by decide) ?_
      have hp9 : (6 : Int32).toInt = vMst x1.toInt.toNat := by
        rw [show (6 : Int32).toInt = 6 from by decide +kernel]
        have g1 := h1.1
        have g2 := h1.2
        unfold vMst
        repeat' split
        all_goals omega
      exact sg_iretP X hr hlk hS hp9 dX12_mostOf_49
  · have i3 : (x0.toInt = (115 : Int)) = False := vq_ne c1 rfl (by decide +kernel)
    exact ((c1 (iv_one h0 (iv_c 115 (a := 115) (b := 115) (by decide +kernel)) (by decide +kernel)))).elim

theorem ca_X12_mostOf_e115   (X : CallFix p m c cc nL s args sg_tbl own) (hK : va_K D vwCl tys s) (hG : sgG (KT P) D vwCl (fun q : Nat => base ≤ q) tys ad ks H) (hC : sgC base s) (hA : ∀ q : Nat, A q → base ≤ q) (hS : va_S A s.heap H locs) (hb : base ≤ s.heap.size) (x0 : Int32) (h0 : iv 115 115 x0) (x1 : Int32) (h1 : iv 0 6 x1) (hl : Cond.methodLink own index yX12_mostOf ∈ sg_tbl) (hsize : ls.size = nL) (hst : st0 = [.int x0, .int x1].reverse ++ rest) (hW : (rest.map fun v => v.category).sum ≤ 8) (hR : 1 ≤ R.frames ∧ 21 ≤ R.locals) (hf : cells ≤ R.cells ∧ slots ≤ R.slots) (hdg : decode cc pc = .ok (.invokestatic index, 3)) (kk : ∀ (r : Int32) (locs1 : List Loc), (fun r : Int32 => r.toInt = vMst x1.toInt.toNat) r → va_S A s.heap H locs1 → W p l e R s m args below meth c H locs1 cells slots Q (F0 m (pc + 3) ls (.int r :: rest))) : W p l e R s m args below meth c H locs cells slots Q (F0 m pc ls st0) :=
  sg_callPSi X hK hG hC hA hS hb (m_X12_mostOf_e115 l x0 h0 x1 h1) wl_7_182 wl_1_13 wl_7_181 (n := 2) (by decide +kernel) rfl rfl rfl hl hsize hst hW hR hf hdg kk
end
