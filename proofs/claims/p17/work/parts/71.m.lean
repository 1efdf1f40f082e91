
section
variable {p : Program} {l : Launch} {e : Env} {R : Room} {s : State} {m : MethodId} {args : Array Value} {below : List Frame} {meth : Method} {c : Code} {H : Heap} {locs : List Loc} {cells slots : Nat} {Q : State → Prop} {cc : ByteArray} {nL pc : Nat} {ls : Array Slot} {rest : List Value} {own : String} {D : va_G} {A : Nat → Prop} {tys : List (ClassId × FieldType)} {ad ks : List Nat} {P : sgPm} {H0 : Heap} {index : Nat} {base : Nat} {st0 : List Value} {a : Nat}
theorem al_50m  {i : Int32} {mr : Int} (X : CallFix p m c cc nL s args sg_tbl own) (hK : va_K D vwCl tys s) (hG : sgG (KM mr P) D vwCl A tys ad ks H) (ha : isK ad ks 50 a) (hin : vp_in i 7) (hdg : decode cc pc = .ok (.iaload, 1)) (kk : ∀ x : Int32, okV ad ks ((sg_rr mr : Nat → sgT) i.toNatClampNeg) (.int x) → W p l e R s m args below meth c H locs cells slots Q (F0 m (pc + 1) ls (.int x :: rest))) : W p l e R s m args below meth c H locs cells slots Q (F0 m pc ls (.int i :: .ref a :: rest)) :=
  sg_iald X hK hG ha (k := 50) rfl hin hdg kk
set_option maxHeartbeats 8000000 in
set_option maxRecDepth 100000 in
theorem m_X12_usual_k0 (l : Launch) {D : va_G} {base : Nat} {tys : List (ClassId × FieldType)} {ad ks : List Nat} {P : sgPm} {Hx : Heap} (x0 : Int32) (h0 : iv 115 115 x0) (x1 : Int32) (h1 : iv 0 0 x1) : sgPi l (KT P) D vwCl base tys ad ks Hx yX12_usual cX12_usual 2 (some .int) ({ frames := 0, cells := 0, slots := 0, locals := 0 }) [.int x0, .int x1] (fun r : Int32 => iv 5 5 r) := by
  refine sg_ofP (Pq := fun Hx => va_Qi (fun r (_ : Unit) => (fun r : Int32 => iv 5 5 r) r) (fun _ t => t.heap = Hx) (fun _ : Nat => False)) (by decide +kernel) (Nat.le_of_ble_eq_true rfl) (fun p e s m below meth c X hr hlk hb hK hC hG ls hl => ?_)
  have hS : va_S (fun _ : Nat => False) s.heap s.heap [] := va_S.rf
  have hl : lv_has ls 2 [(0, .int x0), (1, .int x1)] := hl
  refine lv_iload_n X.1 X.2.1 dX12_usual_0 rfl (lv_at hl 0 rfl) ?_
  refine lv_bipush (v := 115) X.1 X.2.1 dX12_usual_1 (by decide +kernel) ?_
  refine lv_icmp_eq (tgt := 8) X.1 X.2.1 dX12_usual_3 (by decide) (fun c1 => ?_) (fun c1 => ?_)
  · refine lv_iload_n X.1 X.2.1 dX12_usual_8 rfl (lv_at hl 1 rfl) ?_
    refine lv_if_ne (tgt := 16) X.1 X.2.1 dX12_usual_9 (by decide) (fun c2 => ?_) (fun c2 => ?_)
    · exact ((c2 (iv_one h1 (iv_c 0 (a := 0) (b := 0) (by decide +kernel)) (by decide +kernel)))).elim
    · refine lv_iconst (v := 5) X.1 X.2.1 dX12_usual_12 (by decide +kernel) ?_
      refine lv_goto (tgt := 54) X.1 X.2.1 dX12_usual_13 (by decide) ?_
      exact sg_iretP X hr hlk hS (iv_c 5 (a := 5) (b := 5) (by decide +kernel)) dX12_usual_54
  · exact ((c1 (iv_one h0 (iv_c 115 (a := 115) (b := 115) (by decide +kernel)) (by decide +kernel)))).elim

theorem ca_X12_usual_k0   (X : CallFix p m c cc nL s args sg_tbl own) (hK : va_K D vwCl tys s) (hG : sgG (KT P) D vwCl (fun q : Nat => base ≤ q) tys ad ks H) (hC : sgC base s) (hA : ∀ q : Nat, A q → base ≤ q) (hS : va_S A s.heap H locs) (hb : base ≤ s.heap.size) (x0 : Int32) (h0 : iv 115 115 x0) (x1 : Int32) (h1 : iv 0 0 x1) (hl : Cond.methodLink own index yX12_usual ∈ sg_tbl) (hsize : ls.size = nL) (hst : st0 = [.int x0, .int x1].reverse ++ rest) (hW : (rest.map fun v => v.category).sum ≤ 8) (hR : 1 ≤ R.frames ∧ 21 ≤ R.locals) (hf : cells ≤ R.cells ∧ slots ≤ R.slots) (hdg : decode cc pc = .ok (.invokestatic index, 3)) (kk : ∀ (r : Int32) (locs1 : List Loc), (fun r : Int32 => iv 5 5 r) r → va_S A s.heap H locs1 → W p l e R s m args below meth c H locs1 cells slots Q (F0 m (pc + 3) ls (.int r :: rest))) : W p l e R s m args below meth c H locs cells slots Q (F0 m pc ls st0) :=
  sg_callPSi X hK hG hC hA hS hb (m_X12_usual_k0 l x0 h0 x1 h1) wl_7_132 wl_1_13 wl_7_131 (n := 2) (by decide +kernel) rfl rfl rfl hl hsize hst hW hR hf hdg kk

set_option maxHeartbeats 8000000 in
set_option maxRecDepth 100000 in
theorem m_X12_leastOf_k0 (l : Launch) {D : va_G} {base : Nat} {tys : List (ClassId × FieldType)} {ad ks : List Nat} {P : sgPm} {Hx : Heap} (x0 : Int32) (h0 : iv 115 115 x0) (x1 : Int32) (h1 : iv 0 0 x1) : sgPi l (KT P) D vwCl base tys ad ks Hx yX12_leastOf cX12_leastOf 2 (some .int) ({ frames := 0, cells := 0, slots := 0, locals := 0 }) [.int x0, .int x1] (fun r : Int32 => iv 1 1 r) := by
  refine sg_ofP (Pq := fun Hx => va_Qi (fun r (_ : Unit) => (fun r : Int32 => iv 1 1 r) r) (fun _ t => t.heap = Hx) (fun _ : Nat => False)) (by decide +kernel) (Nat.le_of_ble_eq_true rfl) (fun p e s m below meth c X hr hlk hb hK hC hG ls hl => ?_)
  have hS : va_S (fun _ : Nat => False) s.heap s.heap [] := va_S.rf
  have hl : lv_has ls 2 [(0, .int x0), (1, .int x1)] := hl
  refine lv_iload_n X.1 X.2.1 dX12_leastOf_0 rfl (lv_at hl 0 rfl) ?_
  refine lv_bipush (v := 115) X.1 X.2.1 dX12_leastOf_1 (by decide +kernel) ?_
  refine lv_icmp_ne (tgt := 24) X.1 X.2.1 dX12_leastOf_3 (by decide) (fun c1 => ?_) (fun c1 => ?_)
  · exact ((c1 (iv_one h0 (iv_c 115 (a := 115) (b := 115) (by decide +kernel)) (by decide +kernel)))).elim
  · refine lv_iload_n X.1 X.2.1 dX12_leastOf_6 rfl (lv_at hl 1 rfl) ?_
    refine lv_iconst (v := 4) X.1 X.2.1 dX12_leastOf_7 (by decide +kernel) ?_
    refine lv_icmp_ge (tgt := 24) X.1 X.2.1 dX12_leastOf_8 (by decide) (fun c2 => ?_) (fun c2 => ?_)
    · exact ((iv_no (iv_le (b' := 0) c2 (iv_c 4 (a := 4) (b := 4) (by decide +kernel)) h1 (by decide +kernel)) (by decide +kernel))).elim
    · refine lv_iload_n X.1 X.2.1 dX12_leastOf_11 rfl (lv_at hl 1 rfl) ?_
      refine lv_iconst (v := 2) X.1 X.2.1 dX12_leastOf_12 (by decide +kernel) ?_
      refine lv_icmp_ne (tgt := 20) X.1 X.2.1 dX12_leastOf_13 (by decide) (fun c3 => ?_) (fun c3 => ?_)
      · refine lv_iconst (v := 1) X.1 X.2.1 dX12_leastOf_20 (by decide +kernel) ?_
        refine lv_goto (tgt := 25) X.1 X.2.1 dX12_leastOf_21 (by decide) ?_
        exact sg_iretP X hr hlk hS (iv_c 1 (a := 1) (b := 1) (by decide +kernel)) dX12_leastOf_25
      · exact ((iv_no (a := 2) (b := 0) (iv_eqm c3 h1 (iv_c 2 (a := 2) (b := 2) (by decide +kernel)) (by decide +kernel)) (by decide +kernel))).elim

theorem ca_X12_leastOf_k0   (X : CallFix p m c cc nL s args sg_tbl own) (hK : va_K D vwCl tys s) (hG : sgG (KT P) D vwCl (fun q : Nat => base ≤ q) tys ad ks H) (hC : sgC base s) (hA : ∀ q : Nat, A q → base ≤ q) (hS : va_S A s.heap H locs) (hb : base ≤ s.heap.size) (x0 : Int32) (h0 : iv 115 115 x0) (x1 : Int32) (h1 : iv 0 0 x1) (hl : Cond.methodLink own index yX12_leastOf ∈ sg_tbl) (hsize : ls.size = nL) (hst : st0 = [.int x0, .int x1].reverse ++ rest) (hW : (rest.map fun v => v.category).sum ≤ 8) (hR : 1 ≤ R.frames ∧ 21 ≤ R.locals) (hf : cells ≤ R.cells ∧ slots ≤ R.slots) (hdg : decode cc pc = .ok (.invokestatic index, 3)) (kk : ∀ (r : Int32) (locs1 : List Loc), (fun r : Int32 => iv 1 1 r) r → va_S A s.heap H locs1 → W p l e R s m args below meth c H locs1 cells slots Q (F0 m (pc + 3) ls (.int r :: rest))) : W p l e R s m args below meth c H locs cells slots Q (F0 m pc ls st0) :=
  sg_callPSi X hK hG hC hA hS hb (m_X12_leastOf_k0 l x0 h0 x1 h1) wl_7_179 wl_1_13 wl_7_178 (n := 2) (by decide +kernel) rfl rfl rfl hl hsize hst hW hR hf hdg kk

set_option maxHeartbeats 8000000 in
set_option maxRecDepth 100000 in
theorem m_X12_mostOf_k0 (l : Launch) {D : va_G} {base : Nat} {tys : List (ClassId × FieldType)} {ad ks : List Nat} {P : sgPm} {Hx : Heap} (x0 : Int32) (h0 : iv 115 115 x0) (x1 : Int32) (h1 : iv 0 0 x1) : sgPi l (KT P) D vwCl base tys ad ks Hx yX12_mostOf cX12_mostOf 2 (some .int) ({ frames := 0, cells := 0, slots := 0, locals := 0 }) [.int x0, .int x1] (fun r : Int32 => iv 6 6 r) := by
  refine sg_ofP (Pq := fun Hx => va_Qi (fun r (_ : Unit) => (fun r : Int32 => iv 6 6 r) r) (fun _ t => t.heap = Hx) (fun _ : Nat => False)) (by decide +kernel) (Nat.le_of_ble_eq_true rfl) (fun p e s m below meth c X hr hlk hb hK hC hG ls hl => ?_)
  have hS : va_S (fun _ : Nat => False) s.heap s.heap [] := va_S.rf
  have hl : lv_has ls 2 [(0, .int x0), (1, .int x1)] := hl
  refine lv_iload_n X.1 X.2.1 dX12_mostOf_0 rfl (lv_at hl 0 rfl) ?_
  refine lv_bipush (v := 115) X.1 X.2.1 dX12_mostOf_1 (by decide +kernel) ?_
  refine lv_icmp_eq (tgt := 9) X.1 X.2.1 dX12_mostOf_3 (by decide) (fun c1 => ?_) (fun c1 => ?_)
  · refine lv_iload_n X.1 X.2.1 dX12_mostOf_9 rfl (lv_at hl 1 rfl) ?_
    refine lv_if_ne (tgt := 18) X.1 X.2.1 dX12_mostOf_10 (by decide) (fun c2 => ?_) (fun c2 => ?_)
    · exact ((c2 (iv_one h1 (iv_c 0 (a := 0) (b := 0) (by decide +kernel)) (by decide +kernel)))).elim
    · refine lv_bipush (v := 6) X.1 X.2.1 dX12_mostOf_13 (by decide +kernel) ?_
      refine lv_goto (tgt := 49) X.1 X.2.1 dX12_mostOf_15 (by decide) ?_
      exact sg_iretP X hr hlk hS (iv_c 6 (a := 6) (b := 6) (by decide +kernel)) dX12_mostOf_49
  · exact ((c1 (iv_one h0 (iv_c 115 (a := 115) (b := 115) (by decide +kernel)) (by decide +kernel)))).elim

theorem ca_X12_mostOf_k0   (X : CallFix p m c cc nL s args sg_tbl own) (hK : va_K D vwCl tys s) (hG : sgG (KT P) D vwCl (fun q : Nat => base ≤ q) tys ad ks H) (hC : sgC base s) (hA : ∀ q : Nat, A q → base ≤ q) (hS : va_S A s.heap H locs) (hb : base ≤ s.heap.size) (x0 : Int32) (h0 : iv 115 115 x0) (x1 : Int32) (h1 : iv 0 0 x1) (hl : Cond.methodLink own index yX12_mostOf ∈ sg_tbl) (hsize : ls.size = nL) (hst : st0 = [.int x0, .int x1].reverse ++ rest) (hW : (rest.map fun v => v.category).sum ≤ 8) (hR : 1 ≤ R.frames ∧ 21 ≤ R.locals) (hf : cells ≤ R.cells ∧ slots ≤ R.slots) (hdg : decode cc pc = .ok (.invokestatic index, 3)) (kk : ∀ (r : Int32) (locs1 : List Loc), (fun r : Int32 => iv 6 6 r) r → va_S A s.heap H locs1 → W p l e R s m args below meth c H locs1 cells slots Q (F0 m (pc + 3) ls (.int r :: rest))) : W p l e R s m args below meth c H locs cells slots Q (F0 m pc ls st0) :=
  sg_callPSi X hK hG hC hA hS hb (m_X12_mostOf_k0 l x0 h0 x1 h1) wl_7_182 wl_1_13 wl_7_181 (n := 2) (by decide +kernel) rfl rfl rfl hl hsize hst hW hR hf hdg kk

set_option maxHeartbeats 8000000 in
set_option maxRecDepth 100000 in
theorem m_X12_usual_k1 (l : Launch) {D : va_G} {base : Nat} {tys : List (ClassId × FieldType)} {ad ks : List Nat} {P : sgPm} {Hx : Heap} (x0 : Int32) (h0 : iv 115 115 x0) (x1 : Int32) (h1 : iv 1 1 x1) : sgPi l (KT P) D vwCl base tys ad ks Hx yX12_usual cX12_usual 2 (some .int) ({ frames := 0, cells := 0, slots := 0, locals := 0 }) [.int x0, .int x1] (fun r : Int32 => iv 4 4 r) := by
  refine sg_ofP (Pq := fun Hx => va_Qi (fun r (_ : Unit) => (fun r : Int32 => iv 4 4 r) r) (fun _ t => t.heap = Hx) (fun _ : Nat => False)) (by decide +kernel) (Nat.le_of_ble_eq_true rfl) (fun p e s m below meth c X hr hlk hb hK hC hG ls hl => ?_)
  have hS : va_S (fun _ : Nat => False) s.heap s.heap [] := va_S.rf
  have hl : lv_has ls 2 [(0, .int x0), (1, .int x1)] := hl
  refine lv_iload_n X.1 X.2.1 dX12_usual_0 rfl (lv_at hl 0 rfl) ?_
  refine lv_bipush (v := 115) X.1 X.2.1 dX12_usual_1 (by decide +kernel) ?_
  refine lv_icmp_eq (tgt := 8) X.1 X.2.1 dX12_usual_3 (by decide) (fun c1 => ?_) (fun c1 => ?_)
  · refine lv_iload_n X.1 X.2.1 dX12_usual_8 rfl (lv_at hl 1 rfl) ?_
    refine lv_if_ne (tgt := 16) X.1 X.2.1 dX12_usual_9 (by decide) (fun c2 => ?_) (fun c2 => ?_)
    · refine lv_iload_n X.1 X.2.1 dX12_usual_16 rfl (lv_at hl 1 rfl) ?_
      refine lv_iconst (v := 1) X.1 X.2.1 dX12_usual_17 (by decide +kernel) ?_
      refine lv_icmp_ne (tgt := 25) X.1 X.2.1 dX12_usual_18 (by decide) (fun c3 => ?_) (fun c3 => ?_)
      · exact ((c3 (iv_one h1 (iv_c 1 (a := 1) (b := 1) (by decide +kernel)) (by decide +kernel)))).elim
      · refine lv_iconst (v := 4) X.1 X.2.1 dX12_usual_21 (by decide +kernel) ?_
        refine lv_goto (tgt := 54) X.1 X.2.1 dX12_usual_22 (by decide) ?_
        exact sg_iretP X hr hlk hS (iv_c 4 (a := 4) (b := 4) (by decide +kernel)) dX12_usual_54
    · exact ((iv_no (a := 1) (b := 0) (iv_eqm c2 h1 (iv_c 0 (a := 0) (b := 0) (by decide +kernel)) (by decide +kernel)) (by decide +kernel))).elim
  · exact ((c1 (iv_one h0 (iv_c 115 (a := 115) (b := 115) (by decide +kernel)) (by decide +kernel)))).elim

theorem ca_X12_usual_k1   (X : CallFix p m c cc nL s args sg_tbl own) (hK : va_K D vwCl tys s) (hG : sgG (KT P) D vwCl (fun q : Nat => base ≤ q) tys ad ks H) (hC : sgC base s) (hA : ∀ q : Nat, A q → base ≤ q) (hS : va_S A s.heap H locs) (hb : base ≤ s.heap.size) (x0 : Int32) (h0 : iv 115 115 x0) (x1 : Int32) (h1 : iv 1 1 x1) (hl : Cond.methodLink own index yX12_usual ∈ sg_tbl) (hsize : ls.size = nL) (hst : st0 = [.int x0, .int x1].reverse ++ rest) (hW : (rest.map fun v => v.category).sum ≤ 8) (hR : 1 ≤ R.frames ∧ 21 ≤ R.locals) (hf : cells ≤ R.cells ∧ slots ≤ R.slots) (hdg : decode cc pc = .ok (.invokestatic index, 3)) (kk : ∀ (r : Int32) (locs1 : List Loc), (fun r : Int32 => iv 4 4 r) r → va_S A s.heap H locs1 → W p l e R s m args below meth c H locs1 cells slots Q (F0 m (pc + 3) ls (.int r :: rest))) : W p l e R s m args below meth c H locs cells slots Q (F0 m pc ls st0) :=
  sg_callPSi X hK hG hC hA hS hb (m_X12_usual_k1 l x0 h0 x1 h1) wl_7_132 wl_1_13 wl_7_131 (n := 2) (by decide +kernel) rfl rfl rfl hl hsize hst hW hR hf hdg kk

set_option maxHeartbeats 8000000 in
set_option maxRecDepth 100000 in
theorem m_X12_leastOf_k1 (l : Launch) {D : va_G} {base : Nat} {tys : List (ClassId × FieldType)} {ad ks : List Nat} {P : sgPm} {Hx : Heap} (x0 : Int32) (h0 : iv 115 115 x0) (x1 : Int32) (h1 : iv 1 1 x1) : sgPi l (KT P) D vwCl base tys ad ks Hx yX12_leastOf cX12_leastOf 2 (some .int) ({ frames := 0, cells := 0, slots := 0, locals := 0 }) [.int x0, .int x1] (fun r : Int32 => iv 1 1 r) := by
  refine sg_ofP (Pq := fun Hx => va_Qi (fun r (_ : Unit) => (fun r : Int32 => iv 1 1 r) r) (fun _ t => t.heap = Hx) (fun _ : Nat => False)) (by decide +kernel) (Nat.le_of_ble_eq_true rfl) (fun p e s m below meth c X hr hlk hb hK hC hG ls hl => ?_)
  have hS : va_S (fun _ : Nat => False) s.heap s.heap [] := va_S.rf
  have hl : lv_has ls 2 [(0, .int x0), (1, .int x1)] := hl
  refine lv_iload_n X.1 X.2.1 dX12_leastOf_0 rfl (lv_at hl 0 rfl) ?_
  refine lv_bipush (v := 115) X.1 X.2.1 dX12_leastOf_1 (by decide +kernel) ?_
  refine lv_icmp_ne (tgt := 24) X.1 X.2.1 dX12_leastOf_3 (by decide) (fun c1 => ?_) (fun c1 => ?_)
  · exact ((c1 (iv_one h0 (iv_c 115 (a := 115) (b := 115) (by decide +kernel)) (by decide +kernel)))).elim
  · refine lv_iload_n X.1 X.2.1 dX12_leastOf_6 rfl (lv_at hl 1 rfl) ?_
    refine lv_iconst (v := 4) X.1 X.2.1 dX12_leastOf_7 (by decide +kernel) ?_
    refine lv_icmp_ge (tgt := 24) X.1 X.2.1 dX12_leastOf_8 (by decide) (fun c2 => ?_) (fun c2 => ?_)
    · exact ((iv_no (iv_le (b' := 1) c2 (iv_c 4 (a := 4) (b := 4) (by decide +kernel)) h1 (by decide +kernel)) (by decide +kernel))).elim
    · refine lv_iload_n X.1 X.2.1 dX12_leastOf_11 rfl (lv_at hl 1 rfl) ?_
      refine lv_iconst (v := 2) X.1 X.2.1 dX12_leastOf_12 (by decide +kernel) ?_
      refine lv_icmp_ne (tgt := 20) X.1 X.2.1 dX12_leastOf_13 (by decide) (fun c3 => ?_) (fun c3 => ?_)
      · refine lv_iconst (v := 1) X.1 X.2.1 dX12_leastOf_20 (by decide +kernel) ?_
        refine lv_goto (tgt := 25) X.1 X.2.1 dX12_leastOf_21 (by decide) ?_
        exact sg_iretP X hr hlk hS (iv_c 1 (a := 1) (b := 1) (by decide +kernel)) dX12_leastOf_25
      · exact ((iv_no (a := 2) (b := 1) (iv_eqm c3 h1 (iv_c 2 (a := 2) (b := 2) (by decide +kernel)) (by decide +kernel)) (by decide +kernel))).elim

theorem ca_X12_leastOf_k1   (X : CallFix p m c cc nL s args sg_tbl own) (hK : va_K D vwCl tys s) (hG : sgG (KT P) D vwCl (fun q : Nat => base ≤ q) tys ad ks H) (hC : sgC base s) (hA : ∀ q : Nat, A q → base ≤ q) (hS : va_S A s.heap H locs) (hb : base ≤ s.heap.size) (x0 : Int32) (h0 : iv 115 115 x0) (x1 : Int32) (h1 : iv 1 1 x1) (hl : Cond.methodLink own index yX12_leastOf ∈ sg_tbl) (hsize : ls.size = nL) (hst : st0 = [.int x0, .int x1].reverse ++ rest) (hW : (rest.map fun v => v.category).sum ≤ 8) (hR : 1 ≤ R.frames ∧ 21 ≤ R.locals) (hf : cells ≤ R.cells ∧ slots ≤ R.slots) (hdg : decode cc pc = .ok (.invokestatic index, 3)) (kk : ∀ (r : Int32) (locs1 : List Loc), (fun r : Int32 => iv 1 1 r) r → va_S A s.heap H locs1 → W p l e R s m args below meth c H locs1 cells slots Q (F0 m (pc + 3) ls (.int r :: rest))) : W p l e R s m args below meth c H locs cells slots Q (F0 m pc ls st0) :=
  sg_callPSi X hK hG hC hA hS hb (m_X12_leastOf_k1 l x0 h0 x1 h1) wl_7_179 wl_1_13 wl_7_178 (n := 2) (by decide +kernel) rfl rfl rfl hl hsize hst hW hR hf hdg kk

set_option maxHeartbeats 8000000 in
set_option maxRecDepth 100000 in
theorem m_X12_mostOf_k1 (l : Launch) {D : va_G} {base : Nat} {tys : List (ClassId × FieldType)} {ad ks : List Nat} {P : sgPm} {Hx : Heap} (x0 : Int32) (h0 : iv 115 115 x0) (x1 : Int32) (h1 : iv 1 1 x1) : sgPi l (KT P) D vwCl base tys ad ks Hx yX12_mostOf cX12_mostOf 2 (some .int) ({ frames := 0, cells := 0, slots := 0, locals := 0 }) [.int x0, .int x1] (fun r : Int32 => iv 5 5 r) := by
  refine sg_ofP (Pq := fun Hx => va_Qi (fun r (_ : Unit) => (fun r : Int32 => iv 5 5 r) r) (fun _ t => t.heap = Hx) (fun _ : Nat => False)) (by decide +kernel) (Nat.le_of_ble_eq_true rfl) (fun p e s m below meth c X hr hlk hb hK hC hG ls hl => ?_)
  have hS : va_S (fun _ : Nat => False) s.heap s.heap [] := va_S.rf
  have hl : lv_has ls 2 [(0, .int x0), (1, .int x1)] := hl
  refine lv_iload_n X.1 X.2.1 dX12_mostOf_0 rfl (lv_at hl 0 rfl) ?_
  refine lv_bipush (v := 115) X.1 X.2.1 dX12_mostOf_1 (by decide +kernel) ?_
  refine lv_icmp_eq (tgt := 9) X.1 X.2.1 dX12_mostOf_3 (by decide) (fun c1 => ?_) (fun c1 => ?_)
  · refine lv_iload_n X.1 X.2.1 dX12_mostOf_9 rfl (lv_at hl 1 rfl) ?_
    refine lv_if_ne (tgt := 18) X.1 X.2.1 dX12_mostOf_10 (by decide) (fun c2 => ?_) (fun c2 => ?_)
    · refine lv_iload_n X.1 X.2.1 dX12_mostOf_18 rfl (lv_at hl 1 rfl) ?_
      refine lv_iconst (v := 1) X.1 X.2.1 dX12_mostOf_19 (by decide +kernel) ?_
      have B4_33 : ∀ (locs : List Loc) (ls : Array Slot), va_S (fun _ : Nat => False) s.heap s.heap locs → lv_has ls 2 [] → W p l e (headSpec (Cond.code yX12_mostOf cX12_mostOf 2 (some .int) :: sg_tbl) ({ frames := 0, cells := 0, slots := 0, locals := 0 })).room s m #[.int x0, .int x1] below meth c s.heap locs 0 0 (MQ below (va_Qi (fun r (_ : Unit) => (fun r : Int32 => iv 5 5 r) r) (fun _ t => t.heap = s.heap) (fun _ : Nat => False)) #[.int x0, .int x1] s 0 0 (fun _ : Nat => False)) (F0 m 33 ls []) := by
        intro locs ls hS hl
        refine lv_iconst (v := 5) X.1 X.2.1 dX12_mostOf_33 (by decide +kernel) ?_
        refine lv_goto (tgt := 49) X.1 X.2.1 dX12_mostOf_34 (by decide) ?_
        exact sg_iretP X hr hlk hS (iv_c 5 (a := 5) (b := 5) (by decide +kernel)) dX12_mostOf_49
      refine lv_icmp_eq (tgt := 33) X.1 X.2.1 dX12_mostOf_20 (by decide) (fun c3 => ?_) (fun c3 => ?_)
      · exact B4_33 _ _ hS (lv_sub hl [] rfl)
      · exact ((c3 (iv_one h1 (iv_c 1 (a := 1) (b := 1) (by decide +kernel)) (by decide +kernel)))).elim
    · exact ((iv_no (a := 1) (b := 0) (iv_eqm c2 h1 (iv_c 0 (a := 0) (b := 0) (by decide +kernel)) (by decide +kernel)) (by decide +kernel))).elim
  · exact ((c1 (iv_one h0 (iv_c 115 (a := 115) (b := 115) (by decide +kernel)) (by decide +kernel)))).elim

theorem ca_X12_mostOf_k1   (X : CallFix p m c cc nL s args sg_tbl own) (hK : va_K D vwCl tys s) (hG : sgG (KT P) D vwCl (fun q : Nat => base ≤ q) tys ad ks H) (hC : sgC base s) (hA : ∀ q : Nat, A q → base ≤ q) (hS : va_S A s.heap H locs) (hb : base ≤ s.heap.size) (x0 : Int32) (h0 : iv 115 115 x0) (x1 : Int32) (h1 : iv 1 1 x1) (hl : Cond.methodLink own index yX12_mostOf ∈ sg_tbl) (hsize : ls.size = nL) (hst : st0 = [.int x0, .int x1].reverse ++ rest) (hW : (rest.map fun v => v.category).sum ≤ 8) (hR : 1 ≤ R.frames ∧ 21 ≤ R.locals) (hf : cells ≤ R.cells ∧ slots ≤ R.slots) (hdg : decode cc pc = .ok (.invokestatic index, 3)) (kk : ∀ (r : Int32) (locs1 : List Loc), (fun r : Int32 => iv 5 5 r) r → va_S A s.heap H locs1 → W p l e R s m args below meth c H locs1 cells slots Q (F0 m (pc + 3) ls (.int r :: rest))) : W p l e R s m args below meth c H locs cells slots Q (F0 m pc ls st0) :=
  sg_callPSi X hK hG hC hA hS hb (m_X12_mostOf_k1 l x0 h0 x1 h1) wl_7_182 wl_1_13 wl_7_181 (n := 2) (by decide +kernel) rfl rfl rfl hl hsize hst hW hR hf hdg kk

set_option maxHeartbeats 8000000 in
set_option maxRecDepth 100000 in
theorem m_X12_usual_k2 (l : Launch) {D : va_G} {base : Nat} {tys : List (ClassId × FieldType)} {ad ks : List Nat} {P : sgPm} {Hx : Heap} (x0 : Int32) (h0 : iv 115 115 x0) (x1 : Int32) (h1 : iv 2 2 x1) : sgPi l (KT P) D vwCl base tys ad ks Hx yX12_usual cX12_usual 2 (some .int) ({ frames := 0, cells := 0, slots := 0, locals := 0 }) [.int x0, .int x1] (fun r : Int32 => iv 3 3 r) := by
  refine sg_ofP (Pq := fun Hx => va_Qi (fun r (_ : Unit) => (fun r : Int32 => iv 3 3 r) r) (fun _ t => t.heap = Hx) (fun _ : Nat => False)) (by decide +kernel) (Nat.le_of_ble_eq_true rfl) (fun p e s m below meth c X hr hlk hb hK hC hG ls hl => ?_)
  have hS : va_S (fun _ : Nat => False) s.heap s.heap [] := va_S.rf
  have hl : lv_has ls 2 [(0, .int x0), (1, .int x1)] := hl
  refine lv_iload_n X.1 X.2.1 dX12_usual_0 rfl (lv_at hl 0 rfl) ?_
  refine lv_bipush (v := 115) X.1 X.2.1 dX12_usual_1 (by decide +kernel) ?_
  refine lv_icmp_eq (tgt := 8) X.1 X.2.1 dX12_usual_3 (by decide) (fun c1 => ?_) (fun c1 => ?_)
  · refine lv_iload_n X.1 X.2.1 dX12_usual_8 rfl (lv_at hl 1 rfl) ?_
    refine lv_if_ne (tgt := 16) X.1 X.2.1 dX12_usual_9 (by decide) (fun c2 => ?_) (fun c2 => ?_)
    · refine lv_iload_n X.1 X.2.1 dX12_usual_16 rfl (lv_at hl 1 rfl) ?_
      refine lv_iconst (v := 1) X.1 X.2.1 dX12_usual_17 (by decide +kernel) ?_
      refine lv_icmp_ne (tgt := 25) X.1 X.2.1 dX12_usual_18 (by decide) (fun c3 => ?_) (fun c3 => ?_)
      · refine lv_iload_n X.1 X.2.1 dX12_usual_25 rfl (lv_at hl 1 rfl) ?_
        refine lv_iconst (v := 2) X.1 X.2.1 dX12_usual_26 (by decide +kernel) ?_
        refine lv_icmp_ne (tgt := 34) X.1 X.2.1 dX12_usual_27 (by decide) (fun c4 => ?_) (fun c4 => ?_)
        · exact ((c4 (iv_one h1 (iv_c 2 (a := 2) (b := 2) (by decide +kernel)) (by decide +kernel)))).elim
        · refine lv_iconst (v := 3) X.1 X.2.1 dX12_usual_30 (by decide +kernel) ?_
          refine lv_goto (tgt := 54) X.1 X.2.1 dX12_usual_31 (by decide) ?_
          exact sg_iretP X hr hlk hS (iv_c 3 (a := 3) (b := 3) (by decide +kernel)) dX12_usual_54
      · exact ((iv_no (a := 2) (b := 1) (iv_eqm c3 h1 (iv_c 1 (a := 1) (b := 1) (by decide +kernel)) (by decide +kernel)) (by decide +kernel))).elim
    · exact ((iv_no (a := 2) (b := 0) (iv_eqm c2 h1 (iv_c 0 (a := 0) (b := 0) (by decide +kernel)) (by decide +kernel)) (by decide +kernel))).elim
  · exact ((c1 (iv_one h0 (iv_c 115 (a := 115) (b := 115) (by decide +kernel)) (by decide +kernel)))).elim

theorem ca_X12_usual_k2   (X : CallFix p m c cc nL s args sg_tbl own) (hK : va_K D vwCl tys s) (hG : sgG (KT P) D vwCl (fun q : Nat => base ≤ q) tys ad ks H) (hC : sgC base s) (hA : ∀ q : Nat, A q → base ≤ q) (hS : va_S A s.heap H locs) (hb : base ≤ s.heap.size) (x0 : Int32) (h0 : iv 115 115 x0) (x1 : Int32) (h1 : iv 2 2 x1) (hl : Cond.methodLink own index yX12_usual ∈ sg_tbl) (hsize : ls.size = nL) (hst : st0 = [.int x0, .int x1].reverse ++ rest) (hW : (rest.map fun v => v.category).sum ≤ 8) (hR : 1 ≤ R.frames ∧ 21 ≤ R.locals) (hf : cells ≤ R.cells ∧ slots ≤ R.slots) (hdg : decode cc pc = .ok (.invokestatic index, 3)) (kk : ∀ (r : Int32) (locs1 : List Loc), (fun r : Int32 => iv 3 3 r) r → va_S A s.heap H locs1 → W p l e R s m args below meth c H locs1 cells slots Q (F0 m (pc + 3) ls (.int r :: rest))) : W p l e R s m args below meth c H locs cells slots Q (F0 m pc ls st0) :=
  sg_callPSi X hK hG hC hA hS hb (m_X12_usual_k2 l x0 h0 x1 h1) wl_7_132 wl_1_13 wl_7_131 (n := 2) (by decide +kernel) rfl rfl rfl hl hsize hst hW hR hf hdg kk

set_option maxHeartbeats 8000000 in
set_option maxRecDepth 100000 in
theorem m_X12_leastOf_k2 (l : Launch) {D : va_G} {base : Nat} {tys : List (ClassId × FieldType)} {ad ks : List Nat} {P : sgPm} {Hx : Heap} (x0 : Int32) (h0 : iv 115 115 x0) (x1 : Int32) (h1 : iv 2 2 x1) : sgPi l (KT P) D vwCl base tys ad ks Hx yX12_leastOf cX12_leastOf 2 (some .int) ({ frames := 0, cells := 0, slots := 0, locals := 0 }) [.int x0, .int x1] (fun r : Int32 => iv 2 2 r) := by
  refine sg_ofP (Pq := fun Hx => va_Qi (fun r (_ : Unit) => (fun r : Int32 => iv 2 2 r) r) (fun _ t => t.heap = Hx) (fun _ : Nat => False)) (by decide +kernel) (Nat.le_of_ble_eq_true rfl) (fun p e s m below meth c X hr hlk hb hK hC hG ls hl => ?_)
  have hS : va_S (fun _ : Nat => False) s.heap s.heap [] := va_S.rf
  have hl : lv_has ls 2 [(0, .int x0), (1, .int x1)] := hl
  refine lv_iload_n X.1 X.2.1 dX12_leastOf_0 rfl (lv_at hl 0 rfl) ?_
  refine lv_bipush (v := 115) X.1 X.2.1 dX12_leastOf_1 (by decide +kernel) ?_
  refine lv_icmp_ne (tgt := 24) X.1 X.2.1 dX12_leastOf_3 (by decide) (fun c1 => ?_) (fun c1 => ?_)
  · exact ((c1 (iv_one h0 (iv_c 115 (a := 115) (b := 115) (by decide +kernel)) (by decide +kernel)))).elim
  · refine lv_iload_n X.1 X.2.1 dX12_leastOf_6 rfl (lv_at hl 1 rfl) ?_
    refine lv_iconst (v := 4) X.1 X.2.1 dX12_leastOf_7 (by decide +kernel) ?_
    refine lv_icmp_ge (tgt := 24) X.1 X.2.1 dX12_leastOf_8 (by decide) (fun c2 => ?_) (fun c2 => ?_)
    · exact ((iv_no (iv_le (b' := 2) c2 (iv_c 4 (a := 4) (b := 4) (by decide +kernel)) h1 (by decide +kernel)) (by decide +kernel))).elim
    · refine lv_iload_n X.1 X.2.1 dX12_leastOf_11 rfl (lv_at hl 1 rfl) ?_
      refine lv_iconst (v := 2) X.1 X.2.1 dX12_leastOf_12 (by decide +kernel) ?_
      refine lv_icmp_ne (tgt := 20) X.1 X.2.1 dX12_leastOf_13 (by decide) (fun c3 => ?_) (fun c3 => ?_)
      · exact ((c3 (iv_one h1 (iv_c 2 (a := 2) (b := 2) (by decide +kernel)) (by decide +kernel)))).elim
      · refine lv_iconst (v := 2) X.1 X.2.1 dX12_leastOf_16 (by decide +kernel) ?_
        refine lv_goto (tgt := 25) X.1 X.2.1 dX12_leastOf_17 (by decide) ?_
        exact sg_iretP X hr hlk hS (iv_c 2 (a := 2) (b := 2) (by decide +kernel)) dX12_leastOf_25

theorem ca_X12_leastOf_k2   (X : CallFix p m c cc nL s args sg_tbl own) (hK : va_K D vwCl tys s) (hG : sgG (KT P) D vwCl (fun q : Nat => base ≤ q) tys ad ks H) (hC : sgC base s) (hA : ∀ q : Nat, A q → base ≤ q) (hS : va_S A s.heap H locs) (hb : base ≤ s.heap.size) (x0 : Int32) (h0 : iv 115 115 x0) (x1 : Int32) (h1 : iv 2 2 x1) (hl : Cond.methodLink own index yX12_leastOf ∈ sg_tbl) (hsize : ls.size = nL) (hst : st0 = [.int x0, .int x1].reverse ++ rest) (hW : (rest.map fun v => v.category).sum ≤ 8) (hR : 1 ≤ R.frames ∧ 21 ≤ R.locals) (hf : cells ≤ R.cells ∧ slots ≤ R.slots) (hdg : decode cc pc = .ok (.invokestatic index, 3)) (kk : ∀ (r : Int32) (locs1 : List Loc), (fun r : Int32 => iv 2 2 r) r → va_S A s.heap H locs1 → W p l e R s m args below meth c H locs1 cells slots Q (F0 m (pc + 3) ls (.int r :: rest))) : W p l e R s m args below meth c H locs cells slots Q (F0 m pc ls st0) :=
  sg_callPSi X hK hG hC hA hS hb (m_X12_leastOf_k2 l x0 h0 x1 h1) wl_7_179 wl_1_13 wl_7_178 (n := 2) (by decide +kernel) rfl rfl rfl hl hsize hst hW hR hf hdg kk

set_option maxHeartbeats 8000000 in
set_option maxRecDepth 100000 in
theorem m_X12_mostOf_k2 (l : Launch) {D : va_G} {base : Nat} {tys : List (ClassId × FieldType)} {ad ks : List Nat} {P : sgPm} {Hx : Heap} (x0 : Int32) (h0 : iv 115 115 x0) (x1 : Int32) (h1 : iv 2 2 x1) : sgPi l (KT P) D vwCl base tys ad ks Hx yX12_mostOf cX12_mostOf 2 (some .int) ({ frames := 0, cells := 0, slots := 0, locals := 0 }) [.int x0, .int x1] (fun r : Int32 => iv 5 5 r) := by
  refine sg_ofP (Pq := fun Hx => va_Qi (fun r (_ : Unit) => (fun r : Int32 => iv 5 5 r) r) (fun _ t => t.heap = Hx) (fun _ : Nat => False)) (by decide +kernel) (Nat.le_of_ble_eq_true rfl) (fun p e s m below meth c X hr hlk hb hK hC hG ls hl => ?_)
  have hS : va_S (fun _ : Nat => False) s.heap s.heap [] := va_S.rf
  have hl : lv_has ls 2 [(0, .int x0), (1, .int x1)] := hl
  refine lv_iload_n X.1 X.2.1 dX12_mostOf_0 rfl (lv_at hl 0 rfl) ?_
  refine lv_bipush (v := 115) X.1 X.2.1 dX12_mostOf_1 (by decide +kernel) ?_
  refine lv_icmp_eq (tgt := 9) X.1 X.2.1 dX12_mostOf_3 (by decide) (fun c1 => ?_) (fun c1 => ?_)
  · refine lv_iload_n X.1 X.2.1 dX12_mostOf_9 rfl (lv_at hl 1 rfl) ?_
    refine lv_if_ne (tgt := 18) X.1 X.2.1 dX12_mostOf_10 (by decide) (fun c2 => ?_) (fun c2 => ?_)
    · refine lv_iload_n X.1 X.2.1 dX12_mostOf_18 rfl (lv_at hl 1 rfl) ?_
      refine lv_iconst (v := 1) X.1 X.2.1 dX12_mostOf_19 (by decide +kernel) ?_
      have B4_33 : ∀ (locs : List Loc) (ls : Array Slot), va_S (fun _ : Nat => False) s.heap s.heap locs → lv_has ls 2 [] → W p l e (headSpec (Cond.code yX12_mostOf cX12_mostOf 2 (some .int) :: sg_tbl) ({ frames := 0, cells := 0, slots := 0, locals := 0 })).room s m #[.int x0, .int x1] below meth c s.heap locs 0 0 (MQ below (va_Qi (fun r (_ : Unit) => (fun r : Int32 => iv 5 5 r) r) (fun _ t => t.heap = s.heap) (fun _ : Nat => False)) #[.int x0, .int x1] s 0 0 (fun _ : Nat => False)) (F0 m 33 ls []) := by
        intro locs ls hS hl
        refine lv_iconst (v := 5) X.1 X.2.1 dX12_mostOf_33 (by decide +kernel) ?_
        refine lv_goto (tgt := 49) X.1 X.2.1 dX12_mostOf_34 (by decide) ?_
        exact sg_iretP X hr hlk hS (iv_c 5 (a := 5) (b := 5) (by decide +kernel)) dX12_mostOf_49
      refine lv_icmp_eq (tgt := 33) X.1 X.2.1 dX12_mostOf_20 (by decide) (fun c3 => ?_) (fun c3 => ?_)
      · exact ((iv_no (a := 2) (b := 1) (iv_eqm c3 h1 (iv_c 1 (a := 1) (b := 1) (by decide +kernel)) (by decide +kernel)) (by decide +kernel))).elim
      · refine lv_iload_n X.1 X.2.1 dX12_mostOf_23 rfl (lv_at hl 1 rfl) ?_
        refine lv_iconst (v := 2) X.1 X.2.1 dX12_mostOf_24 (by decide +kernel) ?_
        refine lv_icmp_eq (tgt := 33) X.1 X.2.1 dX12_mostOf_25 (by decide) (fun c5 => ?_) (fun c5 => ?_)
        · exact B4_33 _ _ hS (lv_sub hl [] rfl)
        · exact ((c5 (iv_one h1 (iv_c 2 (a := 2) (b := 2) (by decide +kernel)) (by decide +kernel)))).elim
    · exact ((iv_no (a := 2) (b := 0) (iv_eqm c2 h1 (iv_c 0 (a := 0) (b := 0) (by decide +kernel)) (by decide +kernel)) (by decide +kernel))).elim
  · exact ((c1 (iv_one h0 (iv_c 115 (a := 115) (b := 115) (by decide +kernel)) (by decide +kernel)))).elim

theorem ca_X12_mostOf_k2   (X : CallFix p m c cc nL s args sg_tbl own) (hK : va_K D vwCl tys s) (hG : sgG (KT P) D vwCl (fun q : Nat => base ≤ q) tys ad ks H) (hC : sgC base s) (hA : ∀ q : Nat, A q → base ≤ q) (hS : va_S A s.heap H locs) (hb : base ≤ s.heap.size) (x0 : Int32) (h0 : iv 115 115 x0) (x1 : Int32) (h1 : iv 2 2 x1) (hl : Cond.methodLink own index yX12_mostOf ∈ sg_tbl) (hsize : ls.size = nL) (hst : st0 = [.int x0, .int x1].reverse ++ rest) (hW : (rest.map fun v => v.category).sum ≤ 8) (hR : 1 ≤ R.frames ∧ 21 ≤ R.locals) (hf : cells ≤ R.cells ∧ slots ≤ R.slots) (hdg : decode cc pc = .ok (.invokestatic index, 3)) (kk : ∀ (r : Int32) (locs1 : List Loc), (fun r : Int32 => iv 5 5 r) r → va_S A s.heap H locs1 → W p l e R s m args below meth c H locs1 cells slots Q (F0 m (pc + 3) ls (.int r :: rest))) : W p l e R s m args below meth c H locs cells slots Q (F0 m pc ls st0) :=
  sg_callPSi X hK hG hC hA hS hb (m_X12_mostOf_k2 l x0 h0 x1 h1) wl_7_182 wl_1_13 wl_7_181 (n := 2) (by decide +kernel) rfl rfl rfl hl hsize hst hW hR hf hdg kk

set_option maxHeartbeats 8000000 in
set_option maxRecDepth 100000 in
theorem m_X12_usual_k3 (l : Launch) {D : va_G} {base : Nat} {tys : List (ClassId × FieldType)} {ad ks : List Nat} {P : sgPm} {Hx : Heap} (x0 : Int32) (h0 : iv 115 115 x0) (x1 : Int32) (h1 : iv 3 3 x1) : sgPi l (KT P) D vwCl base tys ad ks Hx yX12_usual cX12_usual 2 (some .int) ({ frames := 0, cells := 0, slots := 0, locals := 0 }) [.int x0, .int x1] (fun r : Int32 => iv 2 2 r) := by
  refine sg_ofP (Pq := fun Hx => va_Qi (fun r (_ : Unit) => (fun r : Int32 => iv 2 2 r) r) (fun _ t => t.heap = Hx) (fun _ : Nat => False)) (by decide +kernel) (Nat.le_of_ble_eq_true rfl) (fun p e s m below meth c X hr hlk hb hK hC hG ls hl => ?_)
  have hS : va_S (fun _ : Nat => False) s.heap s.heap [] := va_S.rf
  have hl : lv_has ls 2 [(0, .int x0), (1, .int x1)] := hl
  refine lv_iload_n X.1 X.2.1 dX12_usual_0 rfl (lv_at hl 0 rfl) ?_
  refine lv_bipush (v := 115) X.1 X.2.1 dX12_usual_1 (by decide +kernel) ?_
  refine lv_icmp_eq (tgt := 8) X.1 X.2.1 dX12_usual_3 (by decide) (fun c1 => ?_) (fun c1 => ?_)
  · refine lv_iload_n X.1 X.2.1 dX12_usual_8 rfl (lv_at hl 1 rfl) ?_
    refine lv_if_ne (tgt := 16) X.1 X.2.1 dX12_usual_9 (by decide) (fun c2 => ?_) (fun c2 => ?_)
    · refine lv_iload_n X.1 X.2.1 dX12_usual_16 rfl (lv_at hl 1 rfl) ?_
      refine lv_iconst (v := 1) X.1 X.2.1 dX12_usual_17 (by decide +kernel) ?_
      refine lv_icmp_ne (tgt := 25) X.1 X.2.1 dX12_usual_18 (by decide) (fun c3 => ?_) (fun c3 => ?_)
      · refine lv_iload_n X.1 X.2.1 dX12_usual_25 rfl (lv_at hl 1 rfl) ?_
        refine lv_iconst (v := 2) X.1 X.2.1 dX12_usual_26 (by decide +kernel) ?_
        refine lv_icmp_ne (tgt := 34) X.1 X.2.1 dX12_usual_27 (by decide) (fun c4 => ?_) (fun c4 => ?_)
        · refine lv_iload_n X.1 X.2.1 dX12_usual_34 rfl (lv_at hl 1 rfl) ?_
          refine lv_iconst (v := 3) X.1 X.2.1 dX12_usual_35 (by decide +kernel) ?_
          refine lv_icmp_ne (tgt := 43) X.1 X.2.1 dX12_usual_36 (by decide) (fun c5 => ?_) (fun c5 => ?_)
          · exact ((c5 (iv_one h1 (iv_c 3 (a := 3) (b := 3) (by decide +kernel)) (by decide +kernel)))).elim
          · refine lv_iconst (v := 2) X.1 X.2.1 dX12_usual_39 (by decide +kernel) ?_
            refine lv_goto (tgt := 54) X.1 X.2.1 dX12_usual_40 (by decide) ?_
            exact sg_iretP X hr hlk hS (iv_c 2 (a := 2) (b := 2) (by decide +kernel)) dX12_usual_54
        · exact ((iv_no (a := 3) (b := 2) (iv_eqm c4 h1 (iv_c 2 (a := 2) (b := 2) (by decide +kernel)) (by decide +kernel)) (by decide +kernel))).elim
      · exact ((iv_no (a := 3) (b := 1) (iv_eqm c3 h1 (iv_c 1 (a := 1) (b := 1) (by decide +kernel)) (by decide +kernel)) (by decide +kernel))).elim
    · exact ((iv_no (a := 3) (b := 0) (iv_eqm c2 h1 (iv_c 0 (a := 0) (b := 0) (by decide +kernel)) (by decide +kernel)) (by decide +kernel))).elim
  · exact ((c1 (iv_one h0 (iv_c 115 (a := 115) (b := 115) (by decide +kernel)) (by decide +kernel)))).elim

theorem ca_X12_usual_k3   (X : CallFix p m c cc nL s args sg_tbl own) (hK : va_K D vwCl tys s) (hG : sgG (KT P) D vwCl (fun q : Nat => base ≤ q) tys ad ks H) (hC : sgC base s) (hA : ∀ q : Nat, A q → base ≤ q) (hS : va_S A s.heap H locs) (hb : base ≤ s.heap.size) (x0 : Int32) (h0 : iv 115 115 x0) (x1 : Int32) (h1 : iv 3 3 x1) (hl : Cond.methodLink own index yX12_usual ∈ sg_tbl) (hsize : ls.size = nL) (hst : st0 = [.int x0, .int x1].reverse ++ rest) (hW : (rest.map fun v => v.category).sum ≤ 8) (hR : 1 ≤ R.frames ∧ 21 ≤ R.locals) (hf : cells ≤ R.cells ∧ slots ≤ R.slots) (hdg : decode cc pc = .ok (.invokestatic index, 3)) (kk : ∀ (r : Int32) (locs1 : List Loc), (fun r : Int32 => iv 2 2 r) r → va_S A s.heap H locs1 → W p l e R s m args below meth c H locs1 cells slots Q (F0 m (pc + 3) ls (.int r :: rest))) : W p l e R s m args below meth c H locs cells slots Q (F0 m pc ls st0) :=
  sg_callPSi X hK hG hC hA hS hb (m_X12_usual_k3 l x0 h0 x1 h1) wl_7_132 wl_1_13 wl_7_131 (n := 2) (by decide +kernel) rfl rfl rfl hl hsize hst hW hR hf hdg kk

set_option maxHeartbeats 8000000 in
set_option maxRecDepth 100000 in
theorem m_X12_leastOf_k3 (l : Launch) {D : va_G} {base : Nat} {tys : List (ClassId × FieldType)} {ad ks : List Nat} {P : sgPm} {Hx : Heap} (x0 : Int32) (h0 : iv 115 115 x0) (x1 : Int32) (h1 : iv 3 3 x1) : sgPi l (KT P) D vwCl base tys ad ks Hx yX12_leastOf cX12_leastOf 2 (some .int) ({ frames := 0, cells := 0, slots := 0, locals := 0 }) [.int x0, .int x1] (fun r : Int32 => iv 1 1 r) := by
  refine sg_ofP (Pq := fun Hx => va_Qi (fun r (_ : Unit) => (fun r : Int32 => iv 1 1 r) r) (fun _ t => t.heap = Hx) (fun _ : Nat => False)) (by decide +kernel) (Nat.le_of_ble_eq_true rfl) (fun p e s m below meth c X hr hlk hb hK hC hG ls hl => ?_)
  have hS : va_S (fun _ : Nat => False) s.heap s.heap [] := va_S.rf
  have hl : lv_has ls 2 [(0, .int x0), (1, .int x1)] := hl
  refine lv_iload_n X.1 X.2.1 dX12_leastOf_0 rfl (lv_at hl 0 rfl) ?_
  refine lv_bipush (v := 115) X.1 X.2.1 dX12_leastOf_1 (by decide +kernel) ?_
  refine lv_icmp_ne (tgt := 24) X.1 X.2.1 dX12_leastOf_3 (by decide) (fun c1 => ?_) (fun c1 => ?_)
  · exact ((c1 (iv_one h0 (iv_c 115 (a := 115) (b := 115) (by decide +kernel)) (by decide +kernel)))).elim
  · refine lv_iload_n X.1 X.2.1 dX12_leastOf_6 rfl (lv_at hl 1 rfl) ?_
    refine lv_iconst (v := 4) X.1 X.2.1 dX12_leastOf_7 (by decide +kernel) ?_
    refine lv_icmp_ge (tgt := 24) X.1 X.2.1 dX12_leastOf_8 (by decide) (fun c2 => ?_) (fun c2 => ?_)
    · exact ((iv_no (iv_le (b' := 3) c2 (iv_c 4 (a := 4) (b := 4) (by decide +kernel)) h1 (by decide +kernel)) (by decide +kernel))).elim
    · refine lv_iload_n X.1 X.2.1 dX12_leastOf_11 rfl (lv_at hl 1 rfl) ?_
      refine lv_iconst (v := 2) X.1 X.2.1 dX12_leastOf_12 (by decide +kernel) ?_
      refine lv_icmp_ne (tgt := 20) X.1 X.2.1 dX12_leastOf_13 (by decide) (fun c3 => ?_) (fun c3 => ?_)
      · refine lv_iconst (v := 1) X.1 X.2.1 dX12_leastOf_20 (by decide +kernel) ?_
        refine lv_goto (tgt := 25) X.1 X.2.1 dX12_leastOf_21 (by decide) ?_
        exact sg_iretP X hr hlk hS (iv_c 1 (a := 1) (b := 1) (by decide +kernel)) dX12_leastOf_25
      · exact ((iv_no (a := 3) (b := 2) (iv_eqm c3 h1 (iv_c 2 (a := 2) (b := 2) (by decide +kernel)) (by decide +kernel)) (by decide +kernel))).elim

theorem ca_X12_leastOf_k3   (X : CallFix p m c cc nL s args sg_tbl own) (hK : va_K D vwCl tys s) (hG : sgG (KT P) D vwCl (fun q : Nat => base ≤ q) tys ad ks H) (hC : sgC base s) (hA : ∀ q : Nat, A q → base ≤ q) (hS : va_S A s.heap H locs) (hb : base ≤ s.heap.size) (x0 : Int32) (h0 : iv 115 115 x0) (x1 : Int32) (h1 : iv 3 3 x1) (hl : Cond.methodLink own index yX12_leastOf ∈ sg_tbl) (hsize : ls.size = nL) (hst : st0 = [.int x0, .int x1].reverse ++ rest) (hW : (rest.map fun v => v.category).sum ≤ 8) (hR : 1 ≤ R.frames ∧ 21 ≤ R.locals) (hf : cells ≤ R.cells ∧ slots ≤ R.slots) (hdg : decode cc pc = .ok (.invokestatic index, 3)) (kk : ∀ (r : Int32) (locs1 : List Loc), (fun r : Int32 => iv 1 1 r) r → va_S A s.heap H locs1 → W p l e R s m args below meth c H locs1 cells slots Q (F0 m (pc + 3) ls (.int r :: rest))) : W p l e R s m args below meth c H locs cells slots Q (F0 m pc ls st0) :=
  sg_callPSi X hK hG hC hA hS hb (m_X12_leastOf_k3 l x0 h0 x1 h1) wl_7_179 wl_1_13 wl_7_178 (n := 2) (by decide +kernel) rfl rfl rfl hl hsize hst hW hR hf hdg kk

set_option maxHeartbeats 8000000 in
set_option maxRecDepth 100000 in
theorem m_X12_mostOf_k3 (l : Launch) {D : va_G} {base : Nat} {tys : List (ClassId × FieldType)} {ad ks : List Nat} {P : sgPm} {Hx : Heap} (x0 : Int32) (h0 : iv 115 115 x0) (x1 : Int32) (h1 : iv 3 3 x1) : sgPi l (KT P) D vwCl base tys ad ks Hx yX12_mostOf cX12_mostOf 2 (some .int) ({ frames := 0, cells := 0, slots := 0, locals := 0 }) [.int x0, .int x1] (fun r : Int32 => iv 5 5 r) := by
  refine sg_ofP (Pq := fun Hx => va_Qi (fun r (_ : Unit) => (fun r : Int32 => iv 5 5 r) r) (fun _ t => t.heap = Hx) (fun _ : Nat => False)) (by decide +kernel) (Nat.le_of_ble_eq_true rfl) (fun p e s m below meth c X hr hlk hb hK hC hG ls hl => ?_)
  have hS : va_S (fun _ : Nat => False) s.heap s.heap [] := va_S.rf
  have hl : lv_has ls 2 [(0, .int x0), (1, .int x1)] := hl
  refine lv_iload_n X.1 X.2.1 dX12_mostOf_0 rfl (lv_at hl 0 rfl) ?_
  refine lv_bipush (v := 115) X.1 X.2.1 dX12_mostOf_1 (by decide +kernel) ?_
  refine lv_icmp_eq (tgt := 9) X.1 X.2.1 dX12_mostOf_3 (by decide) (fun c1 => ?_) (fun c1 => ?_)
  · refine lv_iload_n X.1 X.2.1 dX12_mostOf_9 rfl (lv_at hl 1 rfl) ?_
    refine lv_if_ne (tgt := 18) X.1 X.2.1 dX12_mostOf_10 (by decide) (fun c2 => ?_) (fun c2 => ?_)
    · refine lv_iload_n X.1 X.2.1 dX12_mostOf_18 rfl (lv_at hl 1 rfl) ?_
      refine lv_iconst (v := 1) X.1 X.2.1 dX12_mostOf_19 (by decide +kernel) ?_
      have B4_33 : ∀ (locs : List Loc) (ls : Array Slot), va_S (fun _ : Nat => False) s.heap s.heap locs → lv_has ls 2 [] → W p l e (headSpec (Cond.code yX12_mostOf cX12_mostOf 2 (some .int) :: sg_tbl) ({ frames := 0, cells := 0, slots := 0, locals := 0 })).room s m #[.int x0, .int x1] below meth c s.heap locs 0 0 (MQ below (va_Qi (fun r (_ : Unit) => (fun r : Int32 => iv 5 5 r) r) (fun _ t => t.heap = s.heap) (fun _ : Nat => False)) #[.int x0, .int x1] s 0 0 (fun _ : Nat => False)) (F0 m 33 ls []) := by
        intro locs ls hS hl
        refine lv_iconst (v := 5) X.1 X.2.1 dX12_mostOf_33 (by decide +kernel) ?_
        refine lv_goto (tgt := 49) X.1 X.2.1 dX12_mostOf_34 (by decide) ?_
        exact sg_iretP X hr hlk hS (iv_c 5 (a := 5) (b := 5) (by decide +kernel)) dX12_mostOf_49
      refine lv_icmp_eq (tgt := 33) X.1 X.2.1 dX12_mostOf_20 (by decide) (fun c3 => ?_) (fun c3 => ?_)
      · exact ((iv_no (a := 3) (b := 1) (iv_eqm c3 h1 (iv_c 1 (a := 1) (b := 1) (by decide +kernel)) (by decide +kernel)) (by decide +kernel))).elim
      · refine lv_iload_n X.1 X.2.1 dX12_mostOf_23 rfl (lv_at hl 1 rfl) ?_
        refine lv_iconst (v := 2) X.1 X.2.1 dX12_mostOf_24 (by decide +kernel) ?_
        refine lv_icmp_eq (tgt := 33) X.1 X.2.1 dX12_mostOf_25 (by decide) (fun c5 => ?_) (fun c5 => ?_)
        · exact ((iv_no (a := 3) (b := 2) (iv_eqm c5 h1 (iv_c 2 (a := 2) (b := 2) (by decide +kernel)) (by decide +kernel)) (by decide +kernel))).elim
        · refine lv_iload_n X.1 X.2.1 dX12_mostOf_28 rfl (lv_at hl 1 rfl) ?_
          refine lv_iconst (v := 3) X.1 X.2.1 dX12_mostOf_29 (by decide +kernel) ?_
          refine lv_icmp_ne (tgt := 37) X.1 X.2.1 dX12_mostOf_30 (by decide) (fun c6 => ?_) (fun c6 => ?_)
          · exact ((c6 (iv_one h1 (iv_c 3 (a := 3) (b := 3) (by decide +kernel)) (by decide +kernel)))).elim
          · exact B4_33 _ _ hS (lv_sub hl [] rfl)
    · exact ((iv_no (a := 3) (b := 0) (iv_eqm c2 h1 (iv_c 0 (a := 0) (b := 0) (by decide +kernel)) (by decide +kernel)) (by decide +kernel))).elim
  · exact ((c1 (iv_one h0 (iv_c 115 (a := 115) (b := 115) (by decide +kernel)) (by decide +kernel)))).elim

theorem ca_X12_mostOf_k3   (X : CallFix p m c cc nL s args sg_tbl own) (hK : va_K D vwCl tys s) (hG : sgG (KT P) D vwCl (fun q : Nat => base ≤ q) tys ad ks H) (hC : sgC base s) (hA : ∀ q : Nat, A q → base ≤ q) (hS : va_S A s.heap H locs) (hb : base ≤ s.heap.size) (x0 : Int32) (h0 : iv 115 115 x0) (x1 : Int32) (h1 : iv 3 3 x1) (hl : Cond.methodLink own index yX12_mostOf ∈ sg_tbl) (hsize : ls.size = nL) (hst : st0 = [.int x0, .int x1].reverse ++ rest) (hW : (rest.map fun v => v.category).sum ≤ 8) (hR : 1 ≤ R.frames ∧ 21 ≤ R.locals) (hf : cells ≤ R.cells ∧ slots ≤ R.slots) (hdg : decode cc pc = .ok (.invokestatic index, 3)) (kk : ∀ (r : Int32) (locs1 : List Loc), (fun r : Int32 => iv 5 5 r) r → va_S A s.heap H locs1 → W p l e R s m args below meth c H locs1 cells slots Q (F0 m (pc + 3) ls (.int r :: rest))) : W p l e R s m args below meth c H locs cells slots Q (F0 m pc ls st0) :=
  sg_callPSi X hK hG hC hA hS hb (m_X12_mostOf_k3 l x0 h0 x1 h1) wl_7_182 wl_1_13 wl_7_181 (n := 2) (by decide +kernel) rfl rfl rfl hl hsize hst hW hR hf hdg kk

set_option maxHeartbeats 8000000 in
set_option maxRecDepth 100000 in
theorem m_X12_usual_k4 (l : Launch) {D : va_G} {base : Nat} {tys : List (ClassId × FieldType)} {ad ks : List Nat} {P : sgPm} {Hx : Heap} (x0 : Int32) (h0 : iv 115 115 x0) (x1 : Int32) (h1 : iv 4 4 x1) : sgPi l (KT P) D vwCl base tys ad ks Hx yX12_usual cX12_usual 2 (some .int) ({ frames := 0, cells := 0, slots := 0, locals := 0 }) [.int x0, .int x1] (fun r : Int32 => iv 0 0 r) := by
  refine sg_ofP (Pq := fun Hx => va_Qi (fun r (_ : Unit) => (fun r : Int32 => iv 0 0 r) r) (fun _ t => t.heap = Hx) (fun _ : Nat => False)) (by decide +kernel) (Nat.le_of_ble_eq_true rfl) (fun p e s m below meth c X hr hlk hb hK hC hG ls hl => ?_)
  have hS : va_S (fun _ : Nat => False) s.heap s.heap [] := va_S.rf
  have hl : lv_has ls 2 [(0, .int x0), (1, .int x1)] := hl
  refine lv_iload_n X.1 X.2.1 dX12_usual_0 rfl (lv_at hl 0 rfl) ?_
  refine lv_bipush (v := 115) X.1 X.2.1 dX12_usual_1 (by decide +kernel) ?_
  refine lv_icmp_eq (tgt := 8) X.1 X.2.1 dX12_usual_3 (by decide) (fun c1 => ?_) (fun c1 => ?_)
  · refine lv_iload_n X.1 X.2.1 dX12_usual_8 rfl (lv_at hl 1 rfl) ?_
    refine lv_if_ne (tgt := 16) X.1 X.2.1 dX12_usual_9 (by decide) (fun c2 => ?_) (fun c2 => ?_)
    · refine lv_iload_n X.1 X.2.1 dX12_usual_16 rfl (lv_at hl 1 rfl) ?_
      refine lv_iconst (v := 1) X.1 X.2.1 dX12_usual_17 (by decide +kernel) ?_
      refine lv_icmp_ne (tgt := 25) X.1 X.2.1 dX12_usual_18 (by decide) (fun c3 => ?_) (fun c3 => ?_)
      · refine lv_iload_n X.1 X.2.1 dX12_usual_25 rfl (lv_at hl 1 rfl) ?_
        refine lv_iconst (v := 2) X.1 X.2.1 dX12_usual_26 (by decide +kernel) ?_
        refine lv_icmp_ne (tgt := 34) X.1 X.2.1 dX12_usual_27 (by decide) (fun c4 => ?_) (fun c4 => ?_)
        · refine lv_iload_n X.1 X.2.1 dX12_usual_34 rfl (lv_at hl 1 rfl) ?_
          refine lv_iconst (v := 3) X.1 X.2.1 dX12_usual_35 (by decide +kernel) ?_
          refine lv_icmp_ne (tgt := 43) X.1 X.2.1 dX12_usual_36 (by decide) (fun c5 => ?_) (fun c5 => ?_)
          · refine lv_iload_n X.1 X.2.1 dX12_usual_43 rfl (lv_at hl 1 rfl) ?_
            refine lv_iconst (v := 5) X.1 X.2.1 dX12_usual_44 (by decide +kernel) ?_
            refine lv_icmp_ne (tgt := 53) X.1 X.2.1 dX12_usual_45 (by decide) (fun c6 => ?_) (fun c6 => ?_)
            · refine lv_iconst (v := 0) X.1 X.2.1 dX12_usual_53 (by decide +kernel) ?_
              exact sg_iretP X hr hlk hS (iv_c 0 (a := 0) (b := 0) (by decide +kernel)) dX12_usual_54
            · exact ((iv_no (a := 5) (b := 4) (iv_eqm c6 h1 (iv_c 5 (a := 5) (b := 5) (by decide +kernel)) (by decide +kernel)) (by decide +kernel))).elim
          · exact ((iv_no (a := 4) (b := 3) (iv_eqm c5 h1 (iv_c 3 (a := 3) (b := 3) (by decide +kernel)) (by decide +kernel)) (by decide +kernel))).elim
        · exact ((iv_no (a := 4) (b := 2) (iv_eqm c4 h1 (iv_c 2 (a := 2) (b := 2) (by decide +kernel)) (by decide +kernel)) (by decide +kernel))).elim
      · exact ((iv_no (a := 4) (b := 1) (iv_eqm c3 h1 (iv_c 1 (a := 1) (b := 1) (by decide +kernel)) (by decide +kernel)) (by decide +kernel))).elim
    · exact ((iv_no (a := 4) (b := 0) (iv_eqm c2 h1 (iv_c 0 (a := 0) (b := 0) (by decide +kernel)) (by decide +kernel)) (by decide +kernel))).elim
  · exact ((c1 (iv_one h0 (iv_c 115 (a := 115) (b := 115) (by decide +kernel)) (by decide +kernel)))).elim

theorem ca_X12_usual_k4   (X : CallFix p m c cc nL s args sg_tbl own) (hK : va_K D vwCl tys s) (hG : sgG (KT P) D vwCl (fun q : Nat => base ≤ q) tys ad ks H) (hC : sgC base s) (hA : ∀ q : Nat, A q → base ≤ q) (hS : va_S A s.heap H locs) (hb : base ≤ s.heap.size) (x0 : Int32) (h0 : iv 115 115 x0) (x1 : Int32) (h1 : iv 4 4 x1) (hl : Cond.methodLink own index yX12_usual ∈ sg_tbl) (hsize : ls.size = nL) (hst : st0 = [.int x0, .int x1].reverse ++ rest) (hW : (rest.map fun v => v.category).sum ≤ 8) (hR : 1 ≤ R.frames ∧ 21 ≤ R.locals) (hf : cells ≤ R.cells ∧ slots ≤ R.slots) (hdg : decode cc pc = .ok (.invokestatic index, 3)) (kk : ∀ (r : Int32) (locs1 : List Loc), (fun r : Int32 => iv 0 0 r) r → va_S A s.heap H locs1 → W p l e R s m args below meth c H locs1 cells slots Q (F0 m (pc + 3) ls (.int r :: rest))) : W p l e R s m args below meth c H locs cells slots Q (F0 m pc ls st0) :=
  sg_callPSi X hK hG hC hA hS hb (m_X12_usual_k4 l x0 h0 x1 h1) wl_7_132 wl_1_13 wl_7_131 (n := 2) (by decide +kernel) rfl rfl rfl hl hsize hst hW hR hf hdg kk

set_option maxHeartbeats 8000000 in
set_option maxRecDepth 100000 in
theorem m_X12_leastOf_k4 (l : Launch) {D : va_G} {base : Nat} {tys : List (ClassId × FieldType)} {ad ks : List Nat} {P : sgPm} {Hx : Heap} (x0 : Int32) (h0 : iv 115 115 x0) (x1 : Int32) (h1 : iv 4 4 x1) : sgPi l (KT P) D vwCl base tys ad ks Hx yX12_leastOf cX12_leastOf 2 (some .int) ({ frames := 0, cells := 0, slots := 0, locals := 0 }) [.int x0, .int x1] (fun r : Int32 => iv 0 0 r) := by
  refine sg_ofP (Pq := fun Hx => va_Qi (fun r (_ : Unit) => (fun r : Int32 => iv 0 0 r) r) (fun _ t => t.heap = Hx) (fun _ : Nat => False)) (by decide +kernel) (Nat.le_of_ble_eq_true rfl) (fun p e s m below meth c X hr hlk hb hK hC hG ls hl => ?_)
  have hS : va_S (fun _ : Nat => False) s.heap s.heap [] := va_S.rf
  have hl : lv_has ls 2 [(0, .int x0), (1, .int x1)] := hl
  refine lv_iload_n X.1 X.2.1 dX12_leastOf_0 rfl (lv_at hl 0 rfl) ?_
  refine lv_bipush (v := 115) X.1 X.2.1 dX12_leastOf_1 (by decide +kernel) ?_
  have B2_24 : ∀ (locs : List Loc) (ls : Array Slot), va_S (fun _ : Nat => False) s.heap s.heap locs → lv_has ls 2 [] → W p l e (headSpec (Cond.code yX12_leastOf cX12_leastOf 2 (some .int) :: sg_tbl) ({ frames := 0, cells := 0, slots := 0, locals := 0 })).room s m #[.int x0, .int x1] below meth c s.heap locs 0 0 (MQ below (va_Qi (fun r (_ : Unit) => (fun r : Int32 => iv 0 0 r) r) (fun _ t => t.heap = s.heap) (fun _ : Nat => False)) #[.int x0, .int x1] s 0 0 (fun _ : Nat => False)) (F0 m 24 ls []) := by
    intro locs ls hS hl
    refine lv_iconst (v := 0) X.1 X.2.1 dX12_leastOf_24 (by decide +kernel) ?_
    exact sg_iretP X hr hlk hS (iv_c 0 (a := 0) (b := 0) (by decide +kernel)) dX12_leastOf_25
  refine lv_icmp_ne (tgt := 24) X.1 X.2.1 dX12_leastOf_3 (by decide) (fun c1 => ?_) (fun c1 => ?_)
  · exact ((c1 (iv_one h0 (iv_c 115 (a := 115) (b := 115) (by decide +kernel)) (by decide +kernel)))).elim
  · refine lv_iload_n X.1 X.2.1 dX12_leastOf_6 rfl (lv_at hl 1 rfl) ?_
    refine lv_iconst (v := 4) X.1 X.2.1 dX12_leastOf_7 (by decide +kernel) ?_
    refine lv_icmp_ge (tgt := 24) X.1 X.2.1 dX12_leastOf_8 (by decide) (fun c3 => ?_) (fun c3 => ?_)
    · exact B2_24 _ _ hS (lv_sub hl [] rfl)
    · exact ((iv_no (iv_lt (b' := 3) (iv_gt_of c3) h1 (iv_c 4 (a := 4) (b := 4) (by decide +kernel)) (by decide +kernel)) (by decide +kernel))).elim

theorem ca_X12_leastOf_k4   (X : CallFix p m c cc nL s args sg_tbl own) (hK : va_K D vwCl tys s) (hG : sgG (KT P) D vwCl (fun q : Nat => base ≤ q) tys ad ks H) (hC : sgC base s) (hA : ∀ q : Nat, A q → base ≤ q) (hS : va_S A s.heap H locs) (hb : base ≤ s.heap.size) (x0 : Int32) (h0 : iv 115 115 x0) (x1 : Int32) (h1 : iv 4 4 x1) (hl : Cond.methodLink own index yX12_leastOf ∈ sg_tbl) (hsize : ls.size = nL) (hst : st0 = [.int x0, .int x1].reverse ++ rest) (hW : (rest.map fun v => v.category).sum ≤ 8) (hR : 1 ≤ R.frames ∧ 21 ≤ R.locals) (hf : cells ≤ R.cells ∧ slots ≤ R.slots) (hdg : decode cc pc = .ok (.invokestatic index, 3)) (kk : ∀ (r : Int32) (locs1 : List Loc), (fun r : Int32 => iv 0 0 r) r → va_S A s.heap H locs1 → W p l e R s m args below meth c H locs1 cells slots Q (F0 m (pc + 3) ls (.int r :: rest))) : W p l e R s m args below meth c H locs cells slots Q (F0 m pc ls st0) :=
  sg_callPSi X hK hG hC hA hS hb (m_X12_leastOf_k4 l x0 h0 x1 h1) wl_7_179 wl_1_13 wl_7_178 (n := 2) (by decide +kernel) rfl rfl rfl hl hsize hst hW hR hf hdg kk

set_option maxHeartbeats 8000000 in
set_option maxRecDepth 100000 in
theorem m_X12_mostOf_k4 (l : Launch) {D : va_G} {base : Nat} {tys : List (ClassId × FieldType)} {ad ks : List Nat} {P : sgPm} {Hx : Heap} (x0 : Int32) (h0 : iv 115 115 x0) (x1 : Int32) (h1 : iv 4 4 x1) : sgPi l (KT P) D vwCl base tys ad ks Hx yX12_mostOf cX12_mostOf 2 (some .int) ({ frames := 0, cells := 0, slots := 0, locals := 0 }) [.int x0, .int x1] (fun r : Int32 => iv 8 8 r) := by
  refine sg_ofP (Pq := fun Hx => va_Qi (fun r (_ : Unit) => (fun r : Int32 => iv 8 8 r) r) (fun _ t => t.heap = Hx) (fun _ : Nat => False)) (by decide +kernel) (Nat.le_of_ble_eq_true rfl) (fun p e s m below meth c X hr hlk hb hK hC hG ls hl => ?_)
  have hS : va_S (fun _ : Nat => False) s.heap s.heap [] := va_S.rf
  have hl : lv_has ls 2 [(0, .int x0), (1, .int x1)] := hl
  refine lv_iload_n X.1 X.2.1 dX12_mostOf_0 rfl (lv_at hl 0 rfl) ?_
  refine lv_bipush (v := 115) X.1 X.2.1 dX12_mostOf_1 (by decide +kernel) ?_
  refine lv_icmp_eq (tgt := 9) X.1 X.2.1 dX12_mostOf_3 (by decide) (fun c1 => ?_) (fun c1 => ?_)
  · refine lv_iload_n X.1 X.2.1 dX12_mostOf_9 rfl (lv_at hl 1 rfl) ?_
    refine lv_if_ne (tgt := 18) X.1 X.2.1 dX12_mostOf_10 (by decide) (fun c2 => ?_) (fun c2 => ?_)
    · refine lv_iload_n X.1 X.2.1 dX12_mostOf_18 rfl (lv_at hl 1 rfl) ?_
      refine lv_iconst (v := 1) X.1 X.2.1 dX12_mostOf_19 (by decide +kernel) ?_
      refine lv_icmp_eq (tgt := 33) X.1 X.2.1 dX12_mostOf_20 (by decide) (fun c3 => ?_) (fun c3 => ?_)
      · exact ((iv_no (a := 4) (b := 1) (iv_eqm c3 h1 (iv_c 1 (a := 1) (b := 1) (by decide +kernel)) (by decide +kernel)) (by decide +kernel))).elim
      · refine lv_iload_n X.1 X.2.1 dX12_mostOf_23 rfl (lv_at hl 1 rfl) ?_
        refine lv_iconst (v := 2) X.1 X.2.1 dX12_mostOf_24 (by decide +kernel) ?_
        refine lv_icmp_eq (tgt := 33) X.1 X.2.1 dX12_mostOf_25 (by decide) (fun c4 => ?_) (fun c4 => ?_)
        · exact ((iv_no (a := 4) (b := 2) (iv_eqm c4 h1 (iv_c 2 (a := 2) (b := 2) (by decide +kernel)) (by decide +kernel)) (by decide +kernel))).elim
        · refine lv_iload_n X.1 X.2.1 dX12_mostOf_28 rfl (lv_at hl 1 rfl) ?_
          refine lv_iconst (v := 3) X.1 X.2.1 dX12_mostOf_29 (by decide +kernel) ?_
          refine lv_icmp_ne (tgt := 37) X.1 X.2.1 dX12_mostOf_30 (by decide) (fun c5 => ?_) (fun c5 => ?_)
          · refine lv_iload_n X.1 X.2.1 dX12_mostOf_37 rfl (lv_at hl 1 rfl) ?_
            refine lv_bipush (v := 6) X.1 X.2.1 dX12_mostOf_38 (by decide +kernel) ?_
            refine lv_icmp_ne (tgt := 47) X.1 X.2.1 dX12_mostOf_40 (by decide) (fun c6 => ?_) (fun c6 => ?_)
            · refine lv_bipush (v := 8) X.1 X.2.1 dX12_mostOf_47 (by decide +kernel) ?_
              exact sg_iretP X hr hlk hS (iv_c 8 (a := 8) (b := 8) (by decide +kernel)) dX12_mostOf_49
            · exact ((iv_no (a := 6) (b := 4) (iv_eqm c6 h1 (iv_c 6 (a := 6) (b := 6) (by decide +kernel)) (by decide +kernel)) (by decide +kernel))).elim
          · exact ((iv_no (a := 4) (b := 3) (iv_eqm c5 h1 (iv_c 3 (a := 3) (b := 3) (by decide +kernel)) (by decide +kernel)) (by decide +kernel))).elim
    · exact ((iv_no (a := 4) (b := 0) (iv_eqm c2 h1 (iv_c 0 (a := 0) (b := 0) (by decide +kernel)) (by decide +kernel)) (by decide +kernel))).elim
  · exact ((c1 (iv_one h0 (iv_c 115 (a := 115) (b := 115) (by decide +kernel)) (by decide +kernel)))).elim

theorem ca_X12_mostOf_k4   (X : CallFix p m c cc nL s args sg_tbl own) (hK : va_K D vwCl tys s) (hG : sgG (KT P) D vwCl (fun q : Nat => base ≤ q) tys ad ks H) (hC : sgC base s) (hA : ∀ q : Nat, A q → base ≤ q) (hS : va_S A s.heap H locs) (hb : base ≤ s.heap.size) (x0 : Int32) (h0 : iv 115 115 x0) (x1 : Int32) (h1 : iv 4 4 x1) (hl : Cond.methodLink own index yX12_mostOf ∈ sg_tbl) (hsize : ls.size = nL) (hst : st0 = [.int x0, .int x1].reverse ++ rest) (hW : (rest.map fun v => v.category).sum ≤ 8) (hR : 1 ≤ R.frames ∧ 21 ≤ R.locals) (hf : cells ≤ R.cells ∧ slots ≤ R.slots) (hdg : decode cc pc = .ok (.invokestatic index, 3)) (kk : ∀ (r : Int32) (locs1 : List Loc), (fun r : Int32 => iv 8 8 r) r → va_S A s.heap H locs1 → W p l e R s m args below meth c H locs1 cells slots Q (F0 m (pc + 3) ls (.int r :: rest))) : W p l e R s m args below meth c H locs cells slots Q (F0 m pc ls st0) :=
  sg_callPSi X hK hG hC hA hS hb (m_X12_mostOf_k4 l x0 h0 x1 h1) wl_7_182 wl_1_13 wl_7_181 (n := 2) (by decide +kernel) rfl rfl rfl hl hsize hst hW hR hf hdg kk

set_option maxHeartbeats 8000000 in
set_option maxRecDepth 100000 in
theorem m_X12_usual_k5 (l : Launch) {D : va_G} {base : Nat} {tys : List (ClassId × FieldType)} {ad ks : List Nat} {P : sgPm} {Hx : Heap} (x0 : Int32) (h0 : iv 115 115 x0) (x1 : Int32) (h1 : iv 5 5 x1) : sgPi l (KT P) D vwCl base tys ad ks Hx yX12_usual cX12_usual 2 (some .int) ({ frames := 0, cells := 0, slots := 0, locals := 0 }) [.int x0, .int x1] (fun r : Int32 => iv 8 8 r) := by
  refine sg_ofP (Pq := fun Hx => va_Qi (fun r (_ : Unit) => (fun r : Int32 => iv 8 8 r) r) (fun _ t => t.heap = Hx) (fun _ : Nat => False)) (by decide +kernel) (Nat.le_of_ble_eq_true rfl) (fun p e s m below meth c X hr hlk hb hK hC hG ls hl => ?_)
  have hS : va_S (fun _ : Nat => False) s.heap s.heap [] := va_S.rf
  have hl : lv_has ls 2 [(0, .int x0), (1, .int x1)] := hl
  refine lv_iload_n X.1 X.2.1 dX12_usual_0 rfl (lv_at hl 0 rfl) ?_
  refine lv_bipush (v := 115) X.1 X.2.1 dX12_usual_1 (by decide +kernel) ?_
  refine lv_icmp_eq (tgt := 8) X.1 X.2.1 dX12_usual_3 (by decide) (fun c1 => ?_) (fun c1 => ?_)
  · refine lv_iload_n X.1 X.2.1 dX12_usual_8 rfl (lv_at hl 1 rfl) ?_
    refine lv_if_ne (tgt := 16) X.1 X.2.1 dX12_usual_9 (by decide) (fun c2 => ?_) (fun c2 => ?_)
    · refine lv_iload_n X.1 X.2.1 dX12_usual_16 rfl (lv_at hl 1 rfl) ?_
      refine lv_iconst (v := 1) X.1 X.2.1 dX12_usual_17 (by decide +kernel) ?_
      refine lv_icmp_ne (tgt := 25) X.1 X.2.1 dX12_usual_18 (by decide) (fun c3 => ?_) (fun c3 => ?_)
      · refine lv_iload_n X.1 X.2.1 dX12_usual_25 rfl (lv_at hl 1 rfl) ?_
        refine lv_iconst (v := 2) X.1 X.2.1 dX12_usual_26 (by decide +kernel) ?_
        refine lv_icmp_ne (tgt := 34) X.1 X.2.1 dX12_usual_27 (by decide) (fun c4 => ?_) (fun c4 => ?_)
        · refine lv_iload_n X.1 X.2.1 dX12_usual_34 rfl (lv_at hl 1 rfl) ?_
          refine lv_iconst (v := 3) X.1 X.2.1 dX12_usual_35 (by decide +kernel) ?_
          refine lv_icmp_ne (tgt := 43) X.1 X.2.1 dX12_usual_36 (by decide) (fun c5 => ?_) (fun c5 => ?_)
          · refine lv_iload_n X.1 X.2.1 dX12_usual_43 rfl (lv_at hl 1 rfl) ?_
            refine lv_iconst (v := 5) X.1 X.2.1 dX12_usual_44 (by decide +kernel) ?_
            refine lv_icmp_ne (tgt := 53) X.1 X.2.1 dX12_usual_45 (by decide) (fun c6 => ?_) (fun c6 => ?_)
            · exact ((c6 (iv_one h1 (iv_c 5 (a := 5) (b := 5) (by decide +kernel)) (by decide +kernel)))).elim
            · refine lv_bipush (v := 8) X.1 X.2.1 dX12_usual_48 (by decide +kernel) ?_
              refine lv_goto (tgt := 54) X.1 X.2.1 dX12_usual_50 (by decide) ?_
              exact sg_iretP X hr hlk hS (iv_c 8 (a := 8) (b := 8) (by decide +kernel)) dX12_usual_54
          · exact ((iv_no (a := 5) (b := 3) (iv_eqm c5 h1 (iv_c 3 (a := 3) (b := 3) (by decide +kernel)) (by decide +kernel)) (by decide +kernel))).elim
        · exact ((iv_no (a := 5) (b := 2) (iv_eqm c4 h1 (iv_c 2 (a := 2) (b := 2) (by decide +kernel)) (by decide +kernel)) (by decide +kernel))).elim
      · exact ((iv_no (a := 5) (b := 1) (iv_eqm c3 h1 (iv_c 1 (a := 1) (b := 1) (by decide +kernel)) (by decide +kernel)) (by decide +kernel))).elim
    · exact ((iv_no (a := 5) (b := 0) (iv_eqm c2 h1 (iv_c 0 (a := 0) (b := 0) (by decide +kernel)) (by decide +kernel)) (by decide +kernel))).elim
  · exact ((c1 (iv_one h0 (iv_c 115 (a := 115) (b := 115) (by decide +kernel)) (by decide +kernel)))).elim

theorem ca_X12_usual_k5   (X : CallFix p m c cc nL s args sg_tbl own) (hK : va_K D vwCl tys s) (hG : sgG (KT P) D vwCl (fun q : Nat => base ≤ q) tys ad ks H) (hC : sgC base s) (hA : ∀ q : Nat, A q → base ≤ q) (hS : va_S A s.heap H locs) (hb : base ≤ s.heap.size) (x0 : Int32) (h0 : iv 115 115 x0) (x1 : Int32) (h1 : iv 5 5 x1) (hl : Cond.methodLink own index yX12_usual ∈ sg_tbl) (hsize : ls.size = nL) (hst : st0 = [.int x0, .int x1].reverse ++ rest) (hW : (rest.map fun v => v.category).sum ≤ 8) (hR : 1 ≤ R.frames ∧ 21 ≤ R.locals) (hf : cells ≤ R.cells ∧ slots ≤ R.slots) (hdg : decode cc pc = .ok (.invokestatic index, 3)) (kk : ∀ (r : Int32) (locs1 : List Loc), (fun r : Int32 => iv 8 8 r) r → va_S A s.heap H locs1 → W p l e R s m args below meth c H locs1 cells slots Q (F0 m (pc + 3) ls (.int r :: rest))) : W p l e R s m args below meth c H locs cells slots Q (F0 m pc ls st0) :=
  sg_callPSi X hK hG hC hA hS hb (m_X12_usual_k5 l x0 h0 x1 h1) wl_7_132 wl_1_13 wl_7_131 (n := 2) (by decide +kernel) rfl rfl rfl hl hsize hst hW hR hf hdg kk

set_option maxHeartbeats 8000000 in
set_option maxRecDepth 100000 in
theorem m_X12_leastOf_k5 (l : Launch) {D : va_G} {base : Nat} {tys : List (ClassId × FieldType)} {ad ks : List Nat} {P : sgPm} {Hx : Heap} (x0 : Int32) (h0 : iv 115 115 x0) (x1 : Int32) (h1 : iv 5 5 x1) : sgPi l (KT P) D vwCl base tys ad ks Hx yX12_leastOf cX12_leastOf 2 (some .int) ({ frames := 0, cells := 0, slots := 0, locals := 0 }) [.int x0, .int x1] (fun r : Int32 => iv 0 0 r) := by
  refine sg_ofP (Pq := fun Hx => va_Qi (fun r (_ : Unit) => (fun r : Int32 => iv 0 0 r) r) (fun _ t => t.heap = Hx) (fun _ : Nat => False)) (by decide +kernel) (Nat.le_of_ble_eq_true rfl) (fun p e s m below meth c X hr hlk hb hK hC hG ls hl => ?_)
  have hS : va_S (fun _ : Nat => False) s.heap s.heap [] := va_S.rf
  have hl : lv_has ls 2 [(0, .int x0), (1, .int x1)] := hl
  refine lv_iload_n X.1 X.2.1 dX12_leastOf_0 rfl (lv_at hl 0 rfl) ?_
  refine lv_bipush (v := 115) X.1 X.2.1 dX12_leastOf_1 (by decide +kernel) ?_
  have B2_24 : ∀ (locs : List Loc) (ls : Array Slot), va_S (fun _ : Nat => False) s.heap s.heap locs → lv_has ls 2 [] → W p l e (headSpec (Cond.code yX12_leastOf cX12_leastOf 2 (some .int) :: sg_tbl) ({ frames := 0, cells := 0, slots := 0, locals := 0 })).room s m #[.int x0, .int x1] below meth c s.heap locs 0 0 (MQ below (va_Qi (fun r (_ : Unit) => (fun r : Int32 => iv 0 0 r) r) (fun _ t => t.heap = s.heap) (fun _ : Nat => False)) #[.int x0, .int x1] s 0 0 (fun _ : Nat => False)) (F0 m 24 ls []) := by
    intro locs ls hS hl
    refine lv_iconst (v := 0) X.1 X.2.1 dX12_leastOf_24 (by decide +kernel) ?_
    exact sg_iretP X hr hlk hS (iv_c 0 (a := 0) (b := 0) (by decide +kernel)) dX12_leastOf_25
  refine lv_icmp_ne (tgt := 24) X.1 X.2.1 dX12_leastOf_3 (by decide) (fun c1 => ?_) (fun c1 => ?_)
  · exact ((c1 (iv_one h0 (iv_c 115 (a := 115) (b := 115) (by decide +kernel)) (by decide +kernel)))).elim
  · refine lv_iload_n X.1 X.2.1 dX12_leastOf_6 rfl (lv_at hl 1 rfl) ?_
    refine lv_iconst (v := 4) X.1 X.2.1 dX12_leastOf_7 (by decide +kernel) ?_
    refine lv_icmp_ge (tgt := 24) X.1 X.2.1 dX12_leastOf_8 (by decide) (fun c3 => ?_) (fun c3 => ?_)
    · exact B2_24 _ _ hS (lv_sub hl [] rfl)
    · exact ((iv_no (iv_lt (b' := 3) (iv_gt_of c3) h1 (iv_c 4 (a := 4) (b := 4) (by decide +kernel)) (by decide +kernel)) (by decide +kernel))).elim

theorem ca_X12_leastOf_k5   (X : CallFix p m c cc nL s args sg_tbl own) (hK : va_K D vwCl tys s) (hG : sgG (KT P) D vwCl (fun q : Nat => base ≤ q) tys ad ks H) (hC : sgC base s) (hA : ∀ q : Nat, A q → base ≤ q) (hS : va_S A s.heap H locs) (hb : base ≤ s.heap.size) (x0 : Int32) (h0 : iv 115 115 x0) (x1 : Int32) (h1 : iv 5 5 x1) (hl : Cond.methodLink own index yX12_leastOf ∈ sg_tbl) (hsize : ls.size = nL) (hst : st0 = [.int x0, .int x1].reverse ++ rest) (hW : (rest.map fun v => v.category).sum ≤ 8) (hR : 1 ≤ R.frames ∧ 21 ≤ R.locals) (hf : cells ≤ R.cells ∧ slots ≤ R.slots) (hdg : decode cc pc = .ok (.invokestatic index, 3)) (kk : ∀ (r : Int32) (locs1 : List Loc), (fun r : Int32 => iv 0 0 r) r → va_S A s.heap H locs1 → W p l e R s m args below meth c H locs1 cells slots Q (F0 m (pc + 3) ls (.int r :: rest))) : W p l e R s m args below meth c H locs cells slots Q (F0 m pc ls st0) :=
  sg_callPSi X hK hG hC hA hS hb (m_X12_leastOf_k5 l x0 h0 x1 h1) wl_7_179 wl_1_13 wl_7_178 (n := 2) (by decide +kernel) rfl rfl rfl hl hsize hst hW hR hf hdg kk

set_option maxHeartbeats 8000000 in
set_option maxRecDepth 100000 in
theorem m_X12_mostOf_k5 (l : Launch) {D : va_G} {base : Nat} {tys : List (ClassId × FieldType)} {ad ks : List Nat} {P : sgPm} {Hx : Heap} (x0 : Int32) (h0 : iv 115 115 x0) (x1 : Int32) (h1 : iv 5 5 x1) : sgPi l (KT P) D vwCl base tys ad ks Hx yX12_mostOf cX12_mostOf 2 (some .int) ({ frames := 0, cells := 0, slots := 0, locals := 0 }) [.int x0, .int x1] (fun r : Int32 => iv 8 8 r) := by
  refine sg_ofP (Pq := fun Hx => va_Qi (fun r (_ : Unit) => (fun r : Int32 => iv 8 8 r) r) (fun _ t => t.heap = Hx) (fun _ : Nat => False)) (by decide +kernel) (Nat.le_of_ble_eq_true rfl) (fun p e s m below meth c X hr hlk hb hK hC hG ls hl => ?_)
  have hS : va_S (fun _ : Nat => False) s.heap s.heap [] := va_S.rf
  have hl : lv_has ls 2 [(0, .int x0), (1, .int x1)] := hl
  refine lv_iload_n X.1 X.2.1 dX12_mostOf_0 rfl (lv_at hl 0 rfl) ?_
  refine lv_bipush (v := 115) X.1 X.2.1 dX12_mostOf_1 (by decide +kernel) ?_
  refine lv_icmp_eq (tgt := 9) X.1 X.2.1 dX12_mostOf_3 (by decide) (fun c1 => ?_) (fun c1 => ?_)
  · refine lv_iload_n X.1 X.2.1 dX12_mostOf_9 rfl (lv_at hl 1 rfl) ?_
    refine lv_if_ne (tgt := 18) X.1 X.2.1 dX12_mostOf_10 (by decide) (fun c2 => ?_) (fun c2 => ?_)
    · refine lv_iload_n X.1 X.2.1 dX12_mostOf_18 rfl (lv_at hl 1 rfl) ?_
      refine lv_iconst (v := 1) X.1 X.2.1 dX12_mostOf_19 (by decide +kernel) ?_
      refine lv_icmp_eq (tgt := 33) X.1 X.2.1 dX12_mostOf_20 (by decide) (fun c3 => ?_) (fun c3 => ?_)
      · exact ((iv_no (a := 5) (b := 1) (iv_eqm c3 h1 (iv_c 1 (a := 1) (b := 1) (by decide +kernel)) (by decide +kernel)) (by decide +kernel))).elim
      · refine lv_iload_n X.1 X.2.1 dX12_mostOf_23 rfl (lv_at hl 1 rfl) ?_
        refine lv_iconst (v := 2) X.1 X.2.1 dX12_mostOf_24 (by decide +kernel) ?_
        refine lv_icmp_eq (tgt := 33) X.1 X.2.1 dX12_mostOf_25 (by decide) (fun c4 => ?_) (fun c4 => ?_)
        · exact ((iv_no (a := 5) (b := 2) (iv_eqm c4 h1 (iv_c 2 (a := 2) (b := 2) (by decide +kernel)) (by decide +kernel)) (by decide +kernel))).elim
        · refine lv_iload_n X.1 X.2.1 dX12_mostOf_28 rfl (lv_at hl 1 rfl) ?_
          refine lv_iconst (v := 3) X.1 X.2.1 dX12_mostOf_29 (by decide +kernel) ?_
          refine lv_icmp_ne (tgt := 37) X.1 X.2.1 dX12_mostOf_30 (by decide) (fun c5 => ?_) (fun c5 => ?_)
          · refine lv_iload_n X.1 X.2.1 dX12_mostOf_37 rfl (lv_at hl 1 rfl) ?_
            refine lv_bipush (v := 6) X.1 X.2.1 dX12_mostOf_38 (by decide +kernel) ?_
            refine lv_icmp_ne (tgt := 47) X.1 X.2.1 dX12_mostOf_40 (by decide) (fun c6 => ?_) (fun c6 => ?_)
            · refine lv_bipush (v := 8) X.1 X.2.1 dX12_mostOf_47 (by decide +kernel) ?_
              exact sg_iretP X hr hlk hS (iv_c 8 (a := 8) (b := 8) (by decide +kernel)) dX12_mostOf_49
            · exact ((iv_no (a := 6) (b := 5) (iv_eqm c6 h1 (iv_c 6 (a := 6) (b := 6) (by decide +kernel)) (by decide +kernel)) (by decide +kernel))).elim
          · exact ((iv_no (a := 5) (b := 3) (iv_eqm c5 h1 (iv_c 3 (a := 3) (b := 3) (by decide +kernel)) (by decide +kernel)) (by decide +kernel))).elim
    · exact ((iv_no (a := 5) (b := 0) (iv_eqm c2 h1 (iv_c 0 (a := 0) (b := 0) (by decide +kernel)) (by decide +kernel)) (by decide +kernel))).elim
  · exact ((c1 (iv_one h0 (iv_c 115 (a := 115) (b := 115) (by decide +kernel)) (by decide +kernel)))).elim

theorem ca_X12_mostOf_k5   (X : CallFix p m c cc nL s args sg_tbl own) (hK : va_K D vwCl tys s) (hG : sgG (KT P) D vwCl (fun q : Nat => base ≤ q) tys ad ks H) (hC : sgC base s) (hA : ∀ q : Nat, A q → base ≤ q) (hS : va_S A s.heap H locs) (hb : base ≤ s.heap.size) (x0 : Int32) (h0 : iv 115 115 x0) (x1 : Int32) (h1 : iv 5 5 x1) (hl : Cond.methodLink own index yX12_mostOf ∈ sg_tbl) (hsize : ls.size = nL) (hst : st0 = [.int x0, .int x1].reverse ++ rest) (hW : (rest.map fun v => v.category).sum ≤ 8) (hR : 1 ≤ R.frames ∧ 21 ≤ R.locals) (hf : cells ≤ R.cells ∧ slots ≤ R.slots) (hdg : decode cc pc = .ok (.invokestatic index, 3)) (kk : ∀ (r : Int32) (locs1 : List Loc), (fun r : Int32 => iv 8 8 r) r → va_S A s.heap H locs1 → W p l e R s m args below meth c H locs1 cells slots Q (F0 m (pc + 3) ls (.int r :: rest))) : W p l e R s m args below meth c H locs cells slots Q (F0 m pc ls st0) :=
  sg_callPSi X hK hG hC hA hS hb (m_X12_mostOf_k5 l x0 h0 x1 h1) wl_7_182 wl_1_13 wl_7_181 (n := 2) (by decide +kernel) rfl rfl rfl hl hsize hst hW hR hf hdg kk

set_option maxHeartbeats 8000000 in
set_option maxRecDepth 100000 in
theorem m_X12_usual_k6 (l : Launch) {D : va_G} {base : Nat} {tys : List (ClassId × FieldType)} {ad ks : List Nat} {P : sgPm} {Hx : Heap} (x0 : Int32) (h0 : iv 115 115 x0) (x1 : Int32) (h1 : iv 6 6 x1) : sgPi l (KT P) D vwCl base tys ad ks Hx yX12_usual cX12_usual 2 (some .int) ({ frames := 0, cells := 0, slots := 0, locals := 0 }) [.int x0, .int x1] (fun r : Int32 => iv 0 0 r) := by
  refine sg_ofP (Pq := fun Hx => va_Qi (fun r (_ : Unit) => (fun r : Int32 => iv 0 0 r) r) (fun _ t => t.heap = Hx) (fun _ : Nat => False)) (by decide +kernel) (Nat.le_of_ble_eq_true rfl) (fun p e s m below meth c X hr hlk hb hK hC hG ls hl => ?_)
  have hS : va_S (fun _ : Nat => False) s.heap s.heap [] := va_S.rf
  have hl : lv_has ls 2 [(0, .int x0), (1, .int x1)] := hl
  refine lv_iload_n X.1 X.2.1 dX12_usual_0 rfl (lv_at hl 0 rfl) ?_
  refine lv_bipush (v := 115) X.1 X.2.1 dX12_usual_1 (by decide +kernel) ?_
  refine lv_icmp_eq (tgt := 8) X.1 X.2.1 dX12_usual_3 (by decide) (fun c1 => ?_) (fun c1 => ?_)
  · refine lv_iload_n X.1 X.2.1 dX12_usual_8 rfl (lv_at hl 1 rfl) ?_
    refine lv_if_ne (tgt := 16) X.1 X.2.1 dX12_usual_9 (by decide) (fun c2 => ?_) (fun c2 => ?_)
    · refine lv_iload_n X.1 X.2.1 dX12_usual_16 rfl (lv_at hl 1 rfl) ?_
      refine lv_iconst (v := 1) X.1 X.2.1 dX12_usual_17 (by decide +kernel) ?_
      refine lv_icmp_ne (tgt := 25) X.1 X.2.1 dX12_usual_18 (by decide) (fun c3 => ?_) (fun c3 => ?_)
      · refine lv_iload_n X.1 X.2.1 dX12_usual_25 rfl (lv_at hl 1 rfl) ?_
        refine lv_iconst (v := 2) X.1 X.2.1 dX12_usual_26 (by decide +kernel) ?_
        refine lv_icmp_ne (tgt := 34) X.1 X.2.1 dX12_usual_27 (by decide) (fun c4 => ?_) (fun c4 => ?_)
        · refine lv_iload_n X.1 X.2.1 dX12_usual_34 rfl (lv_at hl 1 rfl) ?_
          refine lv_iconst (v := 3) X.1 X.2.1 dX12_usual_35 (by decide +kernel) ?_
          refine lv_icmp_ne (tgt := 43) X.1 X.2.1 dX12_usual_36 (by decide) (fun c5 => ?_) (fun c5 => ?_)
          · refine lv_iload_n X.1 X.2.1 dX12_usual_43 rfl (lv_at hl 1 rfl) ?_
            refine lv_iconst (v := 5) X.1 X.2.1 dX12_usual_44 (by decide +kernel) ?_
            refine lv_icmp_ne (tgt := 53) X.1 X.2.1 dX12_usual_45 (by decide) (fun c6 => ?_) (fun c6 => ?_)
            · refine lv_iconst (v := 0) X.1 X.2.1 dX12_usual_53 (by decide +kernel) ?_
              exact sg_iretP X hr hlk hS (iv_c 0 (a := 0) (b := 0) (by decide +kernel)) dX12_usual_54
            · exact ((iv_no (a := 6) (b := 5) (iv_eqm c6 h1 (iv_c 5 (a := 5) (b := 5) (by decide +kernel)) (by decide +kernel)) (by decide +kernel))).elim
          · exact ((iv_no (a := 6) (b := 3) (iv_eqm c5 h1 (iv_c 3 (a := 3) (b := 3) (by decide +kernel)) (by decide +kernel)) (by decide +kernel))).elim
        · exact ((iv_no (a := 6) (b := 2) (iv_eqm c4 h1 (iv_c 2 (a := 2) (b := 2) (by decide +kernel)) (by decide +kernel)) (by decide +kernel))).elim
      · exact ((iv_no (a := 6) (b := 1) (iv_eqm c3 h1 (iv_c 1 (a := 1) (b := 1) (by decide +kernel)) (by decide +kernel)) (by decide +kernel))).elim
    · exact ((iv_no (a := 6) (b := 0) (iv_eqm c2 h1 (iv_c 0 (a := 0) (b := 0) (by decide +kernel)) (by decide +kernel)) (by decide +kernel))).elim
  · exact ((c1 (iv_one h0 (iv_c 115 (a := 115) (b := 115) (by decide +kernel)) (by decide +kernel)))).elim

theorem ca_X12_usual_k6   (X : CallFix p m c cc nL s args sg_tbl own) (hK : va_K D vwCl tys s) (hG : sgG (KT P) D vwCl (fun q : Nat => base ≤ q) tys ad ks H) (hC : sgC base s) (hA : ∀ q : Nat, A q → base ≤ q) (hS : va_S A s.heap H locs) (hb : base ≤ s.heap.size) (x0 : Int32) (h0 : iv 115 115 x0) (x1 : Int32) (h1 : iv 6 6 x1) (hl : Cond.methodLink own index yX12_usual ∈ sg_tbl) (hsize : ls.size = nL) (hst : st0 = [.int x0, .int x1].reverse ++ rest) (hW : (rest.map fun v => v.category).sum ≤ 8) (hR : 1 ≤ R.frames ∧ 21 ≤ R.locals) (hf : cells ≤ R.cells ∧ slots ≤ R.slots) (hdg : decode cc pc = .ok (.invokestatic index, 3)) (kk : ∀ (r : Int32) (locs1 : List Loc), (fun r : Int32 => iv 0 0 r) r → va_S A s.heap H locs1 → W p l e R s m args below meth c H locs1 cells slots Q (F0 m (pc + 3) ls (.int r :: rest))) : W p l e R s m args below meth c H locs cells slots Q (F0 m pc ls st0) :=
  sg_callPSi X hK hG hC hA hS hb (m_X12_usual_k6 l x0 h0 x1 h1) wl_7_132 wl_1_13 wl_7_131 (n := 2) (by decide +kernel) rfl rfl rfl hl hsize hst hW hR hf hdg kk

set_option maxHeartbeats 8000000 in
set_option maxRecDepth 100000 in
theorem m_X12_leastOf_k6 (l : Launch) {D : va_G} {base : Nat} {tys : List (ClassId × FieldType)} {ad ks : List Nat} {P : sgPm} {Hx : Heap} (x0 : Int32) (h0 : iv 115 115 x0) (x1 : Int32) (h1 : iv 6 6 x1) : sgPi l (KT P) D vwCl base tys ad ks Hx yX12_leastOf cX12_leastOf 2 (some .int) ({ frames := 0, cells := 0, slots := 0, locals := 0 }) [.int x0, .int x1] (fun r : Int32 => iv 0 0 r) := by
  refine sg_ofP (Pq := fun Hx => va_Qi (fun r (_ : Unit) => (fun r : Int32 => iv 0 0 r) r) (fun _ t => t.heap = Hx) (fun _ : Nat => False)) (by decide +kernel) (Nat.le_of_ble_eq_true rfl) (fun p e s m below meth c X hr hlk hb hK hC hG ls hl => ?_)
  have hS : va_S (fun _ : Nat => False) s.heap s.heap [] := va_S.rf
  have hl : lv_has ls 2 [(0, .int x0), (1, .int x1)] := hl
  refine lv_iload_n X.1 X.2.1 dX12_leastOf_0 rfl (lv_at hl 0 rfl) ?_
  refine lv_bipush (v := 115) X.1 X.2.1 dX12_leastOf_1 (by decide +kernel) ?_
  have B2_24 : ∀ (locs : List Loc) (ls : Array Slot), va_S (fun _ : Nat => False) s.heap s.heap locs → lv_has ls 2 [] → W p l e (headSpec (Cond.code yX12_leastOf cX12_leastOf 2 (some .int) :: sg_tbl) ({ frames := 0, cells := 0, slots := 0, locals := 0 })).room s m #[.int x0, .int x1] below meth c s.heap locs 0 0 (MQ below (va_Qi (fun r (_ : Unit) => (fun r : Int32 => iv 0 0 r) r) (fun _ t => t.heap = s.heap) (fun _ : Nat => False)) #[.int x0, .int x1] s 0 0 (fun _ : Nat => False)) (F0 m 24 ls []) := by
    intro locs ls hS hl
    refine lv_iconst (v := 0) X.1 X.2.1 dX12_leastOf_24 (by decide +kernel) ?_
    exact sg_iretP X hr hlk hS (iv_c 0 (a := 0) (b := 0) (by decide +kernel)) dX12_leastOf_25
  refine lv_icmp_ne (tgt := 24) X.1 X.2.1 dX12_leastOf_3 (by decide) (fun c1 => ?_) (fun c1 => ?_)
  · exact ((c1 (iv_one h0 (iv_c 115 (a := 115) (b := 115) (by decide +kernel)) (by decide +kernel)))).elim
  · refine lv_iload_n X.1 X.2.1 dX12_leastOf_6 rfl (lv_at hl 1 rfl) ?_
    refine lv_iconst (v := 4) X.1 X.2.1 dX12_leastOf_7 (by decide +kernel) ?_
    refine lv_icmp_ge (tgt := 24) X.1 X.2.1 dX12_leastOf_8 (by decide) (fun c3 => ?_) (fun c3 => ?_)
    · exact B2_24 _ _ hS (lv_sub hl [] rfl)
    · exact ((iv_no (iv_lt (b' := 3) (iv_gt_of c3) h1 (iv_c 4 (a := 4) (b := 4) (by decide +kernel)) (by decide +kernel)) (by decide +kernel))).elim

theorem ca_X12_leastOf_k6   (X : CallFix p m c cc nL s args sg_tbl own) (hK : va_K D vwCl tys s) (hG : sgG (KT P) D vwCl (fun q : Nat => base ≤ q) tys ad ks H) (hC : sgC base s) (hA : ∀ q : Nat, A q → base ≤ q) (hS : va_S A s.heap H locs) (hb : base ≤ s.heap.size) (x0 : Int32) (h0 : iv 115 115 x0) (x1 : Int32) (h1 : iv 6 6 x1) (hl : Cond.methodLink own index yX12_leastOf ∈ sg_tbl) (hsize : ls.size = nL) (hst : st0 = [.int x0, .int x1].reverse ++ rest) (hW : (rest.map fun v => v.category).sum ≤ 8) (hR : 1 ≤ R.frames ∧ 21 ≤ R.locals) (hf : cells ≤ R.cells ∧ slots ≤ R.slots) (hdg : decode cc pc = .ok (.invokestatic index, 3)) (kk : ∀ (r : Int32) (locs1 : List Loc), (fun r : Int32 => iv 0 0 r) r → va_S A s.heap H locs1 → W p l e R s m args below meth c H locs1 cells slots Q (F0 m (pc + 3) ls (.int r :: rest))) : W p l e R s m args below meth c H locs cells slots Q (F0 m pc ls st0) :=
  sg_callPSi X hK hG hC hA hS hb (m_X12_leastOf_k6 l x0 h0 x1 h1) wl_7_179 wl_1_13 wl_7_178 (n := 2) (by decide +kernel) rfl rfl rfl hl hsize hst hW hR hf hdg kk

set_option maxHeartbeats 8000000 in
set_option maxRecDepth 100000 in
theorem m_X12_mostOf_k6 (l : Launch) {D : va_G} {base : Nat} {tys : List (ClassId × FieldType)} {ad ks : List Nat} {P : sgPm} {Hx : Heap} (x0 : Int32) (h0 : iv 115 115 x0) (x1 : Int32) (h1 : iv 6 6 x1) : sgPi l (KT P) D vwCl base tys ad ks Hx yX12_mostOf cX12_mostOf 2 (some .int) ({ frames := 0, cells := 0, slots := 0, locals := 0 }) [.int x0, .int x1] (fun r : Int32 => iv 1 1 r) := by
  refine sg_ofP (Pq := fun Hx => va_Qi (fun r (_ : Unit) => (fun r : Int32 => iv 1 1 r) r) (fun _ t => t.heap = Hx) (fun _ : Nat => False)) (by decide +kernel) (Nat.le_of_ble_eq_true rfl) (fun p e s m below meth c X hr hlk hb hK hC hG ls hl => ?_)
  have hS : va_S (fun _ : Nat => False) s.heap s.heap [] := va_S.rf
  have hl : lv_has ls 2 [(0, .int x0), (1, .int x1)] := hl
  refine lv_iload_n X.1 X.2.1 dX12_mostOf_0 rfl (lv_at hl 0 rfl) ?_
  refine lv_bipush (v := 115) X.1 X.2.1 dX12_mostOf_1 (by decide +kernel) ?_
  refine lv_icmp_eq (tgt := 9) X.1 X.2.1 dX12_mostOf_3 (by decide) (fun c1 => ?_) (fun c1 => ?_)
  · refine lv_iload_n X.1 X.2.1 dX12_mostOf_9 rfl (lv_at hl 1 rfl) ?_
    refine lv_if_ne (tgt := 18) X.1 X.2.1 dX12_mostOf_10 (by decide) (fun c2 => ?_) (fun c2 => ?_)
    · refine lv_iload_n X.1 X.2.1 dX12_mostOf_18 rfl (lv_at hl 1 rfl) ?_
      refine lv_iconst (v := 1) X.1 X.2.1 dX12_mostOf_19 (by decide +kernel) ?_
      refine lv_icmp_eq (tgt := 33) X.1 X.2.1 dX12_mostOf_20 (by decide) (fun c3 => ?_) (fun c3 => ?_)
      · exact ((iv_no (a := 6) (b := 1) (iv_eqm c3 h1 (iv_c 1 (a := 1) (b := 1) (by decide +kernel)) (by decide +kernel)) (by decide +kernel))).elim
      · refine lv_iload_n X.1 X.2.1 dX12_mostOf_23 rfl (lv_at hl 1 rfl) ?_
        refine lv_iconst (v := 2) X.1 X.2.1 dX12_mostOf_24 (by decide +kernel) ?_
        refine lv_icmp_eq (tgt := 33) X.1 X.2.1 dX12_mostOf_25 (by decide) (fun c4 => ?_) (fun c4 => ?_)
        · exact ((iv_no (a := 6) (b := 2) (iv_eqm c4 h1 (iv_c 2 (a := 2) (b := 2) (by decide +kernel)) (by decide +kernel)) (by decide +kernel))).elim
        · refine lv_iload_n X.1 X.2.1 dX12_mostOf_28 rfl (lv_at hl 1 rfl) ?_
          refine lv_iconst (v := 3) X.1 X.2.1 dX12_mostOf_29 (by decide +kernel) ?_
          refine lv_icmp_ne (tgt := 37) X.1 X.2.1 dX12_mostOf_30 (by decide) (fun c5 => ?_) (fun c5 => ?_)
          · refine lv_iload_n X.1 X.2.1 dX12_mostOf_37 rfl (lv_at hl 1 rfl) ?_
            refine lv_bipush (v := 6) X.1 X.2.1 dX12_mostOf_38 (by decide +kernel) ?_
            refine lv_icmp_ne (tgt := 47) X.1 X.2.1 dX12_mostOf_40 (by decide) (fun c6 => ?_) (fun c6 => ?_)
            · exact ((c6 (iv_one h1 (iv_c 6 (a := 6) (b := 6) (by decide +kernel)) (by decide +kernel)))).elim
            · refine lv_iconst (v := 1) X.1 X.2.1 dX12_mostOf_43 (by decide +kernel) ?_
              refine lv_goto (tgt := 49) X.1 X.2.1 dX12_mostOf_44 (by decide) ?_
              exact sg_iretP X hr hlk hS (iv_c 1 (a := 1) (b := 1) (by decide +kernel)) dX12_mostOf_49
          · exact ((iv_no (a := 6) (b := 3) (iv_eqm c5 h1 (iv_c 3 (a := 3) (b := 3) (by decide +kernel)) (by decide +kernel)) (by decide +kernel))).elim
    · exact ((iv_no (a := 6) (b := 0) (iv_eqm c2 h1 (iv_c 0 (a := 0) (b := 0) (by decide +kernel)) (by decide +kernel)) (by decide +kernel))).elim
  · exact ((c1 (iv_one h0 (iv_c 115 (a := 115) (b := 115) (by decide +kernel)) (by decide +kernel)))).elim

theorem ca_X12_mostOf_k6   (X : CallFix p m c cc nL s args sg_tbl own) (hK : va_K D vwCl tys s) (hG : sgG (KT P) D vwCl (fun q : Nat => base ≤ q) tys ad ks H) (hC : sgC base s) (hA : ∀ q : Nat, A q → base ≤ q) (hS : va_S A s.heap H locs) (hb : base ≤ s.heap.size) (x0 : Int32) (h0 : iv 115 115 x0) (x1 : Int32) (h1 : iv 6 6 x1) (hl : Cond.methodLink own index yX12_mostOf ∈ sg_tbl) (hsize : ls.size = nL) (hst : st0 = [.int x0, .int x1].reverse ++ rest) (hW : (rest.map fun v => v.category).sum ≤ 8) (hR : 1 ≤ R.frames ∧ 21 ≤ R.locals) (hf : cells ≤ R.cells ∧ slots ≤ R.slots) (hdg : decode cc pc = .ok (.invokestatic index, 3)) (kk : ∀ (r : Int32) (locs1 : List Loc), (fun r : Int32 => iv 1 1 r) r → va_S A s.heap H locs1 → W p l e R s m args below meth c H locs1 cells slots Q (F0 m (pc + 3) ls (.int r :: rest))) : W p l e R s m args below meth c H locs cells slots Q (F0 m pc ls st0) :=
  sg_callPSi X hK hG hC hA hS hb (m_X12_mostOf_k6 l x0 h0 x1 h1) wl_7_182 wl_1_13 wl_7_181 (n := 2) (by decide +kernel) rfl rfl rfl hl hsize hst hW hR hf hdg kk

set_option maxHeartbeats 8000000 in
set_option maxRecDepth 100000 in
theorem m_X12_rowFrom_r0 (l : Launch) {D : va_G} {base : Nat} {tys : List (ClassId × FieldType)} {ad ks : List Nat} {P : sgPm} {Hx : Heap} (x0 : Int32) (x1 : Int32) (h1 : iv 0 29 x1) (x2 : Int32) (h2 : iv 0 0 x2) (a3 : Nat) (h3 : isK ad ks 50 a3) : sgPi l (KM 7 P) D vwCl base tys ad ks Hx yX12_rowFrom cX12_rowFrom 9 (some .int) ({ frames := 1, cells := 0, slots := 0, locals := 21 }) [.int x0, .int x1, .int x2, .ref a3] (fun r : Int32 => True) := by
  refine sg_ofP (Pq := fun Hx => va_Qi (fun r (_ : Unit) => (fun r : Int32 => True) r) (fun _ t => t.heap = Hx) (fun _ : Nat => False)) (by decide +kernel) (Nat.le_of_ble_eq_true rfl) (fun p e s m below meth c X hr hlk hb hK hC hG ls hl => ?_)
  have hS : va_S (fun _ : Nat => False) s.heap s.heap [] := va_S.rf
  have hl : lv_has ls 9 [(0, .int x0), (1, .int x1), (2, .int x2), (3, .ref a3)] := hl
  refine lv_iload_n X.1 X.2.1 dX12_rowFrom_0 rfl (lv_at hl 1 rfl) ?_
  refine lv_aload_n X.1 X.2.1 dX12_rowFrom_1 rfl (lv_at hl 3 rfl) ?_
  refine lv_iconst (v := 0) X.1 X.2.1 dX12_rowFrom_2 (by decide +kernel) ?_
  refine al_50m X hK hG h3 (iv_vpin (iv_c 0 (a := 0) (b := 0) (by decide +kernel)) (by decide +kernel)) dX12_rowFrom_3 (fun f1 hf1 => ?_)
  have of1 := hf1
  have hf1 : iv 1 6 f1 := sg_rr7 hf1 (iv_c 0 (a := 0) (b := 0) (by decide +kernel)) (by decide +kernel) rfl
  refine lv_irem X.1 X.2.1 dX12_rowFrom_4 (iv_ne0 hf1 (by decide +kernel)) ?_
  refine lv_topi (fun f2 ef2 => ?_)
  refine lv_istore (lv' := [(4, .int f2), (0, .int x0), (1, .int x1), (2, .int x2), (3, .ref a3)]) X.1 X.2.1 dX12_rowFrom_5 hl (by decide) rfl (fun ls hl => ?_)
  refine lv_iload_n X.1 X.2.1 dX12_rowFrom_7 rfl (lv_at hl 2 rfl) ?_
  refine lv_aload_n X.1 X.2.1 dX12_rowFrom_8 rfl (lv_at hl 4 rfl) ?_
  refine lv_iconst (v := 0) X.1 X.2.1 dX12_rowFrom_9 (by decide +kernel) ?_
  refine al_50m X hK hG h3 (iv_vpin (iv_c 0 (a := 0) (b := 0) (by decide +kernel)) (by decide +kernel)) dX12_rowFrom_10 (fun f3 hf3 => ?_)
  have of3 := hf3
  have hf3 : iv 1 6 f3 := sg_rr7 hf3 (iv_c 0 (a := 0) (b := 0) (by decide +kernel)) (by decide +kernel) rfl
  refine lv_idiv X.1 X.2.1 dX12_rowFrom_11 (iv_ne0 hf3 (by decide +kernel)) ?_
  refine lv_topi (fun f4 ef4 => ?_)
  refine lv_istore (lv' := [(5, .int f4), (4, .int f2), (0, .int x0), (1, .int x1), (2, .int x2), (3, .ref a3)]) X.1 X.2.1 dX12_rowFrom_12 hl (by decide) rfl (fun ls hl => ?_)
  refine lv_iload_n X.1 X.2.1 dX12_rowFrom_14 rfl (lv_at hl 4 rfl) ?_
  have B6_37 : ∀ (locs : List Loc) (ls : Array Slot) (w6_0 : Int32), va_S (fun _ : Nat => False) s.heap s.heap locs → lv_has ls 9 [(0, .int x0), (2, .int x2), (3, .ref a3), (4, .int f2), (5, .int f4)] → iv 1 1 w6_0 → W p l e (headSpec (Cond.code yX12_rowFrom cX12_rowFrom 9 (some .int) :: sg_tbl) ({ frames := 1, cells := 0, slots := 0, locals := 21 })).room s m #[.int x0, .int x1, .int x2, .ref a3] below meth c s.heap locs 0 0 (MQ below (va_Qi (fun r (_ : Unit) => (fun r : Int32 => True) r) (fun _ t => t.heap = s.heap) (fun _ : Nat => False)) #[.int x0, .int x1, .int x2, .ref a3] s 0 0 (fun _ : Nat => False)) (F0 m 37 ls [.int w6_0]) := by
    intro locs ls w6_0 hS hl hw6_0
    refine lv_istore (lv' := [(6, .int w6_0), (0, .int x0), (2, .int x2), (3, .ref a3), (4, .int f2), (5, .int f4)]) X.1 X.2.1 dX12_rowFrom_37 hl (by decide) rfl (fun ls hl => ?_)
    refine lv_iload_n X.1 X.2.1 dX12_rowFrom_39 rfl (lv_at hl 2 rfl) ?_
    have B8_48 : ∀ (locs : List Loc) (ls : Array Slot) (w8_0 : Int32), va_S (fun _ : Nat => False) s.heap s.heap locs → lv_has ls 9 [(0, .int x0), (3, .ref a3), (4, .int f2), (5, .int f4), (6, .int w6_0)] → iv 0 0 w8_0 → W p l e (headSpec (Cond.code yX12_rowFrom cX12_rowFrom 9 (some .int) :: sg_tbl) ({ frames := 1, cells := 0, slots := 0, locals := 21 })).room s m #[.int x0, .int x1, .int x2, .ref a3] below meth c s.heap locs 0 0 (MQ below (va_Qi (fun r (_ : Unit) => (fun r : Int32 => True) r) (fun _ t => t.heap = s.heap) (fun _ : Nat => False)) #[.int x0, .int x1, .int x2, .ref a3] s 0 0 (fun _ : Nat => False)) (F0 m 48 ls [.int w8_0]) := by
      intro locs ls w8_0 hS hl hw8_0
      refine lv_istore (lv' := [(7, .int w8_0), (0, .int x0), (3, .ref a3), (4, .int f2), (5, .int f4), (6, .int w6_0)]) X.1 X.2.1 dX12_rowFrom_48 hl (by decide) rfl (fun ls hl => ?_)
      refine lv_iconst (v := 0) X.1 X.2.1 dX12_rowFrom_50 (by decide +kernel) ?_
      refine lv_istore (lv' := [(8, .int 0), (7, .int w8_0), (0, .int x0), (3, .ref a3), (4, .int f2), (5, .int f4), (6, .int w6_0)]) X.1 X.2.1 dX12_rowFrom_51 hl (by decide) rfl (fun ls hl => ?_)
      have B9_53 : ∀ (N : Nat) (locs : List Loc) (ls : Array Slot) (z9_4 : Int32) (z9_5 : Int32) (z9_8 : Int32), va_S (fun _ : Nat => False) s.heap s.heap locs → lv_has ls 9 [(0, .int x0), (3, .ref a3), (4, .int z9_4), (5, .int z9_5), (6, .int w6_0), (7, .int w8_0), (8, .int z9_8)] → iv 0 6 z9_4 → iv 0 29 z9_5 → (7 - z9_4.toInt).toNat ≤ N → W p l e (headSpec (Cond.code yX12_rowFrom cX12_rowFrom 9 (some .int) :: sg_tbl) ({ frames := 1, cells := 0, slots := 0, locals := 21 })).room s m #[.int x0, .int x1, .int x2, .ref a3] below meth c s.heap locs 0 0 (MQ below (va_Qi (fun r (_ : Unit) => (fun r : Int32 => True) r) (fun _ t => t.heap = s.heap) (fun _ : Nat => False)) #[.int x0, .int x1, .int x2, .ref a3] s 0 0 (fun _ : Nat => False)) (F0 m 53 ls []) := by
        intro N; induction N with
        | zero =>
          intro locs ls z9_4 z9_5 z9_8 hS hl hz9_4 hz9_5 hN
          exact absurd hN (by have := iv_up hz9_4; omega)
        | succ N ih9 =>
          intro locs ls z9_4 z9_5 z9_8 hS hl hz9_4 hz9_5 hN9
          refine lv_iload X.1 X.2.1 dX12_rowFrom_53 (lv_at hl 2 rfl) ?_
          refine lv_if_lt (tgt := 110) X.1 X.2.1 dX12_rowFrom_55 (by decide) (fun c10 => ?_) (fun c10 => ?_)
          · exact ((iv_no (iv_lt (b' := (-1)) c10 hz9_4 (iv_c 0 (a := 0) (b := 0) (by decide +kernel)) (by decide +kernel)) (by decide +kernel))).elim
          · refine lv_iload X.1 X.2.1 dX12_rowFrom_58 (lv_at hl 2 rfl) ?_
            refine lv_aload_n X.1 X.2.1 dX12_rowFrom_60 rfl (lv_at hl 1 rfl) ?_
            refine lv_iconst (v := 0) X.1 X.2.1 dX12_rowFrom_61 (by decide +kernel) ?_
            refine al_50m X hK hG h3 (iv_vpin (iv_c 0 (a := 0) (b := 0) (by decide +kernel)) (by decide +kernel)) dX12_rowFrom_62 (fun f11 hf11 => ?_)
            have of11 := hf11
            have hf11 : iv 1 6 f11 := sg_rr7 hf11 (iv_c 0 (a := 0) (b := 0) (by decide +kernel)) (by decide +kernel) rfl
            refine lv_icmp_ge (tgt := 110) X.1 X.2.1 dX12_rowFrom_63 (by decide) (fun c12 => ?_) (fun c12 => ?_)
            · refine lv_iload X.1 X.2.1 dX12_rowFrom_110 (lv_at hl 6 rfl) ?_
              exact sg_iretP X hr hlk hS trivial dX12_rowFrom_112
            · refine lv_iload X.1 X.2.1 dX12_rowFrom_66 (lv_at hl 3 rfl) ?_
              refine lv_aload_n X.1 X.2.1 dX12_rowFrom_68 rfl (lv_at hl 1 rfl) ?_
              refine lv_iconst (v := 1) X.1 X.2.1 dX12_rowFrom_69 (by decide +kernel) ?_
              refine al_50m X hK hG h3 (iv_vpin (iv_c 1 (a := 1) (b := 1) (by decide +kernel)) (by decide +kernel)) dX12_rowFrom_70 (fun f13 hf13 => ?_)
              have of13 := hf13
              have hf13 : iv 1 5 f13 := sg_rr7 hf13 (iv_c 1 (a := 1) (b := 1) (by decide +kernel)) (by decide +kernel) rfl
              refine lv_icmp_ge (tgt := 110) X.1 X.2.1 dX12_rowFrom_71 (by decide) (fun c14 => ?_) (fun c14 => ?_)
              · refine lv_iload X.1 X.2.1 dX12_rowFrom_110 (lv_at hl 6 rfl) ?_
                exact sg_iretP X hr hlk hS trivial dX12_rowFrom_112
              · refine lv_iload_n X.1 X.2.1 dX12_rowFrom_74 rfl (lv_at hl 0 rfl) ?_
                refine lv_iload X.1 X.2.1 dX12_rowFrom_75 (lv_at hl 3 rfl) ?_
                refine lv_aload_n X.1 X.2.1 dX12_rowFrom_77 rfl (lv_at hl 1 rfl) ?_
                refine lv_iconst (v := 0) X.1 X.2.1 dX12_rowFrom_78 (by decide +kernel) ?_
                refine al_50m X hK hG h3 (iv_vpin (iv_c 0 (a := 0) (b := 0) (by decide +kernel)) (by decide +kernel)) dX12_rowFrom_79 (fun f15 hf15 => ?_)
                have of15 := hf15
                have hf15 : iv 1 6 f15 := sg_rr7 hf15 (iv_c 0 (a := 0) (b := 0) (by decide +kernel)) (by decide +kernel) rfl
                refine lv_imul X.1 X.2.1 dX12_rowFrom_80 ?_
                refine lv_topi (fun f16 ef16 => ?_)
                refine lv_iload X.1 X.2.1 dX12_rowFrom_81 (lv_at hl 2 rfl) ?_
                refine lv_iadd X.1 X.2.1 dX12_rowFrom_83 ?_
                refine lv_topi (fun f17 ef17 => ?_)
                refine ca_X12_has X hK (sgm_weak (by omega) hG) hC (fun _ h => h.elim) hS hb x0 f17 wl_7_174 hl.1 (rest := []) rfl (Nat.le_of_ble_eq_true rfl) ⟨Nat.le_of_ble_eq_true rfl, Nat.le_of_ble_eq_true rfl⟩ ⟨Nat.le_of_ble_eq_true rfl, Nat.le_of_ble_eq_true rfl⟩ dX12_rowFrom_84 (fun f18 locs hf18 hS => ?_)
                refine lv_if_eq (tgt := 110) X.1 X.2.1 dX12_rowFrom_87 (by decide) (fun c19 => ?_) (fun c19 => ?_)
                · refine lv_iload X.1 X.2.1 dX12_rowFrom_110 (lv_at hl 6 rfl) ?_
                  exact sg_iretP X hr hlk hS trivial dX12_rowFrom_112
                · obtain ⟨y20, ey20⟩ : ∃ y : Int32, y = z9_8 + Int32.ofInt 1 := ⟨_, rfl⟩
                  refine lv_iinc (v := y20) (lv' := [(8, .int y20), (0, .int x0), (3, .ref a3), (4, .int z9_4), (5, .int z9_5), (6, .int w6_0), (7, .int w8_0)]) X.1 X.2.1 dX12_rowFrom_90 hl (k := 6) rfl ey20.symm (by decide) rfl (fun ls hl => ?_)
                  refine lv_iload X.1 X.2.1 dX12_rowFrom_93 (lv_at hl 3 rfl) ?_
                  refine lv_iload X.1 X.2.1 dX12_rowFrom_95 (lv_at hl 5 rfl) ?_
                  refine lv_iadd X.1 X.2.1 dX12_rowFrom_97 ?_
                  refine lv_topi (fun f21 ef21 => ?_)
                  refine lv_istore (lv' := [(4, .int f21), (8, .int y20), (0, .int x0), (3, .ref a3), (5, .int z9_5), (6, .int w6_0), (7, .int w8_0)]) X.1 X.2.1 dX12_rowFrom_98 hl (by decide) rfl (fun ls hl => ?_)
                  refine lv_iload X.1 X.2.1 dX12_rowFrom_100 (lv_at hl 4 rfl) ?_
                  refine lv_iload X.1 X.2.1 dX12_rowFrom_102 (lv_at hl 6 rfl) ?_
                  refine lv_iadd X.1 X.2.1 dX12_rowFrom_104 ?_
                  refine lv_topi (fun f22 ef22 => ?_)
                  refine lv_istore (lv' := [(5, .int f22), (4, .int f21), (8, .int y20), (0, .int x0), (3, .ref a3), (6, .int w6_0), (7, .int w8_0)]) X.1 X.2.1 dX12_rowFrom_105 hl (by decide) rfl (fun ls hl => ?_)
                  refine lv_goto (tgt := 53) X.1 X.2.1 dX12_rowFrom_107 (by decide) ?_
                  exact ih9 _ _ f21 f22 y20 hS (lv_sub hl [3, 4, 1, 0, 5, 6, 2] rfl) (iv_of (iv_add (a' := 1) (b' := 6) ef21 (iv_lt (b' := 5) (iv_gt_of c12) hz9_4 hf11 (by decide +kernel)) hw6_0 (by decide +kernel)) (a' := 0) (b' := 6) (by decide +kernel)) (iv_of (iv_add (a' := 0) (b' := 4) ef22 (iv_lt (b' := 4) (iv_gt_of c14) hz9_5 hf13 (by decide +kernel)) hw8_0 (by decide +kernel)) (a' := 0) (b' := 29) (by decide +kernel)) (iv_stepUv ef21 hw6_0 (iv_lt (b' := 5) (iv_gt_of c12) hz9_4 hf11 (by decide +kernel)) (by decide +kernel) hN9)
      exact B9_53 _ _ _ f2 f4 0 hS (lv_sub hl [2, 3, 4, 5, 6, 1, 0] rfl) (iv_of (iv_rem (a' := 0) (b' := 5) ef2 h1 hf1 (by decide +kernel)) (a' := 0) (b' := 6) (by decide +kernel)) (iv_div (a' := 0) (b' := 29) ef4 h1 hf3 (by decide +kernel)) (Nat.le_refl _)
    refine lv_if_ne (tgt := 47) X.1 X.2.1 dX12_rowFrom_40 (by decide) (fun c7 => ?_) (fun c7 => ?_)
    · exact ((c7 (iv_one h2 (iv_c 0 (a := 0) (b := 0) (by decide +kernel)) (by decide +kernel)))).elim
    · refine lv_iconst (v := 0) X.1 X.2.1 dX12_rowFrom_43 (by decide +kernel) ?_
      refine lv_goto (tgt := 48) X.1 X.2.1 dX12_rowFrom_44 (by decide) ?_
      exact B8_48 _ _ 0 hS (lv_sub hl [1, 3, 4, 5, 0] rfl) (iv_c 0 (a := 0) (b := 0) (by decide +kernel))
  have B23_23 : ∀ (locs : List Loc) (ls : Array Slot), va_S (fun _ : Nat => False) s.heap s.heap locs → lv_has ls 9 [(0, .int x0), (2, .int x2), (3, .ref a3), (4, .int f2), (5, .int f4)] → W p l e (headSpec (Cond.code yX12_rowFrom cX12_rowFrom 9 (some .int) :: sg_tbl) ({ frames := 1, cells := 0, slots := 0, locals := 21 })).room s m #[.int x0, .int x1, .int x2, .ref a3] below meth c s.heap locs 0 0 (MQ below (va_Qi (fun r (_ : Unit) => (fun r : Int32 => True) r) (fun _ t => t.heap = s.heap) (fun _ : Nat => False)) #[.int x0, .int x1, .int x2, .ref a3] s 0 0 (fun _ : Nat => False)) (F0 m 23 ls []) := by
    intro locs ls hS hl
    refine lv_iconst (v := 1) X.1 X.2.1 dX12_rowFrom_23 (by decide +kernel) ?_
    refine lv_goto (tgt := 37) X.1 X.2.1 dX12_rowFrom_24 (by decide) ?_
    exact B6_37 _ _ 1 hS (lv_sub hl [0, 1, 2, 3, 4] rfl) (iv_c 1 (a := 1) (b := 1) (by decide +kernel))
  refine lv_if_eq (tgt := 23) X.1 X.2.1 dX12_rowFrom_15 (by decide) (fun c5 => ?_) (fun c5 => ?_)
  · exact B23_23 _ _ hS (lv_sub hl [2, 4, 5, 1, 0] rfl)
  · exact ((c5 (iv_one h2 (iv_c 0 (a := 0) (b := 0) (by decide +kernel)) (by decide +kernel)))).elim

theorem ca_X12_rowFrom_r0   (X : CallFix p m c cc nL s args sg_tbl own) (hK : va_K D vwCl tys s) (hG : sgG (KM 7 P) D vwCl (fun q : Nat => base ≤ q) tys ad ks H) (hC : sgC base s) (hA : ∀ q : Nat, A q → base ≤ q) (hS : va_S A s.heap H locs) (hb : base ≤ s.heap.size) (x0 : Int32) (x1 : Int32) (h1 : iv 0 29 x1) (x2 : Int32) (h2 : iv 0 0 x2) (a3 : Nat) (h3 : isK ad ks 50 a3) (hl : Cond.methodLink own index yX12_rowFrom ∈ sg_tbl) (hsize : ls.size = nL) (hst : st0 = [.int x0, .int x1, .int x2, .ref a3].reverse ++ rest) (hW : (rest.map fun v => v.category).sum ≤ 8) (hR : 2 ≤ R.frames ∧ 49 ≤ R.locals) (hf : cells ≤ R.cells ∧ slots ≤ R.slots) (hdg : decode cc pc = .ok (.invokestatic index, 3)) (kk : ∀ (r : Int32) (locs1 : List Loc), (fun r : Int32 => True) r → va_S A s.heap H locs1 → W p l e R s m args below meth c H locs1 cells slots Q (F0 m (pc + 3) ls (.int r :: rest))) : W p l e R s m args below meth c H locs cells slots Q (F0 m pc ls st0) :=
  sg_callPSi X hK hG hC hA hS hb (m_X12_rowFrom_r0 l x0 x1 h1 x2 h2 a3 h3) wl_7_204 wl_1_13 wl_7_203 (n := 4) (by decide +kernel) rfl rfl rfl hl hsize hst hW hR hf hdg kk

set_option maxHeartbeats 8000000 in
set_option maxRecDepth 100000 in
theorem m_X12_rowFrom_r1 (l : Launch) {D : va_G} {base : Nat} {tys : List (ClassId × FieldType)} {ad ks : List Nat} {P : sgPm} {Hx : Heap} (x0 : Int32) (x1 : Int32) (h1 : iv 0 29 x1) (x2 : Int32) (h2 : iv 1 1 x2) (a3 : Nat) (h3 : isK ad ks 50 a3) : sgPi l (KM 7 P) D vwCl base tys ad ks Hx yX12_rowFrom cX12_rowFrom 9 (some .int) ({ frames := 1, cells := 0, slots := 0, locals := 21 }) [.int x0, .int x1, .int x2, .ref a3] (fun r : Int32 => True) := by
  refine sg_ofP (Pq := fun Hx => va_Qi (fun r (_ : Unit) => (fun r : Int32 => True) r) (fun _ t => t.heap = Hx) (fun _ : Nat => False)) (by decide +kernel) (Nat.le_of_ble_eq_true rfl) (fun p e s m below meth c X hr hlk hb hK hC hG ls hl => ?_)
  have hS : va_S (fun _ : Nat => False) s.heap s.heap [] := va_S.rf
  have hl : lv_has ls 9 [(0, .int x0), (1, .int x1), (2, .int x2), (3, .ref a3)] := hl
  refine lv_iload_n X.1 X.2.1 dX12_rowFrom_0 rfl (lv_at hl 1 rfl) ?_
  refine lv_aload_n X.1 X.2.1 dX12_rowFrom_1 rfl (lv_at hl 3 rfl) ?_
  refine lv_iconst (v := 0) X.1 X.2.1 dX12_rowFrom_2 (by decide +kernel) ?_
  refine al_50m X hK hG h3 (iv_vpin (iv_c 0 (a := 0) (b := 0) (by decide +kernel)) (by decide +kernel)) dX12_rowFrom_3 (fun f1 hf1 => ?_)
  have of1 := hf1
  have hf1 : iv 1 6 f1 := sg_rr7 hf1 (iv_c 0 (a := 0) (b := 0) (by decide +kernel)) (by decide +kernel) rfl
  refine lv_irem X.1 X.2.1 dX12_rowFrom_4 (iv_ne0 hf1 (by decide +kernel)) ?_
  refine lv_topi (fun f2 ef2 => ?_)
  refine lv_istore (lv' := [(4, .int f2), (0, .int x0), (1, .int x1), (2, .int x2), (3, .ref a3)]) X.1 X.2.1 dX12_rowFrom_5 hl (by decide) rfl (fun ls hl => ?_)
  refine lv_iload_n X.1 X.2.1 dX12_rowFrom_7 rfl (lv_at hl 2 rfl) ?_
  refine lv_aload_n X.1 X.2.1 dX12_rowFrom_8 rfl (lv_at hl 4 rfl) ?_
  refine lv_iconst (v := 0) X.1 X.2.1 dX12_rowFrom_9 (by decide +kernel) ?_
  refine al_50m X hK hG h3 (iv_vpin (iv_c 0 (a := 0) (b := 0) (by decide +kernel)) (by decide +kernel)) dX12_rowFrom_10 (fun f3 hf3 => ?_)
  have of3 := hf3
  have hf3 : iv 1 6 f3 := sg_rr7 hf3 (iv_c 0 (a := 0) (b := 0) (by decide +kernel)) (by decide +kernel) rfl
  refine lv_idiv X.1 X.2.1 dX12_rowFrom_11 (iv_ne0 hf3 (by decide +kernel)) ?_
  refine lv_topi (fun f4 ef4 => ?_)
  refine lv_istore (lv' := [(5, .int f4), (4, .int f2), (0, .int x0), (1, .int x1), (2, .int x2), (3, .ref a3)]) X.1 X.2.1 dX12_rowFrom_12 hl (by decide) rfl (fun ls hl => ?_)
  refine lv_iload_n X.1 X.2.1 dX12_rowFrom_14 rfl (lv_at hl 4 rfl) ?_
  have B6_37 : ∀ (locs : List Loc) (ls : Array Slot) (w6_0 : Int32), va_S (fun _ : Nat => False) s.heap s.heap locs → lv_has ls 9 [(0, .int x0), (2, .int x2), (3, .ref a3), (4, .int f2), (5, .int f4)] → iv 0 0 w6_0 → W p l e (headSpec (Cond.code yX12_rowFrom cX12_rowFrom 9 (some .int) :: sg_tbl) ({ frames := 1, cells := 0, slots := 0, locals := 21 })).room s m #[.int x0, .int x1, .int x2, .ref a3] below meth c s.heap locs 0 0 (MQ below (va_Qi (fun r (_ : Unit) => (fun r : Int32 => True) r) (fun _ t => t.heap = s.heap) (fun _ : Nat => False)) #[.int x0, .int x1, .int x2, .ref a3] s 0 0 (fun _ : Nat => False)) (F0 m 37 ls [.int w6_0]) := by
    intro locs ls w6_0 hS hl hw6_0
    refine lv_istore (lv' := [(6, .int w6_0), (0, .int x0), (2, .int x2), (3, .ref a3), (4, .int f2), (5, .int f4)]) X.1 X.2.1 dX12_rowFrom_37 hl (by decide) rfl (fun ls hl => ?_)
    refine lv_iload_n X.1 X.2.1 dX12_rowFrom_39 rfl (lv_at hl 2 rfl) ?_
    have B8_48 : ∀ (locs : List Loc) (ls : Array Slot) (w8_0 : Int32), va_S (fun _ : Nat => False) s.heap s.heap locs → lv_has ls 9 [(0, .int x0), (3, .ref a3), (4, .int f2), (5, .int f4), (6, .int w6_0)] → iv 1 1 w8_0 → W p l e (headSpec (Cond.code yX12_rowFrom cX12_rowFrom 9 (some .int) :: sg_tbl) ({ frames := 1, cells := 0, slots := 0, locals := 21 })).room s m #[.int x0, .int x1, .int x2, .ref a3] below meth c s.heap locs 0 0 (MQ below (va_Qi (fun r (_ : Unit) => (fun r : Int32 => True) r) (fun _ t => t.heap = s.heap) (fun _ : Nat => False)) #[.int x0, .int x1, .int x2, .ref a3] s 0 0 (fun _ : Nat => False)) (F0 m 48 ls [.int w8_0]) := by
      intro locs ls w8_0 hS hl hw8_0
      refine lv_istore (lv' := [(7, .int w8_0), (0, .int x0), (3, .ref a3), (4, .int f2), (5, .int f4), (6, .int w6_0)]) X.1 X.2.1 dX12_rowFrom_48 hl (by decide) rfl (fun ls hl => ?_)
      refine lv_iconst (v := 0) X.1 X.2.1 dX12_rowFrom_50 (by decide +kernel) ?_
      refine lv_istore (lv' := [(8, .int 0), (7, .int w8_0), (0, .int x0), (3, .ref a3), (4, .int f2), (5, .int f4), (6, .int w6_0)]) X.1 X.2.1 dX12_rowFrom_51 hl (by decide) rfl (fun ls hl => ?_)
      have B9_53 : ∀ (N : Nat) (locs : List Loc) (ls : Array Slot) (z9_4 : Int32) (z9_5 : Int32) (z9_8 : Int32), va_S (fun _ : Nat => False) s.heap s.heap locs → lv_has ls 9 [(0, .int x0), (3, .ref a3), (4, .int z9_4), (5, .int z9_5), (6, .int w6_0), (7, .int w8_0), (8, .int z9_8)] → iv 0 5 z9_4 → iv 0 29 z9_5 → (30 - z9_5.toInt).toNat ≤ N → W p l e (headSpec (Cond.code yX12_rowFrom cX12_rowFrom 9 (some .int) :: sg_tbl) ({ frames := 1, cells := 0, slots := 0, locals := 21 })).room s m #[.int x0, .int x1, .int x2, .ref a3] below meth c s.heap locs 0 0 (MQ below (va_Qi (fun r (_ : Unit) => (fun r : Int32 => True) r) (fun _ t => t.heap = s.heap) (fun _ : Nat => False)) #[.int x0, .int x1, .int x2, .ref a3] s 0 0 (fun _ : Nat => False)) (F0 m 53 ls []) := by
        intro N; induction N with
        | zero =>
          intro locs ls z9_4 z9_5 z9_8 hS hl hz9_4 hz9_5 hN
          exact absurd hN (by have := iv_up hz9_5; omega)
        | succ N ih9 =>
          intro locs ls z9_4 z9_5 z9_8 hS hl hz9_4 hz9_5 hN9
          refine lv_iload X.1 X.2.1 dX12_rowFrom_53 (lv_at hl 2 rfl) ?_
          refine lv_if_lt (tgt := 110) X.1 X.2.1 dX12_rowFrom_55 (by decide) (fun c10 => ?_) (fun c10 => ?_)
          · exact ((iv_no (iv_lt (b' := (-1)) c10 hz9_4 (iv_c 0 (a := 0) (b := 0) (by decide +kernel)) (by decide +kernel)) (by decide +kernel))).elim
          · refine lv_iload X.1 X.2.1 dX12_rowFrom_58 (lv_at hl 2 rfl) ?_
            refine lv_aload_n X.1 X.2.1 dX12_rowFrom_60 rfl (lv_at hl 1 rfl) ?_
            refine lv_iconst (v := 0) X.1 X.2.1 dX12_rowFrom_61 (by decide +kernel) ?_
            refine al_50m X hK hG h3 (iv_vpin (iv_c 0 (a := 0) (b := 0) (by decide +kernel)) (by decide +kernel)) dX12_rowFrom_62 (fun f11 hf11 => ?_)
            have of11 := hf11
            have hf11 : iv 1 6 f11 := sg_rr7 hf11 (iv_c 0 (a := 0) (b := 0) (by decide +kernel)) (by decide +kernel) rfl
            refine lv_icmp_ge (tgt := 110) X.1 X.2.1 dX12_rowFrom_63 (by decide) (fun c12 => ?_) (fun c12 => ?_)
            · refine lv_iload X.1 X.2.1 dX12_rowFrom_110 (lv_at hl 6 rfl) ?_
              exact sg_iretP X hr hlk hS trivial dX12_rowFrom_112
            · refine lv_iload X.1 X.2.1 dX12_rowFrom_66 (lv_at hl 3 rfl) ?_
              refine lv_aload_n X.1 X.2.1 dX12_rowFrom_68 rfl (lv_at hl 1 rfl) ?_
              refine lv_iconst (v := 1) X.1 X.2.1 dX12_rowFrom_69 (by decide +kernel) ?_
              refine al_50m X hK hG h3 (iv_vpin (iv_c 1 (a := 1) (b := 1) (by decide +kernel)) (by decide +kernel)) dX12_rowFrom_70 (fun f13 hf13 => ?_)
              have of13 := hf13
              have hf13 : iv 1 5 f13 := sg_rr7 hf13 (iv_c 1 (a := 1) (b := 1) (by decide +kernel)) (by decide +kernel) rfl
              refine lv_icmp_ge (tgt := 110) X.1 X.2.1 dX12_rowFrom_71 (by decide) (fun c14 => ?_) (fun c14 => ?_)
              · refine lv_iload X.1 X.2.1 dX12_rowFrom_110 (lv_at hl 6 rfl) ?_
                exact sg_iretP X hr hlk hS trivial dX12_rowFrom_112
              · refine lv_iload_n X.1 X.2.1 dX12_rowFrom_74 rfl (lv_at hl 0 rfl) ?_
                refine lv_iload X.1 X.2.1 dX12_rowFrom_75 (lv_at hl 3 rfl) ?_
                refine lv_aload_n X.1 X.2.1 dX12_rowFrom_77 rfl (lv_at hl 1 rfl) ?_
                refine lv_iconst (v := 0) X.1 X.2.1 dX12_rowFrom_78 (by decide +kernel) ?_
                refine al_50m X hK hG h3 (iv_vpin (iv_c 0 (a := 0) (b := 0) (by decide +kernel)) (by decide +kernel)) dX12_rowFrom_79 (fun f15 hf15 => ?_)
                have of15 := hf15
                have hf15 : iv 1 6 f15 := sg_rr7 hf15 (iv_c 0 (a := 0) (b := 0) (by decide +kernel)) (by decide +kernel) rfl
                refine lv_imul X.1 X.2.1 dX12_rowFrom_80 ?_
                refine lv_topi (fun f16 ef16 => ?_)
                refine lv_iload X.1 X.2.1 dX12_rowFrom_81 (lv_at hl 2 rfl) ?_
                refine lv_iadd X.1 X.2.1 dX12_rowFrom_83 ?_
                refine lv_topi (fun f17 ef17 => ?_)
                refine ca_X12_has X hK (sgm_weak (by omega) hG) hC (fun _ h => h.elim) hS hb x0 f17 wl_7_174 hl.1 (rest := []) rfl (Nat.le_of_ble_eq_true rfl) ⟨Nat.le_of_ble_eq_true rfl, Nat.le_of_ble_eq_true rfl⟩ ⟨Nat.le_of_ble_eq_true rfl, Nat.le_of_ble_eq_true rfl⟩ dX12_rowFrom_84 (fun f18 locs hf18 hS => ?_)
                refine lv_if_eq (tgt := 110) X.1 X.2.1 dX12_rowFrom_87 (by decide) (fun c19 => ?_) (fun c19 => ?_)
                · refine lv_iload X.1 X.2.1 dX12_rowFrom_110 (lv_at hl 6 rfl) ?_
                  exact sg_iretP X hr hlk hS trivial dX12_rowFrom_112
                · obtain ⟨y20, ey20⟩ : ∃ y : Int32, y = z9_8 + Int32.ofInt 1 := ⟨_, rfl⟩
                  refine lv_iinc (v := y20) (lv' := [(8, .int y20), (0, .int x0), (3, .ref a3), (4, .int z9_4), (5, .int z9_5), (6, .int w6_0), (7, .int w8_0)]) X.1 X.2.1 dX12_rowFrom_90 hl (k := 6) rfl ey20.symm (by decide) rfl (fun ls hl => ?_)
                  refine lv_iload X.1 X.2.1 dX12_rowFrom_93 (lv_at hl 3 rfl) ?_
                  refine lv_iload X.1 X.2.1 dX12_rowFrom_95 (lv_at hl 5 rfl) ?_
                  refine lv_iadd X.1 X.2.1 dX12_rowFrom_97 ?_
                  refine lv_topi (fun f21 ef21 => ?_)
                  refine lv_istore (lv' := [(4, .int f21), (8, .int y20), (0, .int x0), (3, .ref a3), (5, .int z9_5), (6, .int w6_0), (7, .int w8_0)]) X.1 X.2.1 dX12_rowFrom_98 hl (by decide) rfl (fun ls hl => ?_)
                  refine lv_iload X.1 X.2.1 dX12_rowFrom_100 (lv_at hl 4 rfl) ?_
                  refine lv_iload X.1 X.2.1 dX12_rowFrom_102 (lv_at hl 6 rfl) ?_
                  refine lv_iadd X.1 X.2.1 dX12_rowFrom_104 ?_
                  refine lv_topi (fun f22 ef22 => ?_)
                  refine lv_istore (lv' := [(5, .int f22), (4, .int f21), (8, .int y20), (0, .int x0), (3, .ref a3), (6, .int w6_0), (7, .int w8_0)]) X.1 X.2.1 dX12_rowFrom_105 hl (by decide) rfl (fun ls hl => ?_)
                  refine lv_goto (tgt := 53) X.1 X.2.1 dX12_rowFrom_107 (by decide) ?_
                  exact ih9 _ _ f21 f22 y20 hS (lv_sub hl [3, 4, 1, 0, 5, 6, 2] rfl) (iv_add (a' := 0) (b' := 5) ef21 hz9_4 hw6_0 (by decide +kernel)) (iv_of (iv_add (a' := 1) (b' := 5) ef22 (iv_lt (b' := 4) (iv_gt_of c14) hz9_5 hf13 (by decide +kernel)) hw8_0 (by decide +kernel)) (a' := 0) (b' := 29) (by decide +kernel)) (iv_stepUv ef22 hw8_0 (iv_lt (b' := 4) (iv_gt_of c14) hz9_5 hf13 (by decide +kernel)) (by decide +kernel) hN9)
      exact B9_53 _ _ _ f2 f4 0 hS (lv_sub hl [2, 3, 4, 5, 6, 1, 0] rfl) (iv_rem (a' := 0) (b' := 5) ef2 h1 hf1 (by decide +kernel)) (iv_div (a' := 0) (b' := 29) ef4 h1 hf3 (by decide +kernel)) (Nat.le_refl _)
    refine lv_if_ne (tgt := 47) X.1 X.2.1 dX12_rowFrom_40 (by decide) (fun c7 => ?_) (fun c7 => ?_)
    · refine lv_iconst (v := 1) X.1 X.2.1 dX12_rowFrom_47 (by decide +kernel) ?_
      exact B8_48 _ _ 1 hS (lv_sub hl [1, 3, 4, 5, 0] rfl) (iv_c 1 (a := 1) (b := 1) (by decide +kernel))
    · exact ((iv_no (a := 1) (b := 0) (iv_eqm c7 h2 (iv_c 0 (a := 0) (b := 0) (by decide +kernel)) (by decide +kernel)) (by decide +kernel))).elim
  refine lv_if_eq (tgt := 23) X.1 X.2.1 dX12_rowFrom_15 (by decide) (fun c5 => ?_) (fun c5 => ?_)
  · exact ((iv_no (a := 1) (b := 0) (iv_eqm c5 h2 (iv_c 0 (a := 0) (b := 0) (by decide +kernel)) (by decide +kernel)) (by decide +kernel))).elim
  · refine lv_iload_n X.1 X.2.1 dX12_rowFrom_18 rfl (lv_at hl 4 rfl) ?_
    refine lv_iconst (v := 2) X.1 X.2.1 dX12_rowFrom_19 (by decide +kernel) ?_
    refine lv_icmp_ne (tgt := 27) X.1 X.2.1 dX12_rowFrom_20 (by decide) (fun c23 => ?_) (fun c23 => ?_)
    · refine lv_iload_n X.1 X.2.1 dX12_rowFrom_27 rfl (lv_at hl 4 rfl) ?_
      refine lv_iconst (v := 3) X.1 X.2.1 dX12_rowFrom_28 (by decide +kernel) ?_
      refine lv_icmp_ne (tgt := 36) X.1 X.2.1 dX12_rowFrom_29 (by decide) (fun c24 => ?_) (fun c24 => ?_)
      · refine lv_iconst (v := 0) X.1 X.2.1 dX12_rowFrom_36 (by decide +kernel) ?_
        exact B6_37 _ _ 0 hS (lv_sub hl [2, 4, 5, 1, 0] rfl) (iv_c 0 (a := 0) (b := 0) (by decide +kernel))
      · exact ((iv_no (a := 3) (b := 1) (iv_eqm c24 h2 (iv_c 3 (a := 3) (b := 3) (by decide +kernel)) (by decide +kernel)) (by decide +kernel))).elim
    · exact ((iv_no (a := 2) (b := 1) (iv_eqm c23 h2 (iv_c 2 (a := 2) (b := 2) (by decide +kernel)) (by decide +kernel)) (by decide +kernel))).elim

theorem ca_X12_rowFrom_r1   (X : CallFix p m c cc nL s args sg_tbl own) (hK : va_K D vwCl tys s) (hG : sgG (KM 7 P) D vwCl (fun q : Nat => base ≤ q) tys ad ks H) (hC : sgC base s) (hA : ∀ q : Nat, A q → base ≤ q) (hS : va_S A s.heap H locs) (hb : base ≤ s.heap.size) (x0 : Int32) (x1 : Int32) (h1 : iv 0 29 x1) (x2 : Int32) (h2 : iv 1 1 x2) (a3 : Nat) (h3 : isK ad ks 50 a3) (hl : Cond.methodLink own index yX12_rowFrom ∈ sg_tbl) (hsize : ls.size = nL) (hst : st0 = [.int x0, .int x1, .int x2, .ref a3].reverse ++ rest) (hW : (rest.map fun v => v.category).sum ≤ 8) (hR : 2 ≤ R.frames ∧ 49 ≤ R.locals) (hf : cells ≤ R.cells ∧ slots ≤ R.slots) (hdg : decode cc pc = .ok (.invokestatic index, 3)) (kk : ∀ (r : Int32) (locs1 : List Loc), (fun r : Int32 => True) r → va_S A s.heap H locs1 → W p l e R s m args below meth c H locs1 cells slots Q (F0 m (pc + 3) ls (.int r :: rest))) : W p l e R s m args below meth c H locs cells slots Q (F0 m pc ls st0) :=
  sg_callPSi X hK hG hC hA hS hb (m_X12_rowFrom_r1 l x0 x1 h1 x2 h2 a3 h3) wl_7_204 wl_1_13 wl_7_203 (n := 4) (by decide +kernel) rfl rfl rfl hl hsize hst hW hR hf hdg kk

set_option maxHeartbeats 8000000 in
set_option maxRecDepth 100000 in
theorem m_X12_rowFrom_r2 (l : Launch) {D : va_G} {base : Nat} {tys : List (ClassId × FieldType)} {ad ks : List Nat} {P : sgPm} {Hx : Heap} (x0 : Int32) (x1 : Int32) (h1 : iv 0 29 x1) (x2 : Int32) (h2 : iv 2 2 x2) (a3 : Nat) (h3 : isK ad ks 50 a3) : sgPi l (KM 7 P) D vwCl base tys ad ks Hx yX12_rowFrom cX12_rowFrom 9 (some .int) ({ frames := 1, cells := 0, slots := 0, locals := 21 }) [.int x0, .int x1, .int x2, .ref a3] (fun r : Int32 => True) := by
  refine sg_ofP (Pq := fun Hx => va_Qi (fun r (_ : Unit) => (fun r : Int32 => True) r) (fun _ t => t.heap = Hx) (fun _ : Nat => False)) (by decide +kernel) (Nat.le_of_ble_eq_true rfl) (fun p e s m below meth c X hr hlk hb hK hC hG ls hl => ?_)
  have hS : va_S (fun _ : Nat => False) s.heap s.heap [] := va_S.rf
  have hl : lv_has ls 9 [(0, .int x0), (1, .int x1), (2, .int x2), (3, .ref a3)] := hl
  refine lv_iload_n X.1 X.2.1 dX12_rowFrom_0 rfl (lv_at hl 1 rfl) ?_
  refine lv_aload_n X.1 X.2.1 dX12_rowFrom_1 rfl (lv_at hl 3 rfl) ?_
  refine lv_iconst (v := 0) X.1 X.2.1 dX12_rowFrom_2 (by decide +kernel) ?_
  refine al_50m X hK hG h3 (iv_vpin (iv_c 0 (a := 0) (b := 0) (by decide +kernel)) (by decide +kernel)) dX12_rowFrom_3 (fun f1 hf1 => ?_)
  have of1 := hf1
  have hf1 : iv 1 6 f1 := sg_rr7 hf1 (iv_c 0 (a := 0) (b := 0) (by decide +kernel)) (by decide +kernel) rfl
  refine lv_irem X.1 X.2.1 dX12_rowFrom_4 (iv_ne0 hf1 (by decide +kernel)) ?_
  refine lv_topi (fun f2 ef2 => ?_)
  refine lv_istore (lv' := [(4, .int f2), (0, .int x0), (1, .int x1), (2, .int x2), (3, .ref a3)]) X.1 X.2.1 dX12_rowFrom_5 hl (by decide) rfl (fun ls hl => ?_)
  refine lv_iload_n X.1 X.2.1 dX12_rowFrom_7 rfl (lv_at hl 2 rfl) ?_
  refine lv_aload_n X.1 X.2.1 dX12_rowFrom_8 rfl (lv_at hl 4 rfl) ?_
  refine lv_iconst (v := 0) X.1 X.2.1 dX12_rowFrom_9 (by decide +kernel) ?_
  refine al_50m X hK hG h3 (iv_vpin (iv_c 0 (a := 0) (b := 0) (by decide +kernel)) (by decide +kernel)) dX12_rowFrom_10 (fun f3 hf3 => ?_)
  have of3 := hf3
  have hf3 : iv 1 6 f3 := sg_rr7 hf3 (iv_c 0 (a := 0) (b := 0) (by decide +kernel)) (by decide +kernel) rfl
  refine lv_idiv X.1 X.2.1 dX12_rowFrom_11 (iv_ne0 hf3 (by decide +kernel)) ?_
  refine lv_topi (fun f4 ef4 => ?_)
  refine lv_istore (lv' := [(5, .int f4), (4, .int f2), (0, .int x0), (1, .int x1), (2, .int x2), (3, .ref a3)]) X.1 X.2.1 dX12_rowFrom_12 hl (by decide) rfl (fun ls hl => ?_)
  refine lv_iload_n X.1 X.2.1 dX12_rowFrom_14 rfl (lv_at hl 4 rfl) ?_
  have B6_37 : ∀ (locs : List Loc) (ls : Array Slot) (w6_0 : Int32), va_S (fun _ : Nat => False) s.heap s.heap locs → lv_has ls 9 [(0, .int x0), (2, .int x2), (3, .ref a3), (4, .int f2), (5, .int f4)] → iv 1 1 w6_0 → W p l e (headSpec (Cond.code yX12_rowFrom cX12_rowFrom 9 (some .int) :: sg_tbl) ({ frames := 1, cells := 0, slots := 0, locals := 21 })).room s m #[.int x0, .int x1, .int x2, .ref a3] below meth c s.heap locs 0 0 (MQ below (va_Qi (fun r (_ : Unit) => (fun r : Int32 => True) r) (fun _ t => t.heap = s.heap) (fun _ : Nat => False)) #[.int x0, .int x1, .int x2, .ref a3] s 0 0 (fun _ : Nat => False)) (F0 m 37 ls [.int w6_0]) := by
    intro locs ls w6_0 hS hl hw6_0
    refine lv_istore (lv' := [(6, .int w6_0), (0, .int x0), (2, .int x2), (3, .ref a3), (4, .int f2), (5, .int f4)]) X.1 X.2.1 dX12_rowFrom_37 hl (by decide) rfl (fun ls hl => ?_)
    refine lv_iload_n X.1 X.2.1 dX12_rowFrom_39 rfl (lv_at hl 2 rfl) ?_
    have B8_48 : ∀ (locs : List Loc) (ls : Array Slot) (w8_0 : Int32), va_S (fun _ : Nat => False) s.heap s.heap locs → lv_has ls 9 [(0, .int x0), (3, .ref a3), (4, .int f2), (5, .int f4), (6, .int w6_0)] → iv 1 1 w8_0 → W p l e (headSpec (Cond.code yX12_rowFrom cX12_rowFrom 9 (some .int) :: sg_tbl) ({ frames := 1, cells := 0, slots := 0, locals := 21 })).room s m #[.int x0, .int x1, .int x2, .ref a3] below meth c s.heap locs 0 0 (MQ below (va_Qi (fun r (_ : Unit) => (fun r : Int32 => True) r) (fun _ t => t.heap = s.heap) (fun _ : Nat => False)) #[.int x0, .int x1, .int x2, .ref a3] s 0 0 (fun _ : Nat => False)) (F0 m 48 ls [.int w8_0]) := by
      intro locs ls w8_0 hS hl hw8_0
      refine lv_istore (lv' := [(7, .int w8_0), (0, .int x0), (3, .ref a3), (4, .int f2), (5, .int f4), (6, .int w6_0)]) X.1 X.2.1 dX12_rowFrom_48 hl (by decide) rfl (fun ls hl => ?_)
      refine lv_iconst (v := 0) X.1 X.2.1 dX12_rowFrom_50 (by decide +kernel) ?_
      refine lv_istore (lv' := [(8, .int 0), (7, .int w8_0), (0, .int x0), (3, .ref a3), (4, .int f2), (5, .int f4), (6, .int w6_0)]) X.1 X.2.1 dX12_rowFrom_51 hl (by decide) rfl (fun ls hl => ?_)
      have B9_53 : ∀ (N : Nat) (locs : List Loc) (ls : Array Slot) (z9_4 : Int32) (z9_5 : Int32) (z9_8 : Int32), va_S (fun _ : Nat => False) s.heap s.heap locs → lv_has ls 9 [(0, .int x0), (3, .ref a3), (4, .int z9_4), (5, .int z9_5), (6, .int w6_0), (7, .int w8_0), (8, .int z9_8)] → iv 0 6 z9_4 → iv 0 29 z9_5 → (7 - z9_4.toInt).toNat ≤ N → W p l e (headSpec (Cond.code yX12_rowFrom cX12_rowFrom 9 (some .int) :: sg_tbl) ({ frames := 1, cells := 0, slots := 0, locals := 21 })).room s m #[.int x0, .int x1, .int x2, .ref a3] below meth c s.heap locs 0 0 (MQ below (va_Qi (fun r (_ : Unit) => (fun r : Int32 => True) r) (fun _ t => t.heap = s.heap) (fun _ : Nat => False)) #[.int x0, .int x1, .int x2, .ref a3] s 0 0 (fun _ : Nat => False)) (F0 m 53 ls []) := by
        intro N; induction N with
        | zero =>
          intro locs ls z9_4 z9_5 z9_8 hS hl hz9_4 hz9_5 hN
          exact absurd hN (by have := iv_up hz9_4; omega)
        | succ N ih9 =>
          intro locs ls z9_4 z9_5 z9_8 hS hl hz9_4 hz9_5 hN9
          refine lv_iload X.1 X.2.1 dX12_rowFrom_53 (lv_at hl 2 rfl) ?_
          refine lv_if_lt (tgt := 110) X.1 X.2.1 dX12_rowFrom_55 (by decide) (fun c10 => ?_) (fun c10 => ?_)
          · exact ((iv_no (iv_lt (b' := (-1)) c10 hz9_4 (iv_c 0 (a := 0) (b := 0) (by decide +kernel)) (by decide +kernel)) (by decide +kernel))).elim
          · refine lv_iload X.1 X.2.1 dX12_rowFrom_58 (lv_at hl 2 rfl) ?_
            refine lv_aload_n X.1 X.2.1 dX12_rowFrom_60 rfl (lv_at hl 1 rfl) ?_
            refine lv_iconst (v := 0) X.1 X.2.1 dX12_rowFrom_61 (by decide +kernel) ?_
            refine al_50m X hK hG h3 (iv_vpin (iv_c 0 (a := 0) (b := 0) (by decide +kernel)) (by decide +kernel)) dX12_rowFrom_62 (fun f11 hf11 => ?_)
            have of11 := hf11
            have hf11 : iv 1 6 f11 := sg_rr7 hf11 (iv_c 0 (a := 0) (b := 0) (by decide +kernel)) (by decide +kernel) rfl
            refine lv_icmp_ge (tgt := 110) X.1 X.2.1 dX12_rowFrom_63 (by decide) (fun c12 => ?_) (fun c12 => ?_)
            · refine lv_iload X.1 X.2.1 dX12_rowFrom_110 (lv_at hl 6 rfl) ?_
              exact sg_iretP X hr hlk hS trivial dX12_rowFrom_112
            · refine lv_iload X.1 X.2.1 dX12_rowFrom_66 (lv_at hl 3 rfl) ?_
              refine lv_aload_n X.1 X.2.1 dX12_rowFrom_68 rfl (lv_at hl 1 rfl) ?_
              refine lv_iconst (v := 1) X.1 X.2.1 dX12_rowFrom_69 (by decide +kernel) ?_
              refine al_50m X hK hG h3 (iv_vpin (iv_c 1 (a := 1) (b := 1) (by decide +kernel)) (by decide +kernel)) dX12_rowFrom_70 (fun f13 hf13 => ?_)
              have of13 := hf13
              have hf13 : iv 1 5 f13 := sg_rr7 hf13 (iv_c 1 (a := 1) (b := 1) (by decide +kernel)) (by decide +kernel) rfl
              refine lv_icmp_ge (tgt := 110) X.1 X.2.1 dX12_rowFrom_71 (by decide) (fun c14 => ?_) (fun c14 => ?_)
              · refine lv_iload X.1 X.2.1 dX12_rowFrom_110 (lv_at hl 6 rfl) ?_
                exact sg_iretP X hr hlk hS trivial dX12_rowFrom_112
              · refine lv_iload_n X.1 X.2.1 dX12_rowFrom_74 rfl (lv_at hl 0 rfl) ?_
                refine lv_iload X.1 X.2.1 dX12_rowFrom_75 (lv_at hl 3 rfl) ?_
                refine lv_aload_n X.1 X.2.1 dX12_rowFrom_77 rfl (lv_at hl 1 rfl) ?_
                refine lv_iconst (v := 0) X.1 X.2.1 dX12_rowFrom_78 (by decide +kernel) ?_
                refine al_50m X hK hG h3 (iv_vpin (iv_c 0 (a := 0) (b := 0) (by decide +kernel)) (by decide +kernel)) dX12_rowFrom_79 (fun f15 hf15 => ?_)
                have of15 := hf15
                have hf15 : iv 1 6 f15 := sg_rr7 hf15 (iv_c 0 (a := 0) (b := 0) (by decide +kernel)) (by decide +kernel) rfl
                refine lv_imul X.1 X.2.1 dX12_rowFrom_80 ?_
                refine lv_topi (fun f16 ef16 => ?_)
                refine lv_iload X.1 X.2.1 dX12_rowFrom_81 (lv_at hl 2 rfl) ?_
                refine lv_iadd X.1 X.2.1 dX12_rowFrom_83 ?_
                refine lv_topi (fun f17 ef17 => ?_)
                refine ca_X12_has X hK (sgm_weak (by omega) hG) hC (fun _ h => h.elim) hS hb x0 f17 wl_7_174 hl.1 (rest := []) rfl (Nat.le_of_ble_eq_true rfl) ⟨Nat.le_of_ble_eq_true rfl, Nat.le_of_ble_eq_true rfl⟩ ⟨Nat.le_of_ble_eq_true rfl, Nat.le_of_ble_eq_true rfl⟩ dX12_rowFrom_84 (fun f18 locs hf18 hS => ?_)
                refine lv_if_eq (tgt := 110) X.1 X.2.1 dX12_rowFrom_87 (by decide) (fun c19 => ?_) (fun c19 => ?_)
                · refine lv_iload X.1 X.2.1 dX12_rowFrom_110 (lv_at hl 6 rfl) ?_
                  exact sg_iretP X hr hlk hS trivial dX12_rowFrom_112
                · obtain ⟨y20, ey20⟩ : ∃ y : Int32, y = z9_8 + Int32.ofInt 1 := ⟨_, rfl⟩
                  refine lv_iinc (v := y20) (lv' := [(8, .int y20), (0, .int x0), (3, .ref a3), (4, .int z9_4), (5, .int z9_5), (6, .int w6_0), (7, .int w8_0)]) X.1 X.2.1 dX12_rowFrom_90 hl (k := 6) rfl ey20.symm (by decide) rfl (fun ls hl => ?_)
                  refine lv_iload X.1 X.2.1 dX12_rowFrom_93 (lv_at hl 3 rfl) ?_
                  refine lv_iload X.1 X.2.1 dX12_rowFrom_95 (lv_at hl 5 rfl) ?_
                  refine lv_iadd X.1 X.2.1 dX12_rowFrom_97 ?_
                  refine lv_topi (fun f21 ef21 => ?_)
                  refine lv_istore (lv' := [(4, .int f21), (8, .int y20), (0, .int x0), (3, .ref a3), (5, .int z9_5), (6, .int w6_0), (7, .int w8_0)]) X.1 X.2.1 dX12_rowFrom_98 hl (by decide) rfl (fun ls hl => ?_)
                  refine lv_iload X.1 X.2.1 dX12_rowFrom_100 (lv_at hl 4 rfl) ?_
                  refine lv_iload X.1 X.2.1 dX12_rowFrom_102 (lv_at hl 6 rfl) ?_
                  refine lv_iadd X.1 X.2.1 dX12_rowFrom_104 ?_
                  refine lv_topi (fun f22 ef22 => ?_)
                  refine lv_istore (lv' := [(5, .int f22), (4, .int f21), (8, .int y20), (0, .int x0), (3, .ref a3), (6, .int w6_0), (7, .int w8_0)]) X.1 X.2.1 dX12_rowFrom_105 hl (by decide) rfl (fun ls hl => ?_)
                  refine lv_goto (tgt := 53) X.1 X.2.1 dX12_rowFrom_107 (by decide) ?_
                  exact ih9 _ _ f21 f22 y20 hS (lv_sub hl [3, 4, 1, 0, 5, 6, 2] rfl) (iv_of (iv_add (a' := 1) (b' := 6) ef21 (iv_lt (b' := 5) (iv_gt_of c12) hz9_4 hf11 (by decide +kernel)) hw6_0 (by decide +kernel)) (a' := 0) (b' := 6) (by decide +kernel)) (iv_of (iv_add (a' := 1) (b' := 5) ef22 (iv_lt (b' := 4) (iv_gt_of c14) hz9_5 hf13 (by decide +kernel)) hw8_0 (by decide +kernel)) (a' := 0) (b' := 29) (by decide +kernel)) (iv_stepUv ef21 hw6_0 (iv_lt (b' := 5) (iv_gt_of c12) hz9_4 hf11 (by decide +kernel)) (by decide +kernel) hN9)
      exact B9_53 _ _ _ f2 f4 0 hS (lv_sub hl [2, 3, 4, 5, 6, 1, 0] rfl) (iv_of (iv_rem (a' := 0) (b' := 5) ef2 h1 hf1 (by decide +kernel)) (a' := 0) (b' := 6) (by decide +kernel)) (iv_div (a' := 0) (b' := 29) ef4 h1 hf3 (by decide +kernel)) (Nat.le_refl _)
    refine lv_if_ne (tgt := 47) X.1 X.2.1 dX12_rowFrom_40 (by decide) (fun c7 => ?_) (fun c7 => ?_)
    · refine lv_iconst (v := 1) X.1 X.2.1 dX12_rowFrom_47 (by decide +kernel) ?_
      exact B8_48 _ _ 1 hS (lv_sub hl [1, 3, 4, 5, 0] rfl) (iv_c 1 (a := 1) (b := 1) (by decide +kernel))
    · exact ((iv_no (a := 2) (b := 0) (iv_eqm c7 h2 (iv_c 0 (a := 0) (b := 0) (by decide +kernel)) (by decide +kernel)) (by decide +kernel))).elim
  have B23_23 : ∀ (locs : List Loc) (ls : Array Slot), va_S (fun _ : Nat => False) s.heap s.heap locs → lv_has ls 9 [(0, .int x0), (2, .int x2), (3, .ref a3), (4, .int f2), (5, .int f4)] → W p l e (headSpec (Cond.code yX12_rowFrom cX12_rowFrom 9 (some .int) :: sg_tbl) ({ frames := 1, cells := 0, slots := 0, locals := 21 })).room s m #[.int x0, .int x1, .int x2, .ref a3] below meth c s.heap locs 0 0 (MQ below (va_Qi (fun r (_ : Unit) => (fun r : Int32 => True) r) (fun _ t => t.heap = s.heap) (fun _ : Nat => False)) #[.int x0, .int x1, .int x2, .ref a3] s 0 0 (fun _ : Nat => False)) (F0 m 23 ls []) := by
    intro locs ls hS hl
    refine lv_iconst (v := 1) X.1 X.2.1 dX12_rowFrom_23 (by decide +kernel) ?_
    refine lv_goto (tgt := 37) X.1 X.2.1 dX12_rowFrom_24 (by decide) ?_
    exact B6_37 _ _ 1 hS (lv_sub hl [0, 1, 2, 3, 4] rfl) (iv_c 1 (a := 1) (b := 1) (by decide +kernel))
  refine lv_if_eq (tgt := 23) X.1 X.2.1 dX12_rowFrom_15 (by decide) (fun c5 => ?_) (fun c5 => ?_)
  · exact ((iv_no (a := 2) (b := 0) (iv_eqm c5 h2 (iv_c 0 (a := 0) (b := 0) (by decide +kernel)) (by decide +kernel)) (by decide +kernel))).elim
  · refine lv_iload_n X.1 X.2.1 dX12_rowFrom_18 rfl (lv_at hl 4 rfl) ?_
    refine lv_iconst (v := 2) X.1 X.2.1 dX12_rowFrom_19 (by decide +kernel) ?_
    refine lv_icmp_ne (tgt := 27) X.1 X.2.1 dX12_rowFrom_20 (by decide) (fun c24 => ?_) (fun c24 => ?_)
    · exact ((c24 (iv_one h2 (iv_c 2 (a := 2) (b := 2) (by decide +kernel)) (by decide +kernel)))).elim
    · exact B23_23 _ _ hS (lv_sub hl [2, 4, 5, 1, 0] rfl)

theorem ca_X12_rowFrom_r2   (X : CallFix p m c cc nL s args sg_tbl own) (hK : va_K D vwCl tys s) (hG : sgG (KM 7 P) D vwCl (fun q : Nat => base ≤ q) tys ad ks H) (hC : sgC base s) (hA : ∀ q : Nat, A q → base ≤ q) (hS : va_S A s.heap H locs) (hb : base ≤ s.heap.size) (x0 : Int32) (x1 : Int32) (h1 : iv 0 29 x1) (x2 : Int32) (h2 : iv 2 2 x2) (a3 : Nat) (h3 : isK ad ks 50 a3) (hl : Cond.methodLink own index yX12_rowFrom ∈ sg_tbl) (hsize : ls.size = nL) (hst : st0 = [.int x0, .int x1, .int x2, .ref a3].reverse ++ rest) (hW : (rest.map fun v => v.category).sum ≤ 8) (hR : 2 ≤ R.frames ∧ 49 ≤ R.locals) (hf : cells ≤ R.cells ∧ slots ≤ R.slots) (hdg : decode cc pc = .ok (.invokestatic index, 3)) (kk : ∀ (r : Int32) (locs1 : List Loc), (fun r : Int32 => True) r → va_S A s.heap H locs1 → W p l e R s m args below meth c H locs1 cells slots Q (F0 m (pc + 3) ls (.int r :: rest))) : W p l e R s m args below meth c H locs cells slots Q (F0 m pc ls st0) :=
  sg_callPSi X hK hG hC hA hS hb (m_X12_rowFrom_r2 l x0 x1 h1 x2 h2 a3 h3) wl_7_204 wl_1_13 wl_7_203 (n := 4) (by decide +kernel) rfl rfl rfl hl hsize hst hW hR hf hdg kk
end
