
section
variable {p : Program} {l : Launch} {e : Env} {R : Room} {s : State} {m : MethodId} {args : Array Value} {below : List Frame} {meth : Method} {c : Code} {H : Heap} {locs : List Loc} {cells slots : Nat} {Q : State → Prop} {cc : ByteArray} {nL pc : Nat} {ls : Array Slot} {rest : List Value} {own : String} {D : va_G} {A : Nat → Prop} {tys : List (ClassId × FieldType)} {ad ks : List Nat} {P : sgPm} {H0 : Heap} {index : Nat} {base : Nat} {st0 : List Value} {a : Nat}
theorem gf_X12_13e  {a1 a2 f1 f2 d1 d2 : Int} {z : sgZt} (X : CallFix p m c cc nL s args sg_tbl own) (hK : va_K D vwCl tys s) (hG : sgG (KE a1 a2 f1 f2 d1 d2 z P) D vwCl A tys ad ks H) (ha : isK ad ks 12 a) (hl : Cond.fieldLink own index "LawnAheadModel" "label" "I" ∈ sg_tbl) (hdg : decode cc pc = .ok (.getfield index, 3)) (kk : ∀ x : Int32, iv (-2147483648) 2147483647 x → fld D H 12 a 13 (.int x) → W p l e R s m args below meth c H locs cells slots Q (F0 m (pc + 3) ls (.int x :: rest))) : W p l e R s m args below meth c H locs cells slots Q (F0 m pc ls (.ref a :: rest)) :=
  sg_get X hK hG ha (k := 12) (ci := 12) rfl (C := RX12) (T := TX12) (N := 53) rfl inL_X12 13 (by decide) rfl hl (fun _ h => h) hdg (fun v hv hf => by obtain ⟨x, rfl, hx⟩ := hv; exact kk x hx hf)
theorem gf_X12_17e  {a1 a2 f1 f2 d1 d2 : Int} {z : sgZt} (X : CallFix p m c cc nL s args sg_tbl own) (hK : va_K D vwCl tys s) (hG : sgG (KE a1 a2 f1 f2 d1 d2 z P) D vwCl A tys ad ks H) (ha : isK ad ks 12 a) (hl : Cond.fieldLink own index "LawnAheadModel" "hasFound" "Z" ∈ sg_tbl) (hdg : decode cc pc = .ok (.getfield index, 3)) (kk : ∀ x : Int32, iv 0 1 x → fld D H 12 a 17 (.int x) → W p l e R s m args below meth c H locs cells slots Q (F0 m (pc + 3) ls (.int x :: rest))) : W p l e R s m args below meth c H locs cells slots Q (F0 m pc ls (.ref a :: rest)) :=
  sg_get X hK hG ha (k := 12) (ci := 12) rfl (C := RX12) (T := TX12) (N := 53) rfl inL_X12 17 (by decide) rfl hl (fun _ h => h) hdg (fun v hv hf => by obtain ⟨x, rfl, hx⟩ := hv; exact kk x hx hf)
theorem pf_X12_10  {x : Int32}  (X : CallFix p m c cc nL s args sg_tbl own) (hK : va_K D vwCl tys s) (hG : sgG (KT P) D vwCl A tys ad ks H) (hS : va_S A H0 H locs) (ha : isK ad ks 12 a) (hl : Cond.fieldLink own index "LawnAheadModel" "at" "I" ∈ sg_tbl) (hv : okV ad ks (.inl ((-2147483648), 2147483647)) (.int x)) (hdg : decode cc pc = .ok (.putfield index, 3)) (kk : ∀ (H1 : Heap) (locs1 : List Loc), sgG (KT P) D vwCl A tys ad ks H1 → va_S A H0 H1 locs1 → fld D H1 12 a 10 (.int x) → sgFr (KT P) D vwCl ad ks H H1 (fun a' j' => a' = a ∧ j' = 10) → W p l e R s m args below meth c H1 locs1 cells slots Q (F0 m (pc + 3) ls rest)) : W p l e R s m args below meth c H locs cells slots Q (F0 m pc ls (.int x :: .ref a :: rest)) :=
  sg_put X hK hG hS ha (k := 12) (ci := 12) rfl (C := RX12) (T := TX12) (N := 53) rfl inL_X12 tyX12 tyX12_ok nmX12 10 (by decide) rfl hl (fun _ h => h) rfl (ty := .int) rfl rfl rfl hv hdg kk
theorem pf_X12_11  {x : Int32}  (X : CallFix p m c cc nL s args sg_tbl own) (hK : va_K D vwCl tys s) (hG : sgG (KT P) D vwCl A tys ad ks H) (hS : va_S A H0 H locs) (ha : isK ad ks 12 a) (hl : Cond.fieldLink own index "LawnAheadModel" "fault" "I" ∈ sg_tbl) (hv : okV ad ks (.inl ((-1), 241)) (.int x)) (hdg : decode cc pc = .ok (.putfield index, 3)) (kk : ∀ (H1 : Heap) (locs1 : List Loc), sgG (KT P) D vwCl A tys ad ks H1 → va_S A H0 H1 locs1 → fld D H1 12 a 11 (.int x) → sgFr (KT P) D vwCl ad ks H H1 (fun a' j' => a' = a ∧ j' = 11) → W p l e R s m args below meth c H1 locs1 cells slots Q (F0 m (pc + 3) ls rest)) : W p l e R s m args below meth c H locs cells slots Q (F0 m pc ls (.int x :: .ref a :: rest)) :=
  sg_put X hK hG hS ha (k := 12) (ci := 12) rfl (C := RX12) (T := TX12) (N := 53) rfl inL_X12 tyX12 tyX12_ok nmX12 11 (by decide) rfl hl (fun _ h => h) rfl (ty := .int) rfl rfl rfl hv hdg kk
theorem pf_X12_13e  {x : Int32} {a1 a2 f1 f2 d1 d2 : Int} {z : sgZt} (X : CallFix p m c cc nL s args sg_tbl own) (hK : va_K D vwCl tys s) (hG : sgG (KE a1 a2 f1 f2 d1 d2 z P) D vwCl A tys ad ks H) (hS : va_S A H0 H locs) (ha : isK ad ks 12 a) (hl : Cond.fieldLink own index "LawnAheadModel" "label" "I" ∈ sg_tbl) (hv : okV ad ks (.inl ((-2147483648), 2147483647)) (.int x)) (hdg : decode cc pc = .ok (.putfield index, 3)) (kk : ∀ (H1 : Heap) (locs1 : List Loc), sgG (KE a1 a2 f1 f2 d1 d2 z P) D vwCl A tys ad ks H1 → va_S A H0 H1 locs1 → fld D H1 12 a 13 (.int x) → sgFr (KE a1 a2 f1 f2 d1 d2 z P) D vwCl ad ks H H1 (fun a' j' => a' = a ∧ j' = 13) → W p l e R s m args below meth c H1 locs1 cells slots Q (F0 m (pc + 3) ls rest)) : W p l e R s m args below meth c H locs cells slots Q (F0 m pc ls (.int x :: .ref a :: rest)) :=
  sg_put X hK hG hS ha (k := 12) (ci := 12) rfl (C := RX12) (T := TX12) (N := 53) rfl inL_X12 tyX12 tyX12_ok nmX12 13 (by decide) rfl hl (fun _ h => h) rfl (ty := .int) rfl rfl rfl hv hdg kk
theorem pf_X12_14e  {x : Int32} {a1 a2 f1 f2 d1 d2 : Int} {z : sgZt} (X : CallFix p m c cc nL s args sg_tbl own) (hK : va_K D vwCl tys s) (hG : sgG (KE a1 a2 f1 f2 d1 d2 z P) D vwCl A tys ad ks H) (hS : va_S A H0 H locs) (ha : isK ad ks 12 a) (hl : Cond.fieldLink own index "LawnAheadModel" "found" "I" ∈ sg_tbl) (hv : okV ad ks (.inl ((-2147483648), 2147483647)) (.int x)) (hdg : decode cc pc = .ok (.putfield index, 3)) (kk : ∀ (H1 : Heap) (locs1 : List Loc), sgG (KE a1 a2 f1 f2 d1 d2 z P) D vwCl A tys ad ks H1 → va_S A H0 H1 locs1 → fld D H1 12 a 14 (.int x) → sgFr (KE a1 a2 f1 f2 d1 d2 z P) D vwCl ad ks H H1 (fun a' j' => a' = a ∧ j' = 14) → W p l e R s m args below meth c H1 locs1 cells slots Q (F0 m (pc + 3) ls rest)) : W p l e R s m args below meth c H locs cells slots Q (F0 m pc ls (.int x :: .ref a :: rest)) :=
  sg_put X hK hG hS ha (k := 12) (ci := 12) rfl (C := RX12) (T := TX12) (N := 53) rfl inL_X12 tyX12 tyX12_ok nmX12 14 (by decide) rfl hl (fun _ h => h) rfl (ty := .int) rfl rfl rfl hv hdg kk
theorem pf_X12_17e  {x : Int32} {a1 a2 f1 f2 d1 d2 : Int} {z : sgZt} (X : CallFix p m c cc nL s args sg_tbl own) (hK : va_K D vwCl tys s) (hG : sgG (KE a1 a2 f1 f2 d1 d2 z P) D vwCl A tys ad ks H) (hS : va_S A H0 H locs) (ha : isK ad ks 12 a) (hl : Cond.fieldLink own index "LawnAheadModel" "hasFound" "Z" ∈ sg_tbl) (hv : okV ad ks (.inl (0, 1)) (.int x)) (hdg : decode cc pc = .ok (.putfield index, 3)) (kk : ∀ (H1 : Heap) (locs1 : List Loc), sgG (KE a1 a2 f1 f2 d1 d2 z P) D vwCl A tys ad ks H1 → va_S A H0 H1 locs1 → fld D H1 12 a 17 (.int x) → sgFr (KE a1 a2 f1 f2 d1 d2 z P) D vwCl ad ks H H1 (fun a' j' => a' = a ∧ j' = 17) → W p l e R s m args below meth c H1 locs1 cells slots Q (F0 m (pc + 3) ls rest)) : W p l e R s m args below meth c H locs cells slots Q (F0 m pc ls (.int x :: .ref a :: rest)) :=
  sg_put X hK hG hS ha (k := 12) (ci := 12) rfl (C := RX12) (T := TX12) (N := 53) rfl inL_X12 tyX12 tyX12_ok nmX12 17 (by decide) rfl hl (fun _ h => h) rfl (ty := .boolean) rfl (by obtain ⟨y, h1, h2⟩ := hv; cases h1; exact sg_zn h2) (by obtain ⟨y, h1, h2⟩ := hv; cases h1; rcases iv_01 h2 with rfl | rfl <;> rfl) hv hdg kk
theorem pf_X12_8  {x : Int32}  (X : CallFix p m c cc nL s args sg_tbl own) (hK : va_K D vwCl tys s) (hG : sgG (KT P) D vwCl A tys ad ks H) (hS : va_S A H0 H locs) (ha : isK ad ks 12 a) (hl : Cond.fieldLink own index "LawnAheadModel" "begins" "I" ∈ sg_tbl) (hv : okV ad ks (.inl ((-2147483648), 2147483647)) (.int x)) (hdg : decode cc pc = .ok (.putfield index, 3)) (kk : ∀ (H1 : Heap) (locs1 : List Loc), sgG (KT P) D vwCl A tys ad ks H1 → va_S A H0 H1 locs1 → fld D H1 12 a 8 (.int x) → sgFr (KT P) D vwCl ad ks H H1 (fun a' j' => a' = a ∧ j' = 8) → W p l e R s m args below meth c H1 locs1 cells slots Q (F0 m (pc + 3) ls rest)) : W p l e R s m args below meth c H locs cells slots Q (F0 m pc ls (.int x :: .ref a :: rest)) :=
  sg_put X hK hG hS ha (k := 12) (ci := 12) rfl (C := RX12) (T := TX12) (N := 53) rfl inL_X12 tyX12 tyX12_ok nmX12 8 (by decide) rfl hl (fun _ h => h) rfl (ty := .int) rfl rfl rfl hv hdg kk
theorem pf_X12_9  {x : Int32}  (X : CallFix p m c cc nL s args sg_tbl own) (hK : va_K D vwCl tys s) (hG : sgG (KT P) D vwCl A tys ad ks H) (hS : va_S A H0 H locs) (ha : isK ad ks 12 a) (hl : Cond.fieldLink own index "LawnAheadModel" "ends" "I" ∈ sg_tbl) (hv : okV ad ks (.inl (0, 240)) (.int x)) (hdg : decode cc pc = .ok (.putfield index, 3)) (kk : ∀ (H1 : Heap) (locs1 : List Loc), sgG (KT P) D vwCl A tys ad ks H1 → va_S A H0 H1 locs1 → fld D H1 12 a 9 (.int x) → sgFr (KT P) D vwCl ad ks H H1 (fun a' j' => a' = a ∧ j' = 9) → W p l e R s m args below meth c H1 locs1 cells slots Q (F0 m (pc + 3) ls rest)) : W p l e R s m args below meth c H locs cells slots Q (F0 m pc ls (.int x :: .ref a :: rest)) :=
  sg_put X hK hG hS ha (k := 12) (ci := 12) rfl (C := RX12) (T := TX12) (N := 53) rfl inL_X12 tyX12 tyX12_ok nmX12 9 (by decide) rfl hl (fun _ h => h) rfl (ty := .int) rfl rfl rfl hv hdg kk
set_option maxHeartbeats 8000000 in
set_option maxRecDepth 100000 in
theorem m_X12_isIn_e (l : Launch) {D : va_G} {base : Nat} {tys : List (ClassId × FieldType)} {ad ks : List Nat} {P : sgPm} {Hx : Heap} (x0 : Int64) (x1 : Int64) (x2 : Int64) : sgPi l (KT P) D vwCl base tys ad ks Hx yX12_isIn cX12_isIn 6 (some .boolean) ({ frames := 0, cells := 0, slots := 0, locals := 0 }) [.long x0, .long x1, .long x2] (fun r : Int32 => (r = 1 ∧ x1.toInt ≤ x0.toInt ∧ x0.toInt ≤ x2.toInt) ∨ (r = 0 ∧ (x0.toInt < x1.toInt ∨ x2.toInt < x0.toInt))) := by
  refine sg_ofP (Pq := fun Hx => va_Qi (fun r (_ : Unit) => (fun r : Int32 => (r = 1 ∧ x1.toInt ≤ x0.toInt ∧ x0.toInt ≤ x2.toInt) ∨ (r = 0 ∧ (x0.toInt < x1.toInt ∨ x2.toInt < x0.toInt))) r) (fun _ t => t.heap = Hx) (fun _ : Nat => False)) (by decide +kernel) (Nat.le_of_ble_eq_true rfl) (fun p e s m below meth c X hr hlk hb hK hC hG ls hl => ?_)
  have hS : va_S (fun _ : Nat => False) s.heap s.heap [] := va_S.rf
  have hl : lv_has ls 6 [(0, .long x0), (2, .long x1), (4, .long x2)] := hl
  refine lv_lload_n X.1 X.2.1 dX12_isIn_0 rfl (lv_at hl 0 rfl) ?_
  refine lv_lload_n X.1 X.2.1 dX12_isIn_1 rfl (lv_at hl 1 rfl) ?_
  refine W.lcmp X.1 X.2.1 dX12_isIn_2 ?_
  refine lv_topi (fun f1 ef1 => ?_)
  refine lv_if_lt (tgt := 17) X.1 X.2.1 dX12_isIn_3 (by decide) (fun c2 => ?_) (fun c2 => ?_)
  · refine lv_iconst (v := 0) X.1 X.2.1 dX12_isIn_17 (by decide +kernel) ?_
    exact sg_zretP X hr (sg_zn (iv_of (iv_c 0 (a := 0) (b := 0) (by decide +kernel)) (a' := 0) (b' := 1) (by decide +kernel))) hlk hS (Or.inr ⟨rfl, Or.inl (vq_llt ef1 c2)⟩) dX12_isIn_18
  · refine lv_lload_n X.1 X.2.1 dX12_isIn_6 rfl (lv_at hl 0 rfl) ?_
    refine lv_lload X.1 X.2.1 dX12_isIn_7 (lv_at hl 2 rfl) ?_
    refine W.lcmp X.1 X.2.1 dX12_isIn_9 ?_
    refine lv_topi (fun f3 ef3 => ?_)
    refine lv_if_gt (tgt := 17) X.1 X.2.1 dX12_isIn_10 (by decide) (fun c4 => ?_) (fun c4 => ?_)
    · refine lv_iconst (v := 0) X.1 X.2.1 dX12_isIn_17 (by decide +kernel) ?_
      exact sg_zretP X hr (sg_zn (iv_of (iv_c 0 (a := 0) (b := 0) (by decide +kernel)) (a' := 0) (b' := 1) (by decide +kernel))) hlk hS (Or.inr ⟨rfl, Or.inr (vq_lgt ef3 c4)⟩) dX12_isIn_18
    · refine lv_iconst (v := 1) X.1 X.2.1 dX12_isIn_13 (by decide +kernel) ?_
      refine lv_goto (tgt := 18) X.1 X.2.1 dX12_isIn_14 (by decide) ?_
      exact sg_zretP X hr (sg_zn (iv_of (iv_c 1 (a := 1) (b := 1) (by decide +kernel)) (a' := 0) (b' := 1) (by decide +kernel))) hlk hS (Or.inl ⟨rfl, sg_lge ef1 (iv_ge_of c2), sg_lle ef3 (iv_ge_of c4)⟩) dX12_isIn_18

theorem ca_X12_isIn_e   (X : CallFix p m c cc nL s args sg_tbl own) (hK : va_K D vwCl tys s) (hG : sgG (KT P) D vwCl (fun q : Nat => base ≤ q) tys ad ks H) (hC : sgC base s) (hA : ∀ q : Nat, A q → base ≤ q) (hS : va_S A s.heap H locs) (hb : base ≤ s.heap.size) (x0 : Int64) (x1 : Int64) (x2 : Int64) (hl : Cond.methodLink own index yX12_isIn ∈ sg_tbl) (hsize : ls.size = nL) (hst : st0 = [.long x0, .long x1, .long x2].reverse ++ rest) (hW : (rest.map fun v => v.category).sum ≤ 8) (hR : 1 ≤ R.frames ∧ 25 ≤ R.locals) (hf : cells ≤ R.cells ∧ slots ≤ R.slots) (hdg : decode cc pc = .ok (.invokestatic index, 3)) (kk : ∀ (r : Int32) (locs1 : List Loc), (fun r : Int32 => (r = 1 ∧ x1.toInt ≤ x0.toInt ∧ x0.toInt ≤ x2.toInt) ∨ (r = 0 ∧ (x0.toInt < x1.toInt ∨ x2.toInt < x0.toInt))) r → va_S A s.heap H locs1 → W p l e R s m args below meth c H locs1 cells slots Q (F0 m (pc + 3) ls (.int r :: rest))) : W p l e R s m args below meth c H locs cells slots Q (F0 m pc ls st0) :=
  sg_callPSi X hK hG hC hA hS hb (m_X12_isIn_e l x0 x1 x2) wl_7_121 wl_1_13 wl_7_120 (n := 3) (by decide +kernel) rfl rfl rfl hl hsize hst hW hR hf hdg kk

set_option maxHeartbeats 8000000 in
set_option maxRecDepth 100000 in
theorem m_X12_clause_e (l : Launch) {D : va_G} {base : Nat} {tys : List (ClassId × FieldType)} {ad ks : List Nat} {P : sgPm}{a : Int} {z : sgZt}  (a0 : Nat) (h0 : isK ad ks 12 a0) (hl0 : 0 ≤ sgL2 P ∧ sgL2 P ≤ 240) (hav : 0 ≤ a ∧ a ≤ sgL2 P) (hby : sgBy2 P) : Met l yX12_clause (Cond.code yX12_clause cX12_clause 5 none :: sg_tbl) ({ frames := 30, cells := 0, slots := 0, locals := 699 }) (va_Pc [.ref a0] (sgB (KE a a (-1) (-1) 0 0 z P) D vwCl base tys ad ks)) (va_Qv (fun (_ : Unit) => True) (fun _ => fun t => (∃ a1 : Int, vCl (sgU2 P) (sgL2 P) (vX (sgU2 P) (sgL2 P) a) = (true, vX (sgU2 P) (sgL2 P) a1) ∧ a + 3 ≤ a1 ∧ a1 ≤ sgL2 P ∧ sgB (KE a1 a1 (-1) (-1) 0 0 z P) D vwCl base tys ad ks t) ∨ (∃ w : Int, vCl (sgU2 P) (sgL2 P) (vX (sgU2 P) (sgL2 P) a) = (false, w) ∧ 0 ≤ w ∧ w ≤ 240 ∧ sgB (KE 0 241 w w 0 6 z P) D vwCl base tys ad ks t)) (fun q : Nat => base ≤ q)) 0 0 (fun q : Nat => base ≤ q) := by
  refine sg_ofW (by decide +kernel) (Nat.le_of_ble_eq_true rfl) (fun p e s m below meth c X hr hlk hb hK hC hG ls hl => ?_)
  have hS : va_S (fun q : Nat => base ≤ q) s.heap s.heap [] := va_S.rf
  have hl : lv_has ls 5 [(0, .ref a0)] := hl
  refine lv_aload_n X.1 X.2.1 dX12_clause_0 rfl (lv_at hl 0 rfl) ?_
  refine ca_X12_look_e X hK hG hC hS hb a0 h0 hl0 hav hby wl_7_137 hl.1 (rest := []) rfl (Nat.le_of_ble_eq_true rfl) ⟨Nat.le_of_ble_eq_true rfl, Nat.le_of_ble_eq_true rfl⟩ ⟨Nat.le_of_ble_eq_true rfl, Nat.le_of_ble_eq_true rfl⟩ dX12_clause_1 (fun f1 tf1 H locs htf1 hf1 hWf1 hS => ?_)
  have hBf1 := hWf1.2
  have xf1 := hWf1.1
  have hG := hBf1.2.2.2
  rw [htf1] at hG
  have b2 := vq_bdL (b := sgU2 P) hav
  have eb2 : a ≤ vX (sgU2 P) (sgL2 P) a := (vX_ge (sgU2 P) (sgL2 P) a).1
  have pb2 : a + 0 ≤ vX (sgU2 P) (sgL2 P) a := Int.le_trans (vq_pg0 a) (vX_ge (sgU2 P) (sgL2 P) a).1
  have yf1 : iv (-1) 255 f1 := vq_lk xf1 (vC_by2 hby _)
  refine lv_istore_n (lv' := [(1, .int f1), (0, .ref a0)]) X.1 X.2.1 dX12_clause_4 rfl hl (by decide) rfl (fun ls hl => ?_)
  obtain ⟨t3, vt3, pt3, rt3⟩ := hC.2.1
  refine va_ldcS X.1 X.2.1 X.2.2.2.1 rt3 dX12_clause_5 ?_
  refine lv_iload_n X.1 X.2.1 dX12_clause_7 rfl (lv_at hl 0 rfl) ?_
  refine ca_X12_isAmong_e1 X hK (ke_toKT hG (by decide) (by decide) (by decide) (by decide)) hC (fun _ h => h) hS hb pt3 f1 (sg_htb (by decide +kernel)) wl_7_214 hl.1 (rest := []) rfl (Nat.le_of_ble_eq_true rfl) ⟨Nat.le_of_ble_eq_true rfl, Nat.le_of_ble_eq_true rfl⟩ ⟨Nat.le_of_ble_eq_true rfl, Nat.le_of_ble_eq_true rfl⟩ dX12_clause_8 (fun f4 locs hf4 hS => ?_)
  refine lv_if_ne (tgt := 20) X.1 X.2.1 dX12_clause_11 (by decide) (fun c5 => ?_) (fun c5 => ?_)
  · have j6 := vq_says1 hf4 c5
    have k7 : vC (sgU2 P) (sgL2 P) (vX (sgU2 P) (sgL2 P) a) = (121 : Int) := vE_eq (by have z := j6.1; rw [xf1] at z; exact vIx_121 z) (by decide)
    have y8 : iv 0 127 f1 := j6.2
    refine lv_aload_n X.1 X.2.1 dX12_clause_20 rfl (lv_at hl 1 rfl) ?_
    refine lv_dup X.1 X.2.1 dX12_clause_21 rfl ?_
    refine gf_X12_10e X hK hG h0 wl_6_188 dX12_clause_22 (fun f11 hf11 => ?_)
    have xf11 : f11.toInt = (vX (sgU2 P) (sgL2 P) a) := vq_iv hf11
    have yf11 : iv 0 240 f11 := vq_240 hl0 b2 xf11
    refine lv_iconst (v := 1) X.1 X.2.1 dX12_clause_25 (by decide +kernel) ?_
    refine lv_iadd X.1 X.2.1 dX12_clause_26 ?_
    refine lv_topi (fun f12 ef12 => ?_)
    have xf12 : f12.toInt = ((vX (sgU2 P) (sgL2 P) a) + 1) := sg_exadd ef12 yf11 (iv_c 1 (a := 1) (b := 1) (by decide +kernel)) (by decide +kernel) xf11 (by decide +kernel)
    refine pf_X12_10E (b1 := ((vX (sgU2 P) (sgL2 P) a) + 1)) (b2 := ((vX (sgU2 P) (sgL2 P) a) + 1)) X hK hG hS h0 wl_6_188 (vq_of (lo := ((vX (sgU2 P) (sgL2 P) a) + 1)) (hi := ((vX (sgU2 P) (sgL2 P) a) + 1)) xf12 ⟨Int.le_refl _, Int.le_refl _⟩) dX12_clause_27 (fun H locs hG hS => ?_)
    have l13 := (vC_lt (b := sgU2 P) (n := sgL2 P) (a := (vX (sgU2 P) (sgL2 P) a)) (by rw [k7]; decide)).2
    have b14 := vq_bd1 b2 l13
    have pb14 : a + 1 ≤ ((vX (sgU2 P) (sgL2 P) a) + 1) := vq_pg pb2 (m := 1) (Int.le_refl _) (by decide)
    refine lv_aload_n X.1 X.2.1 dX12_clause_30 rfl (lv_at hl 1 rfl) ?_
    refine lv_bipush (v := 58) X.1 X.2.1 dX12_clause_31 (by decide +kernel) ?_
    refine ca_X12_takes_e X hK hG hC hS hb a0 h0 58 hl0 b14 hby (by omega) (show (58 : Int32).toInt = 58 ∧ (0 : Int) < 58 from by decide +kernel) wl_7_217 hl.1 (rest := []) rfl (Nat.le_of_ble_eq_true rfl) ⟨Nat.le_of_ble_eq_true rfl, Nat.le_of_ble_eq_true rfl⟩ ⟨Nat.le_of_ble_eq_true rfl, Nat.le_of_ble_eq_true rfl⟩ dX12_clause_33 (fun f15 tf15 H locs htf15 hf15 hWf15 hS => ?_)
    rcases hWf15 with ⟨rfl, av16, pv16, gav16, gbv16, hBf15⟩ | ⟨rfl, wv16, pv16, w1v16, w2v16, hBf15⟩
    · have hG := hBf15.2.2.2
      rw [htf15] at hG
      have bv16 := vq_bd2 (k := 1) b14 (by decide) gav16 gbv16
      have p2v16 : a + 2 ≤ av16 := vq_pg pb14 gav16 (by decide)
      refine lv_if_ne (tgt := 40) X.1 X.2.1 dX12_clause_36 (by decide) (fun c17 => ?_) (fun c17 => ?_)
      · refine lv_iconst (v := 1) X.1 X.2.1 dX12_clause_40 (by decide +kernel) ?_
        refine lv_istore_n (lv' := [(2, .int 1), (1, .int f1), (0, .ref a0)]) X.1 X.2.1 dX12_clause_41 rfl hl (by decide) rfl (fun ls hl => ?_)
        refine lv_iconst (v := 0) X.1 X.2.1 dX12_clause_42 (by decide +kernel) ?_
        refine lv_istore_n (lv' := [(3, .int 0), (2, .int 1), (1, .int f1), (0, .ref a0)]) X.1 X.2.1 dX12_clause_43 rfl hl (by decide) rfl (fun ls hl => ?_)
        refine lv_aload_n X.1 X.2.1 dX12_clause_44 rfl (lv_at hl 3 rfl) ?_
        refine ca_X12_look_e X hK hG hC hS hb a0 h0 hl0 bv16 hby wl_7_137 hl.1 (rest := []) rfl (Nat.le_of_ble_eq_true rfl) ⟨Nat.le_of_ble_eq_true rfl, Nat.le_of_ble_eq_true rfl⟩ ⟨Nat.le_of_ble_eq_true rfl, Nat.le_of_ble_eq_true rfl⟩ dX12_clause_45 (fun f18 tf18 H locs htf18 hf18 hWf18 hS => ?_)
        have hBf18 := hWf18.2
        have xf18 := hWf18.1
        have hG := hBf18.2.2.2
        rw [htf18] at hG
        have b19 := vq_bdL (b := sgU2 P) bv16
        have eb19 : av16 ≤ vX (sgU2 P) (sgL2 P) av16 := (vX_ge (sgU2 P) (sgL2 P) av16).1
        have pb19 : a + 2 ≤ vX (sgU2 P) (sgL2 P) av16 := Int.le_trans p2v16 (vX_ge (sgU2 P) (sgL2 P) av16).1
        have yf18 : iv (-1) 255 f18 := vq_lk xf18 (vC_by2 hby _)
        refine lv_istore (lv' := [(4, .int f18), (3, .int 0), (2, .int 1), (1, .int f1), (0, .ref a0)]) X.1 X.2.1 dX12_clause_48 hl (by decide) rfl (fun ls hl => ?_)
        refine lv_iload X.1 X.2.1 dX12_clause_50 (lv_at hl 0 rfl) ?_
        refine lv_bipush (v := 33) X.1 X.2.1 dX12_clause_52 (by decide +kernel) ?_
        refine lv_icmp_eq (tgt := 64) X.1 X.2.1 dX12_clause_54 (by decide) (fun c20 => ?_) (fun c20 => ?_)
        · have i21 : vE (vC (sgU2 P) (sgL2 P) (vX (sgU2 P) (sgL2 P) av16)) = (33 : Int) := vq_eq c20 xf18 (by decide +kernel)
          have mi21 : vC (sgU2 P) (sgL2 P) (vX (sgU2 P) (sgL2 P) av16) = (33 : Int) := vE_eq i21 (by decide)
          refine lv_aload_n X.1 X.2.1 dX12_clause_64 rfl (lv_at hl 4 rfl) ?_
          refine lv_iconst (v := 0) X.1 X.2.1 dX12_clause_65 (by decide +kernel) ?_
          refine lv_iconst (v := 0) X.1 X.2.1 dX12_clause_66 (by decide +kernel) ?_
          refine ca_X12_condition_e0_0 X hK hG hC hS hb a0 h0 0 (iv_c 0 (a := 0) (b := 0) (by decide +kernel)) 0 hl0 b19 hby wl_7_221 hl.1 (rest := []) rfl (Nat.le_of_ble_eq_true rfl) ⟨Nat.le_of_ble_eq_true rfl, Nat.le_of_ble_eq_true rfl⟩ ⟨Nat.le_of_ble_eq_true rfl, Nat.le_of_ble_eq_true rfl⟩ dX12_clause_67 (fun f23 tf23 H locs htf23 hf23 hWf23 hS => ?_)
          rcases hWf23 with ⟨av24, pv24, gav24, gbv24, hBf23⟩ | ⟨wv24, pv24, w1v24, w2v24, hBf23⟩
          · have hG := hBf23.2.2.2
            rw [htf23] at hG
            rw [vX_idem] at pv24
            have bv24 := vq_bd2 (k := 1) b19 (by decide) gav24 gbv24
            have p2v24 : a + 3 ≤ av24 := vq_pg pb19 gav24 (by decide)
            refine lv_istore_n (lv' := [(2, .int f23), (4, .int f18), (3, .int 0), (1, .int f1), (0, .ref a0)]) X.1 X.2.1 dX12_clause_70 rfl hl (by decide) rfl (fun ls hl => ?_)
            refine lv_aload_n X.1 X.2.1 dX12_clause_71 rfl (lv_at hl 4 rfl) ?_
            refine lv_bipush (v := 63) X.1 X.2.1 dX12_clause_72 (by decide +kernel) ?_
            refine ca_X12_takes_e X hK hG hC hS hb a0 h0 63 hl0 bv24 hby (by omega) (show (63 : Int32).toInt = 63 ∧ (0 : Int) < 63 from by decide +kernel) wl_7_217 hl.1 (rest := []) rfl (Nat.le_of_ble_eq_true rfl) ⟨Nat.le_of_ble_eq_true rfl, Nat.le_of_ble_eq_true rfl⟩ ⟨Nat.le_of_ble_eq_true rfl, Nat.le_of_ble_eq_true rfl⟩ dX12_clause_74 (fun f25 tf25 H locs htf25 hf25 hWf25 hS => ?_)
            rcases hWf25 with ⟨rfl, av26, pv26, gav26, gbv26, hBf25⟩ | ⟨rfl, wv26, pv26, w1v26, w2v26, hBf25⟩
            · have hG := hBf25.2.2.2
              rw [htf25] at hG
              have bv26 := vq_bd2 (k := 1) bv24 (by decide) gav26 gbv26
              have p2v26 : a + 4 ≤ av26 := vq_pg p2v24 gav26 (by decide)
              refine lv_if_ne (tgt := 81) X.1 X.2.1 dX12_clause_77 (by decide) (fun c27 => ?_) (fun c27 => ?_)
              · refine lv_aload_n X.1 X.2.1 dX12_clause_81 rfl (lv_at hl 4 rfl) ?_
                refine ca_X12_sum_e0 X hK hG hC hS hb a0 h0 hl0 bv26 hby wl_7_233 hl.1 (rest := []) rfl (Nat.le_of_ble_eq_true rfl) ⟨Nat.le_of_ble_eq_true rfl, Nat.le_of_ble_eq_true rfl⟩ ⟨Nat.le_of_ble_eq_true rfl, Nat.le_of_ble_eq_true rfl⟩ dX12_clause_82 (fun f28 tf28 H locs htf28 hf28 hWf28 hS => ?_)
                rcases hWf28 with ⟨av29, pv29, gav29, gbv29, hBf28⟩ | ⟨wv29, pv29, w1v29, w2v29, hBf28⟩
                · have hG := hBf28.2.2.2
                  rw [htf28] at hG
                  have bv29 := vq_bd2 (k := 1) bv26 (by decide) gav29 gbv29
                  have p2v29 : a + 5 ≤ av29 := vq_pg p2v26 gav29 (by decide)
                  refine lv_istore_n (lv' := [(3, .int f28), (2, .int f23), (4, .int f18), (1, .int f1), (0, .ref a0)]) X.1 X.2.1 dX12_clause_85 rfl hl (by decide) rfl (fun ls hl => ?_)
                  refine lv_goto (tgt := 134) X.1 X.2.1 dX12_clause_86 (by decide) ?_
                  refine lv_aload_n X.1 X.2.1 dX12_clause_134 rfl (lv_at hl 4 rfl) ?_
                  refine gf_X12_11e X hK hG h0 wl_6_189 dX12_clause_135 (fun f30 hf30 => ?_)
                  refine lv_iconst (v := (-1)) X.1 X.2.1 dX12_clause_138 (by decide +kernel) ?_
                  refine lv_icmp_ne (tgt := 161) X.1 X.2.1 dX12_clause_139 (by decide) (fun c31 => ?_) (fun c31 => ?_)
                  · have i32 : (((-1) : Int) = ((-1) : Int)) = False := vq_ne c31 (vq_iv hf30) (by decide +kernel)
                    exact ((c31 (iv_one hf30 (iv_c (-1) (a := (-1)) (b := (-1)) (by decide +kernel)) (by decide +kernel)))).elim
                  · have i33 : ((-1) : Int) = ((-1) : Int) := vq_eq c31 (vq_iv hf30) (by decide +kernel)
                    refine lv_aload_n X.1 X.2.1 dX12_clause_142 rfl (lv_at hl 4 rfl) ?_
                    refine gf_X12_17e X hK hG h0 wl_6_195 dX12_clause_143 (fun f34 hf34 kf34 => ?_)
                    refine lv_if_ne (tgt := 161) X.1 X.2.1 dX12_clause_146 (by decide) (fun c35 => ?_) (fun c35 => ?_)
                    · have spr : vCl (sgU2 P) (sgL2 P) (vX (sgU2 P) (sgL2 P) a) = (true, vX (sgU2 P) (sgL2 P) av29) := by simp only [vCl, vCo, vD_t k7, k7, pv16, i21, mi21, pv24, pv26, pv29, i33, cond_true, cond_false, vB_t, vB_f, if_true, if_false, eq_self, not_true_eq_false, not_false_eq_true, Int.reduceEq, Int.reduceLT, or_false, false_or, or_true, true_or]
                      exact sg_vret2 X hr hlk hS (fun t ht hW => (Or.inl ⟨_, spr, vq_pgw p2v29 (by decide), (bv29).2, sg_post hb hK hC hG hS ht hW⟩)) dX12_clause_161
                    · refine lv_iload_n X.1 X.2.1 dX12_clause_149 rfl (lv_at hl 3 rfl) ?_
                      refine lv_aload_n X.1 X.2.1 dX12_clause_150 rfl (lv_at hl 4 rfl) ?_
                      refine gf_X12_13e X hK hG h0 wl_6_191 dX12_clause_151 (fun f36 hf36 kf36 => ?_)
                      refine lv_icmp_ne (tgt := 161) X.1 X.2.1 dX12_clause_154 (by decide) (fun c37 => ?_) (fun c37 => ?_)
                      · have spr : vCl (sgU2 P) (sgL2 P) (vX (sgU2 P) (sgL2 P) a) = (true, vX (sgU2 P) (sgL2 P) av29) := by simp only [vCl, vCo, vD_t k7, k7, pv16, i21, mi21, pv24, pv26, pv29, i33, cond_true, cond_false, vB_t, vB_f, if_true, if_false, eq_self, not_true_eq_false, not_false_eq_true, Int.reduceEq, Int.reduceLT, or_false, false_or, or_true, true_or]
                        exact sg_vret2 X hr hlk hS (fun t ht hW => (Or.inl ⟨_, spr, vq_pgw p2v29 (by decide), (bv29).2, sg_post hb hK hC hG hS ht hW⟩)) dX12_clause_161
                      · refine lv_iload_n X.1 X.2.1 dX12_clause_157 rfl (lv_at hl 1 rfl) ?_
                        refine lv_if_ne (tgt := 162) X.1 X.2.1 dX12_clause_158 (by decide) (fun c38 => ?_) (fun c38 => ?_)
                        · refine lv_aload_n X.1 X.2.1 dX12_clause_162 rfl (lv_at hl 4 rfl) ?_
                          refine lv_iconst (v := 1) X.1 X.2.1 dX12_clause_163 (by decide +kernel) ?_
                          refine pf_X12_17e X hK hG hS h0 wl_6_195 ⟨_, rfl, (iv_of (iv_c 1 (a := 1) (b := 1) (by decide +kernel)) (a' := 0) (b' := 1) (by decide +kernel))⟩ dX12_clause_164 (fun H locs hG hS ku39 ru39 => ?_)
                          refine lv_aload_n X.1 X.2.1 dX12_clause_167 rfl (lv_at hl 4 rfl) ?_
                          refine lv_iload_n X.1 X.2.1 dX12_clause_168 rfl (lv_at hl 0 rfl) ?_
                          refine pf_X12_14e X hK hG hS h0 wl_6_192 ⟨_, rfl, (iv_top _)⟩ dX12_clause_169 (fun H locs hG hS ku40 ru40 => ?_)
                          have spr : vCl (sgU2 P) (sgL2 P) (vX (sgU2 P) (sgL2 P) a) = (true, vX (sgU2 P) (sgL2 P) av29) := by simp only [vCl, vCo, vD_t k7, k7, pv16, i21, mi21, pv24, pv26, pv29, i33, cond_true, cond_false, vB_t, vB_f, if_true, if_false, eq_self, not_true_eq_false, not_false_eq_true, Int.reduceEq, Int.reduceLT, or_false, false_or, or_true, true_or]
                          exact sg_vret2 X hr hlk hS (fun t ht hW => (Or.inl ⟨_, spr, vq_pgw p2v29 (by decide), (bv29).2, sg_post hb hK hC hG hS ht hW⟩)) dX12_clause_172
                        · have spr : vCl (sgU2 P) (sgL2 P) (vX (sgU2 P) (sgL2 P) a) = (true, vX (sgU2 P) (sgL2 P) av29) := by simp only [vCl, vCo, vD_t k7, k7, pv16, i21, mi21, pv24, pv26, pv29, i33, cond_true, cond_false, vB_t, vB_f, if_true, if_false, eq_self, not_true_eq_false, not_false_eq_true, Int.reduceEq, Int.reduceLT, or_false, false_or, or_true, true_or]
                          exact sg_vret2 X hr hlk hS (fun t ht hW => (Or.inl ⟨_, spr, vq_pgw p2v29 (by decide), (bv29).2, sg_post hb hK hC hG hS ht hW⟩)) dX12_clause_161
                · have hG := hBf28.2.2.2
                  rw [htf28] at hG
                  refine lv_istore_n (lv' := [(3, .int f28), (2, .int f23), (4, .int f18), (1, .int f1), (0, .ref a0)]) X.1 X.2.1 dX12_clause_85 rfl hl (by decide) rfl (fun ls hl => ?_)
                  refine lv_goto (tgt := 134) X.1 X.2.1 dX12_clause_86 (by decide) ?_
                  refine lv_aload_n X.1 X.2.1 dX12_clause_134 rfl (lv_at hl 4 rfl) ?_
                  refine gf_X12_11e X hK hG h0 wl_6_189 dX12_clause_135 (fun f41 hf41 => ?_)
                  have xf41 : f41.toInt = wv29 := vq_iv hf41
                  have yf41 : iv 0 240 f41 := vq_of xf41 (And.intro w1v29 w2v29)
                  refine lv_iconst (v := (-1)) X.1 X.2.1 dX12_clause_138 (by decide +kernel) ?_
                  refine lv_icmp_ne (tgt := 161) X.1 X.2.1 dX12_clause_139 (by decide) (fun c42 => ?_) (fun c42 => ?_)
                  · have i43 : (wv29 = ((-1) : Int)) = False := vq_ne c42 xf41 (by decide +kernel)
                    have spr : vCl (sgU2 P) (sgL2 P) (vX (sgU2 P) (sgL2 P) a) = (false, wv29) := by simp only [vCl, vCo, vD_t k7, k7, pv16, i21, mi21, pv24, pv26, pv29, i43, cond_true, cond_false, vB_t, vB_f, if_true, if_false, eq_self, not_true_eq_false, not_false_eq_true, Int.reduceEq, Int.reduceLT, or_false, false_or, or_true, true_or]
                    have hG := ke_weak (b1 := 0) (b2 := 241) (g1 := wv29) (g2 := wv29) (e1 := 0) (e2 := 6) hG (Int.le_refl _) (Int.le_refl _) (Int.le_refl _) (Int.le_refl _) (by decide) (by decide)
                    exact sg_vret2 X hr hlk hS (fun t ht hW => (Or.inr ⟨_, spr, ((And.intro w1v29 w2v29)).1, ((And.intro w1v29 w2v29)).2, sg_post hb hK hC hG hS ht hW⟩)) dX12_clause_161
                  · have i44 : wv29 = ((-1) : Int) := vq_eq c42 xf41 (by decide +kernel)
                    exact ((iv_no (a := 0) (b := (-1)) (iv_eqm c42 yf41 (iv_c (-1) (a := (-1)) (b := (-1)) (by decide +kernel)) (by decide +kernel)) (by decide +kernel))).elim
              · exact ((iv_no (a := 1) (b := 0) (iv_eqm c27 (iv_c 1 (a := 1) (b := 1) (by decide +kernel)) (iv_c 0 (a := 0) (b := 0) (by decide +kernel)) (by decide +kernel)) (by decide +kernel))).elim
            · have hG := hBf25.2.2.2
              rw [htf25] at hG
              refine lv_if_ne (tgt := 81) X.1 X.2.1 dX12_clause_77 (by decide) (fun c45 => ?_) (fun c45 => ?_)
              · exact ((c45 (iv_one (iv_c 0 (a := 0) (b := 0) (by decide +kernel)) (iv_c 0 (a := 0) (b := 0) (by decide +kernel)) (by decide +kernel)))).elim
              · have spr : vCl (sgU2 P) (sgL2 P) (vX (sgU2 P) (sgL2 P) a) = (false, wv26) := by simp only [vCl, vCo, vD_t k7, k7, pv16, i21, mi21, pv24, pv26, cond_true, cond_false, vB_t, vB_f, if_true, if_false, eq_self, not_true_eq_false, not_false_eq_true, Int.reduceEq, Int.reduceLT, or_false, false_or, or_true, true_or]
                have hG := ke_weak (b1 := 0) (b2 := 241) (g1 := wv26) (g2 := wv26) (e1 := 0) (e2 := 6) hG (Int.le_refl _) (Int.le_refl _) (Int.le_refl _) (Int.le_refl _) (by decide) (by decide)
                exact sg_vret2 X hr hlk hS (fun t ht hW => (Or.inr ⟨_, spr, ((And.intro w1v26 w2v26)).1, ((And.intro w1v26 w2v26)).2, sg_post hb hK hC hG hS ht hW⟩)) dX12_clause_80
          · have hG := hBf23.2.2.2
            rw [htf23] at hG
            rw [vX_idem] at pv24
            refine lv_istore_n (lv' := [(2, .int f23), (4, .int f18), (3, .int 0), (1, .int f1), (0, .ref a0)]) X.1 X.2.1 dX12_clause_70 rfl hl (by decide) rfl (fun ls hl => ?_)
            refine lv_aload_n X.1 X.2.1 dX12_clause_71 rfl (lv_at hl 4 rfl) ?_
            refine lv_bipush (v := 63) X.1 X.2.1 dX12_clause_72 (by decide +kernel) ?_
            refine ca_X12_takes_eb X hK hG hC hS hb a0 h0 63 (And.intro w1v24 w2v24) wl_7_217 hl.1 (rest := []) rfl (Nat.le_of_ble_eq_true rfl) ⟨Nat.le_of_ble_eq_true rfl, Nat.le_of_ble_eq_true rfl⟩ ⟨Nat.le_of_ble_eq_true rfl, Nat.le_of_ble_eq_true rfl⟩ dX12_clause_74 (fun f46 tf46 H locs htf46 hf46 hWf46 hS => ?_)
            have hG := hWf46.2.2.2
            rw [htf46] at hG
            obtain rfl : f46 = 0 := sg_is0 hf46
            refine lv_if_ne (tgt := 81) X.1 X.2.1 dX12_clause_77 (by decide) (fun c47 => ?_) (fun c47 => ?_)
            · exact ((c47 (iv_one (iv_c 0 (a := 0) (b := 0) (by decide +kernel)) (iv_c 0 (a := 0) (b := 0) (by decide +kernel)) (by decide +kernel)))).elim
            · have spr : vCl (sgU2 P) (sgL2 P) (vX (sgU2 P) (sgL2 P) a) = (false, wv24) := by simp only [vCl, vCo, vD_t k7, k7, pv16, i21, mi21, pv24, cond_true, cond_false, vB_t, vB_f, if_true, if_false, eq_self, not_true_eq_false, not_false_eq_true, Int.reduceEq, Int.reduceLT, or_false, false_or, or_true, true_or]
              have hG := ke_weak (b1 := 0) (b2 := 241) (g1 := wv24) (g2 := wv24) (e1 := 0) (e2 := 6) hG (Int.le_refl _) (Int.le_refl _) (Int.le_refl _) (Int.le_refl _) (by decide) (by decide)
              exact sg_vret2 X hr hlk hS (fun t ht hW => (Or.inr ⟨_, spr, ((And.intro w1v24 w2v24)).1, ((And.intro w1v24 w2v24)).2, sg_post hb hK hC hG hS ht hW⟩)) dX12_clause_80
        · have i22 : (vE (vC (sgU2 P) (sgL2 P) (vX (sgU2 P) (sgL2 P) av16)) = (33 : Int)) = False := vq_ne c20 xf18 (by decide +kernel)
          have mi22 : (vC (sgU2 P) (sgL2 P) (vX (sgU2 P) (sgL2 P) av16) = (33 : Int)) = False := vE_ne i22 (by decide)
          refine lv_iload X.1 X.2.1 dX12_clause_57 (lv_at hl 0 rfl) ?_
          refine lv_bipush (v := 40) X.1 X.2.1 dX12_clause_59 (by decide +kernel) ?_
          refine lv_icmp_ne (tgt := 89) X.1 X.2.1 dX12_clause_61 (by decide) (fun c48 => ?_) (fun c48 => ?_)
          · have i49 : (vE (vC (sgU2 P) (sgL2 P) (vX (sgU2 P) (sgL2 P) av16)) = (40 : Int)) = False := vq_ne c48 xf18 (by decide +kernel)
            have mi49 : (vC (sgU2 P) (sgL2 P) (vX (sgU2 P) (sgL2 P) av16) = (40 : Int)) = False := vE_ne i49 (by decide)
            refine lv_aload_n X.1 X.2.1 dX12_clause_89 rfl (lv_at hl 4 rfl) ?_
            refine ca_X12_sum_e0 X hK hG hC hS hb a0 h0 hl0 b19 hby wl_7_233 hl.1 (rest := []) rfl (Nat.le_of_ble_eq_true rfl) ⟨Nat.le_of_ble_eq_true rfl, Nat.le_of_ble_eq_true rfl⟩ ⟨Nat.le_of_ble_eq_true rfl, Nat.le_of_ble_eq_true rfl⟩ dX12_clause_90 (fun f51 tf51 H locs htf51 hf51 hWf51 hS => ?_)
            rcases hWf51 with ⟨av52, pv52, gav52, gbv52, hBf51⟩ | ⟨wv52, pv52, w1v52, w2v52, hBf51⟩
            · have hG := hBf51.2.2.2
              rw [htf51] at hG
              rw [vX_idem] at pv52
              have bv52 := vq_bd2 (k := 1) b19 (by decide) gav52 gbv52
              have p2v52 : a + 3 ≤ av52 := vq_pg pb19 gav52 (by decide)
              refine lv_istore_n (lv' := [(3, .int f51), (4, .int f18), (2, .int 1), (1, .int f1), (0, .ref a0)]) X.1 X.2.1 dX12_clause_93 rfl hl (by decide) rfl (fun ls hl => ?_)
              refine lv_aload_n X.1 X.2.1 dX12_clause_94 rfl (lv_at hl 4 rfl) ?_
              refine gf_X12_11e X hK hG h0 wl_6_189 dX12_clause_95 (fun f53 hf53 => ?_)
              refine lv_iconst (v := (-1)) X.1 X.2.1 dX12_clause_98 (by decide +kernel) ?_
              refine lv_icmp_ne (tgt := 134) X.1 X.2.1 dX12_clause_99 (by decide) (fun c54 => ?_) (fun c54 => ?_)
              · have i55 : (((-1) : Int) = ((-1) : Int)) = False := vq_ne c54 (vq_iv hf53) (by decide +kernel)
                exact ((c54 (iv_one hf53 (iv_c (-1) (a := (-1)) (b := (-1)) (by decide +kernel)) (by decide +kernel)))).elim
              · have i56 : ((-1) : Int) = ((-1) : Int) := vq_eq c54 (vq_iv hf53) (by decide +kernel)
                refine lv_aload_n X.1 X.2.1 dX12_clause_102 rfl (lv_at hl 4 rfl) ?_
                refine ca_X12_look_e X hK hG hC hS hb a0 h0 hl0 bv52 hby wl_7_137 hl.1 (rest := []) rfl (Nat.le_of_ble_eq_true rfl) ⟨Nat.le_of_ble_eq_true rfl, Nat.le_of_ble_eq_true rfl⟩ ⟨Nat.le_of_ble_eq_true rfl, Nat.le_of_ble_eq_true rfl⟩ dX12_clause_103 (fun f57 tf57 H locs htf57 hf57 hWf57 hS => ?_)
                have hBf57 := hWf57.2
                have xf57 := hWf57.1
                have hG := hBf57.2.2.2
                rw [htf57] at hG
                have b58 := vq_bdL (b := sgU2 P) bv52
                have eb58 : av52 ≤ vX (sgU2 P) (sgL2 P) av52 := (vX_ge (sgU2 P) (sgL2 P) av52).1
                have pb58 : a + 3 ≤ vX (sgU2 P) (sgL2 P) av52 := Int.le_trans p2v52 (vX_ge (sgU2 P) (sgL2 P) av52).1
                have yf57 : iv (-1) 255 f57 := vq_lk xf57 (vC_by2 hby _)
                refine ca_X12_isSign_e X hK (ke_toKT hG (by decide) (by decide) (by decide) (by decide)) hC (fun _ h => h) hS hb f57 wl_8_20 hl.1 (rest := []) rfl (Nat.le_of_ble_eq_true rfl) ⟨Nat.le_of_ble_eq_true rfl, Nat.le_of_ble_eq_true rfl⟩ ⟨Nat.le_of_ble_eq_true rfl, Nat.le_of_ble_eq_true rfl⟩ dX12_clause_106 (fun f59 locs hf59 hS => ?_)
                refine lv_if_eq (tgt := 134) X.1 X.2.1 dX12_clause_109 (by decide) (fun c60 => ?_) (fun c60 => ?_)
                · have j61 := vq_says0 hf59 c60
                  have k62 : vCm (vC (sgU2 P) (sgL2 P) (vX (sgU2 P) (sgL2 P) av52)) = (0 : Int) := by rw [xf57, vCm_E] at j61; exact j61
                  refine lv_aload_n X.1 X.2.1 dX12_clause_134 rfl (lv_at hl 4 rfl) ?_
                  refine gf_X12_11e X hK hG h0 wl_6_189 dX12_clause_135 (fun f65 hf65 => ?_)
                  refine lv_iconst (v := (-1)) X.1 X.2.1 dX12_clause_138 (by decide +kernel) ?_
                  refine lv_icmp_ne (tgt := 161) X.1 X.2.1 dX12_clause_139 (by decide) (fun c66 => ?_) (fun c66 => ?_)
                  · have i67 : (((-1) : Int) = ((-1) : Int)) = False := vq_ne c66 (vq_iv hf65) (by decide +kernel)
                    exact ((c66 (iv_one hf65 (iv_c (-1) (a := (-1)) (b := (-1)) (by decide +kernel)) (by decide +kernel)))).elim
                  · have i68 : ((-1) : Int) = ((-1) : Int) := vq_eq c66 (vq_iv hf65) (by decide +kernel)
                    refine lv_aload_n X.1 X.2.1 dX12_clause_142 rfl (lv_at hl 4 rfl) ?_
                    refine gf_X12_17e X hK hG h0 wl_6_195 dX12_clause_143 (fun f69 hf69 kf69 => ?_)
                    refine lv_if_ne (tgt := 161) X.1 X.2.1 dX12_clause_146 (by decide) (fun c70 => ?_) (fun c70 => ?_)
                    · have spr : vCl (sgU2 P) (sgL2 P) (vX (sgU2 P) (sgL2 P) a) = (true, vX (sgU2 P) (sgL2 P) (vX (sgU2 P) (sgL2 P) av52)) := by rw [vX_idem]; simp only [vCl, vCo, vD_t k7, k7, pv16, i22, mi22, i49, mi49, pv52, i56, k62, i68, cond_true, cond_false, vB_t, vB_f, if_true, if_false, eq_self, not_true_eq_false, not_false_eq_true, Int.reduceEq, Int.reduceLT, or_false, false_or, or_true, true_or]
                      exact sg_vret2 X hr hlk hS (fun t ht hW => (Or.inl ⟨_, spr, vq_pgw pb58 (by decide), (b58).2, sg_post hb hK hC hG hS ht hW⟩)) dX12_clause_161
                    · refine lv_iload_n X.1 X.2.1 dX12_clause_149 rfl (lv_at hl 3 rfl) ?_
                      refine lv_aload_n X.1 X.2.1 dX12_clause_150 rfl (lv_at hl 4 rfl) ?_
                      refine gf_X12_13e X hK hG h0 wl_6_191 dX12_clause_151 (fun f71 hf71 kf71 => ?_)
                      refine lv_icmp_ne (tgt := 161) X.1 X.2.1 dX12_clause_154 (by decide) (fun c72 => ?_) (fun c72 => ?_)
                      · have spr : vCl (sgU2 P) (sgL2 P) (vX (sgU2 P) (sgL2 P) a) = (true, vX (sgU2 P) (sgL2 P) (vX (sgU2 P) (sgL2 P) av52)) := by rw [vX_idem]; simp only [vCl, vCo, vD_t k7, k7, pv16, i22, mi22, i49, mi49, pv52, i56, k62, i68, cond_true, cond_false, vB_t, vB_f, if_true, if_false, eq_self, not_true_eq_false, not_false_eq_true, Int.reduceEq, Int.reduceLT, or_false, false_or, or_true, true_or]
                        exact sg_vret2 X hr hlk hS (fun t ht hW => (Or.inl ⟨_, spr, vq_pgw pb58 (by decide), (b58).2, sg_post hb hK hC hG hS ht hW⟩)) dX12_clause_161
                      · refine lv_iload_n X.1 X.2.1 dX12_clause_157 rfl (lv_at hl 2 rfl) ?_
                        refine lv_if_ne (tgt := 162) X.1 X.2.1 dX12_clause_158 (by decide) (fun c73 => ?_) (fun c73 => ?_)
                        · refine lv_aload_n X.1 X.2.1 dX12_clause_162 rfl (lv_at hl 4 rfl) ?_
                          refine lv_iconst (v := 1) X.1 X.2.1 dX12_clause_163 (by decide +kernel) ?_
                          refine pf_X12_17e X hK hG hS h0 wl_6_195 ⟨_, rfl, (iv_of (iv_c 1 (a := 1) (b := 1) (by decide +kernel)) (a' := 0) (b' := 1) (by decide +kernel))⟩ dX12_clause_164 (fun H locs hG hS ku74 ru74 => ?_)
                          refine lv_aload_n X.1 X.2.1 dX12_clause_167 rfl (lv_at hl 4 rfl) ?_
                          refine lv_iload_n X.1 X.2.1 dX12_clause_168 rfl (lv_at hl 0 rfl) ?_
                          refine pf_X12_14e X hK hG hS h0 wl_6_192 ⟨_, rfl, (iv_top _)⟩ dX12_clause_169 (fun H locs hG hS ku75 ru75 => ?_)
                          have spr : vCl (sgU2 P) (sgL2 P) (vX (sgU2 P) (sgL2 P) a) = (true, vX (sgU2 P) (sgL2 P) (vX (sgU2 P) (sgL2 P) av52)) := by rw [vX_idem]; simp only [vCl, vCo, vD_t k7, k7, pv16, i22, mi22, i49, mi49, pv52, i56, k62, i68, cond_true, cond_false, vB_t, vB_f, if_true, if_false, eq_self, not_true_eq_false, not_false_eq_true, Int.reduceEq, Int.reduceLT, or_false, false_or, or_true, true_or]
                          exact sg_vret2 X hr hlk hS (fun t ht hW => (Or.inl ⟨_, spr, vq_pgw pb58 (by decide), (b58).2, sg_post hb hK hC hG hS ht hW⟩)) dX12_clause_172
                        · exact ((iv_no (a := 1) (b := 0) (iv_eqm c73 (iv_c 1 (a := 1) (b := 1) (by decide +kernel)) (iv_c 0 (a := 0) (b := 0) (by decide +kernel)) (by decide +kernel)) (by decide +kernel))).elim
                · have j63 := vq_says1 hf59 c60
                  have k64 : (vCm (vC (sgU2 P) (sgL2 P) (vX (sgU2 P) (sgL2 P) av52)) = (0 : Int)) = False := by rw [xf57, vCm_E] at j63; exact j63
                  refine lv_aload_n X.1 X.2.1 dX12_clause_112 rfl (lv_at hl 4 rfl) ?_
                  refine lv_iconst (v := 1) X.1 X.2.1 dX12_clause_113 (by decide +kernel) ?_
                  refine lv_iload_n X.1 X.2.1 dX12_clause_114 rfl (lv_at hl 0 rfl) ?_
                  refine ca_X12_condition_e0_1 X hK hG hC hS hb a0 h0 1 (iv_c 1 (a := 1) (b := 1) (by decide +kernel)) f51 hl0 b58 hby wl_7_221 hl.1 (rest := []) rfl (Nat.le_of_ble_eq_true rfl) ⟨Nat.le_of_ble_eq_true rfl, Nat.le_of_ble_eq_true rfl⟩ ⟨Nat.le_of_ble_eq_true rfl, Nat.le_of_ble_eq_true rfl⟩ dX12_clause_115 (fun f76 tf76 H locs htf76 hf76 hWf76 hS => ?_)
                  rcases hWf76 with ⟨av77, pv77, gav77, gbv77, hBf76⟩ | ⟨wv77, pv77, w1v77, w2v77, hBf76⟩
                  · have hG := hBf76.2.2.2
                    rw [htf76] at hG
                    rw [vX_idem] at pv77
                    have bv77 := vq_bd2 (k := 1) b58 (by decide) gav77 gbv77
                    have p2v77 : a + 4 ≤ av77 := vq_pg pb58 gav77 (by decide)
                    refine lv_istore_n (lv' := [(2, .int f76), (3, .int f51), (4, .int f18), (1, .int f1), (0, .ref a0)]) X.1 X.2.1 dX12_clause_118 rfl hl (by decide) rfl (fun ls hl => ?_)
                    refine lv_aload_n X.1 X.2.1 dX12_clause_119 rfl (lv_at hl 4 rfl) ?_
                    refine lv_bipush (v := 63) X.1 X.2.1 dX12_clause_120 (by decide +kernel) ?_
                    refine ca_X12_takes_e X hK hG hC hS hb a0 h0 63 hl0 bv77 hby (by omega) (show (63 : Int32).toInt = 63 ∧ (0 : Int) < 63 from by decide +kernel) wl_7_217 hl.1 (rest := []) rfl (Nat.le_of_ble_eq_true rfl) ⟨Nat.le_of_ble_eq_true rfl, Nat.le_of_ble_eq_true rfl⟩ ⟨Nat.le_of_ble_eq_true rfl, Nat.le_of_ble_eq_true rfl⟩ dX12_clause_122 (fun f78 tf78 H locs htf78 hf78 hWf78 hS => ?_)
                    rcases hWf78 with ⟨rfl, av79, pv79, gav79, gbv79, hBf78⟩ | ⟨rfl, wv79, pv79, w1v79, w2v79, hBf78⟩
                    · have hG := hBf78.2.2.2
                      rw [htf78] at hG
                      have bv79 := vq_bd2 (k := 1) bv77 (by decide) gav79 gbv79
                      have p2v79 : a + 5 ≤ av79 := vq_pg p2v77 gav79 (by decide)
                      refine lv_if_ne (tgt := 129) X.1 X.2.1 dX12_clause_125 (by decide) (fun c80 => ?_) (fun c80 => ?_)
                      · refine lv_aload_n X.1 X.2.1 dX12_clause_129 rfl (lv_at hl 4 rfl) ?_
                        refine ca_X12_sum_e0 X hK hG hC hS hb a0 h0 hl0 bv79 hby wl_7_233 hl.1 (rest := []) rfl (Nat.le_of_ble_eq_true rfl) ⟨Nat.le_of_ble_eq_true rfl, Nat.le_of_ble_eq_true rfl⟩ ⟨Nat.le_of_ble_eq_true rfl, Nat.le_of_ble_eq_true rfl⟩ dX12_clause_130 (fun f81 tf81 H locs htf81 hf81 hWf81 hS => ?_)
                        rcases hWf81 with ⟨av82, pv82, gav82, gbv82, hBf81⟩ | ⟨wv82, pv82, w1v82, w2v82, hBf81⟩
                        · have hG := hBf81.2.2.2
                          rw [htf81] at hG
                          have bv82 := vq_bd2 (k := 1) bv79 (by decide) gav82 gbv82
                          have p2v82 : a + 6 ≤ av82 := vq_pg p2v79 gav82 (by decide)
                          refine lv_istore_n (lv' := [(3, .int f81), (2, .int f76), (4, .int f18), (1, .int f1), (0, .ref a0)]) X.1 X.2.1 dX12_clause_133 rfl hl (by decide) rfl (fun ls hl => ?_)
                          refine lv_aload_n X.1 X.2.1 dX12_clause_134 rfl (lv_at hl 4 rfl) ?_
                          refine gf_X12_11e X hK hG h0 wl_6_189 dX12_clause_135 (fun f83 hf83 => ?_)
                          refine lv_iconst (v := (-1)) X.1 X.2.1 dX12_clause_138 (by decide +kernel) ?_
                          refine lv_icmp_ne (tgt := 161) X.1 X.2.1 dX12_clause_139 (by decide) (fun c84 => ?_) (fun c84 => ?_)
                          · have i85 : (((-1) : Int) = ((-1) : Int)) = False := vq_ne c84 (vq_iv hf83) (by decide +kernel)
                            exact ((c84 (iv_one hf83 (iv_c (-1) (a := (-1)) (b := (-1)) (by decide +kernel)) (by decide +kernel)))).elim
                          · have i86 : ((-1) : Int) = ((-1) : Int) := vq_eq c84 (vq_iv hf83) (by decide +kernel)
                            refine lv_aload_n X.1 X.2.1 dX12_clause_142 rfl (lv_at hl 4 rfl) ?_
                            refine gf_X12_17e X hK hG h0 wl_6_195 dX12_clause_143 (fun f87 hf87 kf87 => ?_)
                            refine lv_if_ne (tgt := 161) X.1 X.2.1 dX12_clause_146 (by decide) (fun c88 => ?_) (fun c88 => ?_)
                            · have spr : vCl (sgU2 P) (sgL2 P) (vX (sgU2 P) (sgL2 P) a) = (true, vX (sgU2 P) (sgL2 P) av82) := by simp only [vCl, vCo, vD_t k7, vB_as pv77, k7, pv16, i22, mi22, i49, mi49, pv52, i56, k64, pv77, pv79, pv82, i86, cond_true, cond_false, vB_t, vB_f, if_true, if_false, eq_self, not_true_eq_false, not_false_eq_true, Int.reduceEq, Int.reduceLT, or_false, false_or, or_true, true_or]
                              exact sg_vret2 X hr hlk hS (fun t ht hW => (Or.inl ⟨_, spr, vq_pgw p2v82 (by decide), (bv82).2, sg_post hb hK hC hG hS ht hW⟩)) dX12_clause_161
                            · refine lv_iload_n X.1 X.2.1 dX12_clause_149 rfl (lv_at hl 3 rfl) ?_
                              refine lv_aload_n X.1 X.2.1 dX12_clause_150 rfl (lv_at hl 4 rfl) ?_
                              refine gf_X12_13e X hK hG h0 wl_6_191 dX12_clause_151 (fun f89 hf89 kf89 => ?_)
                              refine lv_icmp_ne (tgt := 161) X.1 X.2.1 dX12_clause_154 (by decide) (fun c90 => ?_) (fun c90 => ?_)
                              · have spr : vCl (sgU2 P) (sgL2 P) (vX (sgU2 P) (sgL2 P) a) = (true, vX (sgU2 P) (sgL2 P) av82) := by simp only [vCl, vCo, vD_t k7, vB_as pv77, k7, pv16, i22, mi22, i49, mi49, pv52, i56, k64, pv77, pv79, pv82, i86, cond_true, cond_false, vB_t, vB_f, if_true, if_false, eq_self, not_true_eq_false, not_false_eq_true, Int.reduceEq, Int.reduceLT, or_false, false_or, or_true, true_or]
                                exact sg_vret2 X hr hlk hS (fun t ht hW => (Or.inl ⟨_, spr, vq_pgw p2v82 (by decide), (bv82).2, sg_post hb hK hC hG hS ht hW⟩)) dX12_clause_161
                              · refine lv_iload_n X.1 X.2.1 dX12_clause_157 rfl (lv_at hl 1 rfl) ?_
                                refine lv_if_ne (tgt := 162) X.1 X.2.1 dX12_clause_158 (by decide) (fun c91 => ?_) (fun c91 => ?_)
                                · refine lv_aload_n X.1 X.2.1 dX12_clause_162 rfl (lv_at hl 4 rfl) ?_
                                  refine lv_iconst (v := 1) X.1 X.2.1 dX12_clause_163 (by decide +kernel) ?_
                                  refine pf_X12_17e X hK hG hS h0 wl_6_195 ⟨_, rfl, (iv_of (iv_c 1 (a := 1) (b := 1) (by decide +kernel)) (a' := 0) (b' := 1) (by decide +kernel))⟩ dX12_clause_164 (fun H locs hG hS ku92 ru92 => ?_)
                                  refine lv_aload_n X.1 X.2.1 dX12_clause_167 rfl (lv_at hl 4 rfl) ?_
                                  refine lv_iload_n X.1 X.2.1 dX12_clause_168 rfl (lv_at hl 0 rfl) ?_
                                  refine pf_X12_14e X hK hG hS h0 wl_6_192 ⟨_, rfl, (iv_top _)⟩ dX12_clause_169 (fun H locs hG hS ku93 ru93 => ?_)
                                  have spr : vCl (sgU2 P) (sgL2 P) (vX (sgU2 P) (sgL2 P) a) = (true, vX (sgU2 P) (sgL2 P) av82) := by simp only [vCl, vCo, vD_t k7, vB_as pv77, k7, pv16, i22, mi22, i49, mi49, pv52, i56, k64, pv77, pv79, pv82, i86, cond_true, cond_false, vB_t, vB_f, if_true, if_false, eq_self, not_true_eq_false, not_false_eq_true, Int.reduceEq, Int.reduceLT, or_false, false_or, or_true, true_or]
                                  exact sg_vret2 X hr hlk hS (fun t ht hW => (Or.inl ⟨_, spr, vq_pgw p2v82 (by decide), (bv82).2, sg_post hb hK hC hG hS ht hW⟩)) dX12_clause_172
                                · have spr : vCl (sgU2 P) (sgL2 P) (vX (sgU2 P) (sgL2 P) a) = (true, vX (sgU2 P) (sgL2 P) av82) := by simp only [vCl, vCo, vD_t k7, vB_as pv77, k7, pv16, i22, mi22, i49, mi49, pv52, i56, k64, pv77, pv79, pv82, i86, cond_true, cond_false, vB_t, vB_f, if_true, if_false, eq_self, not_true_eq_false, not_false_eq_true, Int.reduceEq, Int.reduceLT, or_false, false_or, or_true, true_or]
                                  exact sg_vret2 X hr hlk hS (fun t ht hW => (Or.inl ⟨_, spr, vq_pgw p2v82 (by decide), (bv82).2, sg_post hb hK hC hG hS ht hW⟩)) dX12_clause_161
                        · have hG := hBf81.2.2.2
                          rw [htf81] at hG
                          refine lv_istore_n (lv' := [(3, .int f81), (2, .int f76), (4, .int f18), (1, .int f1), (0, .ref a0)]) X.1 X.2.1 dX12_clause_133 rfl hl (by decide) rfl (fun ls hl => ?_)
                          refine lv_aload_n X.1 X.2.1 dX12_clause_134 rfl (lv_at hl 4 rfl) ?_
                          refine gf_X12_11e X hK hG h0 wl_6_189 dX12_clause_135 (fun f94 hf94 => ?_)
                          have xf94 : f94.toInt = wv82 := vq_iv hf94
                          have yf94 : iv 0 240 f94 := vq_of xf94 (And.intro w1v82 w2v82)
                          refine lv_iconst (v := (-1)) X.1 X.2.1 dX12_clause_138 (by decide +kernel) ?_
                          refine lv_icmp_ne (tgt := 161) X.1 X.2.1 dX12_clause_139 (by decide) (fun c95 => ?_) (fun c95 => ?_)
                          · have i96 : (wv82 = ((-1) : Int)) = False := vq_ne c95 xf94 (by decide +kernel)
                            have spr : vCl (sgU2 P) (sgL2 P) (vX (sgU2 P) (sgL2 P) a) = (false, wv82) := by simp only [vCl, vCo, vD_t k7, vB_as pv77, k7, pv16, i22, mi22, i49, mi49, pv52, i56, k64, pv77, pv79, pv82, i96, cond_true, cond_false, vB_t, vB_f, if_true, if_false, eq_self, not_true_eq_false, not_false_eq_true, Int.reduceEq, Int.reduceLT, or_false, false_or, or_true, true_or]
                            have hG := ke_weak (b1 := 0) (b2 := 241) (g1 := wv82) (g2 := wv82) (e1 := 0) (e2 := 6) hG (Int.le_refl _) (Int.le_refl _) (Int.le_refl _) (Int.le_refl _) (by decide) (by decide)
                            exact sg_vret2 X hr hlk hS (fun t ht hW => (Or.inr ⟨_, spr, ((And.intro w1v82 w2v82)).1, ((And.intro w1v82 w2v82)).2, sg_post hb hK hC hG hS ht hW⟩)) dX12_clause_161
                          · have i97 : wv82 = ((-1) : Int) := vq_eq c95 xf94 (by decide +kernel)
                            exact ((iv_no (a := 0) (b := (-1)) (iv_eqm c95 yf94 (iv_c (-1) (a := (-1)) (b := (-1)) (by decide +kernel)) (by decide +kernel)) (by decide +kernel))).elim
                      · exact ((iv_no (a := 1) (b := 0) (iv_eqm c80 (iv_c 1 (a := 1) (b := 1) (by decide +kernel)) (iv_c 0 (a := 0) (b := 0) (by decide +kernel)) (by decide +kernel)) (by decide +kernel))).elim
                    · have hG := hBf78.2.2.2
                      rw [htf78] at hG
                      refine lv_if_ne (tgt := 129) X.1 X.2.1 dX12_clause_125 (by decide) (fun c98 => ?_) (fun c98 => ?_)
                      · exact ((c98 (iv_one (iv_c 0 (a := 0) (b := 0) (by decide +kernel)) (iv_c 0 (a := 0) (b := 0) (by decide +kernel)) (by decide +kernel)))).elim
                      · have spr : vCl (sgU2 P) (sgL2 P) (vX (sgU2 P) (sgL2 P) a) = (false, wv79) := by simp only [vCl, vCo, vD_t k7, vB_as pv77, k7, pv16, i22, mi22, i49, mi49, pv52, i56, k64, pv77, pv79, cond_true, cond_false, vB_t, vB_f, if_true, if_false, eq_self, not_true_eq_false, not_false_eq_true, Int.reduceEq, Int.reduceLT, or_false, false_or, or_true, true_or]
                        have hG := ke_weak (b1 := 0) (b2 := 241) (g1 := wv79) (g2 := wv79) (e1 := 0) (e2 := 6) hG (Int.le_refl _) (Int.le_refl _) (Int.le_refl _) (Int.le_refl _) (by decide) (by decide)
                        exact sg_vret2 X hr hlk hS (fun t ht hW => (Or.inr ⟨_, spr, ((And.intro w1v79 w2v79)).1, ((And.intro w1v79 w2v79)).2, sg_post hb hK hC hG hS ht hW⟩)) dX12_clause_128
                  · have hG := hBf76.2.2.2
                    rw [htf76] at hG
                    rw [vX_idem] at pv77
                    refine lv_istore_n (lv' := [(2, .int f76), (3, .int f51), (4, .int f18), (1, .int f1), (0, .ref a0)]) X.1 X.2.1 dX12_clause_118 rfl hl (by decide) rfl (fun ls hl => ?_)
                    refine lv_aload_n X.1 X.2.1 dX12_clause_119 rfl (lv_at hl 4 rfl) ?_
                    refine lv_bipush (v := 63) X.1 X.2.1 dX12_clause_120 (by decide +kernel) ?_
                    refine ca_X12_takes_eb X hK hG hC hS hb a0 h0 63 (And.intro w1v77 w2v77) wl_7_217 hl.1 (rest := []) rfl (Nat.le_of_ble_eq_true rfl) ⟨Nat.le_of_ble_eq_true rfl, Nat.le_of_ble_eq_true rfl⟩ ⟨Nat.le_of_ble_eq_true rfl, Nat.le_of_ble_eq_true rfl⟩ dX12_clause_122 (fun f99 tf99 H locs htf99 hf99 hWf99 hS => ?_)
                    have hG := hWf99.2.2.2
                    rw [htf99] at hG
                    obtain rfl : f99 = 0 := sg_is0 hf99
                    refine lv_if_ne (tgt := 129) X.1 X.2.1 dX12_clause_125 (by decide) (fun c100 => ?_) (fun c100 => ?_)
                    · exact ((c100 (iv_one (iv_c 0 (a := 0) (b := 0) (by decide +kernel)) (iv_c 0 (a := 0) (b := 0) (by decide +kernel)) (by decide +kernel)))).elim
                    · have spr : vCl (sgU2 P) (sgL2 P) (vX (sgU2 P) (sgL2 P) a) = (false, wv77) := by simp only [vCl, vCo, vD_t k7, vB_as pv77, k7, pv16, i22, mi22, i49, mi49, pv52, i56, k64, pv77, cond_true, cond_false, vB_t, vB_f, if_true, if_false, eq_self, not_true_eq_false, not_false_eq_true, Int.reduceEq, Int.reduceLT, or_false, false_or, or_true, true_or]
                      have hG := ke_weak (b1 := 0) (b2 := 241) (g1 := wv77) (g2 := wv77) (e1 := 0) (e2 := 6) hG (Int.le_refl _) (Int.le_refl _) (Int.le_refl _) (Int.le_refl _) (by decide) (by decide)
                      exact sg_vret2 X hr hlk hS (fun t ht hW => (Or.inr ⟨_, spr, ((And.intro w1v77 w2v77)).1, ((And.intro w1v77 w2v77)).2, sg_post hb hK hC hG hS ht hW⟩)) dX12_clause_128
            · have hG := hBf51.2.2.2
              rw [htf51] at hG
              rw [vX_idem] at pv52
              refine lv_istore_n (lv' := [(3, .int f51), (4, .int f18), (2, .int 1), (1, .int f1), (0, .ref a0)]) X.1 X.2.1 dX12_clause_93 rfl hl (by decide) rfl (fun ls hl => ?_)
              refine lv_aload_n X.1 X.2.1 dX12_clause_94 rfl (lv_at hl 4 rfl) ?_
              refine gf_X12_11e X hK hG h0 wl_6_189 dX12_clause_95 (fun f101 hf101 => ?_)
              have xf101 : f101.toInt = wv52 := vq_iv hf101
              have yf101 : iv 0 240 f101 := vq_of xf101 (And.intro w1v52 w2v52)
              refine lv_iconst (v := (-1)) X.1 X.2.1 dX12_clause_98 (by decide +kernel) ?_
              refine lv_icmp_ne (tgt := 134) X.1 X.2.1 dX12_clause_99 (by decide) (fun c102 => ?_) (fun c102 => ?_)
              · have i103 : (wv52 = ((-1) : Int)) = False := vq_ne c102 xf101 (by decide +kernel)
                refine lv_aload_n X.1 X.2.1 dX12_clause_134 rfl (lv_at hl 4 rfl) ?_
                refine gf_X12_11e X hK hG h0 wl_6_189 dX12_clause_135 (fun f105 hf105 => ?_)
                have xf105 : f105.toInt = wv52 := vq_iv hf105
                have yf105 : iv 0 240 f105 := vq_of xf105 (And.intro w1v52 w2v52)
                refine lv_iconst (v := (-1)) X.1 X.2.1 dX12_clause_138 (by decide +kernel) ?_
                refine lv_icmp_ne (tgt := 161) X.1 X.2.1 dX12_clause_139 (by decide) (fun c106 => ?_) (fun c106 => ?_)
                · have i107 : (wv52 = ((-1) : Int)) = False := vq_ne c106 xf105 (by decide +kernel)
                  have spr : vCl (sgU2 P) (sgL2 P) (vX (sgU2 P) (sgL2 P) a) = (false, wv52) := by simp only [vCl, vCo, vD_t k7, k7, pv16, i22, mi22, i49, mi49, pv52, i103, i107, cond_true, cond_false, vB_t, vB_f, if_true, if_false, eq_self, not_true_eq_false, not_false_eq_true, Int.reduceEq, Int.reduceLT, or_false, false_or, or_true, true_or]
                  have hG := ke_weak (b1 := 0) (b2 := 241) (g1 := wv52) (g2 := wv52) (e1 := 0) (e2 := 6) hG (Int.le_refl _) (Int.le_refl _) (Int.le_refl _) (Int.le_refl _) (by decide) (by decide)
                  exact sg_vret2 X hr hlk hS (fun t ht hW => (Or.inr ⟨_, spr, ((And.intro w1v52 w2v52)).1, ((And.intro w1v52 w2v52)).2, sg_post hb hK hC hG hS ht hW⟩)) dX12_clause_161
                · have i108 : wv52 = ((-1) : Int) := vq_eq c106 xf105 (by decide +kernel)
                  exact ((iv_no (a := 0) (b := (-1)) (iv_eqm c106 yf105 (iv_c (-1) (a := (-1)) (b := (-1)) (by decide +kernel)) (by decide +kernel)) (by decide +kernel))).elim
              · have i104 : wv52 = ((-1) : Int) := vq_eq c102 xf101 (by decide +kernel)
                exact ((iv_no (a := 0) (b := (-1)) (iv_eqm c102 yf101 (iv_c (-1) (a := (-1)) (b := (-1)) (by decide +kernel)) (by decide +kernel)) (by decide +kernel))).elim
          · have i50 : vE (vC (sgU2 P) (sgL2 P) (vX (sgU2 P) (sgL2 P) av16)) = (40 : Int) := vq_eq c48 xf18 (by decide +kernel)
            have mi50 : vC (sgU2 P) (sgL2 P) (vX (sgU2 P) (sgL2 P) av16) = (40 : Int) := vE_eq i50 (by decide)
            refine lv_aload_n X.1 X.2.1 dX12_clause_64 rfl (lv_at hl 4 rfl) ?_
            refine lv_iconst (v := 0) X.1 X.2.1 dX12_clause_65 (by decide +kernel) ?_
            refine lv_iconst (v := 0) X.1 X.2.1 dX12_clause_66 (by decide +kernel) ?_
            refine ca_X12_condition_e0_0 X hK hG hC hS hb a0 h0 0 (iv_c 0 (a := 0) (b := 0) (by decide +kernel)) 0 hl0 b19 hby wl_7_221 hl.1 (rest := []) rfl (Nat.le_of_ble_eq_true rfl) ⟨Nat.le_of_ble_eq_true rfl, Nat.le_of_ble_eq_true rfl⟩ ⟨Nat.le_of_ble_eq_true rfl, Nat.le_of_ble_eq_true rfl⟩ dX12_clause_67 (fun f109 tf109 H locs htf109 hf109 hWf109 hS => ?_)
            rcases hWf109 with ⟨av110, pv110, gav110, gbv110, hBf109⟩ | ⟨wv110, pv110, w1v110, w2v110, hBf109⟩
            · have hG := hBf109.2.2.2
              rw [htf109] at hG
              rw [vX_idem] at pv110
              have bv110 := vq_bd2 (k := 1) b19 (by decide) gav110 gbv110
              have p2v110 : a + 3 ≤ av110 := vq_pg pb19 gav110 (by decide)
              refine lv_istore_n (lv' := [(2, .int f109), (4, .int f18), (3, .int 0), (1, .int f1), (0, .ref a0)]) X.1 X.2.1 dX12_clause_70 rfl hl (by decide) rfl (fun ls hl => ?_)
              refine lv_aload_n X.1 X.2.1 dX12_clause_71 rfl (lv_at hl 4 rfl) ?_
              refine lv_bipush (v := 63) X.1 X.2.1 dX12_clause_72 (by decide +kernel) ?_
              refine ca_X12_takes_e X hK hG hC hS hb a0 h0 63 hl0 bv110 hby (by omega) (show (63 : Int32).toInt = 63 ∧ (0 : Int) < 63 from by decide +kernel) wl_7_217 hl.1 (rest := []) rfl (Nat.le_of_ble_eq_true rfl) ⟨Nat.le_of_ble_eq_true rfl, Nat.le_of_ble_eq_true rfl⟩ ⟨Nat.le_of_ble_eq_true rfl, Nat.le_of_ble_eq_true rfl⟩ dX12_clause_74 (fun f111 tf111 H locs htf111 hf111 hWf111 hS => ?_)
              rcases hWf111 with ⟨rfl, av112, pv112, gav112, gbv112, hBf111⟩ | ⟨rfl, wv112, pv112, w1v112, w2v112, hBf111⟩
              · have hG := hBf111.2.2.2
                rw [htf111] at hG
                have bv112 := vq_bd2 (k := 1) bv110 (by decide) gav112 gbv112
                have p2v112 : a + 4 ≤ av112 := vq_pg p2v110 gav112 (by decide)
                refine lv_if_ne (tgt := 81) X.1 X.2.1 dX12_clause_77 (by decide) (fun c113 => ?_) (fun c113 => ?_)
                · refine lv_aload_n X.1 X.2.1 dX12_clause_81 rfl (lv_at hl 4 rfl) ?_
                  refine ca_X12_sum_e0 X hK hG hC hS hb a0 h0 hl0 bv112 hby wl_7_233 hl.1 (rest := []) rfl (Nat.le_of_ble_eq_true rfl) ⟨Nat.le_of_ble_eq_true rfl, Nat.le_of_ble_eq_true rfl⟩ ⟨Nat.le_of_ble_eq_true rfl, Nat.le_of_ble_eq_true rfl⟩ dX12_clause_82 (fun f114 tf114 H locs htf114 hf114 hWf114 hS => ?_)
                  rcases hWf114 with ⟨av115, pv115, gav115, gbv115, hBf114⟩ | ⟨wv115, pv115, w1v115, w2v115, hBf114⟩
                  · have hG := hBf114.2.2.2
                    rw [htf114] at hG
                    have bv115 := vq_bd2 (k := 1) bv112 (by decide) gav115 gbv115
                    have p2v115 : a + 5 ≤ av115 := vq_pg p2v112 gav115 (by decide)
                    refine lv_istore_n (lv' := [(3, .int f114), (2, .int f109), (4, .int f18), (1, .int f1), (0, .ref a0)]) X.1 X.2.1 dX12_clause_85 rfl hl (by decide) rfl (fun ls hl => ?_)
                    refine lv_goto (tgt := 134) X.1 X.2.1 dX12_clause_86 (by decide) ?_
                    refine lv_aload_n X.1 X.2.1 dX12_clause_134 rfl (lv_at hl 4 rfl) ?_
                    refine gf_X12_11e X hK hG h0 wl_6_189 dX12_clause_135 (fun f116 hf116 => ?_)
                    refine lv_iconst (v := (-1)) X.1 X.2.1 dX12_clause_138 (by decide +kernel) ?_
                    refine lv_icmp_ne (tgt := 161) X.1 X.2.1 dX12_clause_139 (by decide) (fun c117 => ?_) (fun c117 => ?_)
                    · have i118 : (((-1) : Int) = ((-1) : Int)) = False := vq_ne c117 (vq_iv hf116) (by decide +kernel)
                      exact ((c117 (iv_one hf116 (iv_c (-1) (a := (-1)) (b := (-1)) (by decide +kernel)) (by decide +kernel)))).elim
                    · have i119 : ((-1) : Int) = ((-1) : Int) := vq_eq c117 (vq_iv hf116) (by decide +kernel)
                      refine lv_aload_n X.1 X.2.1 dX12_clause_142 rfl (lv_at hl 4 rfl) ?_
                      refine gf_X12_17e X hK hG h0 wl_6_195 dX12_clause_143 (fun f120 hf120 kf120 => ?_)
                      refine lv_if_ne (tgt := 161) X.1 X.2.1 dX12_clause_146 (by decide) (fun c121 => ?_) (fun c121 => ?_)
                      · have spr : vCl (sgU2 P) (sgL2 P) (vX (sgU2 P) (sgL2 P) a) = (true, vX (sgU2 P) (sgL2 P) av115) := by simp only [vCl, vCo, vD_t k7, k7, pv16, i22, mi22, i50, mi50, pv110, pv112, pv115, i119, cond_true, cond_false, vB_t, vB_f, if_true, if_false, eq_self, not_true_eq_false, not_false_eq_true, Int.reduceEq, Int.reduceLT, or_false, false_or, or_true, true_or]
                        exact sg_vret2 X hr hlk hS (fun t ht hW => (Or.inl ⟨_, spr, vq_pgw p2v115 (by decide), (bv115).2, sg_post hb hK hC hG hS ht hW⟩)) dX12_clause_161
                      · refine lv_iload_n X.1 X.2.1 dX12_clause_149 rfl (lv_at hl 3 rfl) ?_
                        refine lv_aload_n X.1 X.2.1 dX12_clause_150 rfl (lv_at hl 4 rfl) ?_
                        refine gf_X12_13e X hK hG h0 wl_6_191 dX12_clause_151 (fun f122 hf122 kf122 => ?_)
                        refine lv_icmp_ne (tgt := 161) X.1 X.2.1 dX12_clause_154 (by decide) (fun c123 => ?_) (fun c123 => ?_)
                        · have spr : vCl (sgU2 P) (sgL2 P) (vX (sgU2 P) (sgL2 P) a) = (true, vX (sgU2 P) (sgL2 P) av115) := by simp only [vCl, vCo, vD_t k7, k7, pv16, i22, mi22, i50, mi50, pv110, pv112, pv115, i119, cond_true, cond_false, vB_t, vB_f, if_true, if_false, eq_self, not_true_eq_false, not_false_eq_true, Int.reduceEq, Int.reduceLT, or_false, false_or, or_true, true_or]
                          exact sg_vret2 X hr hlk hS (fun t ht hW => (Or.inl ⟨_, spr, vq_pgw p2v115 (by decide), (bv115).2, sg_post hb hK hC hG hS ht hW⟩)) dX12_clause_161
                        · refine lv_iload_n X.1 X.2.1 dX12_clause_157 rfl (lv_at hl 1 rfl) ?_
                          refine lv_if_ne (tgt := 162) X.1 X.2.1 dX12_clause_158 (by decide) (fun c124 => ?_) (fun c124 => ?_)
                          · refine lv_aload_n X.1 X.2.1 dX12_clause_162 rfl (lv_at hl 4 rfl) ?_
                            refine lv_iconst (v := 1) X.1 X.2.1 dX12_clause_163 (by decide +kernel) ?_
                            refine pf_X12_17e X hK hG hS h0 wl_6_195 ⟨_, rfl, (iv_of (iv_c 1 (a := 1) (b := 1) (by decide +kernel)) (a' := 0) (b' := 1) (by decide +kernel))⟩ dX12_clause_164 (fun H locs hG hS ku125 ru125 => ?_)
                            refine lv_aload_n X.1 X.2.1 dX12_clause_167 rfl (lv_at hl 4 rfl) ?_
                            refine lv_iload_n X.1 X.2.1 dX12_clause_168 rfl (lv_at hl 0 rfl) ?_
                            refine pf_X12_14e X hK hG hS h0 wl_6_192 ⟨_, rfl, (iv_top _)⟩ dX12_clause_169 (fun H locs hG hS ku126 ru126 => ?_)
                            have spr : vCl (sgU2 P) (sgL2 P) (vX (sgU2 P) (sgL2 P) a) = (true, vX (sgU2 P) (sgL2 P) av115) := by simp only [vCl, vCo, vD_t k7, k7, pv16, i22, mi22, i50, mi50, pv110, pv112, pv115, i119, cond_true, cond_false, vB_t, vB_f, if_true, if_false, eq_self, not_true_eq_false, not_false_eq_true, Int.reduceEq, Int.reduceLT, or_false, false_or, or_true, true_or]
                            exact sg_vret2 X hr hlk hS (fun t ht hW => (Or.inl ⟨_, spr, vq_pgw p2v115 (by decide), (bv115).2, sg_post hb hK hC hG hS ht hW⟩)) dX12_clause_172
                          · have spr : vCl (sgU2 P) (sgL2 P) (vX (sgU2 P) (sgL2 P) a) = (true, vX (sgU2 P) (sgL2 P) av115) := by simp only [vCl, vCo, vD_t k7, k7, pv16, i22, mi22, i50, mi50, pv110, pv112, pv115, i119, cond_true, cond_false, vB_t, vB_f, if_true, if_false, eq_self, not_true_eq_false, not_false_eq_true, Int.reduceEq, Int.reduceLT, or_false, false_or, or_true, true_or]
                            exact sg_vret2 X hr hlk hS (fun t ht hW => (Or.inl ⟨_, spr, vq_pgw p2v115 (by decide), (bv115).2, sg_post hb hK hC hG hS ht hW⟩)) dX12_clause_161
                  · have hG := hBf114.2.2.2
                    rw [htf114] at hG
                    refine lv_istore_n (lv' := [(3, .int f114), (2, .int f109), (4, .int f18), (1, .int f1), (0, .ref a0)]) X.1 X.2.1 dX12_clause_85 rfl hl (by decide) rfl (fun ls hl => ?_)
                    refine lv_goto (tgt := 134) X.1 X.2.1 dX12_clause_86 (by decide) ?_
                    refine lv_aload_n X.1 X.2.1 dX12_clause_134 rfl (lv_at hl 4 rfl) ?_
                    refine gf_X12_11e X hK hG h0 wl_6_189 dX12_clause_135 (fun f127 hf127 => ?_)
                    have xf127 : f127.toInt = wv115 := vq_iv hf127
                    have yf127 : iv 0 240 f127 := vq_of xf127 (And.intro w1v115 w2v115)
                    refine lv_iconst (v := (-1)) X.1 X.2.1 dX12_clause_138 (by decide +kernel) ?_
                    refine lv_icmp_ne (tgt := 161) X.1 X.2.1 dX12_clause_139 (by decide) (fun c128 => ?_) (fun c128 => ?_)
                    · have i129 : (wv115 = ((-1) : Int)) = False := vq_ne c128 xf127 (by decide +kernel)
                      have spr : vCl (sgU2 P) (sgL2 P) (vX (sgU2 P) (sgL2 P) a) = (false, wv115) := by simp only [vCl, vCo, vD_t k7, k7, pv16, i22, mi22, i50, mi50, pv110, pv112, pv115, i129, cond_true, cond_false, vB_t, vB_f, if_true, if_false, eq_self, not_true_eq_false, not_false_eq_true, Int.reduceEq, Int.reduceLT, or_false, false_or, or_true, true_or]
                      have hG := ke_weak (b1 := 0) (b2 := 241) (g1 := wv115) (g2 := wv115) (e1 := 0) (e2 := 6) hG (Int.le_refl _) (Int.le_refl _) (Int.le_refl _) (Int.le_refl _) (by decide) (by decide)
                      exact sg_vret2 X hr hlk hS (fun t ht hW => (Or.inr ⟨_, spr, ((And.intro w1v115 w2v115)).1, ((And.intro w1v115 w2v115)).2, sg_post hb hK hC hG hS ht hW⟩)) dX12_clause_161
                    · have i130 : wv115 = ((-1) : Int) := vq_eq c128 xf127 (by decide +kernel)
                      exact ((iv_no (a := 0) (b := (-1)) (iv_eqm c128 yf127 (iv_c (-1) (a := (-1)) (b := (-1)) (by decide +kernel)) (by decide +kernel)) (by decide +kernel))).elim
                · exact ((iv_no (a := 1) (b := 0) (iv_eqm c113 (iv_c 1 (a := 1) (b := 1) (by decide +kernel)) (iv_c 0 (a := 0) (b := 0) (by decide +kernel)) (by decide +kernel)) (by decide +kernel))).elim
              · have hG := hBf111.2.2.2
                rw [htf111] at hG
                refine lv_if_ne (tgt := 81) X.1 X.2.1 dX12_clause_77 (by decide) (fun c131 => ?_) (fun c131 => ?_)
                · exact ((c131 (iv_one (iv_c 0 (a := 0) (b := 0) (by decide +kernel)) (iv_c 0 (a := 0) (b := 0) (by decide +kernel)) (by decide +kernel)))).elim
                · have spr : vCl (sgU2 P) (sgL2 P) (vX (sgU2 P) (sgL2 P) a) = (false, wv112) := by simp only [vCl, vCo, vD_t k7, k7, pv16, i22, mi22, i50, mi50, pv110, pv112, cond_true, cond_false, vB_t, vB_f, if_true, if_false, eq_self, not_true_eq_false, not_false_eq_true, Int.reduceEq, Int.reduceLT, or_false, false_or, or_true, true_or]
                  have hG := ke_weak (b1 := 0) (b2 := 241) (g1 := wv112) (g2 := wv112) (e1 := 0) (e2 := 6) hG (Int.le_refl _) (Int.le_refl _) (Int.le_refl _) (Int.le_refl _) (by decide) (by decide)
                  exact sg_vret2 X hr hlk hS (fun t ht hW => (Or.inr ⟨_, spr, ((And.intro w1v112 w2v112)).1, ((And.intro w1v112 w2v112)).2, sg_post hb hK hC hG hS ht hW⟩)) dX12_clause_80
            · have hG := hBf109.2.2.2
              rw [htf109] at hG
              rw [vX_idem] at pv110
              refine lv_istore_n (lv' := [(2, .int f109), (4, .int f18), (3, .int 0), (1, .int f1), (0, .ref a0)]) X.1 X.2.1 dX12_clause_70 rfl hl (by decide) rfl (fun ls hl => ?_)
              refine lv_aload_n X.1 X.2.1 dX12_clause_71 rfl (lv_at hl 4 rfl) ?_
              refine lv_bipush (v := 63) X.1 X.2.1 dX12_clause_72 (by decide +kernel) ?_
              refine ca_X12_takes_eb X hK hG hC hS hb a0 h0 63 (And.intro w1v110 w2v110) wl_7_217 hl.1 (rest := []) rfl (Nat.le_of_ble_eq_true rfl) ⟨Nat.le_of_ble_eq_true rfl, Nat.le_of_ble_eq_true rfl⟩ ⟨Nat.le_of_ble_eq_true rfl, Nat.le_of_ble_eq_true rfl⟩ dX12_clause_74 (fun f132 tf132 H locs htf132 hf132 hWf132 hS => ?_)
              have hG := hWf132.2.2.2
              rw [htf132] at hG
              obtain rfl : f132 = 0 := sg_is0 hf132
              refine lv_if_ne (tgt := 81) X.1 X.2.1 dX12_clause_77 (by decide) (fun c133 => ?_) (fun c133 => ?_)
              · exact ((c133 (iv_one (iv_c 0 (a := 0) (b := 0) (by decide +kernel)) (iv_c 0 (a := 0) (b := 0) (by decide +kernel)) (by decide +kernel)))).elim
              · have spr : vCl (sgU2 P) (sgL2 P) (vX (sgU2 P) (sgL2 P) a) = (false, wv110) := by simp only [vCl, vCo, vD_t k7, k7, pv16, i22, mi22, i50, mi50, pv110, cond_true, cond_false, vB_t, vB_f, if_true, if_false, eq_self, not_true_eq_false, not_false_eq_true, Int.reduceEq, Int.reduceLT, or_false, false_or, or_true, true_or]
                have hG := ke_weak (b1 := 0) (b2 := 241) (g1 := wv110) (g2 := wv110) (e1 := 0) (e2 := 6) hG (Int.le_refl _) (Int.le_refl _) (Int.le_refl _) (Int.le_refl _) (by decide) (by decide)
                exact sg_vret2 X hr hlk hS (fun t ht hW => (Or.inr ⟨_, spr, ((And.intro w1v110 w2v110)).1, ((And.intro w1v110 w2v110)).2, sg_post hb hK hC hG hS ht hW⟩)) dX12_clause_80
      · exact ((iv_no (a := 1) (b := 0) (iv_eqm c17 (iv_c 1 (a := 1) (b := 1) (by decide +kernel)) (iv_c 0 (a := 0) (b := 0) (by decide +kernel)) (by decide +kernel)) (by decide +kernel))).elim
    · have hG := hBf15.2.2.2
      rw [htf15] at hG
      refine lv_if_ne (tgt := 40) X.1 X.2.1 dX12_clause_36 (by decide) (fun c134 => ?_) (fun c134 => ?_)
      · exact ((c134 (iv_one (iv_c 0 (a := 0) (b := 0) (by decide +kernel)) (iv_c 0 (a := 0) (b := 0) (by decide +kernel)) (by decide +kernel)))).elim
      · have spr : vCl (sgU2 P) (sgL2 P) (vX (sgU2 P) (sgL2 P) a) = (false, wv16) := by simp only [vCl, vCo, vD_t k7, k7, pv16, cond_true, cond_false, vB_t, vB_f, if_true, if_false, eq_self, not_true_eq_false, not_false_eq_true, Int.reduceEq, Int.reduceLT, or_false, false_or, or_true, true_or]
        have hG := ke_weak (b1 := 0) (b2 := 241) (g1 := wv16) (g2 := wv16) (e1 := 0) (e2 := 6) hG (Int.le_refl _) (Int.le_refl _) (Int.le_refl _) (Int.le_refl _) (by decide) (by decide)
        exact sg_vret2 X hr hlk hS (fun t ht hW => (Or.inr ⟨_, spr, ((And.intro w1v16 w2v16)).1, ((And.intro w1v16 w2v16)).2, sg_post hb hK hC hG hS ht hW⟩)) dX12_clause_39
  · have j9 := vq_says0 hf4 c5
    have k10 : (vC (sgU2 P) (sgL2 P) (vX (sgU2 P) (sgL2 P) a) = (121 : Int)) = False := vE_ne (by have z := j9; rw [xf1] at z; exact vIx_121n z) (by decide)
    refine lv_aload_n X.1 X.2.1 dX12_clause_14 rfl (lv_at hl 1 rfl) ?_
    refine ca_X12_fails_e X hK hG hC hS hb a0 h0 hl0 b2 wl_7_141 hl.1 (rest := []) rfl (Nat.le_of_ble_eq_true rfl) ⟨Nat.le_of_ble_eq_true rfl, Nat.le_of_ble_eq_true rfl⟩ ⟨Nat.le_of_ble_eq_true rfl, Nat.le_of_ble_eq_true rfl⟩ dX12_clause_15 (fun f135 tf135 H locs htf135 hf135 hWf135 hS => ?_)
    have hG := hWf135.2.2.2
    rw [htf135] at hG
    obtain rfl : f135 = 0 := sg_is0 hf135
    refine lv_pop X.1 X.2.1 dX12_clause_18 rfl ?_
    have spr : vCl (sgU2 P) (sgL2 P) (vX (sgU2 P) (sgL2 P) a) = (false, (vX (sgU2 P) (sgL2 P) a)) := by simp only [vCl, vCo, vD_f k10, k10, cond_true, cond_false, vB_t, vB_f, if_true, if_false, eq_self, not_true_eq_false, not_false_eq_true, Int.reduceEq, Int.reduceLT, or_false, false_or, or_true, true_or]
    have hG := ke_weak (b1 := 0) (b2 := 241) (g1 := (vX (sgU2 P) (sgL2 P) a)) (g2 := (vX (sgU2 P) (sgL2 P) a)) (e1 := 0) (e2 := 6) hG (b2).1 (Int.le_trans (b2).2 (Int.le_trans hl0.2 (by decide))) (Int.le_refl _) (Int.le_refl _) (by decide) (by decide)
    exact sg_vret2 X hr hlk hS (fun t ht hW => (Or.inr ⟨_, spr, ((vq_bw b2 hl0)).1, ((vq_bw b2 hl0)).2, sg_post hb hK hC hG hS ht hW⟩)) dX12_clause_19

theorem ca_X12_clause_e  {a : Int} {z : sgZt}  (X : CallFix p m c cc nL s args sg_tbl own) (hK : va_K D vwCl tys s) (hG : sgG (KE a a (-1) (-1) 0 0 z P) D vwCl (fun q : Nat => base ≤ q) tys ad ks H) (hC : sgC base s) (hS : va_S (fun q : Nat => base ≤ q) s.heap H locs) (hb : base ≤ s.heap.size) (a0 : Nat) (h0 : isK ad ks 12 a0) (hl0 : 0 ≤ sgL2 P ∧ sgL2 P ≤ 240) (hav : 0 ≤ a ∧ a ≤ sgL2 P) (hby : sgBy2 P) (hl : Cond.methodLink own index yX12_clause ∈ sg_tbl) (hsize : ls.size = nL) (hst : st0 = [].reverse ++ .ref a0 :: rest) (hW : (rest.map fun v => v.category).sum ≤ 8) (hR : 31 ≤ R.frames ∧ 723 ≤ R.locals) (hf : cells ≤ R.cells ∧ slots ≤ R.slots) (hdg : decode cc pc = .ok (.invokevirtual index, 3)) (kk : ∀ (t : State) (H1 : Heap) (locs1 : List Loc), t.heap = H1 → ((fun t => (∃ a1 : Int, vCl (sgU2 P) (sgL2 P) (vX (sgU2 P) (sgL2 P) a) = (true, vX (sgU2 P) (sgL2 P) a1) ∧ a + 3 ≤ a1 ∧ a1 ≤ sgL2 P ∧ sgB (KE a1 a1 (-1) (-1) 0 0 z P) D vwCl base tys ad ks t) ∨ (∃ w : Int, vCl (sgU2 P) (sgL2 P) (vX (sgU2 P) (sgL2 P) a) = (false, w) ∧ 0 ≤ w ∧ w ≤ 240 ∧ sgB (KE 0 241 w w 0 6 z P) D vwCl base tys ad ks t)) t) → va_S (fun q : Nat => base ≤ q) s.heap H1 locs1 → W p l e R s m args below meth c H1 locs1 cells slots Q (F0 m (pc + 3) ls rest)) : W p l e R s m args below meth c H locs cells slots Q (F0 m pc ls st0) :=
  sg_callV2v X hK hG hC hS hb (m_X12_clause_e l a0 h0 hl0 hav hby) h0 (k := 12) (ci := 12) rfl (C := RX12) (T := TX12) (N := 53) rfl wl_7_213 wl_1_13 wl_7_212 wl_0_59 (n := 0) (by decide +kernel) rfl rfl rfl hl hsize hst hW hR hf hdg kk

set_option maxHeartbeats 8000000 in
set_option maxRecDepth 100000 in
theorem m_X12_starts_e (l : Launch) {D : va_G} {base : Nat} {tys : List (ClassId × FieldType)} {ad ks : List Nat} {P : sgPm} (a0 : Nat) (h0 : isK ad ks 12 a0) (a1 : Nat) (h1 : isK ad ks 45 a1) (x2 : Int32) (h2 : iv 0 0 x2) (x3 : Int32) (h3 : iv 0 240 x3) (hl0 : 0 ≤ sgL2 P ∧ sgL2 P ≤ 240) (hx3 : x3.toInt = sgL2 P) : Met l yX12_starts (Cond.code yX12_starts cX12_starts 4 none :: sg_tbl) ({ frames := 0, cells := 0, slots := 0, locals := 0 }) (va_Pc [.ref a0, .ref a1, .int x2, .int x3] (sgB (KT P) D vwCl base tys ad ks)) (va_Qv (fun (_ : Unit) => True) (fun _ => fun t => sgB (KE 0 0 (-1) (-1) 0 6 sgZ0 P) D vwCl base tys ad ks t) (fun q : Nat => base ≤ q)) 0 0 (fun q : Nat => base ≤ q) := by
  refine sg_ofW (by decide +kernel) (Nat.le_of_ble_eq_true rfl) (fun p e s m below meth c X hr hlk hb hK hC hG ls hl => ?_)
  have hS : va_S (fun q : Nat => base ≤ q) s.heap s.heap [] := va_S.rf
  have hl : lv_has ls 4 [(0, .ref a0), (1, .ref a1), (2, .int x2), (3, .int x3)] := hl
  refine lv_aload_n X.1 X.2.1 dX12_starts_0 rfl (lv_at hl 0 rfl) ?_
  refine lv_aload_n X.1 X.2.1 dX12_starts_1 rfl (lv_at hl 1 rfl) ?_
  refine pf_X12_5 X hK hG hS h0 wl_6_183 trivial dX12_starts_2 (fun H locs hG hS ku1 ru1 => ?_)
  refine lv_aload_n X.1 X.2.1 dX12_starts_5 rfl (lv_at hl 0 rfl) ?_
  refine lv_iload_n X.1 X.2.1 dX12_starts_6 rfl (lv_at hl 2 rfl) ?_
  refine pf_X12_8 X hK hG hS h0 wl_6_186 ⟨_, rfl, (iv_top _)⟩ dX12_starts_7 (fun H locs hG hS ku2 ru2 => ?_)
  refine lv_aload_n X.1 X.2.1 dX12_starts_10 rfl (lv_at hl 0 rfl) ?_
  refine lv_iload_n X.1 X.2.1 dX12_starts_11 rfl (lv_at hl 3 rfl) ?_
  refine pf_X12_9 X hK hG hS h0 wl_6_187 ⟨_, rfl, h3⟩ dX12_starts_12 (fun H locs hG hS ku3 ru3 => ?_)
  refine lv_aload_n X.1 X.2.1 dX12_starts_15 rfl (lv_at hl 0 rfl) ?_
  refine lv_iconst (v := 0) X.1 X.2.1 dX12_starts_16 (by decide +kernel) ?_
  refine pf_X12_10 X hK hG hS h0 wl_6_188 ⟨_, rfl, (iv_top _)⟩ dX12_starts_17 (fun H locs hG hS ku4 ru4 => ?_)
  refine lv_aload_n X.1 X.2.1 dX12_starts_20 rfl (lv_at hl 0 rfl) ?_
  refine lv_iconst (v := (-1)) X.1 X.2.1 dX12_starts_21 (by decide +kernel) ?_
  refine pf_X12_11 X hK hG hS h0 wl_6_189 ⟨_, rfl, (iv_of (iv_c (-1) (a := (-1)) (b := (-1)) (by decide +kernel)) (a' := (-1)) (b' := 241) (by decide +kernel))⟩ dX12_starts_22 (fun H locs hG hS ku5 ru5 => ?_)
  have hG := ke_of hG h0 h1 (ru5 _ _ _ _ _ _ _ h0 rfl rfl (by decide) (fun z => absurd z.2 (by decide)) (ru4 _ _ _ _ _ _ _ h0 rfl rfl (by decide) (fun z => absurd z.2 (by decide)) (ru3 _ _ _ _ _ _ _ h0 rfl rfl (by decide) (fun z => absurd z.2 (by decide)) (ru2 _ _ _ _ _ _ _ h0 rfl rfl (by decide) (fun z => absurd z.2 (by decide)) ku1)))) (ru5 _ _ _ _ _ _ _ h0 rfl rfl (by decide) (fun z => absurd z.2 (by decide)) (ru4 _ _ _ _ _ _ _ h0 rfl rfl (by decide) (fun z => absurd z.2 (by decide)) (ru3 _ _ _ _ _ _ _ h0 rfl rfl (by decide) (fun z => absurd z.2 (by decide)) ku2))) h2 (ru5 _ _ _ _ _ _ _ h0 rfl rfl (by decide) (fun z => absurd z.2 (by decide)) (ru4 _ _ _ _ _ _ _ h0 rfl rfl (by decide) (fun z => absurd z.2 (by decide)) ku3)) hx3 hl0 (ru5 _ _ _ _ _ _ _ h0 rfl rfl (by decide) (fun z => absurd z.2 (by decide)) ku4) (by decide +kernel) ku5 (by decide +kernel)
  exact sg_vret2 X hr hlk hS (fun t ht hW => sg_post hb hK hC hG hS ht hW) dX12_starts_25

theorem ca_X12_starts_e   (X : CallFix p m c cc nL s args sg_tbl own) (hK : va_K D vwCl tys s) (hG : sgG (KT P) D vwCl (fun q : Nat => base ≤ q) tys ad ks H) (hC : sgC base s) (hS : va_S (fun q : Nat => base ≤ q) s.heap H locs) (hb : base ≤ s.heap.size) (a0 : Nat) (h0 : isK ad ks 12 a0) (a1 : Nat) (h1 : isK ad ks 45 a1) (x2 : Int32) (h2 : iv 0 0 x2) (x3 : Int32) (h3 : iv 0 240 x3) (hl0 : 0 ≤ sgL2 P ∧ sgL2 P ≤ 240) (hx3 : x3.toInt = sgL2 P) (hl : Cond.methodLink own index yX12_starts ∈ sg_tbl) (hsize : ls.size = nL) (hst : st0 = [.ref a1, .int x2, .int x3].reverse ++ .ref a0 :: rest) (hW : (rest.map fun v => v.category).sum ≤ 8) (hR : 1 ≤ R.frames ∧ 23 ≤ R.locals) (hf : cells ≤ R.cells ∧ slots ≤ R.slots) (hdg : decode cc pc = .ok (.invokevirtual index, 3)) (kk : ∀ (t : State) (H1 : Heap) (locs1 : List Loc), t.heap = H1 → ((fun t => sgB (KE 0 0 (-1) (-1) 0 6 sgZ0 P) D vwCl base tys ad ks t) t) → va_S (fun q : Nat => base ≤ q) s.heap H1 locs1 → W p l e R s m args below meth c H1 locs1 cells slots Q (F0 m (pc + 3) ls rest)) : W p l e R s m args below meth c H locs cells slots Q (F0 m pc ls st0) :=
  sg_callV2v X hK hG hC hS hb (m_X12_starts_e l a0 h0 a1 h1 x2 h2 x3 h3 hl0 hx3) h0 (k := 12) (ci := 12) rfl (C := RX12) (T := TX12) (N := 53) rfl wl_7_129 wl_1_13 wl_7_128 wl_0_50 (n := 3) (by decide +kernel) rfl rfl rfl hl hsize hst hW hR hf hdg kk

set_option maxHeartbeats 8000000 in
set_option maxRecDepth 100000 in
theorem m_X12_goThrough_e (l : Launch) {D : va_G} {base : Nat} {tys : List (ClassId × FieldType)} {ad ks : List Nat} {P : sgPm} (a0 : Nat) (h0 : isK ad ks 12 a0) (a1 : Nat) (h1 : isK ad ks 45 a1) (x2 : Int32) (h2 : iv 0 0 x2) (x3 : Int32) (h3 : iv 0 240 x3) (hl0 : 0 ≤ sgL2 P ∧ sgL2 P ≤ 240) (hby : sgBy2 P) (hx3 : x3.toInt = sgL2 P) : Met l yX12_goThrough (Cond.code yX12_goThrough cX12_goThrough 4 none :: sg_tbl) ({ frames := 31, cells := 0, slots := 0, locals := 723 }) (va_Pc [.ref a0, .ref a1, .int x2, .int x3] (sgB (KT P) D vwCl base tys ad ks)) (va_Qv (fun (_ : Unit) => True) (fun _ => fun t => (∃ a1 : Int, vLawM (sgU2 P) (sgL2 P) = (true, a1) ∧ 0 ≤ a1 ∧ a1 ≤ sgL2 P ∧ sgB (KE a1 a1 (-1) (-1) 0 0 sgZ0 P) D vwCl base tys ad ks t) ∨ (∃ w : Int, vLawM (sgU2 P) (sgL2 P) = (false, w) ∧ 0 ≤ w ∧ w ≤ 240 ∧ sgB (KE 0 241 w w 0 6 sgZ0 P) D vwCl base tys ad ks t)) (fun q : Nat => base ≤ q)) 0 0 (fun q : Nat => base ≤ q) := by
  refine sg_ofW (by decide +kernel) (Nat.le_of_ble_eq_true rfl) (fun p e s m below meth c X hr hlk hb hK hC hG ls hl => ?_)
  have hS : va_S (fun q : Nat => base ≤ q) s.heap s.heap [] := va_S.rf
  have hl : lv_has ls 4 [(0, .ref a0), (1, .ref a1), (2, .int x2), (3, .int x3)] := hl
  refine lv_aload_n X.1 X.2.1 dX12_goThrough_0 rfl (lv_at hl 0 rfl) ?_
  refine lv_aload_n X.1 X.2.1 dX12_goThrough_1 rfl (lv_at hl 1 rfl) ?_
  refine lv_iload_n X.1 X.2.1 dX12_goThrough_2 rfl (lv_at hl 2 rfl) ?_
  refine lv_iload_n X.1 X.2.1 dX12_goThrough_3 rfl (lv_at hl 3 rfl) ?_
  refine ca_X12_starts_e X hK hG hC hS hb a0 h0 a1 h1 x2 h2 x3 h3 hl0 hx3 wl_7_126 hl.1 (rest := []) rfl (Nat.le_of_ble_eq_true rfl) ⟨Nat.le_of_ble_eq_true rfl, Nat.le_of_ble_eq_true rfl⟩ ⟨Nat.le_of_ble_eq_true rfl, Nat.le_of_ble_eq_true rfl⟩ dX12_goThrough_4 (fun tg1 H locs htg1 hWg1 hS => ?_)
  have hG := hWg1.2.2.2
  rw [htg1] at hG
  refine lv_aload_n X.1 X.2.1 dX12_goThrough_7 rfl (lv_at hl 0 rfl) ?_
  refine lv_bipush (v := 121) X.1 X.2.1 dX12_goThrough_8 (by decide +kernel) ?_
  refine pf_X12_13e X hK hG hS h0 wl_6_191 ⟨_, rfl, (iv_top _)⟩ dX12_goThrough_10 (fun H locs hG hS ku2 ru2 => ?_)
  refine lv_aload_n X.1 X.2.1 dX12_goThrough_13 rfl (lv_at hl 0 rfl) ?_
  refine lv_iconst (v := 0) X.1 X.2.1 dX12_goThrough_14 (by decide +kernel) ?_
  refine pf_X12_12E (b1 := 0) (b2 := 0) X hK hG hS h0 wl_6_190 (iv_c 0 (a := 0) (b := 0) (by decide +kernel)) dX12_goThrough_15 (fun H locs hG hS => ?_)
  refine lv_aload_n X.1 X.2.1 dX12_goThrough_18 rfl (lv_at hl 0 rfl) ?_
  refine lv_iconst (v := 0) X.1 X.2.1 dX12_goThrough_19 (by decide +kernel) ?_
  refine pf_X12_17e X hK hG hS h0 wl_6_195 ⟨_, rfl, (iv_of (iv_c 0 (a := 0) (b := 0) (by decide +kernel)) (a' := 0) (b' := 1) (by decide +kernel))⟩ dX12_goThrough_20 (fun H locs hG hS ku3 ru3 => ?_)
  refine lv_aload_n X.1 X.2.1 dX12_goThrough_23 rfl (lv_at hl 0 rfl) ?_
  refine lv_iconst (v := 0) X.1 X.2.1 dX12_goThrough_24 (by decide +kernel) ?_
  refine pf_X12_14e X hK hG hS h0 wl_6_192 ⟨_, rfl, (iv_top _)⟩ dX12_goThrough_25 (fun H locs hG hS ku4 ru4 => ?_)
  refine lv_aload_n X.1 X.2.1 dX12_goThrough_28 rfl (lv_at hl 0 rfl) ?_
  refine ca_X12_clause_e X hK hG hC hS hb a0 h0 hl0 (And.intro (Int.le_refl (0 : Int)) hl0.1) hby wl_7_210 hl.1 (rest := []) rfl (Nat.le_of_ble_eq_true rfl) ⟨Nat.le_of_ble_eq_true rfl, Nat.le_of_ble_eq_true rfl⟩ ⟨Nat.le_of_ble_eq_true rfl, Nat.le_of_ble_eq_true rfl⟩ dX12_goThrough_29 (fun tg5 H locs htg5 hWg5 hS => ?_)
  rcases hWg5 with ⟨av6, pv6, gav6, gbv6, hBg5⟩ | ⟨wv6, pv6, w1v6, w2v6, hBg5⟩
  · have hG := hBg5.2.2.2
    rw [htg5] at hG
    have bv6 := vq_bd2 (k := 3) (And.intro (Int.le_refl (0 : Int)) hl0.1) (by decide) gav6 gbv6
    have B7_32 : ∀ (N : Nat) (H : Heap) (locs : List Loc) (ls : Array Slot) (a7 : Int), 0 ≤ a7 → a7 ≤ sgL2 P → sgG (KE a7 a7 (-1) (-1) 0 0 sgZ0 P) D vwCl (fun q : Nat => base ≤ q) tys ad ks H → va_S (fun q : Nat => base ≤ q) s.heap H locs → lv_has ls 4 [(0, .ref a0)] → vLawM (sgU2 P) (sgL2 P) = vB (vL (vCl (sgU2 P) (sgL2 P)) op59 (sgU2 P) (sgL2 P) (vX (sgU2 P) (sgL2 P) a7)) (vEn (sgU2 P) (sgL2 P)) → (242 - a7).toNat ≤ N → W p l e (headSpec (Cond.code yX12_goThrough cX12_goThrough 4 none :: sg_tbl) ({ frames := 31, cells := 0, slots := 0, locals := 723 })).room s m #[.ref a0, .ref a1, .int x2, .int x3] below meth c H locs 0 0 (MQ below (va_Qv (fun (_ : Unit) => True) (fun _ => fun t => (∃ a1 : Int, vLawM (sgU2 P) (sgL2 P) = (true, a1) ∧ 0 ≤ a1 ∧ a1 ≤ sgL2 P ∧ sgB (KE a1 a1 (-1) (-1) 0 0 sgZ0 P) D vwCl base tys ad ks t) ∨ (∃ w : Int, vLawM (sgU2 P) (sgL2 P) = (false, w) ∧ 0 ≤ w ∧ w ≤ 240 ∧ sgB (KE 0 241 w w 0 6 sgZ0 P) D vwCl base tys ad ks t)) (fun q : Nat => base ≤ q)) #[.ref a0, .ref a1, .int x2, .int x3] s 0 0 (fun q : Nat => base ≤ q)) (F0 m 32 ls []) := by
      intro N; induction N with
      | zero =>
        intro H locs ls a7 jl7 jm7 hG hS hl xf7 hN
        exact absurd hN (by have := jm7; omega)
      | succ N ih7 =>
        intro H locs ls a7 jl7 jm7 hG hS hl xf7 hN7
        refine lv_aload_n X.1 X.2.1 dX12_goThrough_32 rfl (lv_at hl 0 rfl) ?_
        refine gf_X12_11e X hK hG h0 wl_6_189 dX12_goThrough_33 (fun f8 hf8 => ?_)
        refine lv_iconst (v := (-1)) X.1 X.2.1 dX12_goThrough_36 (by decide +kernel) ?_
        refine lv_icmp_ne (tgt := 66) X.1 X.2.1 dX12_goThrough_37 (by decide) (fun c9 => ?_) (fun c9 => ?_)
        · have i10 : (((-1) : Int) = ((-1) : Int)) = False := vq_ne c9 (vq_iv hf8) (by decide +kernel)
          exact ((c9 (iv_one hf8 (iv_c (-1) (a := (-1)) (b := (-1)) (by decide +kernel)) (by decide +kernel)))).elim
        · have i11 : ((-1) : Int) = ((-1) : Int) := vq_eq c9 (vq_iv hf8) (by decide +kernel)
          refine lv_aload_n X.1 X.2.1 dX12_goThrough_40 rfl (lv_at hl 0 rfl) ?_
          refine ca_X12_look_e X hK hG hC hS hb a0 h0 hl0 (And.intro jl7 jm7) hby wl_7_137 hl.1 (rest := []) rfl (Nat.le_of_ble_eq_true rfl) ⟨Nat.le_of_ble_eq_true rfl, Nat.le_of_ble_eq_true rfl⟩ ⟨Nat.le_of_ble_eq_true rfl, Nat.le_of_ble_eq_true rfl⟩ dX12_goThrough_41 (fun f12 tf12 H locs htf12 hf12 hWf12 hS => ?_)
          have hBf12 := hWf12.2
          have xf12 := hWf12.1
          have hG := hBf12.2.2.2
          rw [htf12] at hG
          have b13 := vq_bdL (b := sgU2 P) (And.intro jl7 jm7)
          have eb13 : a7 ≤ vX (sgU2 P) (sgL2 P) a7 := (vX_ge (sgU2 P) (sgL2 P) a7).1
          have yf12 : iv (-1) 255 f12 := vq_lk xf12 (vC_by2 hby _)
          refine lv_bipush (v := 59) X.1 X.2.1 dX12_goThrough_44 (by decide +kernel) ?_
          refine lv_icmp_ne (tgt := 66) X.1 X.2.1 dX12_goThrough_46 (by decide) (fun c14 => ?_) (fun c14 => ?_)
          · have i15 : (vE (vC (sgU2 P) (sgL2 P) (vX (sgU2 P) (sgL2 P) a7)) = (59 : Int)) = False := vq_ne c14 xf12 (by decide +kernel)
            have mi15 : (vC (sgU2 P) (sgL2 P) (vX (sgU2 P) (sgL2 P) a7) = (59 : Int)) = False := vE_ne i15 (by decide)
            refine lv_aload_n X.1 X.2.1 dX12_goThrough_66 rfl (lv_at hl 0 rfl) ?_
            refine gf_X12_11e X hK hG h0 wl_6_189 dX12_goThrough_67 (fun f17 hf17 => ?_)
            refine lv_iconst (v := (-1)) X.1 X.2.1 dX12_goThrough_70 (by decide +kernel) ?_
            refine lv_icmp_ne (tgt := 87) X.1 X.2.1 dX12_goThrough_71 (by decide) (fun c18 => ?_) (fun c18 => ?_)
            · have i19 : (((-1) : Int) = ((-1) : Int)) = False := vq_ne c18 (vq_iv hf17) (by decide +kernel)
              exact ((c18 (iv_one hf17 (iv_c (-1) (a := (-1)) (b := (-1)) (by decide +kernel)) (by decide +kernel)))).elim
            · have i20 : ((-1) : Int) = ((-1) : Int) := vq_eq c18 (vq_iv hf17) (by decide +kernel)
              refine lv_aload_n X.1 X.2.1 dX12_goThrough_74 rfl (lv_at hl 0 rfl) ?_
              refine ca_X12_look_e X hK hG hC hS hb a0 h0 hl0 b13 hby wl_7_137 hl.1 (rest := []) rfl (Nat.le_of_ble_eq_true rfl) ⟨Nat.le_of_ble_eq_true rfl, Nat.le_of_ble_eq_true rfl⟩ ⟨Nat.le_of_ble_eq_true rfl, Nat.le_of_ble_eq_true rfl⟩ dX12_goThrough_75 (fun f21 tf21 H locs htf21 hf21 hWf21 hS => ?_)
              have hBf21 := hWf21.2
              have xf21 := hWf21.1
              have hG := hBf21.2.2.2
              rw [htf21] at hG
              rw [vX_idem] at hG xf21
              have yf21 : iv (-1) 255 f21 := vq_lk xf21 (vC_by2 hby _)
              refine lv_iconst (v := (-1)) X.1 X.2.1 dX12_goThrough_78 (by decide +kernel) ?_
              refine lv_icmp_eq (tgt := 87) X.1 X.2.1 dX12_goThrough_79 (by decide) (fun c22 => ?_) (fun c22 => ?_)
              · have i23 : vE (vC (sgU2 P) (sgL2 P) (vX (sgU2 P) (sgL2 P) a7)) = ((-1) : Int) := vq_eq c22 xf21 (by decide +kernel)
                have mi23 : vC (sgU2 P) (sgL2 P) (vX (sgU2 P) (sgL2 P) a7) = (0 : Int) := vE_end i23 (vC_by2 hby _)
                have spr : vLawM (sgU2 P) (sgL2 P) = (true, (vX (sgU2 P) (sgL2 P) a7)) := by exact xf7.trans ((congrArg (fun r => vB r (vEn (sgU2 P) (sgL2 P))) (vL_stop (op59_no mi15))).trans (if_pos mi23))
                exact sg_vret2 X hr hlk hS (fun t ht hW => (Or.inl ⟨_, spr, (b13).1, (b13).2, sg_post hb hK hC hG hS ht hW⟩)) dX12_goThrough_87
              · have i24 : (vE (vC (sgU2 P) (sgL2 P) (vX (sgU2 P) (sgL2 P) a7)) = ((-1) : Int)) = False := vq_ne c22 xf21 (by decide +kernel)
                have mi24 : (vC (sgU2 P) (sgL2 P) (vX (sgU2 P) (sgL2 P) a7) = (0 : Int)) = False := vE_nend i24
                refine lv_aload_n X.1 X.2.1 dX12_goThrough_82 rfl (lv_at hl 0 rfl) ?_
                refine ca_X12_fails_e X hK hG hC hS hb a0 h0 hl0 b13 wl_7_141 hl.1 (rest := []) rfl (Nat.le_of_ble_eq_true rfl) ⟨Nat.le_of_ble_eq_true rfl, Nat.le_of_ble_eq_true rfl⟩ ⟨Nat.le_of_ble_eq_true rfl, Nat.le_of_ble_eq_true rfl⟩ dX12_goThrough_83 (fun f25 tf25 H locs htf25 hf25 hWf25 hS => ?_)
                have hG := hWf25.2.2.2
                rw [htf25] at hG
                obtain rfl : f25 = 0 := sg_is0 hf25
                refine lv_pop X.1 X.2.1 dX12_goThrough_86 rfl ?_
                have spr : vLawM (sgU2 P) (sgL2 P) = (false, (vX (sgU2 P) (sgL2 P) a7)) := by exact xf7.trans ((congrArg (fun r => vB r (vEn (sgU2 P) (sgL2 P))) (vL_stop (op59_no mi15))).trans (if_neg (of_eq_false mi24)))
                have hG := ke_weak (b1 := 0) (b2 := 241) (g1 := (vX (sgU2 P) (sgL2 P) a7)) (g2 := (vX (sgU2 P) (sgL2 P) a7)) (e1 := 0) (e2 := 6) hG (b13).1 (Int.le_trans (b13).2 (Int.le_trans hl0.2 (by decide))) (Int.le_refl _) (Int.le_refl _) (by decide) (by decide)
                exact sg_vret2 X hr hlk hS (fun t ht hW => (Or.inr ⟨_, spr, ((vq_bw b13 hl0)).1, ((vq_bw b13 hl0)).2, sg_post hb hK hC hG hS ht hW⟩)) dX12_goThrough_87
          · have i16 : vE (vC (sgU2 P) (sgL2 P) (vX (sgU2 P) (sgL2 P) a7)) = (59 : Int) := vq_eq c14 xf12 (by decide +kernel)
            have mi16 : vC (sgU2 P) (sgL2 P) (vX (sgU2 P) (sgL2 P) a7) = (59 : Int) := vE_eq i16 (by decide)
            refine lv_aload_n X.1 X.2.1 dX12_goThrough_49 rfl (lv_at hl 0 rfl) ?_
            refine lv_dup X.1 X.2.1 dX12_goThrough_50 rfl ?_
            refine gf_X12_10e X hK hG h0 wl_6_188 dX12_goThrough_51 (fun f26 hf26 => ?_)
            have xf26 : f26.toInt = (vX (sgU2 P) (sgL2 P) a7) := vq_iv hf26
            have yf26 : iv 0 240 f26 := vq_240 hl0 b13 xf26
            refine lv_iconst (v := 1) X.1 X.2.1 dX12_goThrough_54 (by decide +kernel) ?_
            refine lv_iadd X.1 X.2.1 dX12_goThrough_55 ?_
            refine lv_topi (fun f27 ef27 => ?_)
            have xf27 : f27.toInt = ((vX (sgU2 P) (sgL2 P) a7) + 1) := sg_exadd ef27 yf26 (iv_c 1 (a := 1) (b := 1) (by decide +kernel)) (by decide +kernel) xf26 (by decide +kernel)
            refine pf_X12_10E (b1 := ((vX (sgU2 P) (sgL2 P) a7) + 1)) (b2 := ((vX (sgU2 P) (sgL2 P) a7) + 1)) X hK hG hS h0 wl_6_188 (vq_of (lo := ((vX (sgU2 P) (sgL2 P) a7) + 1)) (hi := ((vX (sgU2 P) (sgL2 P) a7) + 1)) xf27 ⟨Int.le_refl _, Int.le_refl _⟩) dX12_goThrough_56 (fun H locs hG hS => ?_)
            have l28 := (vC_lt (b := sgU2 P) (n := sgL2 P) (a := (vX (sgU2 P) (sgL2 P) a7)) (by rw [mi16]; decide)).2
            have b29 := vq_bd1 b13 l28
            refine lv_aload_n X.1 X.2.1 dX12_goThrough_59 rfl (lv_at hl 0 rfl) ?_
            refine ca_X12_clause_e X hK hG hC hS hb a0 h0 hl0 b29 hby wl_7_210 hl.1 (rest := []) rfl (Nat.le_of_ble_eq_true rfl) ⟨Nat.le_of_ble_eq_true rfl, Nat.le_of_ble_eq_true rfl⟩ ⟨Nat.le_of_ble_eq_true rfl, Nat.le_of_ble_eq_true rfl⟩ dX12_goThrough_60 (fun tg30 H locs htg30 hWg30 hS => ?_)
            rcases hWg30 with ⟨av31, pv31, gav31, gbv31, hBg30⟩ | ⟨wv31, pv31, w1v31, w2v31, hBg30⟩
            · have hG := hBg30.2.2.2
              rw [htg30] at hG
              have bv31 := vq_bd2 (k := 3) b29 (by decide) gav31 gbv31
              refine lv_goto (tgt := 32) X.1 X.2.1 dX12_goThrough_63 (by decide) ?_
              exact ih7 H _ _ (av31) (bv31).1 (bv31).2 hG hS (lv_sub hl [0] rfl) (xf7.trans (congrArg (fun r => vB r (vEn (sgU2 P) (sgL2 P))) (vL_step (op59_59 mi16) pv31 (vq_l2w (k := 0) gav31 (vX_ge (sgU2 P) (sgL2 P) av31).1) (vC_lt (b := sgU2 P) (n := sgL2 P) (by rw [mi16]; decide)).2))) (by omega)
            · have hG := hBg30.2.2.2
              rw [htg30] at hG
              refine lv_goto (tgt := 32) X.1 X.2.1 dX12_goThrough_63 (by decide) ?_
              refine lv_aload_n X.1 X.2.1 dX12_goThrough_32 rfl (lv_at hl 0 rfl) ?_
              refine gf_X12_11e X hK hG h0 wl_6_189 dX12_goThrough_33 (fun f32 hf32 => ?_)
              have xf32 : f32.toInt = wv31 := vq_iv hf32
              have yf32 : iv 0 240 f32 := vq_of xf32 (And.intro w1v31 w2v31)
              refine lv_iconst (v := (-1)) X.1 X.2.1 dX12_goThrough_36 (by decide +kernel) ?_
              refine lv_icmp_ne (tgt := 66) X.1 X.2.1 dX12_goThrough_37 (by decide) (fun c33 => ?_) (fun c33 => ?_)
              · have i34 : (wv31 = ((-1) : Int)) = False := vq_ne c33 xf32 (by decide +kernel)
                refine lv_aload_n X.1 X.2.1 dX12_goThrough_66 rfl (lv_at hl 0 rfl) ?_
                refine gf_X12_11e X hK hG h0 wl_6_189 dX12_goThrough_67 (fun f36 hf36 => ?_)
                have xf36 : f36.toInt = wv31 := vq_iv hf36
                have yf36 : iv 0 240 f36 := vq_of xf36 (And.intro w1v31 w2v31)
                refine lv_iconst (v := (-1)) X.1 X.2.1 dX12_goThrough_70 (by decide +kernel) ?_
                refine lv_icmp_ne (tgt := 87) X.1 X.2.1 dX12_goThrough_71 (by decide) (fun c37 => ?_) (fun c37 => ?_)
                · have i38 : (wv31 = ((-1) : Int)) = False := vq_ne c37 xf36 (by decide +kernel)
                  have spr : vLawM (sgU2 P) (sgL2 P) = (false, wv31) := by exact xf7.trans (congrArg (fun r => vB r (vEn (sgU2 P) (sgL2 P))) (vL_bad (op59_59 mi16) pv31))
                  have hG := ke_weak (b1 := 0) (b2 := 241) (g1 := wv31) (g2 := wv31) (e1 := 0) (e2 := 6) hG (Int.le_refl _) (Int.le_refl _) (Int.le_refl _) (Int.le_refl _) (by decide) (by decide)
                  exact sg_vret2 X hr hlk hS (fun t ht hW => (Or.inr ⟨_, spr, ((And.intro w1v31 w2v31)).1, ((And.intro w1v31 w2v31)).2, sg_post hb hK hC hG hS ht hW⟩)) dX12_goThrough_87
                · have i39 : wv31 = ((-1) : Int) := vq_eq c37 xf36 (by decide +kernel)
                  exact ((iv_no (a := 0) (b := (-1)) (iv_eqm c37 yf36 (iv_c (-1) (a := (-1)) (b := (-1)) (by decide +kernel)) (by decide +kernel)) (by decide +kernel))).elim
              · have i35 : wv31 = ((-1) : Int) := vq_eq c33 xf32 (by decide +kernel)
                exact ((iv_no (a := 0) (b := (-1)) (iv_eqm c33 yf32 (iv_c (-1) (a := (-1)) (b := (-1)) (by decide +kernel)) (by decide +kernel)) (by decide +kernel))).elim
    exact B7_32 _ H _ _ (av6) (bv6).1 (bv6).2 hG hS (lv_sub hl [0] rfl) (by simp only [vLawM, pv6, cond_true, cond_false, vB_t, vB_f, if_true, if_false, eq_self, not_true_eq_false, not_false_eq_true, Int.reduceEq, Int.reduceLT, or_false, false_or, or_true, true_or]) (Nat.le_refl _)
  · have hG := hBg5.2.2.2
    rw [htg5] at hG
    refine lv_aload_n X.1 X.2.1 dX12_goThrough_32 rfl (lv_at hl 0 rfl) ?_
    refine gf_X12_11e X hK hG h0 wl_6_189 dX12_goThrough_33 (fun f40 hf40 => ?_)
    have xf40 : f40.toInt = wv6 := vq_iv hf40
    have yf40 : iv 0 240 f40 := vq_of xf40 (And.intro w1v6 w2v6)
    refine lv_iconst (v := (-1)) X.1 X.2.1 dX12_goThrough_36 (by decide +kernel) ?_
    refine lv_icmp_ne (tgt := 66) X.1 X.2.1 dX12_goThrough_37 (by decide) (fun c41 => ?_) (fun c41 => ?_)
    · have i42 : (wv6 = ((-1) : Int)) = False := vq_ne c41 xf40 (by decide +kernel)
      refine lv_aload_n X.1 X.2.1 dX12_goThrough_66 rfl (lv_at hl 0 rfl) ?_
      refine gf_X12_11e X hK hG h0 wl_6_189 dX12_goThrough_67 (fun f44 hf44 => ?_)
      have xf44 : f44.toInt = wv6 := vq_iv hf44
      have yf44 : iv 0 240 f44 := vq_of xf44 (And.intro w1v6 w2v6)
      refine lv_iconst (v := (-1)) X.1 X.2.1 dX12_goThrough_70 (by decide +kernel) ?_
      refine lv_icmp_ne (tgt := 87) X.1 X.2.1 dX12_goThrough_71 (by decide) (fun c45 => ?_) (fun c45 => ?_)
      · have i46 : (wv6 = ((-1) : Int)) = False := vq_ne c45 xf44 (by decide +kernel)
        have spr : vLawM (sgU2 P) (sgL2 P) = (false, wv6) := by simp only [vLawM, pv6, i42, i46, cond_true, cond_false, vB_t, vB_f, if_true, if_false, eq_self, not_true_eq_false, not_false_eq_true, Int.reduceEq, Int.reduceLT, or_false, false_or, or_true, true_or]
        have hG := ke_weak (b1 := 0) (b2 := 241) (g1 := wv6) (g2 := wv6) (e1 := 0) (e2 := 6) hG (Int.le_refl _) (Int.le_refl _) (Int.le_refl _) (Int.le_refl _) (by decide) (by decide)
        exact sg_vret2 X hr hlk hS (fun t ht hW => (Or.inr ⟨_, spr, ((And.intro w1v6 w2v6)).1, ((And.intro w1v6 w2v6)).2, sg_post hb hK hC hG hS ht hW⟩)) dX12_goThrough_87
      · have i47 : wv6 = ((-1) : Int) := vq_eq c45 xf44 (by decide +kernel)
        exact ((iv_no (a := 0) (b := (-1)) (iv_eqm c45 yf44 (iv_c (-1) (a := (-1)) (b := (-1)) (by decide +kernel)) (by decide +kernel)) (by decide +kernel))).elim
    · have i43 : wv6 = ((-1) : Int) := vq_eq c41 xf40 (by decide +kernel)
      exact ((iv_no (a := 0) (b := (-1)) (iv_eqm c41 yf40 (iv_c (-1) (a := (-1)) (b := (-1)) (by decide +kernel)) (by decide +kernel)) (by decide +kernel))).elim

theorem ca_X12_goThrough_e   (X : CallFix p m c cc nL s args sg_tbl own) (hK : va_K D vwCl tys s) (hG : sgG (KT P) D vwCl (fun q : Nat => base ≤ q) tys ad ks H) (hC : sgC base s) (hS : va_S (fun q : Nat => base ≤ q) s.heap H locs) (hb : base ≤ s.heap.size) (a0 : Nat) (h0 : isK ad ks 12 a0) (a1 : Nat) (h1 : isK ad ks 45 a1) (x2 : Int32) (h2 : iv 0 0 x2) (x3 : Int32) (h3 : iv 0 240 x3) (hl0 : 0 ≤ sgL2 P ∧ sgL2 P ≤ 240) (hby : sgBy2 P) (hx3 : x3.toInt = sgL2 P) (hl : Cond.methodLink own index yX12_goThrough ∈ sg_tbl) (hsize : ls.size = nL) (hst : st0 = [.ref a1, .int x2, .int x3].reverse ++ .ref a0 :: rest) (hW : (rest.map fun v => v.category).sum ≤ 8) (hR : 32 ≤ R.frames ∧ 746 ≤ R.locals) (hf : cells ≤ R.cells ∧ slots ≤ R.slots) (hdg : decode cc pc = .ok (.invokevirtual index, 3)) (kk : ∀ (t : State) (H1 : Heap) (locs1 : List Loc), t.heap = H1 → ((fun t => (∃ a1 : Int, vLawM (sgU2 P) (sgL2 P) = (true, a1) ∧ 0 ≤ a1 ∧ a1 ≤ sgL2 P ∧ sgB (KE a1 a1 (-1) (-1) 0 0 sgZ0 P) D vwCl base tys ad ks t) ∨ (∃ w : Int, vLawM (sgU2 P) (sgL2 P) = (false, w) ∧ 0 ≤ w ∧ w ≤ 240 ∧ sgB (KE 0 241 w w 0 6 sgZ0 P) D vwCl base tys ad ks t)) t) → va_S (fun q : Nat => base ≤ q) s.heap H1 locs1 → W p l e R s m args below meth c H1 locs1 cells slots Q (F0 m (pc + 3) ls rest)) : W p l e R s m args below meth c H locs cells slots Q (F0 m pc ls st0) :=
  sg_callV2v X hK hG hC hS hb (m_X12_goThrough_e l a0 h0 a1 h1 x2 h2 x3 h3 hl0 hby hx3) h0 (k := 12) (ci := 12) rfl (C := RX12) (T := TX12) (N := 53) rfl wl_7_209 wl_1_13 wl_7_208 wl_0_58 (n := 3) (by decide +kernel) rfl rfl rfl hl hsize hst hW hR hf hdg kk

set_option maxHeartbeats 8000000 in
set_option maxRecDepth 100000 in
theorem m_X12_number_e (l : Launch) {D : va_G} {base : Nat} {tys : List (ClassId × FieldType)} {ad ks : List Nat} {P : sgPm}{a d1 d2 lo hi : Int} {z : sgZt}  (a0 : Nat) (h0 : isK ad ks 12 a0) (x1 : Int32) (x2 : Int32) (hl0 : 0 ≤ sgL2 P ∧ sgL2 P ≤ 240) (hav : 0 ≤ a ∧ a ≤ sgL2 P) (hby : sgBy2 P) (hd0 : 0 ≤ d1 ∧ d2 ≤ 6) (hlh : x1.toInt = lo ∧ x2.toInt = hi) : Met l yX12_number (Cond.code yX12_number cX12_number 5 (some .int) :: sg_tbl) ({ frames := 1, cells := 0, slots := 0, locals := 25 }) (va_Pc [.ref a0, .int x1, .int x2] (sgB (KE a a (-1) (-1) d1 d2 z P) D vwCl base tys ad ks)) (va_Qi (fun r (u : Int32) => u = r ∧ (fun r : Int32 => True) r) (fun u t => (∃ a1 v : Int, vNd (sgU2 P) (sgL2 P) lo hi 2 false 0 (vX (sgU2 P) (sgL2 P) a) = (true, vX (sgU2 P) (sgL2 P) a1, v) ∧ u.toInt = v ∧ lo ≤ v ∧ v ≤ hi ∧ a + 1 ≤ a1 ∧ a1 ≤ sgL2 P ∧ sgB (KE a1 a1 (-1) (-1) d1 d2 z P) D vwCl base tys ad ks t) ∨ (∃ w : Int, vNd (sgU2 P) (sgL2 P) lo hi 2 false 0 (vX (sgU2 P) (sgL2 P) a) = (false, w, 0) ∧ 0 ≤ w ∧ w ≤ 240 ∧ sgB (KE 0 241 w w d1 d2 z P) D vwCl base tys ad ks t)) (fun q : Nat => base ≤ q)) 0 0 (fun q : Nat => base ≤ q) := by
  refine sg_ofW (by decide +kernel) (Nat.le_of_ble_eq_true rfl) (fun p e s m below meth c X hr hlk hb hK hC hG ls hl => ?_)
  have hS : va_S (fun q : Nat => base ≤ q) s.heap s.heap [] := va_S.rf
  have hl : lv_has ls 5 [(0, .ref a0), (1, .int x1), (2, .int x2)] := hl
  refine lv_aload_n X.1 X.2.1 dX12_number_0 rfl (lv_at hl 0 rfl) ?_
  refine ca_X12_look_e X hK hG hC hS hb a0 h0 hl0 hav hby wl_7_137 hl.1 (rest := []) rfl (Nat.le_of_ble_eq_true rfl) ⟨Nat.le_of_ble_eq_true rfl, Nat.le_of_ble_eq_true rfl⟩ ⟨Nat.le_of_ble_eq_true rfl, Nat.le_of_ble_eq_true rfl⟩ dX12_number_1 (fun f1 tf1 H locs htf1 hf1 hWf1 hS => ?_)
  have hBf1 := hWf1.2
  have xf1 := hWf1.1
  have hG := hBf1.2.2.2
  rw [htf1] at hG
  have b2 := vq_bdL (b := sgU2 P) hav
  have eb2 : a ≤ vX (sgU2 P) (sgL2 P) a := (vX_ge (sgU2 P) (sgL2 P) a).1
  have pb2 : a + 0 ≤ vX (sgU2 P) (sgL2 P) a := Int.le_trans (vq_pg0 a) (vX_ge (sgU2 P) (sgL2 P) a).1
  have yf1 : iv (-1) 255 f1 := vq_lk xf1 (vC_by2 hby _)
  refine lv_istore_n (lv' := [(3, .int f1), (0, .ref a0), (1, .int x1), (2, .int x2)]) X.1 X.2.1 dX12_number_4 rfl hl (by decide) rfl (fun ls hl => ?_)
  refine lv_aload_n X.1 X.2.1 dX12_number_5 rfl (lv_at hl 1 rfl) ?_
  refine ca_X12_isDigit_e X hK hG hC (fun _ h => h) hS hb a0 h0 hl0 b2 hby wl_7_187 hl.1 (rest := []) rfl (Nat.le_of_ble_eq_true rfl) ⟨Nat.le_of_ble_eq_true rfl, Nat.le_of_ble_eq_true rfl⟩ ⟨Nat.le_of_ble_eq_true rfl, Nat.le_of_ble_eq_true rfl⟩ dX12_number_6 (fun f3 locs hf3 hS => ?_)
  refine lv_if_ne (tgt := 19) X.1 X.2.1 dX12_number_9 (by decide) (fun c4 => ?_) (fun c4 => ?_)
  · have j5 := vq_says1 hf3 c4
    have k6 : ¬ vC (sgU2 P) (sgL2 P) (vX (sgU2 P) (sgL2 P) a) < (48 : Int) := j5.1
    have k7 : ¬ (57 : Int) < vC (sgU2 P) (sgL2 P) (vX (sgU2 P) (sgL2 P) a) := j5.2
    refine lv_iload_n X.1 X.2.1 dX12_number_19 rfl (lv_at hl 0 rfl) ?_
    refine lv_bipush (v := 48) X.1 X.2.1 dX12_number_20 (by decide +kernel) ?_
    have x22 : f1.toInt = 0 * 10 + vC (sgU2 P) (sgL2 P) (vX (sgU2 P) (sgL2 P) a) := vq_d0 xf1 k6
    have y22 : iv 48 57 f1 := vq_d0i x22 k6 k7
    refine lv_isub X.1 X.2.1 dX12_number_22 ?_
    refine lv_topi (fun f10 ef10 => ?_)
    have xf10 : f10.toInt = ((0 * 10 + vC (sgU2 P) (sgL2 P) (vX (sgU2 P) (sgL2 P) a)) - 48) := sg_exsub ef10 y22 (iv_c 48 (a := 48) (b := 48) (by decide +kernel)) (by decide +kernel) x22 (by decide +kernel)
    refine lv_istore (lv' := [(4, .int f10), (3, .int f1), (0, .ref a0), (1, .int x1), (2, .int x2)]) X.1 X.2.1 dX12_number_23 hl (by decide) rfl (fun ls hl => ?_)
    refine lv_aload_n X.1 X.2.1 dX12_number_25 rfl (lv_at hl 2 rfl) ?_
    refine lv_dup X.1 X.2.1 dX12_number_26 rfl ?_
    refine gf_X12_10e X hK hG h0 wl_6_188 dX12_number_27 (fun f11 hf11 => ?_)
    have xf11 : f11.toInt = (vX (sgU2 P) (sgL2 P) a) := vq_iv hf11
    have yf11 : iv 0 240 f11 := vq_240 hl0 b2 xf11
    refine lv_iconst (v := 1) X.1 X.2.1 dX12_number_30 (by decide +kernel) ?_
    refine lv_iadd X.1 X.2.1 dX12_number_31 ?_
    refine lv_topi (fun f12 ef12 => ?_)
    have xf12 : f12.toInt = ((vX (sgU2 P) (sgL2 P) a) + 1) := sg_exadd ef12 yf11 (iv_c 1 (a := 1) (b := 1) (by decide +kernel)) (by decide +kernel) xf11 (by decide +kernel)
    refine pf_X12_10E (b1 := ((vX (sgU2 P) (sgL2 P) a) + 1)) (b2 := ((vX (sgU2 P) (sgL2 P) a) + 1)) X hK hG hS h0 wl_6_188 (vq_of (lo := ((vX (sgU2 P) (sgL2 P) a) + 1)) (hi := ((vX (sgU2 P) (sgL2 P) a) + 1)) xf12 ⟨Int.le_refl _, Int.le_refl _⟩) dX12_number_32 (fun H locs hG hS => ?_)
    have l13 := (vC_lt (b := sgU2 P) (n := sgL2 P) (a := (vX (sgU2 P) (sgL2 P) a)) (vq_dn k6)).2
    have b14 := vq_bd1 b2 l13
    have pb14 : a + 1 ≤ ((vX (sgU2 P) (sgL2 P) a) + 1) := vq_pg pb2 (m := 1) (Int.le_refl _) (by decide)
    refine lv_aload_n X.1 X.2.1 dX12_number_35 rfl (lv_at hl 2 rfl) ?_
    refine ca_X12_isDigit_e X hK hG hC (fun _ h => h) hS hb a0 h0 hl0 b14 hby wl_7_187 hl.1 (rest := []) rfl (Nat.le_of_ble_eq_true rfl) ⟨Nat.le_of_ble_eq_true rfl, Nat.le_of_ble_eq_true rfl⟩ ⟨Nat.le_of_ble_eq_true rfl, Nat.le_of_ble_eq_true rfl⟩ dX12_number_36 (fun f15 locs hf15 hS => ?_)
    refine lv_if_eq (tgt := 67) X.1 X.2.1 dX12_number_39 (by decide) (fun c16 => ?_) (fun c16 => ?_)
    · have j17 := vq_says0 hf15 c16
      have k18 : vC (sgU2 P) (sgL2 P) ((vX (sgU2 P) (sgL2 P) a) + 1) < (48 : Int) ∨ (57 : Int) < vC (sgU2 P) (sgL2 P) ((vX (sgU2 P) (sgL2 P) a) + 1) := j17
      refine lv_aload_n X.1 X.2.1 dX12_number_67 rfl (lv_at hl 2 rfl) ?_
      refine ca_X12_isDigit_e X hK hG hC (fun _ h => h) hS hb a0 h0 hl0 b14 hby wl_7_187 hl.1 (rest := []) rfl (Nat.le_of_ble_eq_true rfl) ⟨Nat.le_of_ble_eq_true rfl, Nat.le_of_ble_eq_true rfl⟩ ⟨Nat.le_of_ble_eq_true rfl, Nat.le_of_ble_eq_true rfl⟩ dX12_number_68 (fun f22 locs hf22 hS => ?_)
      refine lv_if_eq (tgt := 81) X.1 X.2.1 dX12_number_71 (by decide) (fun c23 => ?_) (fun c23 => ?_)
      · have j24 := vq_says0 hf22 c23
        have k25 : vC (sgU2 P) (sgL2 P) ((vX (sgU2 P) (sgL2 P) a) + 1) < (48 : Int) ∨ (57 : Int) < vC (sgU2 P) (sgL2 P) ((vX (sgU2 P) (sgL2 P) a) + 1) := j24
        refine lv_iload X.1 X.2.1 dX12_number_81 (lv_at hl 0 rfl) ?_
        obtain ⟨g29, eg29⟩ : ∃ y : Int64, y = (f10 : Int32).toInt64 := ⟨_, rfl⟩
        refine lv_i2l (v := g29) X.1 X.2.1 dX12_number_83 eg29.symm ?_
        refine lv_iload_n X.1 X.2.1 dX12_number_84 rfl (lv_at hl 3 rfl) ?_
        obtain ⟨g30, eg30⟩ : ∃ y : Int64, y = (x1 : Int32).toInt64 := ⟨_, rfl⟩
        refine lv_i2l (v := g30) X.1 X.2.1 dX12_number_85 eg30.symm ?_
        refine lv_iload_n X.1 X.2.1 dX12_number_86 rfl (lv_at hl 4 rfl) ?_
        obtain ⟨g31, eg31⟩ : ∃ y : Int64, y = (x2 : Int32).toInt64 := ⟨_, rfl⟩
        refine lv_i2l (v := g31) X.1 X.2.1 dX12_number_87 eg31.symm ?_
        refine ca_X12_isIn_e X hK (ke_toKT hG (by decide) (by decide) hd0.1 hd0.2) hC (fun _ h => h) hS hb g29 g30 g31 wl_7_119 hl.1 (rest := []) rfl (Nat.le_of_ble_eq_true rfl) ⟨Nat.le_of_ble_eq_true rfl, Nat.le_of_ble_eq_true rfl⟩ ⟨Nat.le_of_ble_eq_true rfl, Nat.le_of_ble_eq_true rfl⟩ dX12_number_88 (fun f32 locs hf32 hS => ?_)
        refine lv_if_ne (tgt := 109) X.1 X.2.1 dX12_number_91 (by decide) (fun c33 => ?_) (fun c33 => ?_)
        · have j34 := vq_says1 hf32 c33
          have k35 : lo ≤ ((0 * 10 + vC (sgU2 P) (sgL2 P) (vX (sgU2 P) (sgL2 P) a)) - 48) ∧ ((0 * 10 + vC (sgU2 P) (sgL2 P) (vX (sgU2 P) (sgL2 P) a)) - 48) ≤ hi := vq_in1 j34 eg29 eg30 eg31 xf10 hlh.1 hlh.2
          refine lv_iload X.1 X.2.1 dX12_number_109 (lv_at hl 0 rfl) ?_
          have hin : lo ≤ ((0 * 10 + vC (sgU2 P) (sgL2 P) (vX (sgU2 P) (sgL2 P) a)) - 48) ∧ ((0 * 10 + vC (sgU2 P) (sgL2 P) (vX (sgU2 P) (sgL2 P) a)) - 48) ≤ hi := k35
          have spr : vNd (sgU2 P) (sgL2 P) lo hi 2 false 0 (vX (sgU2 P) (sgL2 P) a) = (true, vX (sgU2 P) (sgL2 P) ((vX (sgU2 P) (sgL2 P) a) + 1), ((0 * 10 + vC (sgU2 P) (sgL2 P) (vX (sgU2 P) (sgL2 P) a)) - 48)) := by exact (vNd_more (Int.not_lt.mp k6) (Int.not_lt.mp k7)).trans (vNd_ok (k := 1) k25 hin.1 hin.2)
          exact sg_iret2 X hr hlk hS trivial (fun t ht hW => (Or.inl ⟨_, _, spr, xf10, hin.1, hin.2, vq_pgw pb14 (by decide), (b14).2, sg_post hb hK hC hG hS ht hW⟩)) dX12_number_111
        · have j36 := vq_says0 hf32 c33
          have k37 : ((0 * 10 + vC (sgU2 P) (sgL2 P) (vX (sgU2 P) (sgL2 P) a)) - 48) < lo ∨ hi < ((0 * 10 + vC (sgU2 P) (sgL2 P) (vX (sgU2 P) (sgL2 P) a)) - 48) := vq_in0 j36 eg29 eg30 eg31 xf10 hlh.1 hlh.2
          refine lv_aload_n X.1 X.2.1 dX12_number_94 rfl (lv_at hl 2 rfl) ?_
          refine lv_dup X.1 X.2.1 dX12_number_95 rfl ?_
          refine gf_X12_10e X hK hG h0 wl_6_188 dX12_number_96 (fun f38 hf38 => ?_)
          have xf38 : f38.toInt = ((vX (sgU2 P) (sgL2 P) a) + 1) := vq_iv hf38
          have yf38 : iv 0 240 f38 := vq_240 hl0 b14 xf38
          refine lv_iconst (v := 1) X.1 X.2.1 dX12_number_99 (by decide +kernel) ?_
          refine lv_isub X.1 X.2.1 dX12_number_100 ?_
          refine lv_topi (fun f39 ef39 => ?_)
          have xf39 : f39.toInt = (((vX (sgU2 P) (sgL2 P) a) + 1) - 1) := sg_exsub ef39 yf38 (iv_c 1 (a := 1) (b := 1) (by decide +kernel)) (by decide +kernel) xf38 (by decide +kernel)
          refine pf_X12_10E (b1 := (((vX (sgU2 P) (sgL2 P) a) + 1) - 1)) (b2 := (((vX (sgU2 P) (sgL2 P) a) + 1) - 1)) X hK hG hS h0 wl_6_188 (vq_of (lo := (((vX (sgU2 P) (sgL2 P) a) + 1) - 1)) (hi := (((vX (sgU2 P) (sgL2 P) a) + 1) - 1)) xf39 ⟨Int.le_refl _, Int.le_refl _⟩) dX12_number_101 (fun H locs hG hS => ?_)
          have b40 := vq_bdm hav.1 (vq_pgw pb14 (k2 := 1) (by decide)) (b14).2
          refine lv_aload_n X.1 X.2.1 dX12_number_104 rfl (lv_at hl 2 rfl) ?_
          refine ca_X12_fails_e X hK hG hC hS hb a0 h0 hl0 b40 wl_7_141 hl.1 (rest := []) rfl (Nat.le_of_ble_eq_true rfl) ⟨Nat.le_of_ble_eq_true rfl, Nat.le_of_ble_eq_true rfl⟩ ⟨Nat.le_of_ble_eq_true rfl, Nat.le_of_ble_eq_true rfl⟩ dX12_number_105 (fun f41 tf41 H locs htf41 hf41 hWf41 hS => ?_)
          have hG := hWf41.2.2.2
          rw [htf41] at hG
          obtain rfl : f41 = 0 := sg_is0 hf41
          refine lv_pop X.1 X.2.1 dX12_number_108 rfl ?_
          refine lv_iload X.1 X.2.1 dX12_number_109 (lv_at hl 0 rfl) ?_
          have hin := k37
          have spr : vNd (sgU2 P) (sgL2 P) lo hi 2 false 0 (vX (sgU2 P) (sgL2 P) a) = (false, (((vX (sgU2 P) (sgL2 P) a) + 1) - 1), 0) := by exact (vNd_more (Int.not_lt.mp k6) (Int.not_lt.mp k7)).trans (vNd_out (k := 1) k25 hin)
          have hG := ke_weak (b1 := 0) (b2 := 241) (g1 := (((vX (sgU2 P) (sgL2 P) a) + 1) - 1)) (g2 := (((vX (sgU2 P) (sgL2 P) a) + 1) - 1)) (e1 := d1) (e2 := d2) hG (b40).1 (Int.le_trans (b40).2 (Int.le_trans hl0.2 (by decide))) (Int.le_refl _) (Int.le_refl _) (Int.le_refl _) (Int.le_refl _)
          exact sg_iret2 X hr hlk hS trivial (fun t ht hW => (Or.inr ⟨_, spr, ((vq_bw b40 hl0)).1, ((vq_bw b40 hl0)).2, sg_post hb hK hC hG hS ht hW⟩)) dX12_number_111
      · have j26 := vq_says1 hf22 c23
        have k27 : ¬ vC (sgU2 P) (sgL2 P) ((vX (sgU2 P) (sgL2 P) a) + 1) < (48 : Int) := j26.1
        have k28 : ¬ (57 : Int) < vC (sgU2 P) (sgL2 P) ((vX (sgU2 P) (sgL2 P) a) + 1) := j26.2
        exact absurd k18 (vq_nd ⟨k27, k28⟩)
    · have j19 := vq_says1 hf15 c16
      have k20 : ¬ vC (sgU2 P) (sgL2 P) ((vX (sgU2 P) (sgL2 P) a) + 1) < (48 : Int) := j19.1
      have k21 : ¬ (57 : Int) < vC (sgU2 P) (sgL2 P) ((vX (sgU2 P) (sgL2 P) a) + 1) := j19.2
      refine lv_bipush (v := 10) X.1 X.2.1 dX12_number_42 (by decide +kernel) ?_
      refine lv_iload X.1 X.2.1 dX12_number_44 (lv_at hl 0 rfl) ?_
      refine lv_imul X.1 X.2.1 dX12_number_46 ?_
      refine lv_topi (fun f42 ef42 => ?_)
      have xf42 : f42.toInt = (10 * ((0 * 10 + vC (sgU2 P) (sgL2 P) (vX (sgU2 P) (sgL2 P) a)) - 48)) := sg_exmul ef42 (iv_c 10 (a := 10) (b := 10) (by decide +kernel)) (iv_sub (a' := 0) (b' := 9) ef10 y22 (iv_c 48 (a := 48) (b := 48) (by decide +kernel)) (by decide +kernel)) (by decide +kernel) (by decide +kernel) xf10
      have x47 : f42.toInt = (((0 * 10 + vC (sgU2 P) (sgL2 P) (vX (sgU2 P) (sgL2 P) a)) - 48) * 10) := (xf42).trans (Int.mul_comm _ _)
      refine lv_aload_n X.1 X.2.1 dX12_number_47 rfl (lv_at hl 2 rfl) ?_
      have l43 := (vC_lt (b := sgU2 P) (n := sgL2 P) (a := ((vX (sgU2 P) (sgL2 P) a) + 1)) (vq_dn k20)).2
      refine ca_X12_here_e X hK hG hC (fun _ h => h) hS hb a0 h0 hl0 (And.intro (b14).1 l43) hby wl_7_191 hl.1 (rest := [.int f42]) rfl (Nat.le_of_ble_eq_true rfl) ⟨Nat.le_of_ble_eq_true rfl, Nat.le_of_ble_eq_true rfl⟩ ⟨Nat.le_of_ble_eq_true rfl, Nat.le_of_ble_eq_true rfl⟩ dX12_number_48 (fun f44 locs hf44 hS => ?_)
      have y51 : iv 48 57 f44 := vq_57 hf44 k20 k21
      refine lv_iadd X.1 X.2.1 dX12_number_51 ?_
      refine lv_topi (fun f45 ef45 => ?_)
      have xf45 : f45.toInt = ((((0 * 10 + vC (sgU2 P) (sgL2 P) (vX (sgU2 P) (sgL2 P) a)) - 48) * 10) + vC (sgU2 P) (sgL2 P) ((vX (sgU2 P) (sgL2 P) a) + 1)) := sg_exadd ef45 (iv_mul (a' := 0) (b' := 90) ef42 (iv_c 10 (a := 10) (b := 10) (by decide +kernel)) (iv_sub (a' := 0) (b' := 9) ef10 y22 (iv_c 48 (a := 48) (b := 48) (by decide +kernel)) (by decide +kernel)) (by decide +kernel)) y51 (by decide +kernel) x47 hf44
      refine lv_bipush (v := 48) X.1 X.2.1 dX12_number_52 (by decide +kernel) ?_
      refine lv_isub X.1 X.2.1 dX12_number_54 ?_
      refine lv_topi (fun f46 ef46 => ?_)
      have xf46 : f46.toInt = (((((0 * 10 + vC (sgU2 P) (sgL2 P) (vX (sgU2 P) (sgL2 P) a)) - 48) * 10) + vC (sgU2 P) (sgL2 P) ((vX (sgU2 P) (sgL2 P) a) + 1)) - 48) := sg_exsub ef46 (iv_add (a' := 48) (b' := 147) ef45 (iv_mul (a' := 0) (b' := 90) ef42 (iv_c 10 (a := 10) (b := 10) (by decide +kernel)) (iv_sub (a' := 0) (b' := 9) ef10 y22 (iv_c 48 (a := 48) (b := 48) (by decide +kernel)) (by decide +kernel)) (by decide +kernel)) y51 (by decide +kernel)) (iv_c 48 (a := 48) (b := 48) (by decide +kernel)) (by decide +kernel) xf45 (by decide +kernel)
      refine lv_istore (lv' := [(4, .int f46), (3, .int f1), (0, .ref a0), (1, .int x1), (2, .int x2)]) X.1 X.2.1 dX12_number_55 hl (by decide) rfl (fun ls hl => ?_)
      refine lv_aload_n X.1 X.2.1 dX12_number_57 rfl (lv_at hl 2 rfl) ?_
      refine lv_dup X.1 X.2.1 dX12_number_58 rfl ?_
      refine gf_X12_10e X hK hG h0 wl_6_188 dX12_number_59 (fun f47 hf47 => ?_)
      have xf47 : f47.toInt = ((vX (sgU2 P) (sgL2 P) a) + 1) := vq_iv hf47
      have yf47 : iv 0 240 f47 := vq_240 hl0 b14 xf47
      refine lv_iconst (v := 1) X.1 X.2.1 dX12_number_62 (by decide +kernel) ?_
      refine lv_iadd X.1 X.2.1 dX12_number_63 ?_
      refine lv_topi (fun f48 ef48 => ?_)
      have xf48 : f48.toInt = (((vX (sgU2 P) (sgL2 P) a) + 1) + 1) := sg_exadd ef48 yf47 (iv_c 1 (a := 1) (b := 1) (by decide +kernel)) (by decide +kernel) xf47 (by decide +kernel)
      refine pf_X12_10E (b1 := (((vX (sgU2 P) (sgL2 P) a) + 1) + 1)) (b2 := (((vX (sgU2 P) (sgL2 P) a) + 1) + 1)) X hK hG hS h0 wl_6_188 (vq_of (lo := (((vX (sgU2 P) (sgL2 P) a) + 1) + 1)) (hi := (((vX (sgU2 P) (sgL2 P) a) + 1) + 1)) xf48 ⟨Int.le_refl _, Int.le_refl _⟩) dX12_number_64 (fun H locs hG hS => ?_)
      have b49 := vq_bd1 b14 l43
      have pb49 : a + 2 ≤ (((vX (sgU2 P) (sgL2 P) a) + 1) + 1) := vq_pg pb14 (m := 1) (Int.le_refl _) (by decide)
      refine lv_aload_n X.1 X.2.1 dX12_number_67 rfl (lv_at hl 2 rfl) ?_
      refine ca_X12_isDigit_e X hK hG hC (fun _ h => h) hS hb a0 h0 hl0 b49 hby wl_7_187 hl.1 (rest := []) rfl (Nat.le_of_ble_eq_true rfl) ⟨Nat.le_of_ble_eq_true rfl, Nat.le_of_ble_eq_true rfl⟩ ⟨Nat.le_of_ble_eq_true rfl, Nat.le_of_ble_eq_true rfl⟩ dX12_number_68 (fun f50 locs hf50 hS => ?_)
      refine lv_if_eq (tgt := 81) X.1 X.2.1 dX12_number_71 (by decide) (fun c51 => ?_) (fun c51 => ?_)
      · have j52 := vq_says0 hf50 c51
        have k53 : vC (sgU2 P) (sgL2 P) (((vX (sgU2 P) (sgL2 P) a) + 1) + 1) < (48 : Int) ∨ (57 : Int) < vC (sgU2 P) (sgL2 P) (((vX (sgU2 P) (sgL2 P) a) + 1) + 1) := j52
        refine lv_iload X.1 X.2.1 dX12_number_81 (lv_at hl 0 rfl) ?_
        obtain ⟨g57, eg57⟩ : ∃ y : Int64, y = (f46 : Int32).toInt64 := ⟨_, rfl⟩
        refine lv_i2l (v := g57) X.1 X.2.1 dX12_number_83 eg57.symm ?_
        refine lv_iload_n X.1 X.2.1 dX12_number_84 rfl (lv_at hl 3 rfl) ?_
        obtain ⟨g58, eg58⟩ : ∃ y : Int64, y = (x1 : Int32).toInt64 := ⟨_, rfl⟩
        refine lv_i2l (v := g58) X.1 X.2.1 dX12_number_85 eg58.symm ?_
        refine lv_iload_n X.1 X.2.1 dX12_number_86 rfl (lv_at hl 4 rfl) ?_
        obtain ⟨g59, eg59⟩ : ∃ y : Int64, y = (x2 : Int32).toInt64 := ⟨_, rfl⟩
        refine lv_i2l (v := g59) X.1 X.2.1 dX12_number_87 eg59.symm ?_
        refine ca_X12_isIn_e X hK (ke_toKT hG (by decide) (by decide) hd0.1 hd0.2) hC (fun _ h => h) hS hb g57 g58 g59 wl_7_119 hl.1 (rest := []) rfl (Nat.le_of_ble_eq_true rfl) ⟨Nat.le_of_ble_eq_true rfl, Nat.le_of_ble_eq_true rfl⟩ ⟨Nat.le_of_ble_eq_true rfl, Nat.le_of_ble_eq_true rfl⟩ dX12_number_88 (fun f60 locs hf60 hS => ?_)
        refine lv_if_ne (tgt := 109) X.1 X.2.1 dX12_number_91 (by decide) (fun c61 => ?_) (fun c61 => ?_)
        · have j62 := vq_says1 hf60 c61
          have k63 : lo ≤ (((((0 * 10 + vC (sgU2 P) (sgL2 P) (vX (sgU2 P) (sgL2 P) a)) - 48) * 10) + vC (sgU2 P) (sgL2 P) ((vX (sgU2 P) (sgL2 P) a) + 1)) - 48) ∧ (((((0 * 10 + vC (sgU2 P) (sgL2 P) (vX (sgU2 P) (sgL2 P) a)) - 48) * 10) + vC (sgU2 P) (sgL2 P) ((vX (sgU2 P) (sgL2 P) a) + 1)) - 48) ≤ hi := vq_in1 j62 eg57 eg58 eg59 xf46 hlh.1 hlh.2
          refine lv_iload X.1 X.2.1 dX12_number_109 (lv_at hl 0 rfl) ?_
          have hin : lo ≤ (((((0 * 10 + vC (sgU2 P) (sgL2 P) (vX (sgU2 P) (sgL2 P) a)) - 48) * 10) + vC (sgU2 P) (sgL2 P) ((vX (sgU2 P) (sgL2 P) a) + 1)) - 48) ∧ (((((0 * 10 + vC (sgU2 P) (sgL2 P) (vX (sgU2 P) (sgL2 P) a)) - 48) * 10) + vC (sgU2 P) (sgL2 P) ((vX (sgU2 P) (sgL2 P) a) + 1)) - 48) ≤ hi := k63
          have spr : vNd (sgU2 P) (sgL2 P) lo hi 2 false 0 (vX (sgU2 P) (sgL2 P) a) = (true, vX (sgU2 P) (sgL2 P) (((vX (sgU2 P) (sgL2 P) a) + 1) + 1), (((((0 * 10 + vC (sgU2 P) (sgL2 P) (vX (sgU2 P) (sgL2 P) a)) - 48) * 10) + vC (sgU2 P) (sgL2 P) ((vX (sgU2 P) (sgL2 P) a) + 1)) - 48)) := by exact (vNd_more (Int.not_lt.mp k6) (Int.not_lt.mp k7)).trans ((vNd_more (Int.not_lt.mp k20) (Int.not_lt.mp k21)).trans (vNd_ok (k := 0) k53 hin.1 hin.2))
          exact sg_iret2 X hr hlk hS trivial (fun t ht hW => (Or.inl ⟨_, _, spr, xf46, hin.1, hin.2, vq_pgw pb49 (by decide), (b49).2, sg_post hb hK hC hG hS ht hW⟩)) dX12_number_111
        · have j64 := vq_says0 hf60 c61
          have k65 : (((((0 * 10 + vC (sgU2 P) (sgL2 P) (vX (sgU2 P) (sgL2 P) a)) - 48) * 10) + vC (sgU2 P) (sgL2 P) ((vX (sgU2 P) (sgL2 P) a) + 1)) - 48) < lo ∨ hi < (((((0 * 10 + vC (sgU2 P) (sgL2 P) (vX (sgU2 P) (sgL2 P) a)) - 48) * 10) + vC (sgU2 P) (sgL2 P) ((vX (sgU2 P) (sgL2 P) a) + 1)) - 48) := vq_in0 j64 eg57 eg58 eg59 xf46 hlh.1 hlh.2
          refine lv_aload_n X.1 X.2.1 dX12_number_94 rfl (lv_at hl 2 rfl) ?_
          refine lv_dup X.1 X.2.1 dX12_number_95 rfl ?_
          refine gf_X12_10e X hK hG h0 wl_6_188 dX12_number_96 (fun f66 hf66 => ?_)
          have xf66 : f66.toInt = (((vX (sgU2 P) (sgL2 P) a) + 1) + 1) := vq_iv hf66
          have yf66 : iv 0 240 f66 := vq_240 hl0 b49 xf66
          refine lv_iconst (v := 1) X.1 X.2.1 dX12_number_99 (by decide +kernel) ?_
          refine lv_isub X.1 X.2.1 dX12_number_100 ?_
          refine lv_topi (fun f67 ef67 => ?_)
          have xf67 : f67.toInt = ((((vX (sgU2 P) (sgL2 P) a) + 1) + 1) - 1) := sg_exsub ef67 yf66 (iv_c 1 (a := 1) (b := 1) (by decide +kernel)) (by decide +kernel) xf66 (by decide +kernel)
          refine pf_X12_10E (b1 := ((((vX (sgU2 P) (sgL2 P) a) + 1) + 1) - 1)) (b2 := ((((vX (sgU2 P) (sgL2 P) a) + 1) + 1) - 1)) X hK hG hS h0 wl_6_188 (vq_of (lo := ((((vX (sgU2 P) (sgL2 P) a) + 1) + 1) - 1)) (hi := ((((vX (sgU2 P) (sgL2 P) a) + 1) + 1) - 1)) xf67 ⟨Int.le_refl _, Int.le_refl _⟩) dX12_number_101 (fun H locs hG hS => ?_)
          have b68 := vq_bdm hav.1 (vq_pgw pb49 (k2 := 1) (by decide)) (b49).2
          refine lv_aload_n X.1 X.2.1 dX12_number_104 rfl (lv_at hl 2 rfl) ?_
          refine ca_X12_fails_e X hK hG hC hS hb a0 h0 hl0 b68 wl_7_141 hl.1 (rest := []) rfl (Nat.le_of_ble_eq_true rfl) ⟨Nat.le_of_ble_eq_true rfl, Nat.le_of_ble_eq_true rfl⟩ ⟨Nat.le_of_ble_eq_true rfl, Nat.le_of_ble_eq_true rfl⟩ dX12_number_105 (fun f69 tf69 H locs htf69 hf69 hWf69 hS => ?_)
          have hG := hWf69.2.2.2
          rw [htf69] at hG
          obtain rfl : f69 = 0 := sg_is0 hf69
          refine lv_pop X.1 X.2.1 dX12_number_108 rfl ?_
          refine lv_iload X.1 X.2.1 dX12_number_109 (lv_at hl 0 rfl) ?_
          have hin := k65
          have spr : vNd (sgU2 P) (sgL2 P) lo hi 2 false 0 (vX (sgU2 P) (sgL2 P) a) = (false, ((((vX (sgU2 P) (sgL2 P) a) + 1) + 1) - 1), 0) := by exact (vNd_more (Int.not_lt.mp k6) (Int.not_lt.mp k7)).trans ((vNd_more (Int.not_lt.mp k20) (Int.not_lt.mp k21)).trans (vNd_out (k := 0) k53 hin))
          have hG := ke_weak (b1 := 0) (b2 := 241) (g1 := ((((vX (sgU2 P) (sgL2 P) a) + 1) + 1) - 1)) (g2 := ((((vX (sgU2 P) (sgL2 P) a) + 1) + 1) - 1)) (e1 := d1) (e2 := d2) hG (b68).1 (Int.le_trans (b68).2 (Int.le_trans hl0.2 (by decide))) (Int.le_refl _) (Int.le_refl _) (Int.le_refl _) (Int.le_refl _)
          exact sg_iret2 X hr hlk hS trivial (fun t ht hW => (Or.inr ⟨_, spr, ((vq_bw b68 hl0)).1, ((vq_bw b68 hl0)).2, sg_post hb hK hC hG hS ht hW⟩)) dX12_number_111
      · have j54 := vq_says1 hf50 c51
        have k55 : ¬ vC (sgU2 P) (sgL2 P) (((vX (sgU2 P) (sgL2 P) a) + 1) + 1) < (48 : Int) := j54.1
        have k56 : ¬ (57 : Int) < vC (sgU2 P) (sgL2 P) (((vX (sgU2 P) (sgL2 P) a) + 1) + 1) := j54.2
        refine lv_aload_n X.1 X.2.1 dX12_number_74 rfl (lv_at hl 2 rfl) ?_
        refine ca_X12_fails_e X hK hG hC hS hb a0 h0 hl0 b49 wl_7_141 hl.1 (rest := []) rfl (Nat.le_of_ble_eq_true rfl) ⟨Nat.le_of_ble_eq_true rfl, Nat.le_of_ble_eq_true rfl⟩ ⟨Nat.le_of_ble_eq_true rfl, Nat.le_of_ble_eq_true rfl⟩ dX12_number_75 (fun f70 tf70 H locs htf70 hf70 hWf70 hS => ?_)
        have hG := hWf70.2.2.2
        rw [htf70] at hG
        obtain rfl : f70 = 0 := sg_is0 hf70
        refine lv_pop X.1 X.2.1 dX12_number_78 rfl ?_
        refine lv_iconst (v := 0) X.1 X.2.1 dX12_number_79 (by decide +kernel) ?_
        have spr : vNd (sgU2 P) (sgL2 P) lo hi 2 false 0 (vX (sgU2 P) (sgL2 P) a) = (false, (((vX (sgU2 P) (sgL2 P) a) + 1) + 1), 0) := by exact (vNd_more (Int.not_lt.mp k6) (Int.not_lt.mp k7)).trans ((vNd_more (Int.not_lt.mp k20) (Int.not_lt.mp k21)).trans (vNd_many (Int.not_lt.mp k55) (Int.not_lt.mp k56)))
        have hG := ke_weak (b1 := 0) (b2 := 241) (g1 := (((vX (sgU2 P) (sgL2 P) a) + 1) + 1)) (g2 := (((vX (sgU2 P) (sgL2 P) a) + 1) + 1)) (e1 := d1) (e2 := d2) hG (b49).1 (Int.le_trans (b49).2 (Int.le_trans hl0.2 (by decide))) (Int.le_refl _) (Int.le_refl _) (Int.le_refl _) (Int.le_refl _)
        exact sg_iret2 X hr hlk hS trivial (fun t ht hW => (Or.inr ⟨_, spr, ((vq_bw b49 hl0)).1, ((vq_bw b49 hl0)).2, sg_post hb hK hC hG hS ht hW⟩)) dX12_number_80
  · have j8 := vq_says0 hf3 c4
    have k9 : vC (sgU2 P) (sgL2 P) (vX (sgU2 P) (sgL2 P) a) < (48 : Int) ∨ (57 : Int) < vC (sgU2 P) (sgL2 P) (vX (sgU2 P) (sgL2 P) a) := j8
    refine lv_aload_n X.1 X.2.1 dX12_number_12 rfl (lv_at hl 1 rfl) ?_
    refine ca_X12_fails_e X hK hG hC hS hb a0 h0 hl0 b2 wl_7_141 hl.1 (rest := []) rfl (Nat.le_of_ble_eq_true rfl) ⟨Nat.le_of_ble_eq_true rfl, Nat.le_of_ble_eq_true rfl⟩ ⟨Nat.le_of_ble_eq_true rfl, Nat.le_of_ble_eq_true rfl⟩ dX12_number_13 (fun f71 tf71 H locs htf71 hf71 hWf71 hS => ?_)
    have hG := hWf71.2.2.2
    rw [htf71] at hG
    obtain rfl : f71 = 0 := sg_is0 hf71
    refine lv_pop X.1 X.2.1 dX12_number_16 rfl ?_
    refine lv_iconst (v := 0) X.1 X.2.1 dX12_number_17 (by decide +kernel) ?_
    have spr : vNd (sgU2 P) (sgL2 P) lo hi 2 false 0 (vX (sgU2 P) (sgL2 P) a) = (false, (vX (sgU2 P) (sgL2 P) a), 0) := by exact vNd_none k9
    have hG := ke_weak (b1 := 0) (b2 := 241) (g1 := (vX (sgU2 P) (sgL2 P) a)) (g2 := (vX (sgU2 P) (sgL2 P) a)) (e1 := d1) (e2 := d2) hG (b2).1 (Int.le_trans (b2).2 (Int.le_trans hl0.2 (by decide))) (Int.le_refl _) (Int.le_refl _) (Int.le_refl _) (Int.le_refl _)
    exact sg_iret2 X hr hlk hS trivial (fun t ht hW => (Or.inr ⟨_, spr, ((vq_bw b2 hl0)).1, ((vq_bw b2 hl0)).2, sg_post hb hK hC hG hS ht hW⟩)) dX12_number_18

theorem ca_X12_number_e  {a d1 d2 lo hi : Int} {z : sgZt}  (X : CallFix p m c cc nL s args sg_tbl own) (hK : va_K D vwCl tys s) (hG : sgG (KE a a (-1) (-1) d1 d2 z P) D vwCl (fun q : Nat => base ≤ q) tys ad ks H) (hC : sgC base s) (hS : va_S (fun q : Nat => base ≤ q) s.heap H locs) (hb : base ≤ s.heap.size) (a0 : Nat) (h0 : isK ad ks 12 a0) (x1 : Int32) (x2 : Int32) (hl0 : 0 ≤ sgL2 P ∧ sgL2 P ≤ 240) (hav : 0 ≤ a ∧ a ≤ sgL2 P) (hby : sgBy2 P) (hd0 : 0 ≤ d1 ∧ d2 ≤ 6) (hlh : x1.toInt = lo ∧ x2.toInt = hi) (hl : Cond.methodLink own index yX12_number ∈ sg_tbl) (hsize : ls.size = nL) (hst : st0 = [.int x1, .int x2].reverse ++ .ref a0 :: rest) (hW : (rest.map fun v => v.category).sum ≤ 8) (hR : 2 ≤ R.frames ∧ 49 ≤ R.locals) (hf : cells ≤ R.cells ∧ slots ≤ R.slots) (hdg : decode cc pc = .ok (.invokevirtual index, 3)) (kk : ∀ (r : Int32) (t : State) (H1 : Heap) (locs1 : List Loc), t.heap = H1 → (fun r : Int32 => True) r → ((∃ a1 v : Int, vNd (sgU2 P) (sgL2 P) lo hi 2 false 0 (vX (sgU2 P) (sgL2 P) a) = (true, vX (sgU2 P) (sgL2 P) a1, v) ∧ r.toInt = v ∧ lo ≤ v ∧ v ≤ hi ∧ a + 1 ≤ a1 ∧ a1 ≤ sgL2 P ∧ sgB (KE a1 a1 (-1) (-1) d1 d2 z P) D vwCl base tys ad ks t) ∨ (∃ w : Int, vNd (sgU2 P) (sgL2 P) lo hi 2 false 0 (vX (sgU2 P) (sgL2 P) a) = (false, w, 0) ∧ 0 ≤ w ∧ w ≤ 240 ∧ sgB (KE 0 241 w w d1 d2 z P) D vwCl base tys ad ks t)) → va_S (fun q : Nat => base ≤ q) s.heap H1 locs1 → W p l e R s m args below meth c H1 locs1 cells slots Q (F0 m (pc + 3) ls (.int r :: rest))) : W p l e R s m args below meth c H locs cells slots Q (F0 m pc ls st0) :=
  sg_callV2i X hK hG hC hS hb (m_X12_number_e l a0 h0 x1 x2 hl0 hav hby hd0 hlh) h0 (k := 12) (ci := 12) rfl (C := RX12) (T := TX12) (N := 53) rfl wl_7_186 wl_1_13 wl_7_185 wl_0_55 (n := 2) (by decide +kernel) rfl rfl rfl hl hsize hst hW hR hf hdg kk
end
