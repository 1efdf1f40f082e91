
section
variable {p : Program} {l : Launch} {e : Env} {R : Room} {s : State} {m : MethodId} {args : Array Value} {below : List Frame} {meth : Method} {c : Code} {H : Heap} {locs : List Loc} {cells slots : Nat} {Q : State → Prop} {cc : ByteArray} {nL pc : Nat} {ls : Array Slot} {rest : List Value} {own : String} {D : va_G} {A : Nat → Prop} {tys : List (ClassId × FieldType)} {ad ks : List Nat} {P : sgPm} {H0 : Heap} {index : Nat} {base : Nat} {st0 : List Value} {a : Nat}
theorem gf_X3_0a  {a1 a2 w1 w2 : Int} (X : CallFix p m c cc nL s args sg_tbl own) (hK : va_K D vwCl tys s) (hG : sgG (KA a1 a2 w1 w2 P) D vwCl A tys ad ks H) (ha : isK ad ks 3 a) (hl : Cond.fieldLink own index "LawnAhead$Game" "moves" "[I" ∈ sg_tbl) (hdg : decode cc pc = .ok (.getfield index, 3)) (kk : ∀ x : Nat, isK ad ks 20 x → fld D H 3 a 0 (.ref x) → W p l e R s m args below meth c H locs cells slots Q (F0 m (pc + 3) ls (.ref x :: rest))) : W p l e R s m args below meth c H locs cells slots Q (F0 m pc ls (.ref a :: rest)) :=
  sg_get X hK hG ha (k := 3) (ci := 3) rfl (C := RX3) (T := TX3) (N := 3) rfl inL_X3 0 (by decide) rfl hl (fun _ h => h) hdg (fun v hv hf => by
    obtain ⟨h1, -⟩ | ⟨x, rfl, hx⟩ := hv
    · cases h1
    · exact kk x hx hf)
theorem gf_X3_2a  {a1 a2 w1 w2 : Int} (X : CallFix p m c cc nL s args sg_tbl own) (hK : va_K D vwCl tys s) (hG : sgG (KA a1 a2 w1 w2 P) D vwCl A tys ad ks H) (ha : isK ad ks 3 a) (hl : Cond.fieldLink own index "LawnAhead$Game" "leaves" "I" ∈ sg_tbl) (hdg : decode cc pc = .ok (.getfield index, 3)) (kk : ∀ x : Int32, iv (-2147483648) 2147483647 x → fld D H 3 a 2 (.int x) → W p l e R s m args below meth c H locs cells slots Q (F0 m (pc + 3) ls (.int x :: rest))) : W p l e R s m args below meth c H locs cells slots Q (F0 m pc ls (.ref a :: rest)) :=
  sg_get X hK hG ha (k := 3) (ci := 3) rfl (C := RX3) (T := TX3) (N := 3) rfl inL_X3 2 (by decide) rfl hl (fun _ h => h) hdg (fun v hv hf => by obtain ⟨x, rfl, hx⟩ := hv; exact kk x hx hf)
theorem gg_X3_1a  {a1 a2 w1 w2 : Int} (X : CallFix p m c cc nL s args sg_tbl own) (hK : va_K D vwCl tys s) (hG : sgG (KA a1 a2 w1 w2 P) D vwCl A tys ad ks H) (ha : isK ad ks 3 a) (hl : Cond.fieldLink own index "LawnAhead$Game" "count" "I" ∈ sg_tbl) {v : Value} (hf : fld D H 3 a 1 v) (hdg : decode cc pc = .ok (.getfield index, 3)) (kk : W p l e R s m args below meth c H locs cells slots Q (F0 m (pc + 3) ls (v :: rest))) : W p l e R s m args below meth c H locs cells slots Q (F0 m pc ls (.ref a :: rest)) :=
  sg_getf X hK hG ha (k := 3) (ci := 3) rfl (C := RX3) (T := TX3) (N := 3) rfl inL_X3 1 (by decide) (show 1 < 3 by decide) hl (fun _ h => h) hf hdg kk
theorem pf_X3_1a  {x : Int32} {a1 a2 w1 w2 : Int} (X : CallFix p m c cc nL s args sg_tbl own) (hK : va_K D vwCl tys s) (hG : sgG (KA a1 a2 w1 w2 P) D vwCl A tys ad ks H) (hS : va_S A H0 H locs) (ha : isK ad ks 3 a) (hl : Cond.fieldLink own index "LawnAhead$Game" "count" "I" ∈ sg_tbl) (hv : okV ad ks (.inl (0, 16)) (.int x)) (hdg : decode cc pc = .ok (.putfield index, 3)) (kk : ∀ (H1 : Heap) (locs1 : List Loc), sgG (KA a1 a2 w1 w2 P) D vwCl A tys ad ks H1 → va_S A H0 H1 locs1 → fld D H1 3 a 1 (.int x) → sgFr (KA a1 a2 w1 w2 P) D vwCl ad ks H H1 (fun a' j' => a' = a ∧ j' = 1) → W p l e R s m args below meth c H1 locs1 cells slots Q (F0 m (pc + 3) ls rest)) : W p l e R s m args below meth c H locs cells slots Q (F0 m pc ls (.int x :: .ref a :: rest)) :=
  sg_put X hK hG hS ha (k := 3) (ci := 3) rfl (C := RX3) (T := TX3) (N := 3) rfl inL_X3 tyX3 tyX3_ok nmX3 1 (by decide) rfl hl (fun _ h => h) rfl (ty := .int) rfl rfl rfl hv hdg kk
theorem pf_X3_2a  {x : Int32} {a1 a2 w1 w2 : Int} (X : CallFix p m c cc nL s args sg_tbl own) (hK : va_K D vwCl tys s) (hG : sgG (KA a1 a2 w1 w2 P) D vwCl A tys ad ks H) (hS : va_S A H0 H locs) (ha : isK ad ks 3 a) (hl : Cond.fieldLink own index "LawnAhead$Game" "leaves" "I" ∈ sg_tbl) (hv : okV ad ks (.inl ((-2147483648), 2147483647)) (.int x)) (hdg : decode cc pc = .ok (.putfield index, 3)) (kk : ∀ (H1 : Heap) (locs1 : List Loc), sgG (KA a1 a2 w1 w2 P) D vwCl A tys ad ks H1 → va_S A H0 H1 locs1 → fld D H1 3 a 2 (.int x) → sgFr (KA a1 a2 w1 w2 P) D vwCl ad ks H H1 (fun a' j' => a' = a ∧ j' = 2) → W p l e R s m args below meth c H1 locs1 cells slots Q (F0 m (pc + 3) ls rest)) : W p l e R s m args below meth c H locs cells slots Q (F0 m pc ls (.int x :: .ref a :: rest)) :=
  sg_put X hK hG hS ha (k := 3) (ci := 3) rfl (C := RX3) (T := TX3) (N := 3) rfl inL_X3 tyX3 tyX3_ok nmX3 2 (by decide) rfl hl (fun _ h => h) rfl (ty := .int) rfl rfl rfl hv hdg kk
theorem as_20a  {i : Int32} {x : Int32} {a1 a2 w1 w2 : Int} (X : CallFix p m c cc nL s args sg_tbl own) (hK : va_K D vwCl tys s) (hG : sgG (KA a1 a2 w1 w2 P) D vwCl A tys ad ks H) (hS : va_S A H0 H locs) (ha : isK ad ks 20 a) (hin : vp_in i 16) (hv : okV ad ks (.inl ((-2147483648), 2147483647)) (.int x)) (hdg : decode cc pc = .ok (.iastore, 1)) (kk : ∀ (H1 : Heap) (locs1 : List Loc), sgG (KA a1 a2 w1 w2 P) D vwCl A tys ad ks H1 → va_S A H0 H1 locs1 → sgFr (KA a1 a2 w1 w2 P) D vwCl ad ks H H1 (fun _ _ => False) → W p l e R s m args below meth c H1 locs1 cells slots Q (F0 m (pc + 1) ls rest)) : W p l e R s m args below meth c H locs cells slots Q (F0 m pc ls (.int x :: .int i :: .ref a :: rest)) :=
  sg_iast X hK hG hS ha (k := 20) rfl hin hv hdg kk
set_option maxHeartbeats 8000000 in
set_option maxRecDepth 100000 in
theorem m_X3_packed_v (l : Launch) {D : va_G} {base : Nat} {tys : List (ClassId × FieldType)} {ad ks : List Nat} {P : sgPm} {Hx : Heap} (x0 : Int32) (h0 : iv 0 3 x0) (x1 : Int32) (h1 : iv (-1) 29 x1) (x2 : Int32) (h2 : iv 0 1 x2) (x3 : Int32) (h3 : iv 0 5 x3) : sgPi l (KT P) D vwCl base tys ad ks Hx yX3_packed cX3_packed 4 (some .int) ({ frames := 0, cells := 0, slots := 0, locals := 0 }) [.int x0, .int x1, .int x2, .int x3] (fun r : Int32 => iv 0 1487 r) := by
  refine sg_ofP (Pq := fun Hx => va_Qi (fun r (_ : Unit) => (fun r : Int32 => iv 0 1487 r) r) (fun _ t => t.heap = Hx) (fun _ : Nat => False)) (by decide +kernel) (Nat.le_of_ble_eq_true rfl) (fun p e s m below meth c X hr hlk hb hK hC hG ls hl => ?_)
  have hS : va_S (fun _ : Nat => False) s.heap s.heap [] := va_S.rf
  have hl : lv_has ls 4 [(0, .int x0), (1, .int x1), (2, .int x2), (3, .int x3)] := hl
  refine lv_iload_n X.1 X.2.1 dX3_packed_0 rfl (lv_at hl 0 rfl) ?_
  refine lv_bipush (v := 31) X.1 X.2.1 dX3_packed_1 (by decide +kernel) ?_
  refine lv_imul X.1 X.2.1 dX3_packed_3 ?_
  refine lv_topi (fun f1 ef1 => ?_)
  have xf1 : f1.toInt = (x0.toInt * 31) := sg_exmul ef1 h0 (iv_c 31 (a := 31) (b := 31) (by decide +kernel)) (by decide +kernel) rfl (by decide +kernel)
  refine lv_iload_n X.1 X.2.1 dX3_packed_4 rfl (lv_at hl 1 rfl) ?_
  refine lv_iadd X.1 X.2.1 dX3_packed_5 ?_
  refine lv_topi (fun f2 ef2 => ?_)
  have xf2 : f2.toInt = ((x0.toInt * 31) + x1.toInt) := sg_exadd ef2 (iv_mul (a' := 0) (b' := 93) ef1 h0 (iv_c 31 (a := 31) (b := 31) (by decide +kernel)) (by decide +kernel)) h1 (by decide +kernel) xf1 rfl
  refine lv_iconst (v := 1) X.1 X.2.1 dX3_packed_6 (by decide +kernel) ?_
  refine lv_iadd X.1 X.2.1 dX3_packed_7 ?_
  refine lv_topi (fun f3 ef3 => ?_)
  have xf3 : f3.toInt = (((x0.toInt * 31) + x1.toInt) + 1) := sg_exadd ef3 (iv_add (a' := (-1)) (b' := 122) ef2 (iv_mul (a' := 0) (b' := 93) ef1 h0 (iv_c 31 (a := 31) (b := 31) (by decide +kernel)) (by decide +kernel)) h1 (by decide +kernel)) (iv_c 1 (a := 1) (b := 1) (by decide +kernel)) (by decide +kernel) xf2 (by decide +kernel)
  refine lv_iconst (v := 2) X.1 X.2.1 dX3_packed_8 (by decide +kernel) ?_
  refine lv_imul X.1 X.2.1 dX3_packed_9 ?_
  refine lv_topi (fun f4 ef4 => ?_)
  have xf4 : f4.toInt = ((((x0.toInt * 31) + x1.toInt) + 1) * 2) := sg_exmul ef4 (iv_add (a' := 0) (b' := 123) ef3 (iv_add (a' := (-1)) (b' := 122) ef2 (iv_mul (a' := 0) (b' := 93) ef1 h0 (iv_c 31 (a := 31) (b := 31) (by decide +kernel)) (by decide +kernel)) h1 (by decide +kernel)) (iv_c 1 (a := 1) (b := 1) (by decide +kernel)) (by decide +kernel)) (iv_c 2 (a := 2) (b := 2) (by decide +kernel)) (by decide +kernel) xf3 (by decide +kernel)
  refine lv_iload_n X.1 X.2.1 dX3_packed_10 rfl (lv_at hl 2 rfl) ?_
  refine lv_iadd X.1 X.2.1 dX3_packed_11 ?_
  refine lv_topi (fun f5 ef5 => ?_)
  have xf5 : f5.toInt = (((((x0.toInt * 31) + x1.toInt) + 1) * 2) + x2.toInt) := sg_exadd ef5 (iv_mul (a' := 0) (b' := 246) ef4 (iv_add (a' := 0) (b' := 123) ef3 (iv_add (a' := (-1)) (b' := 122) ef2 (iv_mul (a' := 0) (b' := 93) ef1 h0 (iv_c 31 (a := 31) (b := 31) (by decide +kernel)) (by decide +kernel)) h1 (by decide +kernel)) (iv_c 1 (a := 1) (b := 1) (by decide +kernel)) (by decide +kernel)) (iv_c 2 (a := 2) (b := 2) (by decide +kernel)) (by decide +kernel)) h2 (by decide +kernel) xf4 rfl
  refine lv_bipush (v := 6) X.1 X.2.1 dX3_packed_12 (by decide +kernel) ?_
  refine lv_imul X.1 X.2.1 dX3_packed_14 ?_
  refine lv_topi (fun f6 ef6 => ?_)
  have xf6 : f6.toInt = ((((((x0.toInt * 31) + x1.toInt) + 1) * 2) + x2.toInt) * 6) := sg_exmul ef6 (iv_add (a' := 0) (b' := 247) ef5 (iv_mul (a' := 0) (b' := 246) ef4 (iv_add (a' := 0) (b' := 123) ef3 (iv_add (a' := (-1)) (b' := 122) ef2 (iv_mul (a' := 0) (b' := 93) ef1 h0 (iv_c 31 (a := 31) (b := 31) (by decide +kernel)) (by decide +kernel)) h1 (by decide +kernel)) (iv_c 1 (a := 1) (b := 1) (by decide +kernel)) (by decide +kernel)) (iv_c 2 (a := 2) (b := 2) (by decide +kernel)) (by decide +kernel)) h2 (by decide +kernel)) (iv_c 6 (a := 6) (b := 6) (by decide +kernel)) (by decide +kernel) xf5 (by decide +kernel)
  refine lv_iload_n X.1 X.2.1 dX3_packed_15 rfl (lv_at hl 3 rfl) ?_
  refine lv_iadd X.1 X.2.1 dX3_packed_16 ?_
  refine lv_topi (fun f7 ef7 => ?_)
  have xf7 : f7.toInt = (((((((x0.toInt * 31) + x1.toInt) + 1) * 2) + x2.toInt) * 6) + x3.toInt) := sg_exadd ef7 (iv_mul (a' := 0) (b' := 1482) ef6 (iv_add (a' := 0) (b' := 247) ef5 (iv_mul (a' := 0) (b' := 246) ef4 (iv_add (a' := 0) (b' := 123) ef3 (iv_add (a' := (-1)) (b' := 122) ef2 (iv_mul (a' := 0) (b' := 93) ef1 h0 (iv_c 31 (a := 31) (b := 31) (by decide +kernel)) (by decide +kernel)) h1 (by decide +kernel)) (iv_c 1 (a := 1) (b := 1) (by decide +kernel)) (by decide +kernel)) (iv_c 2 (a := 2) (b := 2) (by decide +kernel)) (by decide +kernel)) h2 (by decide +kernel)) (iv_c 6 (a := 6) (b := 6) (by decide +kernel)) (by decide +kernel)) h3 (by decide +kernel) xf6 rfl
  exact sg_iretP X hr hlk hS (iv_add (a' := 0) (b' := 1487) ef7 (iv_mul (a' := 0) (b' := 1482) ef6 (iv_add (a' := 0) (b' := 247) ef5 (iv_mul (a' := 0) (b' := 246) ef4 (iv_add (a' := 0) (b' := 123) ef3 (iv_add (a' := (-1)) (b' := 122) ef2 (iv_mul (a' := 0) (b' := 93) ef1 h0 (iv_c 31 (a := 31) (b := 31) (by decide +kernel)) (by decide +kernel)) h1 (by decide +kernel)) (iv_c 1 (a := 1) (b := 1) (by decide +kernel)) (by decide +kernel)) (iv_c 2 (a := 2) (b := 2) (by decide +kernel)) (by decide +kernel)) h2 (by decide +kernel)) (iv_c 6 (a := 6) (b := 6) (by decide +kernel)) (by decide +kernel)) h3 (by decide +kernel)) dX3_packed_17

theorem ca_X3_packed_v   (X : CallFix p m c cc nL s args sg_tbl own) (hK : va_K D vwCl tys s) (hG : sgG (KT P) D vwCl (fun q : Nat => base ≤ q) tys ad ks H) (hC : sgC base s) (hA : ∀ q : Nat, A q → base ≤ q) (hS : va_S A s.heap H locs) (hb : base ≤ s.heap.size) (x0 : Int32) (h0 : iv 0 3 x0) (x1 : Int32) (h1 : iv (-1) 29 x1) (x2 : Int32) (h2 : iv 0 1 x2) (x3 : Int32) (h3 : iv 0 5 x3) (hl : Cond.methodLink own index yX3_packed ∈ sg_tbl) (hsize : ls.size = nL) (hst : st0 = [.int x0, .int x1, .int x2, .int x3].reverse ++ rest) (hW : (rest.map fun v => v.category).sum ≤ 8) (hR : 1 ≤ R.frames ∧ 23 ≤ R.locals) (hf : cells ≤ R.cells ∧ slots ≤ R.slots) (hdg : decode cc pc = .ok (.invokestatic index, 3)) (kk : ∀ (r : Int32) (locs1 : List Loc), (fun r : Int32 => iv 0 1487 r) r → va_S A s.heap H locs1 → W p l e R s m args below meth c H locs1 cells slots Q (F0 m (pc + 3) ls (.int r :: rest))) : W p l e R s m args below meth c H locs cells slots Q (F0 m pc ls st0) :=
  sg_callPSi X hK hG hC hA hS hb (m_X3_packed_v l x0 h0 x1 h1 x2 h2 x3 h3) wl_4_28 wl_1_4 wl_4_27 (n := 4) (by decide +kernel) rfl rfl rfl hl hsize hst hW hR hf hdg kk

set_option maxHeartbeats 8000000 in
set_option maxRecDepth 100000 in
theorem m_X3_readCut_v (l : Launch) {D : va_G} {base : Nat} {tys : List (ClassId × FieldType)} {ad ks : List Nat} {P : sgPm}{a w1 w2 : Int}  (a0 : Nat) (h0 : isK ad ks 10 a0) (x1 : Int32) (h1 : iv 0 29 x1) (hl0 : 0 ≤ sgL1 P ∧ sgL1 P ≤ 240) (hav : 0 ≤ a ∧ a ≤ sgL1 P) (hby : ∀ j : Nat, (↑j : Int) < sgL1 P → 1 ≤ sgT1 P j ∧ sgT1 P j ≤ 255) : Met l yX3_readCut (Cond.code yX3_readCut cX3_readCut 4 (some .int) :: sg_tbl) ({ frames := 2, cells := 0, slots := 0, locals := 34 }) (va_Pc [.ref a0, .int x1] (sgB (KA a a w1 w2 P) D vwCl base tys ad ks)) (va_Qi (fun r (u : Int32) => u = r ∧ (fun r : Int32 => True) r) (fun u t => (0 ≤ u.toInt ∧ u.toInt ≤ 1487 ∧ ∃ a1 : Int, vCut (sgT1 P) (sgL1 P) a = (true, a1) ∧ a + 1 ≤ a1 ∧ a1 ≤ sgL1 P ∧ sgB (KA a1 a1 w1 w2 P) D vwCl base tys ad ks t) ∨ (u = -1 ∧ ∃ w : Int, vCut (sgT1 P) (sgL1 P) a = (false, w) ∧ sgB (KA 0 240 w w P) D vwCl base tys ad ks t)) (fun q : Nat => base ≤ q)) 0 0 (fun q : Nat => base ≤ q) := by
  refine sg_ofW (by decide +kernel) (Nat.le_of_ble_eq_true rfl) (fun p e s m below meth c X hr hlk hb hK hC hG ls hl => ?_)
  have hS : va_S (fun q : Nat => base ≤ q) s.heap s.heap [] := va_S.rf
  have hl : lv_has ls 4 [(0, .ref a0), (1, .int x1)] := hl
  refine lv_aload_n X.1 X.2.1 dX3_readCut_0 rfl (lv_at hl 0 rfl) ?_
  refine ca_X10_sign_v X hK hG hC (fun _ h => h) hS hb a0 h0 hl0 hav wl_4_23 hl.1 (rest := []) rfl (Nat.le_of_ble_eq_true rfl) ⟨Nat.le_of_ble_eq_true rfl, Nat.le_of_ble_eq_true rfl⟩ ⟨Nat.le_of_ble_eq_true rfl, Nat.le_of_ble_eq_true rfl⟩ dX3_readCut_1 (fun f1 locs hf1 hS => ?_)
  have yf1 : iv 0 255 f1 := vq_255 hf1 hby
  refine lv_istore_n (lv' := [(2, .int f1), (0, .ref a0), (1, .int x1)]) X.1 X.2.1 dX3_readCut_4 rfl hl (by decide) rfl (fun ls hl => ?_)
  refine lv_iload_n X.1 X.2.1 dX3_readCut_5 rfl (lv_at hl 0 rfl) ?_
  refine lv_bipush (v := 114) X.1 X.2.1 dX3_readCut_6 (by decide +kernel) ?_
  refine lv_icmp_eq (tgt := 24) X.1 X.2.1 dX3_readCut_8 (by decide) (fun c2 => ?_) (fun c2 => ?_)
  · have i3 : vC (sgT1 P) (sgL1 P) a = (114 : Int) := vq_eq c2 hf1 (by decide +kernel)
    refine lv_aload_n X.1 X.2.1 dX3_readCut_24 rfl (lv_at hl 1 rfl) ?_
    refine ca_X10_step_v X hK hG hC hS hb a0 h0 hl0 (vC_lt (b := sgT1 P) (by rw [i3]; decide)) wl_4_25 hl.1 (rest := []) rfl (Nat.le_of_ble_eq_true rfl) ⟨Nat.le_of_ble_eq_true rfl, Nat.le_of_ble_eq_true rfl⟩ ⟨Nat.le_of_ble_eq_true rfl, Nat.le_of_ble_eq_true rfl⟩ dX3_readCut_25 (fun tg5 H locs htg5 hWg5 hS => ?_)
    have b6 := vC_lt (b := sgT1 P) (n := sgL1 P) (a := a) (by rw [i3]; decide)
    have bb6 := vq_bdX (b := sgT1 P) b6
    have pb6 : a + 1 ≤ vX (sgT1 P) (sgL1 P) (a + 1) := vq_pg (vq_pg0 a) (m := 1) (vX_ge (sgT1 P) (sgL1 P) (a + 1)).1 (by decide)
    have hG := hWg5.2.2.2
    rw [htg5] at hG
    refine lv_aload_n X.1 X.2.1 dX3_readCut_28 rfl (lv_at hl 1 rfl) ?_
    refine ca_X10_sign_v X hK hG hC (fun _ h => h) hS hb a0 h0 hl0 bb6 wl_4_23 hl.1 (rest := []) rfl (Nat.le_of_ble_eq_true rfl) ⟨Nat.le_of_ble_eq_true rfl, Nat.le_of_ble_eq_true rfl⟩ ⟨Nat.le_of_ble_eq_true rfl, Nat.le_of_ble_eq_true rfl⟩ dX3_readCut_29 (fun f7 locs hf7 hS => ?_)
    have yf7 : iv 0 255 f7 := vq_255 hf7 hby
    refine lv_bipush (v := 48) X.1 X.2.1 dX3_readCut_32 (by decide +kernel) ?_
    refine lv_isub X.1 X.2.1 dX3_readCut_34 ?_
    refine lv_topi (fun f8 ef8 => ?_)
    have xf8 : f8.toInt = (vC (sgT1 P) (sgL1 P) (vX (sgT1 P) (sgL1 P) (a + 1)) - 48) := sg_exsub ef8 yf7 (iv_c 48 (a := 48) (b := 48) (by decide +kernel)) (by decide +kernel) hf7 (by decide +kernel)
    refine lv_istore_n (lv' := [(3, .int f8), (2, .int f1), (0, .ref a0), (1, .int x1)]) X.1 X.2.1 dX3_readCut_35 rfl hl (by decide) rfl (fun ls hl => ?_)
    refine lv_iload_n X.1 X.2.1 dX3_readCut_36 rfl (lv_at hl 0 rfl) ?_
    refine lv_iconst (v := 1) X.1 X.2.1 dX3_readCut_37 (by decide +kernel) ?_
    refine lv_icmp_lt (tgt := 46) X.1 X.2.1 dX3_readCut_38 (by decide) (fun c9 => ?_) (fun c9 => ?_)
    · have i10 : (vC (sgT1 P) (sgL1 P) (vX (sgT1 P) (sgL1 P) (a + 1)) - 48) < (1 : Int) := vq_lt c9 xf8 (by decide +kernel)
      refine lv_aload_n X.1 X.2.1 dX3_readCut_46 rfl (lv_at hl 2 rfl) ?_
      refine ca_X10_wrong_v X hK hG hC hS hb a0 h0 hl0 bb6 wl_4_24 hl.1 (rest := []) rfl (Nat.le_of_ble_eq_true rfl) ⟨Nat.le_of_ble_eq_true rfl, Nat.le_of_ble_eq_true rfl⟩ ⟨Nat.le_of_ble_eq_true rfl, Nat.le_of_ble_eq_true rfl⟩ dX3_readCut_47 (fun f12 tf12 H locs htf12 hf12 hWf12 hS => ?_)
      have hG := hWf12.2.2.2
      rw [htf12] at hG
      obtain rfl : f12 = 0 := sg_is0 hf12
      refine lv_pop X.1 X.2.1 dX3_readCut_50 rfl ?_
      refine lv_iconst (v := (-1)) X.1 X.2.1 dX3_readCut_51 (by decide +kernel) ?_
      have spr : vCut (sgT1 P) (sgL1 P) a = (false, (vX (sgT1 P) (sgL1 P) (a + 1))) := by simp only [vCut, vCut1, i3, i10, cond_true, cond_false, vB_t, vB_f, if_true, if_false, eq_self, not_true_eq_false, not_false_eq_true, Int.reduceEq, Int.reduceLT, or_false, false_or, or_true, true_or]
      have hG := ka_weak (b1 := 0) (b2 := 240) (c1 := (vX (sgT1 P) (sgL1 P) (a + 1))) (c2 := (vX (sgT1 P) (sgL1 P) (a + 1))) hG (bb6).1 (Int.le_trans (bb6).2 hl0.2) (Int.le_refl _) (Int.le_refl _)
      exact sg_iret2 X hr hlk hS trivial (fun t ht hW => (Or.inr ⟨rfl, _, spr, sg_post hb hK hC hG hS ht hW⟩)) dX3_readCut_52
    · have i11 : ¬ (vC (sgT1 P) (sgL1 P) (vX (sgT1 P) (sgL1 P) (a + 1)) - 48) < (1 : Int) := vq_le (iv_ge_of c9) (by decide +kernel) xf8
      refine lv_iload_n X.1 X.2.1 dX3_readCut_41 rfl (lv_at hl 0 rfl) ?_
      refine lv_iconst (v := 5) X.1 X.2.1 dX3_readCut_42 (by decide +kernel) ?_
      refine lv_icmp_le (tgt := 53) X.1 X.2.1 dX3_readCut_43 (by decide) (fun c13 => ?_) (fun c13 => ?_)
      · have i14 : ¬ (5 : Int) < (vC (sgT1 P) (sgL1 P) (vX (sgT1 P) (sgL1 P) (a + 1)) - 48) := vq_le c13 xf8 (by decide +kernel)
        refine lv_aload_n X.1 X.2.1 dX3_readCut_53 rfl (lv_at hl 2 rfl) ?_
        refine ca_X10_step_v X hK hG hC hS hb a0 h0 hl0 (vC_lt (b := sgT1 P) (by omega)) wl_4_25 hl.1 (rest := []) rfl (Nat.le_of_ble_eq_true rfl) ⟨Nat.le_of_ble_eq_true rfl, Nat.le_of_ble_eq_true rfl⟩ ⟨Nat.le_of_ble_eq_true rfl, Nat.le_of_ble_eq_true rfl⟩ dX3_readCut_54 (fun tg16 H locs htg16 hWg16 hS => ?_)
        have b17 := vC_lt (b := sgT1 P) (n := sgL1 P) (a := (vX (sgT1 P) (sgL1 P) (a + 1))) (by omega)
        have bb17 := vq_bdX (b := sgT1 P) b17
        have pb17 : a + 2 ≤ vX (sgT1 P) (sgL1 P) ((vX (sgT1 P) (sgL1 P) (a + 1)) + 1) := vq_pg pb6 (m := 1) (vX_ge (sgT1 P) (sgL1 P) ((vX (sgT1 P) (sgL1 P) (a + 1)) + 1)).1 (by decide)
        have hG := hWg16.2.2.2
        rw [htg16] at hG
        refine lv_iconst (v := 1) X.1 X.2.1 dX3_readCut_57 (by decide +kernel) ?_
        refine lv_iload_n X.1 X.2.1 dX3_readCut_58 rfl (lv_at hl 3 rfl) ?_
        refine lv_iload_n X.1 X.2.1 dX3_readCut_59 rfl (lv_at hl 1 rfl) ?_
        refine lv_bipush (v := 100) X.1 X.2.1 dX3_readCut_60 (by decide +kernel) ?_
        refine lv_icmp_ne (tgt := 69) X.1 X.2.1 dX3_readCut_62 (by decide) (fun c18 => ?_) (fun c18 => ?_)
        · have i19 : (vC (sgT1 P) (sgL1 P) a = (100 : Int)) = False := vq_ne c18 hf1 (by decide +kernel)
          refine lv_iconst (v := 0) X.1 X.2.1 dX3_readCut_69 (by decide +kernel) ?_
          refine lv_iload_n X.1 X.2.1 dX3_readCut_70 rfl (lv_at hl 0 rfl) ?_
          refine ca_X3_packed_v X hK (ka_toKT hG (bb17).1 (Int.le_trans (bb17).2 hl0.2)) hC (fun _ h => h) hS hb 1 (iv_of (iv_c 1 (a := 1) (b := 1) (by decide +kernel)) (a' := 0) (b' := 3) (by decide +kernel)) x1 (iv_of h1 (a' := (-1)) (b' := 29) (by decide +kernel)) 0 (iv_of (iv_c 0 (a := 0) (b := 0) (by decide +kernel)) (a' := 0) (b' := 1) (by decide +kernel)) f8 (iv_of (iv_le (b' := 5) c13 (iv_ler (c' := 1) (iv_ge_of c9) (iv_c 1 (a := 1) (b := 1) (by decide +kernel)) (iv_sub (a' := (-48)) (b' := 207) ef8 yf7 (iv_c 48 (a := 48) (b := 48) (by decide +kernel)) (by decide +kernel)) (by decide +kernel)) (iv_c 5 (a := 5) (b := 5) (by decide +kernel)) (by decide +kernel)) (a' := 0) (b' := 5) (by decide +kernel)) wl_4_26 hl.1 (rest := []) rfl (Nat.le_of_ble_eq_true rfl) ⟨Nat.le_of_ble_eq_true rfl, Nat.le_of_ble_eq_true rfl⟩ ⟨Nat.le_of_ble_eq_true rfl, Nat.le_of_ble_eq_true rfl⟩ dX3_readCut_71 (fun f21 locs hf21 hS => ?_)
          have spr : vCut (sgT1 P) (sgL1 P) a = (true, (vX (sgT1 P) (sgL1 P) ((vX (sgT1 P) (sgL1 P) (a + 1)) + 1))) := by simp only [vCut, vCut1, i3, i11, i14, i19, cond_true, cond_false, vB_t, vB_f, if_true, if_false, eq_self, not_true_eq_false, not_false_eq_true, Int.reduceEq, Int.reduceLT, or_false, false_or, or_true, true_or]
          have hv8 : iv 0 1487 f21 := hf21
          exact sg_iret2 X hr hlk hS trivial (fun t ht hW => (Or.inl ⟨hv8.1, hv8.2, _, spr, vq_pgw pb17 (by decide), (bb17).2, sg_post hb hK hC hG hS ht hW⟩)) dX3_readCut_74
        · have i20 : vC (sgT1 P) (sgL1 P) a = (100 : Int) := vq_eq c18 hf1 (by decide +kernel)
          exact ((iv_no (a := 114) (b := 100) (iv_eqm c18 (iv_eqm (a' := 114) (b' := 114) c2 yf1 (iv_c 114 (a := 114) (b := 114) (by decide +kernel)) (by decide +kernel)) (iv_c 100 (a := 100) (b := 100) (by decide +kernel)) (by decide +kernel)) (by decide +kernel))).elim
      · have i15 : (5 : Int) < (vC (sgT1 P) (sgL1 P) (vX (sgT1 P) (sgL1 P) (a + 1)) - 48) := vq_lt (iv_gt_of c13) (by decide +kernel) xf8
        refine lv_aload_n X.1 X.2.1 dX3_readCut_46 rfl (lv_at hl 2 rfl) ?_
        refine ca_X10_wrong_v X hK hG hC hS hb a0 h0 hl0 bb6 wl_4_24 hl.1 (rest := []) rfl (Nat.le_of_ble_eq_true rfl) ⟨Nat.le_of_ble_eq_true rfl, Nat.le_of_ble_eq_true rfl⟩ ⟨Nat.le_of_ble_eq_true rfl, Nat.le_of_ble_eq_true rfl⟩ dX3_readCut_47 (fun f22 tf22 H locs htf22 hf22 hWf22 hS => ?_)
        have hG := hWf22.2.2.2
        rw [htf22] at hG
        obtain rfl : f22 = 0 := sg_is0 hf22
        refine lv_pop X.1 X.2.1 dX3_readCut_50 rfl ?_
        refine lv_iconst (v := (-1)) X.1 X.2.1 dX3_readCut_51 (by decide +kernel) ?_
        have spr : vCut (sgT1 P) (sgL1 P) a = (false, (vX (sgT1 P) (sgL1 P) (a + 1))) := by simp only [vCut, vCut1, i3, i11, i15, cond_true, cond_false, vB_t, vB_f, if_true, if_false, eq_self, not_true_eq_false, not_false_eq_true, Int.reduceEq, Int.reduceLT, or_false, false_or, or_true, true_or]
        have hG := ka_weak (b1 := 0) (b2 := 240) (c1 := (vX (sgT1 P) (sgL1 P) (a + 1))) (c2 := (vX (sgT1 P) (sgL1 P) (a + 1))) hG (bb6).1 (Int.le_trans (bb6).2 hl0.2) (Int.le_refl _) (Int.le_refl _)
        exact sg_iret2 X hr hlk hS trivial (fun t ht hW => (Or.inr ⟨rfl, _, spr, sg_post hb hK hC hG hS ht hW⟩)) dX3_readCut_52
  · have i4 : (vC (sgT1 P) (sgL1 P) a = (114 : Int)) = False := vq_ne c2 hf1 (by decide +kernel)
    refine lv_iload_n X.1 X.2.1 dX3_readCut_11 rfl (lv_at hl 0 rfl) ?_
    refine lv_bipush (v := 100) X.1 X.2.1 dX3_readCut_12 (by decide +kernel) ?_
    refine lv_icmp_eq (tgt := 24) X.1 X.2.1 dX3_readCut_14 (by decide) (fun c23 => ?_) (fun c23 => ?_)
    · have i24 : vC (sgT1 P) (sgL1 P) a = (100 : Int) := vq_eq c23 hf1 (by decide +kernel)
      refine lv_aload_n X.1 X.2.1 dX3_readCut_24 rfl (lv_at hl 1 rfl) ?_
      refine ca_X10_step_v X hK hG hC hS hb a0 h0 hl0 (vC_lt (b := sgT1 P) (by rw [i24]; decide)) wl_4_25 hl.1 (rest := []) rfl (Nat.le_of_ble_eq_true rfl) ⟨Nat.le_of_ble_eq_true rfl, Nat.le_of_ble_eq_true rfl⟩ ⟨Nat.le_of_ble_eq_true rfl, Nat.le_of_ble_eq_true rfl⟩ dX3_readCut_25 (fun tg26 H locs htg26 hWg26 hS => ?_)
      have b27 := vC_lt (b := sgT1 P) (n := sgL1 P) (a := a) (by rw [i24]; decide)
      have bb27 := vq_bdX (b := sgT1 P) b27
      have pb27 : a + 1 ≤ vX (sgT1 P) (sgL1 P) (a + 1) := vq_pg (vq_pg0 a) (m := 1) (vX_ge (sgT1 P) (sgL1 P) (a + 1)).1 (by decide)
      have hG := hWg26.2.2.2
      rw [htg26] at hG
      refine lv_aload_n X.1 X.2.1 dX3_readCut_28 rfl (lv_at hl 1 rfl) ?_
      refine ca_X10_sign_v X hK hG hC (fun _ h => h) hS hb a0 h0 hl0 bb27 wl_4_23 hl.1 (rest := []) rfl (Nat.le_of_ble_eq_true rfl) ⟨Nat.le_of_ble_eq_true rfl, Nat.le_of_ble_eq_true rfl⟩ ⟨Nat.le_of_ble_eq_true rfl, Nat.le_of_ble_eq_true rfl⟩ dX3_readCut_29 (fun f28 locs hf28 hS => ?_)
      have yf28 : iv 0 255 f28 := vq_255 hf28 hby
      refine lv_bipush (v := 48) X.1 X.2.1 dX3_readCut_32 (by decide +kernel) ?_
      refine lv_isub X.1 X.2.1 dX3_readCut_34 ?_
      refine lv_topi (fun f29 ef29 => ?_)
      have xf29 : f29.toInt = (vC (sgT1 P) (sgL1 P) (vX (sgT1 P) (sgL1 P) (a + 1)) - 48) := sg_exsub ef29 yf28 (iv_c 48 (a := 48) (b := 48) (by decide +kernel)) (by decide +kernel) hf28 (by decide +kernel)
      refine lv_istore_n (lv' := [(3, .int f29), (2, .int f1), (0, .ref a0), (1, .int x1)]) X.1 X.2.1 dX3_readCut_35 rfl hl (by decide) rfl (fun ls hl => ?_)
      refine lv_iload_n X.1 X.2.1 dX3_readCut_36 rfl (lv_at hl 0 rfl) ?_
      refine lv_iconst (v := 1) X.1 X.2.1 dX3_readCut_37 (by decide +kernel) ?_
      refine lv_icmp_lt (tgt := 46) X.1 X.2.1 dX3_readCut_38 (by decide) (fun c30 => ?_) (fun c30 => ?_)
      · have i31 : (vC (sgT1 P) (sgL1 P) (vX (sgT1 P) (sgL1 P) (a + 1)) - 48) < (1 : Int) := vq_lt c30 xf29 (by decide +kernel)
        refine lv_aload_n X.1 X.2.1 dX3_readCut_46 rfl (lv_at hl 2 rfl) ?_
        refine ca_X10_wrong_v X hK hG hC hS hb a0 h0 hl0 bb27 wl_4_24 hl.1 (rest := []) rfl (Nat.le_of_ble_eq_true rfl) ⟨Nat.le_of_ble_eq_true rfl, Nat.le_of_ble_eq_true rfl⟩ ⟨Nat.le_of_ble_eq_true rfl, Nat.le_of_ble_eq_true rfl⟩ dX3_readCut_47 (fun f33 tf33 H locs htf33 hf33 hWf33 hS => ?_)
        have hG := hWf33.2.2.2
        rw [htf33] at hG
        obtain rfl : f33 = 0 := sg_is0 hf33
        refine lv_pop X.1 X.2.1 dX3_readCut_50 rfl ?_
        refine lv_iconst (v := (-1)) X.1 X.2.1 dX3_readCut_51 (by decide +kernel) ?_
        have spr : vCut (sgT1 P) (sgL1 P) a = (false, (vX (sgT1 P) (sgL1 P) (a + 1))) := by simp only [vCut, vCut1, i4, i24, i31, cond_true, cond_false, vB_t, vB_f, if_true, if_false, eq_self, not_true_eq_false, not_false_eq_true, Int.reduceEq, Int.reduceLT, or_false, false_or, or_true, true_or]
        have hG := ka_weak (b1 := 0) (b2 := 240) (c1 := (vX (sgT1 P) (sgL1 P) (a + 1))) (c2 := (vX (sgT1 P) (sgL1 P) (a + 1))) hG (bb27).1 (Int.le_trans (bb27).2 hl0.2) (Int.le_refl _) (Int.le_refl _)
        exact sg_iret2 X hr hlk hS trivial (fun t ht hW => (Or.inr ⟨rfl, _, spr, sg_post hb hK hC hG hS ht hW⟩)) dX3_readCut_52
      · have i32 : ¬ (vC (sgT1 P) (sgL1 P) (vX (sgT1 P) (sgL1 P) (a + 1)) - 48) < (1 : Int) := vq_le (iv_ge_of c30) (by decide +kernel) xf29
        refine lv_iload_n X.1 X.2.1 dX3_readCut_41 rfl (lv_at hl 0 rfl) ?_
        refine lv_iconst (v := 5) X.1 X.2.1 dX3_readCut_42 (by decide +kernel) ?_
        refine lv_icmp_le (tgt := 53) X.1 X.2.1 dX3_readCut_43 (by decide) (fun c34 => ?_) (fun c34 => ?_)
        · have i35 : ¬ (5 : Int) < (vC (sgT1 P) (sgL1 P) (vX (sgT1 P) (sgL1 P) (a + 1)) - 48) := vq_le c34 xf29 (by decide +kernel)
          refine lv_aload_n X.1 X.2.1 dX3_readCut_53 rfl (lv_at hl 2 rfl) ?_
          refine ca_X10_step_v X hK hG hC hS hb a0 h0 hl0 (vC_lt (b := sgT1 P) (by omega)) wl_4_25 hl.1 (rest := []) rfl (Nat.le_of_ble_eq_true rfl) ⟨Nat.le_of_ble_eq_true rfl, Nat.le_of_ble_eq_true rfl⟩ ⟨Nat.le_of_ble_eq_true rfl, Nat.le_of_ble_eq_true rfl⟩ dX3_readCut_54 (fun tg37 H locs htg37 hWg37 hS => ?_)
          have b38 := vC_lt (b := sgT1 P) (n := sgL1 P) (a := (vX (sgT1 P) (sgL1 P) (a + 1))) (by omega)
          have bb38 := vq_bdX (b := sgT1 P) b38
          have pb38 : a + 2 ≤ vX (sgT1 P) (sgL1 P) ((vX (sgT1 P) (sgL1 P) (a + 1)) + 1) := vq_pg pb27 (m := 1) (vX_ge (sgT1 P) (sgL1 P) ((vX (sgT1 P) (sgL1 P) (a + 1)) + 1)).1 (by decide)
          have hG := hWg37.2.2.2
          rw [htg37] at hG
          refine lv_iconst (v := 1) X.1 X.2.1 dX3_readCut_57 (by decide +kernel) ?_
          refine lv_iload_n X.1 X.2.1 dX3_readCut_58 rfl (lv_at hl 3 rfl) ?_
          refine lv_iload_n X.1 X.2.1 dX3_readCut_59 rfl (lv_at hl 1 rfl) ?_
          refine lv_bipush (v := 100) X.1 X.2.1 dX3_readCut_60 (by decide +kernel) ?_
          refine lv_icmp_ne (tgt := 69) X.1 X.2.1 dX3_readCut_62 (by decide) (fun c39 => ?_) (fun c39 => ?_)
          · have i40 : (vC (sgT1 P) (sgL1 P) a = (100 : Int)) = False := vq_ne c39 hf1 (by decide +kernel)
            exact ((c39 (iv_one (iv_eqm (a' := 100) (b' := 100) c23 yf1 (iv_c 100 (a := 100) (b := 100) (by decide +kernel)) (by decide +kernel)) (iv_c 100 (a := 100) (b := 100) (by decide +kernel)) (by decide +kernel)))).elim
          · have i41 : vC (sgT1 P) (sgL1 P) a = (100 : Int) := vq_eq c39 hf1 (by decide +kernel)
            refine lv_iconst (v := 1) X.1 X.2.1 dX3_readCut_65 (by decide +kernel) ?_
            refine lv_goto (tgt := 70) X.1 X.2.1 dX3_readCut_66 (by decide) ?_
            refine lv_iload_n X.1 X.2.1 dX3_readCut_70 rfl (lv_at hl 0 rfl) ?_
            refine ca_X3_packed_v X hK (ka_toKT hG (bb38).1 (Int.le_trans (bb38).2 hl0.2)) hC (fun _ h => h) hS hb 1 (iv_of (iv_c 1 (a := 1) (b := 1) (by decide +kernel)) (a' := 0) (b' := 3) (by decide +kernel)) x1 (iv_of h1 (a' := (-1)) (b' := 29) (by decide +kernel)) 1 (iv_of (iv_c 1 (a := 1) (b := 1) (by decide +kernel)) (a' := 0) (b' := 1) (by decide +kernel)) f29 (iv_of (iv_le (b' := 5) c34 (iv_ler (c' := 1) (iv_ge_of c30) (iv_c 1 (a := 1) (b := 1) (by decide +kernel)) (iv_sub (a' := (-48)) (b' := 207) ef29 yf28 (iv_c 48 (a := 48) (b := 48) (by decide +kernel)) (by decide +kernel)) (by decide +kernel)) (iv_c 5 (a := 5) (b := 5) (by decide +kernel)) (by decide +kernel)) (a' := 0) (b' := 5) (by decide +kernel)) wl_4_26 hl.1 (rest := []) rfl (Nat.le_of_ble_eq_true rfl) ⟨Nat.le_of_ble_eq_true rfl, Nat.le_of_ble_eq_true rfl⟩ ⟨Nat.le_of_ble_eq_true rfl, Nat.le_of_ble_eq_true rfl⟩ dX3_readCut_71 (fun f42 locs hf42 hS => ?_)
            have spr : vCut (sgT1 P) (sgL1 P) a = (true, (vX (sgT1 P) (sgL1 P) ((vX (sgT1 P) (sgL1 P) (a + 1)) + 1))) := by simp only [vCut, vCut1, i4, i24, i32, i35, i41, cond_true, cond_false, vB_t, vB_f, if_true, if_false, eq_self, not_true_eq_false, not_false_eq_true, Int.reduceEq, Int.reduceLT, or_false, false_or, or_true, true_or]
            have hv8 : iv 0 1487 f42 := hf42
            exact sg_iret2 X hr hlk hS trivial (fun t ht hW => (Or.inl ⟨hv8.1, hv8.2, _, spr, vq_pgw pb38 (by decide), (bb38).2, sg_post hb hK hC hG hS ht hW⟩)) dX3_readCut_74
        · have i36 : (5 : Int) < (vC (sgT1 P) (sgL1 P) (vX (sgT1 P) (sgL1 P) (a + 1)) - 48) := vq_lt (iv_gt_of c34) (by decide +kernel) xf29
          refine lv_aload_n X.1 X.2.1 dX3_readCut_46 rfl (lv_at hl 2 rfl) ?_
          refine ca_X10_wrong_v X hK hG hC hS hb a0 h0 hl0 bb27 wl_4_24 hl.1 (rest := []) rfl (Nat.le_of_ble_eq_true rfl) ⟨Nat.le_of_ble_eq_true rfl, Nat.le_of_ble_eq_true rfl⟩ ⟨Nat.le_of_ble_eq_true rfl, Nat.le_of_ble_eq_true rfl⟩ dX3_readCut_47 (fun f43 tf43 H locs htf43 hf43 hWf43 hS => ?_)
          have hG := hWf43.2.2.2
          rw [htf43] at hG
          obtain rfl : f43 = 0 := sg_is0 hf43
          refine lv_pop X.1 X.2.1 dX3_readCut_50 rfl ?_
          refine lv_iconst (v := (-1)) X.1 X.2.1 dX3_readCut_51 (by decide +kernel) ?_
          have spr : vCut (sgT1 P) (sgL1 P) a = (false, (vX (sgT1 P) (sgL1 P) (a + 1))) := by simp only [vCut, vCut1, i4, i24, i32, i36, cond_true, cond_false, vB_t, vB_f, if_true, if_false, eq_self, not_true_eq_false, not_false_eq_true, Int.reduceEq, Int.reduceLT, or_false, false_or, or_true, true_or]
          have hG := ka_weak (b1 := 0) (b2 := 240) (c1 := (vX (sgT1 P) (sgL1 P) (a + 1))) (c2 := (vX (sgT1 P) (sgL1 P) (a + 1))) hG (bb27).1 (Int.le_trans (bb27).2 hl0.2) (Int.le_refl _) (Int.le_refl _)
          exact sg_iret2 X hr hlk hS trivial (fun t ht hW => (Or.inr ⟨rfl, _, spr, sg_post hb hK hC hG hS ht hW⟩)) dX3_readCut_52
    · have i25 : (vC (sgT1 P) (sgL1 P) a = (100 : Int)) = False := vq_ne c23 hf1 (by decide +kernel)
      refine lv_aload_n X.1 X.2.1 dX3_readCut_17 rfl (lv_at hl 1 rfl) ?_
      refine ca_X10_wrong_v X hK hG hC hS hb a0 h0 hl0 hav wl_4_24 hl.1 (rest := []) rfl (Nat.le_of_ble_eq_true rfl) ⟨Nat.le_of_ble_eq_true rfl, Nat.le_of_ble_eq_true rfl⟩ ⟨Nat.le_of_ble_eq_true rfl, Nat.le_of_ble_eq_true rfl⟩ dX3_readCut_18 (fun f44 tf44 H locs htf44 hf44 hWf44 hS => ?_)
      have hG := hWf44.2.2.2
      rw [htf44] at hG
      obtain rfl : f44 = 0 := sg_is0 hf44
      refine lv_pop X.1 X.2.1 dX3_readCut_21 rfl ?_
      refine lv_iconst (v := (-1)) X.1 X.2.1 dX3_readCut_22 (by decide +kernel) ?_
      have spr : vCut (sgT1 P) (sgL1 P) a = (false, a) := by simp only [vCut, vCut1, i4, i25, cond_true, cond_false, vB_t, vB_f, if_true, if_false, eq_self, not_true_eq_false, not_false_eq_true, Int.reduceEq, Int.reduceLT, or_false, false_or, or_true, true_or]
      have hG := ka_weak (b1 := 0) (b2 := 240) (c1 := a) (c2 := a) hG (hav).1 (Int.le_trans (hav).2 hl0.2) (Int.le_refl _) (Int.le_refl _)
      exact sg_iret2 X hr hlk hS trivial (fun t ht hW => (Or.inr ⟨rfl, _, spr, sg_post hb hK hC hG hS ht hW⟩)) dX3_readCut_23

theorem ca_X3_readCut_v  {a w1 w2 : Int}  (X : CallFix p m c cc nL s args sg_tbl own) (hK : va_K D vwCl tys s) (hG : sgG (KA a a w1 w2 P) D vwCl (fun q : Nat => base ≤ q) tys ad ks H) (hC : sgC base s) (hS : va_S (fun q : Nat => base ≤ q) s.heap H locs) (hb : base ≤ s.heap.size) (a0 : Nat) (h0 : isK ad ks 10 a0) (x1 : Int32) (h1 : iv 0 29 x1) (hl0 : 0 ≤ sgL1 P ∧ sgL1 P ≤ 240) (hav : 0 ≤ a ∧ a ≤ sgL1 P) (hby : ∀ j : Nat, (↑j : Int) < sgL1 P → 1 ≤ sgT1 P j ∧ sgT1 P j ≤ 255) (hl : Cond.methodLink own index yX3_readCut ∈ sg_tbl) (hsize : ls.size = nL) (hst : st0 = [.ref a0, .int x1].reverse ++ rest) (hW : (rest.map fun v => v.category).sum ≤ 8) (hR : 3 ≤ R.frames ∧ 57 ≤ R.locals) (hf : cells ≤ R.cells ∧ slots ≤ R.slots) (hdg : decode cc pc = .ok (.invokestatic index, 3)) (kk : ∀ (r : Int32) (t : State) (H1 : Heap) (locs1 : List Loc), t.heap = H1 → (fun r : Int32 => True) r → ((0 ≤ r.toInt ∧ r.toInt ≤ 1487 ∧ ∃ a1 : Int, vCut (sgT1 P) (sgL1 P) a = (true, a1) ∧ a + 1 ≤ a1 ∧ a1 ≤ sgL1 P ∧ sgB (KA a1 a1 w1 w2 P) D vwCl base tys ad ks t) ∨ (r = -1 ∧ ∃ w : Int, vCut (sgT1 P) (sgL1 P) a = (false, w) ∧ sgB (KA 0 240 w w P) D vwCl base tys ad ks t)) → va_S (fun q : Nat => base ≤ q) s.heap H1 locs1 → W p l e R s m args below meth c H1 locs1 cells slots Q (F0 m (pc + 3) ls (.int r :: rest))) : W p l e R s m args below meth c H locs cells slots Q (F0 m pc ls st0) :=
  sg_callS2i X hK hG hC hS hb (m_X3_readCut_v l a0 h0 x1 h1 hl0 hav hby) wl_4_32 wl_1_4 wl_4_31 (n := 2) (by decide +kernel) rfl rfl rfl hl hsize hst hW hR hf hdg kk

set_option maxHeartbeats 8000000 in
set_option maxRecDepth 100000 in
theorem m_X3_readMove_v (l : Launch) {D : va_G} {base : Nat} {tys : List (ClassId × FieldType)} {ad ks : List Nat} {P : sgPm}{a w1 w2 : Int}  (a0 : Nat) (h0 : isK ad ks 3 a0) (a1 : Nat) (h1 : isK ad ks 10 a1) (hl0 : 0 ≤ sgL1 P ∧ sgL1 P ≤ 240) (hav : 0 ≤ a ∧ a ≤ sgL1 P) (hby : ∀ j : Nat, (↑j : Int) < sgL1 P → 1 ≤ sgT1 P j ∧ sgT1 P j ≤ 255) : Met l yX3_readMove (Cond.code yX3_readMove cX3_readMove 4 (some .int) :: sg_tbl) ({ frames := 3, cells := 0, slots := 0, locals := 57 }) (va_Pc [.ref a0, .ref a1] (sgB (KA a a w1 w2 P) D vwCl base tys ad ks)) (va_Qi (fun r (u : Int32) => u = r ∧ (fun r : Int32 => True) r) (fun u t => (0 ≤ u.toInt ∧ u.toInt ≤ 1487 ∧ ∃ a1 : Int, vMv (sgT1 P) (sgL1 P) a = (true, a1) ∧ a + 1 ≤ a1 ∧ a1 ≤ sgL1 P ∧ sgB (KA a1 a1 w1 w2 P) D vwCl base tys ad ks t) ∨ (u = -1 ∧ ∃ w : Int, vMv (sgT1 P) (sgL1 P) a = (false, w) ∧ sgB (KA 0 240 w w P) D vwCl base tys ad ks t)) (fun q : Nat => base ≤ q)) 0 0 (fun q : Nat => base ≤ q) := by
  refine sg_ofW (by decide +kernel) (Nat.le_of_ble_eq_true rfl) (fun p e s m below meth c X hr hlk hb hK hC hG ls hl => ?_)
  have hS : va_S (fun q : Nat => base ≤ q) s.heap s.heap [] := va_S.rf
  have hl : lv_has ls 4 [(0, .ref a0), (1, .ref a1)] := hl
  refine lv_aload_n X.1 X.2.1 dX3_readMove_0 rfl (lv_at hl 1 rfl) ?_
  refine ca_X10_sign_v X hK hG hC (fun _ h => h) hS hb a1 h1 hl0 hav wl_4_23 hl.1 (rest := []) rfl (Nat.le_of_ble_eq_true rfl) ⟨Nat.le_of_ble_eq_true rfl, Nat.le_of_ble_eq_true rfl⟩ ⟨Nat.le_of_ble_eq_true rfl, Nat.le_of_ble_eq_true rfl⟩ dX3_readMove_1 (fun f1 locs hf1 hS => ?_)
  have yf1 : iv 0 255 f1 := vq_255 hf1 hby
  refine lv_istore_n (lv' := [(2, .int f1), (0, .ref a0), (1, .ref a1)]) X.1 X.2.1 dX3_readMove_4 rfl hl (by decide) rfl (fun ls hl => ?_)
  refine lv_iload_n X.1 X.2.1 dX3_readMove_5 rfl (lv_at hl 0 rfl) ?_
  refine lv_bipush (v := 103) X.1 X.2.1 dX3_readMove_6 (by decide +kernel) ?_
  refine lv_icmp_eq (tgt := 36) X.1 X.2.1 dX3_readMove_8 (by decide) (fun c2 => ?_) (fun c2 => ?_)
  · have i3 : vC (sgT1 P) (sgL1 P) a = (103 : Int) := vq_eq c2 hf1 (by decide +kernel)
    refine lv_aload_n X.1 X.2.1 dX3_readMove_36 rfl (lv_at hl 2 rfl) ?_
    refine ca_X10_step_v X hK hG hC hS hb a1 h1 hl0 (vC_lt (b := sgT1 P) (by rw [i3]; decide)) wl_4_25 hl.1 (rest := []) rfl (Nat.le_of_ble_eq_true rfl) ⟨Nat.le_of_ble_eq_true rfl, Nat.le_of_ble_eq_true rfl⟩ ⟨Nat.le_of_ble_eq_true rfl, Nat.le_of_ble_eq_true rfl⟩ dX3_readMove_37 (fun tg5 H locs htg5 hWg5 hS => ?_)
    have b6 := vC_lt (b := sgT1 P) (n := sgL1 P) (a := a) (by rw [i3]; decide)
    have bb6 := vq_bdX (b := sgT1 P) b6
    have pb6 : a + 1 ≤ vX (sgT1 P) (sgL1 P) (a + 1) := vq_pg (vq_pg0 a) (m := 1) (vX_ge (sgT1 P) (sgL1 P) (a + 1)).1 (by decide)
    have hG := hWg5.2.2.2
    rw [htg5] at hG
    refine lv_iload_n X.1 X.2.1 dX3_readMove_40 rfl (lv_at hl 0 rfl) ?_
    refine lv_bipush (v := 120) X.1 X.2.1 dX3_readMove_41 (by decide +kernel) ?_
    refine lv_icmp_ne (tgt := 54) X.1 X.2.1 dX3_readMove_43 (by decide) (fun c7 => ?_) (fun c7 => ?_)
    · have i8 : (vC (sgT1 P) (sgL1 P) a = (120 : Int)) = False := vq_ne c7 hf1 (by decide +kernel)
      refine lv_iload_n X.1 X.2.1 dX3_readMove_54 rfl (lv_at hl 0 rfl) ?_
      refine lv_bipush (v := 103) X.1 X.2.1 dX3_readMove_55 (by decide +kernel) ?_
      refine lv_icmp_ne (tgt := 91) X.1 X.2.1 dX3_readMove_57 (by decide) (fun c10 => ?_) (fun c10 => ?_)
      · have i11 : (vC (sgT1 P) (sgL1 P) a = (103 : Int)) = False := vq_ne c10 hf1 (by decide +kernel)
        exact ((c10 (iv_one (iv_eqm (a' := 103) (b' := 103) c2 yf1 (iv_c 103 (a := 103) (b := 103) (by decide +kernel)) (by decide +kernel)) (iv_c 103 (a := 103) (b := 103) (by decide +kernel)) (by decide +kernel)))).elim
      · have i12 : vC (sgT1 P) (sgL1 P) a = (103 : Int) := vq_eq c10 hf1 (by decide +kernel)
        refine lv_aload_n X.1 X.2.1 dX3_readMove_60 rfl (lv_at hl 2 rfl) ?_
        refine ca_X10_sign_v X hK hG hC (fun _ h => h) hS hb a1 h1 hl0 bb6 wl_4_23 hl.1 (rest := []) rfl (Nat.le_of_ble_eq_true rfl) ⟨Nat.le_of_ble_eq_true rfl, Nat.le_of_ble_eq_true rfl⟩ ⟨Nat.le_of_ble_eq_true rfl, Nat.le_of_ble_eq_true rfl⟩ dX3_readMove_61 (fun f13 locs hf13 hS => ?_)
        have yf13 : iv 0 255 f13 := vq_255 hf13 hby
        refine lv_bipush (v := 63) X.1 X.2.1 dX3_readMove_64 (by decide +kernel) ?_
        refine lv_icmp_ne (tgt := 91) X.1 X.2.1 dX3_readMove_66 (by decide) (fun c14 => ?_) (fun c14 => ?_)
        · have i15 : (vC (sgT1 P) (sgL1 P) (vX (sgT1 P) (sgL1 P) (a + 1)) = (63 : Int)) = False := vq_ne c14 hf13 (by decide +kernel)
          refine lv_aload_n X.1 X.2.1 dX3_readMove_91 rfl (lv_at hl 2 rfl) ?_
          refine lv_iconst (v := 2) X.1 X.2.1 dX3_readMove_92 (by decide +kernel) ?_
          refine lv_iconst (v := 0) X.1 X.2.1 dX3_readMove_93 (by decide +kernel) ?_
          refine lv_bipush (v := 29) X.1 X.2.1 dX3_readMove_94 (by decide +kernel) ?_
          refine ca_X10_number_v2 X hK hG hC hS hb a1 h1 2 (iv_c 2 (a := 2) (b := 2) (by decide +kernel)) 0 29 hl0 bb6 (show (0 : Int32).toInt = (0 : Int) ∧ (29 : Int32).toInt = (29 : Int) from ⟨(by decide +kernel), (by decide +kernel)⟩) wl_4_29 hl.1 (rest := []) rfl (Nat.le_of_ble_eq_true rfl) ⟨Nat.le_of_ble_eq_true rfl, Nat.le_of_ble_eq_true rfl⟩ ⟨Nat.le_of_ble_eq_true rfl, Nat.le_of_ble_eq_true rfl⟩ dX3_readMove_96 (fun f17 tf17 H locs htf17 hf17 hWf17 hS => ?_)
          rcases hWf17 with ⟨av18, nv18, pv18, xv18, g1v18, g2v18, g3v18, g4v18, gav18, gbv18, hBf17⟩ | ⟨rfl, wv18, pv18, hBf17⟩
          · have hG := hBf17.2.2.2
            rw [htf17] at hG
            have bv18 := vq_bd2 (k := 1) bb6 (by decide) gav18 gbv18
            have p2v18 : a + 2 ≤ av18 := vq_pg pb6 gav18 (by decide)
            have yv18 : iv 0 29 f17 := ⟨by omega, by omega⟩
            refine lv_istore_n (lv' := [(3, .int f17), (2, .int f1), (0, .ref a0), (1, .ref a1)]) X.1 X.2.1 dX3_readMove_99 rfl hl (by decide) rfl (fun ls hl => ?_)
            refine lv_iload_n X.1 X.2.1 dX3_readMove_100 rfl (lv_at hl 0 rfl) ?_
            refine lv_iconst (v := (-1)) X.1 X.2.1 dX3_readMove_101 (by decide +kernel) ?_
            refine lv_icmp_ne (tgt := 107) X.1 X.2.1 dX3_readMove_102 (by decide) (fun c19 => ?_) (fun c19 => ?_)
            · have i20 : (nv18 = ((-1) : Int)) = False := vq_ne c19 xv18 (by decide +kernel)
              refine lv_iload_n X.1 X.2.1 dX3_readMove_107 rfl (lv_at hl 1 rfl) ?_
              refine lv_bipush (v := 99) X.1 X.2.1 dX3_readMove_108 (by decide +kernel) ?_
              refine lv_icmp_ne (tgt := 119) X.1 X.2.1 dX3_readMove_110 (by decide) (fun c22 => ?_) (fun c22 => ?_)
              · have i23 : (vC (sgT1 P) (sgL1 P) a = (99 : Int)) = False := vq_ne c22 hf1 (by decide +kernel)
                refine lv_iload_n X.1 X.2.1 dX3_readMove_119 rfl (lv_at hl 1 rfl) ?_
                refine lv_bipush (v := 103) X.1 X.2.1 dX3_readMove_120 (by decide +kernel) ?_
                refine lv_icmp_ne (tgt := 129) X.1 X.2.1 dX3_readMove_122 (by decide) (fun c25 => ?_) (fun c25 => ?_)
                · have i26 : (vC (sgT1 P) (sgL1 P) a = (103 : Int)) = False := vq_ne c25 hf1 (by decide +kernel)
                  exact ((c25 (iv_one (iv_eqm (a' := 103) (b' := 103) c2 yf1 (iv_c 103 (a := 103) (b := 103) (by decide +kernel)) (by decide +kernel)) (iv_c 103 (a := 103) (b := 103) (by decide +kernel)) (by decide +kernel)))).elim
                · have i27 : vC (sgT1 P) (sgL1 P) a = (103 : Int) := vq_eq c25 hf1 (by decide +kernel)
                  refine lv_iconst (v := 0) X.1 X.2.1 dX3_readMove_125 (by decide +kernel) ?_
                  refine lv_goto (tgt := 130) X.1 X.2.1 dX3_readMove_126 (by decide) ?_
                  refine lv_iload_n X.1 X.2.1 dX3_readMove_130 rfl (lv_at hl 0 rfl) ?_
                  refine lv_iconst (v := 0) X.1 X.2.1 dX3_readMove_131 (by decide +kernel) ?_
                  refine lv_iconst (v := 0) X.1 X.2.1 dX3_readMove_132 (by decide +kernel) ?_
                  refine ca_X3_packed_v X hK (ka_toKT hG (bv18).1 (Int.le_trans (bv18).2 hl0.2)) hC (fun _ h => h) hS hb 0 (iv_of (iv_c 0 (a := 0) (b := 0) (by decide +kernel)) (a' := 0) (b' := 3) (by decide +kernel)) f17 (iv_of yv18 (a' := (-1)) (b' := 29) (by decide +kernel)) 0 (iv_of (iv_c 0 (a := 0) (b := 0) (by decide +kernel)) (a' := 0) (b' := 1) (by decide +kernel)) 0 (iv_of (iv_c 0 (a := 0) (b := 0) (by decide +kernel)) (a' := 0) (b' := 5) (by decide +kernel)) wl_4_26 hl.1 (rest := []) rfl (Nat.le_of_ble_eq_true rfl) ⟨Nat.le_of_ble_eq_true rfl, Nat.le_of_ble_eq_true rfl⟩ ⟨Nat.le_of_ble_eq_true rfl, Nat.le_of_ble_eq_true rfl⟩ dX3_readMove_133 (fun f28 locs hf28 hS => ?_)
                  have spr : vMv (sgT1 P) (sgL1 P) a = (true, av18) := by simp only [vMv, vNu, i3, i8, i12, i15, pv18, i20, i23, i27, cond_true, cond_false, vB_t, vB_f, if_true, if_false, eq_self, not_true_eq_false, not_false_eq_true, Int.reduceEq, Int.reduceLT, or_false, false_or, or_true, true_or]
                  have hv8 : iv 0 1487 f28 := hf28
                  exact sg_iret2 X hr hlk hS trivial (fun t ht hW => (Or.inl ⟨hv8.1, hv8.2, _, spr, vq_pgw p2v18 (by decide), (bv18).2, sg_post hb hK hC hG hS ht hW⟩)) dX3_readMove_136
              · have i24 : vC (sgT1 P) (sgL1 P) a = (99 : Int) := vq_eq c22 hf1 (by decide +kernel)
                exact ((iv_no (a := 103) (b := 99) (iv_eqm c22 (iv_eqm (a' := 103) (b' := 103) c2 yf1 (iv_c 103 (a := 103) (b := 103) (by decide +kernel)) (by decide +kernel)) (iv_c 99 (a := 99) (b := 99) (by decide +kernel)) (by decide +kernel)) (by decide +kernel))).elim
            · have i21 : nv18 = ((-1) : Int) := vq_eq c19 xv18 (by decide +kernel)
              exact ((iv_no (a := 0) (b := (-1)) (iv_eqm c19 yv18 (iv_c (-1) (a := (-1)) (b := (-1)) (by decide +kernel)) (by decide +kernel)) (by decide +kernel))).elim
          · have hG := hBf17.2.2.2
            rw [htf17] at hG
            refine lv_istore_n (lv' := [(3, .int (-1)), (2, .int f1), (0, .ref a0), (1, .ref a1)]) X.1 X.2.1 dX3_readMove_99 rfl hl (by decide) rfl (fun ls hl => ?_)
            refine lv_iload_n X.1 X.2.1 dX3_readMove_100 rfl (lv_at hl 0 rfl) ?_
            refine lv_iconst (v := (-1)) X.1 X.2.1 dX3_readMove_101 (by decide +kernel) ?_
            refine lv_icmp_ne (tgt := 107) X.1 X.2.1 dX3_readMove_102 (by decide) (fun c29 => ?_) (fun c29 => ?_)
            · exact ((c29 (iv_one (iv_c (-1) (a := (-1)) (b := (-1)) (by decide +kernel)) (iv_c (-1) (a := (-1)) (b := (-1)) (by decide +kernel)) (by decide +kernel)))).elim
            · refine lv_iconst (v := (-1)) X.1 X.2.1 dX3_readMove_105 (by decide +kernel) ?_
              have spr : vMv (sgT1 P) (sgL1 P) a = (false, wv18) := by simp only [vMv, vNu, i3, i8, i12, i15, pv18, cond_true, cond_false, vB_t, vB_f, if_true, if_false, eq_self, not_true_eq_false, not_false_eq_true, Int.reduceEq, Int.reduceLT, or_false, false_or, or_true, true_or]
              have hG := ka_weak (b1 := 0) (b2 := 240) (c1 := wv18) (c2 := wv18) hG (Int.le_refl _) (Int.le_refl _) (Int.le_refl _) (Int.le_refl _)
              exact sg_iret2 X hr hlk hS trivial (fun t ht hW => (Or.inr ⟨rfl, _, spr, sg_post hb hK hC hG hS ht hW⟩)) dX3_readMove_106
        · have i16 : vC (sgT1 P) (sgL1 P) (vX (sgT1 P) (sgL1 P) (a + 1)) = (63 : Int) := vq_eq c14 hf13 (by decide +kernel)
          refine lv_aload_n X.1 X.2.1 dX3_readMove_69 rfl (lv_at hl 2 rfl) ?_
          refine ca_X10_step_v X hK hG hC hS hb a1 h1 hl0 (vC_lt (b := sgT1 P) (by rw [i16]; decide)) wl_4_25 hl.1 (rest := []) rfl (Nat.le_of_ble_eq_true rfl) ⟨Nat.le_of_ble_eq_true rfl, Nat.le_of_ble_eq_true rfl⟩ ⟨Nat.le_of_ble_eq_true rfl, Nat.le_of_ble_eq_true rfl⟩ dX3_readMove_70 (fun tg30 H locs htg30 hWg30 hS => ?_)
          have b31 := vC_lt (b := sgT1 P) (n := sgL1 P) (a := (vX (sgT1 P) (sgL1 P) (a + 1))) (by rw [i16]; decide)
          have bb31 := vq_bdX (b := sgT1 P) b31
          have pb31 : a + 2 ≤ vX (sgT1 P) (sgL1 P) ((vX (sgT1 P) (sgL1 P) (a + 1)) + 1) := vq_pg pb6 (m := 1) (vX_ge (sgT1 P) (sgL1 P) ((vX (sgT1 P) (sgL1 P) (a + 1)) + 1)).1 (by decide)
          have hG := hWg30.2.2.2
          rw [htg30] at hG
          refine lv_aload_n X.1 X.2.1 dX3_readMove_73 rfl (lv_at hl 1 rfl) ?_
          refine lv_dup X.1 X.2.1 dX3_readMove_74 rfl ?_
          refine gf_X3_2a X hK hG h0 wl_1_100 dX3_readMove_75 (fun f32 hf32 kf32 => ?_)
          refine lv_iconst (v := 1) X.1 X.2.1 dX3_readMove_78 (by decide +kernel) ?_
          refine lv_iadd X.1 X.2.1 dX3_readMove_79 ?_
          refine lv_topi (fun f33 ef33 => ?_)
          refine pf_X3_2a X hK hG hS h0 wl_1_100 ⟨_, rfl, (iv_top _)⟩ dX3_readMove_80 (fun H locs hG hS ku34 ru34 => ?_)
          refine lv_iconst (v := 0) X.1 X.2.1 dX3_readMove_83 (by decide +kernel) ?_
          refine lv_iconst (v := (-1)) X.1 X.2.1 dX3_readMove_84 (by decide +kernel) ?_
          refine lv_iconst (v := 0) X.1 X.2.1 dX3_readMove_85 (by decide +kernel) ?_
          refine lv_iconst (v := 0) X.1 X.2.1 dX3_readMove_86 (by decide +kernel) ?_
          refine ca_X3_packed_v X hK (ka_toKT hG (bb31).1 (Int.le_trans (bb31).2 hl0.2)) hC (fun _ h => h) hS hb 0 (iv_of (iv_c 0 (a := 0) (b := 0) (by decide +kernel)) (a' := 0) (b' := 3) (by decide +kernel)) (-1) (iv_of (iv_c (-1) (a := (-1)) (b := (-1)) (by decide +kernel)) (a' := (-1)) (b' := 29) (by decide +kernel)) 0 (iv_of (iv_c 0 (a := 0) (b := 0) (by decide +kernel)) (a' := 0) (b' := 1) (by decide +kernel)) 0 (iv_of (iv_c 0 (a := 0) (b := 0) (by decide +kernel)) (a' := 0) (b' := 5) (by decide +kernel)) wl_4_26 hl.1 (rest := []) rfl (Nat.le_of_ble_eq_true rfl) ⟨Nat.le_of_ble_eq_true rfl, Nat.le_of_ble_eq_true rfl⟩ ⟨Nat.le_of_ble_eq_true rfl, Nat.le_of_ble_eq_true rfl⟩ dX3_readMove_87 (fun f35 locs hf35 hS => ?_)
          have spr : vMv (sgT1 P) (sgL1 P) a = (true, (vX (sgT1 P) (sgL1 P) ((vX (sgT1 P) (sgL1 P) (a + 1)) + 1))) := by simp only [vMv, vNu, i3, i8, i12, i16, cond_true, cond_false, vB_t, vB_f, if_true, if_false, eq_self, not_true_eq_false, not_false_eq_true, Int.reduceEq, Int.reduceLT, or_false, false_or, or_true, true_or]
          have hv8 : iv 0 1487 f35 := hf35
          exact sg_iret2 X hr hlk hS trivial (fun t ht hW => (Or.inl ⟨hv8.1, hv8.2, _, spr, vq_pgw pb31 (by decide), (bb31).2, sg_post hb hK hC hG hS ht hW⟩)) dX3_readMove_90
    · have i9 : vC (sgT1 P) (sgL1 P) a = (120 : Int) := vq_eq c7 hf1 (by decide +kernel)
      exact ((iv_no (a := 120) (b := 103) (iv_eqm c7 (iv_eqm (a' := 103) (b' := 103) c2 yf1 (iv_c 103 (a := 103) (b := 103) (by decide +kernel)) (by decide +kernel)) (iv_c 120 (a := 120) (b := 120) (by decide +kernel)) (by decide +kernel)) (by decide +kernel))).elim
  · have i4 : (vC (sgT1 P) (sgL1 P) a = (103 : Int)) = False := vq_ne c2 hf1 (by decide +kernel)
    refine lv_iload_n X.1 X.2.1 dX3_readMove_11 rfl (lv_at hl 0 rfl) ?_
    refine lv_bipush (v := 99) X.1 X.2.1 dX3_readMove_12 (by decide +kernel) ?_
    refine lv_icmp_eq (tgt := 36) X.1 X.2.1 dX3_readMove_14 (by decide) (fun c36 => ?_) (fun c36 => ?_)
    · have i37 : vC (sgT1 P) (sgL1 P) a = (99 : Int) := vq_eq c36 hf1 (by decide +kernel)
      refine lv_aload_n X.1 X.2.1 dX3_readMove_36 rfl (lv_at hl 2 rfl) ?_
      refine ca_X10_step_v X hK hG hC hS hb a1 h1 hl0 (vC_lt (b := sgT1 P) (by rw [i37]; decide)) wl_4_25 hl.1 (rest := []) rfl (Nat.le_of_ble_eq_true rfl) ⟨Nat.le_of_ble_eq_true rfl, Nat.le_of_ble_eq_true rfl⟩ ⟨Nat.le_of_ble_eq_true rfl, Nat.le_of_ble_eq_true rfl⟩ dX3_readMove_37 (fun tg39 H locs htg39 hWg39 hS => ?_)
      have b40 := vC_lt (b := sgT1 P) (n := sgL1 P) (a := a) (by rw [i37]; decide)
      have bb40 := vq_bdX (b := sgT1 P) b40
      have pb40 : a + 1 ≤ vX (sgT1 P) (sgL1 P) (a + 1) := vq_pg (vq_pg0 a) (m := 1) (vX_ge (sgT1 P) (sgL1 P) (a + 1)).1 (by decide)
      have hG := hWg39.2.2.2
      rw [htg39] at hG
      refine lv_iload_n X.1 X.2.1 dX3_readMove_40 rfl (lv_at hl 0 rfl) ?_
      refine lv_bipush (v := 120) X.1 X.2.1 dX3_readMove_41 (by decide +kernel) ?_
      refine lv_icmp_ne (tgt := 54) X.1 X.2.1 dX3_readMove_43 (by decide) (fun c41 => ?_) (fun c41 => ?_)
      · have i42 : (vC (sgT1 P) (sgL1 P) a = (120 : Int)) = False := vq_ne c41 hf1 (by decide +kernel)
        refine lv_iload_n X.1 X.2.1 dX3_readMove_54 rfl (lv_at hl 0 rfl) ?_
        refine lv_bipush (v := 103) X.1 X.2.1 dX3_readMove_55 (by decide +kernel) ?_
        refine lv_icmp_ne (tgt := 91) X.1 X.2.1 dX3_readMove_57 (by decide) (fun c44 => ?_) (fun c44 => ?_)
        · have i45 : (vC (sgT1 P) (sgL1 P) a = (103 : Int)) = False := vq_ne c44 hf1 (by decide +kernel)
          refine lv_aload_n X.1 X.2.1 dX3_readMove_91 rfl (lv_at hl 2 rfl) ?_
          refine lv_iconst (v := 2) X.1 X.2.1 dX3_readMove_92 (by decide +kernel) ?_
          refine lv_iconst (v := 0) X.1 X.2.1 dX3_readMove_93 (by decide +kernel) ?_
          refine lv_bipush (v := 29) X.1 X.2.1 dX3_readMove_94 (by decide +kernel) ?_
          refine ca_X10_number_v2 X hK hG hC hS hb a1 h1 2 (iv_c 2 (a := 2) (b := 2) (by decide +kernel)) 0 29 hl0 bb40 (show (0 : Int32).toInt = (0 : Int) ∧ (29 : Int32).toInt = (29 : Int) from ⟨(by decide +kernel), (by decide +kernel)⟩) wl_4_29 hl.1 (rest := []) rfl (Nat.le_of_ble_eq_true rfl) ⟨Nat.le_of_ble_eq_true rfl, Nat.le_of_ble_eq_true rfl⟩ ⟨Nat.le_of_ble_eq_true rfl, Nat.le_of_ble_eq_true rfl⟩ dX3_readMove_96 (fun f47 tf47 H locs htf47 hf47 hWf47 hS => ?_)
          rcases hWf47 with ⟨av48, nv48, pv48, xv48, g1v48, g2v48, g3v48, g4v48, gav48, gbv48, hBf47⟩ | ⟨rfl, wv48, pv48, hBf47⟩
          · have hG := hBf47.2.2.2
            rw [htf47] at hG
            have bv48 := vq_bd2 (k := 1) bb40 (by decide) gav48 gbv48
            have p2v48 : a + 2 ≤ av48 := vq_pg pb40 gav48 (by decide)
            have yv48 : iv 0 29 f47 := ⟨by omega, by omega⟩
            refine lv_istore_n (lv' := [(3, .int f47), (2, .int f1), (0, .ref a0), (1, .ref a1)]) X.1 X.2.1 dX3_readMove_99 rfl hl (by decide) rfl (fun ls hl => ?_)
            refine lv_iload_n X.1 X.2.1 dX3_readMove_100 rfl (lv_at hl 0 rfl) ?_
            refine lv_iconst (v := (-1)) X.1 X.2.1 dX3_readMove_101 (by decide +kernel) ?_
            refine lv_icmp_ne (tgt := 107) X.1 X.2.1 dX3_readMove_102 (by decide) (fun c49 => ?_) (fun c49 => ?_)
            · have i50 : (nv48 = ((-1) : Int)) = False := vq_ne c49 xv48 (by decide +kernel)
              refine lv_iload_n X.1 X.2.1 dX3_readMove_107 rfl (lv_at hl 1 rfl) ?_
              refine lv_bipush (v := 99) X.1 X.2.1 dX3_readMove_108 (by decide +kernel) ?_
              refine lv_icmp_ne (tgt := 119) X.1 X.2.1 dX3_readMove_110 (by decide) (fun c52 => ?_) (fun c52 => ?_)
              · have i53 : (vC (sgT1 P) (sgL1 P) a = (99 : Int)) = False := vq_ne c52 hf1 (by decide +kernel)
                exact ((c52 (iv_one (iv_eqm (a' := 99) (b' := 99) c36 yf1 (iv_c 99 (a := 99) (b := 99) (by decide +kernel)) (by decide +kernel)) (iv_c 99 (a := 99) (b := 99) (by decide +kernel)) (by decide +kernel)))).elim
              · have i54 : vC (sgT1 P) (sgL1 P) a = (99 : Int) := vq_eq c52 hf1 (by decide +kernel)
                refine lv_aload_n X.1 X.2.1 dX3_readMove_113 rfl (lv_at hl 3 rfl) ?_
                refine lv_iload_n X.1 X.2.1 dX3_readMove_114 rfl (lv_at hl 0 rfl) ?_
                refine ca_X3_readCut_v X hK hG hC hS hb a1 h1 f47 yv48 hl0 bv48 hby wl_4_30 hl.1 (rest := []) rfl (Nat.le_of_ble_eq_true rfl) ⟨Nat.le_of_ble_eq_true rfl, Nat.le_of_ble_eq_true rfl⟩ ⟨Nat.le_of_ble_eq_true rfl, Nat.le_of_ble_eq_true rfl⟩ dX3_readMove_115 (fun f55 tf55 H locs htf55 hf55 hWf55 hS => ?_)
                rcases hWf55 with ⟨g1v56, g2v56, av56, pv56, gav56, gbv56, hBf55⟩ | ⟨rfl, wv56, pv56, hBf55⟩
                · have hG := hBf55.2.2.2
                  rw [htf55] at hG
                  have bv56 := vq_bd2 (k := 1) bv48 (by decide) gav56 gbv56
                  have p2v56 : a + 3 ≤ av56 := vq_pg p2v48 gav56 (by decide)
                  have spr : vMv (sgT1 P) (sgL1 P) a = (true, av56) := by simp only [vMv, vNu, i4, i37, i42, i45, pv48, i50, i54, pv56, cond_true, cond_false, vB_t, vB_f, if_true, if_false, eq_self, not_true_eq_false, not_false_eq_true, Int.reduceEq, Int.reduceLT, or_false, false_or, or_true, true_or]
                  have hv8 : iv 0 1487 f55 := (show iv 0 1487 f55 from ⟨g1v56, g2v56⟩)
                  exact sg_iret2 X hr hlk hS trivial (fun t ht hW => (Or.inl ⟨hv8.1, hv8.2, _, spr, vq_pgw p2v56 (by decide), (bv56).2, sg_post hb hK hC hG hS ht hW⟩)) dX3_readMove_118
                · have hG := hBf55.2.2.2
                  rw [htf55] at hG
                  have spr : vMv (sgT1 P) (sgL1 P) a = (false, wv56) := by simp only [vMv, vNu, i4, i37, i42, i45, pv48, i50, i54, pv56, cond_true, cond_false, vB_t, vB_f, if_true, if_false, eq_self, not_true_eq_false, not_false_eq_true, Int.reduceEq, Int.reduceLT, or_false, false_or, or_true, true_or]
                  have hG := ka_weak (b1 := 0) (b2 := 240) (c1 := wv56) (c2 := wv56) hG (Int.le_refl _) (Int.le_refl _) (Int.le_refl _) (Int.le_refl _)
                  exact sg_iret2 X hr hlk hS trivial (fun t ht hW => (Or.inr ⟨rfl, _, spr, sg_post hb hK hC hG hS ht hW⟩)) dX3_readMove_118
            · have i51 : nv48 = ((-1) : Int) := vq_eq c49 xv48 (by decide +kernel)
              exact ((iv_no (a := 0) (b := (-1)) (iv_eqm c49 yv48 (iv_c (-1) (a := (-1)) (b := (-1)) (by decide +kernel)) (by decide +kernel)) (by decide +kernel))).elim
          · have hG := hBf47.2.2.2
            rw [htf47] at hG
            refine lv_istore_n (lv' := [(3, .int (-1)), (2, .int f1), (0, .ref a0), (1, .ref a1)]) X.1 X.2.1 dX3_readMove_99 rfl hl (by decide) rfl (fun ls hl => ?_)
            refine lv_iload_n X.1 X.2.1 dX3_readMove_100 rfl (lv_at hl 0 rfl) ?_
            refine lv_iconst (v := (-1)) X.1 X.2.1 dX3_readMove_101 (by decide +kernel) ?_
            refine lv_icmp_ne (tgt := 107) X.1 X.2.1 dX3_readMove_102 (by decide) (fun c57 => ?_) (fun c57 => ?_)
            · exact ((c57 (iv_one (iv_c (-1) (a := (-1)) (b := (-1)) (by decide +kernel)) (iv_c (-1) (a := (-1)) (b := (-1)) (by decide +kernel)) (by decide +kernel)))).elim
            · refine lv_iconst (v := (-1)) X.1 X.2.1 dX3_readMove_105 (by decide +kernel) ?_
              have spr : vMv (sgT1 P) (sgL1 P) a = (false, wv48) := by simp only [vMv, vNu, i4, i37, i42, i45, pv48, cond_true, cond_false, vB_t, vB_f, if_true, if_false, eq_self, not_true_eq_false, not_false_eq_true, Int.reduceEq, Int.reduceLT, or_false, false_or, or_true, true_or]
              have hG := ka_weak (b1 := 0) (b2 := 240) (c1 := wv48) (c2 := wv48) hG (Int.le_refl _) (Int.le_refl _) (Int.le_refl _) (Int.le_refl _)
              exact sg_iret2 X hr hlk hS trivial (fun t ht hW => (Or.inr ⟨rfl, _, spr, sg_post hb hK hC hG hS ht hW⟩)) dX3_readMove_106
        · have i46 : vC (sgT1 P) (sgL1 P) a = (103 : Int) := vq_eq c44 hf1 (by decide +kernel)
          exact ((iv_no (a := 103) (b := 99) (iv_eqm c44 (iv_eqm (a' := 99) (b' := 99) c36 yf1 (iv_c 99 (a := 99) (b := 99) (by decide +kernel)) (by decide +kernel)) (iv_c 103 (a := 103) (b := 103) (by decide +kernel)) (by decide +kernel)) (by decide +kernel))).elim
      · have i43 : vC (sgT1 P) (sgL1 P) a = (120 : Int) := vq_eq c41 hf1 (by decide +kernel)
        exact ((iv_no (a := 120) (b := 99) (iv_eqm c41 (iv_eqm (a' := 99) (b' := 99) c36 yf1 (iv_c 99 (a := 99) (b := 99) (by decide +kernel)) (by decide +kernel)) (iv_c 120 (a := 120) (b := 120) (by decide +kernel)) (by decide +kernel)) (by decide +kernel))).elim
    · have i38 : (vC (sgT1 P) (sgL1 P) a = (99 : Int)) = False := vq_ne c36 hf1 (by decide +kernel)
      refine lv_iload_n X.1 X.2.1 dX3_readMove_17 rfl (lv_at hl 0 rfl) ?_
      refine lv_bipush (v := 109) X.1 X.2.1 dX3_readMove_18 (by decide +kernel) ?_
      refine lv_icmp_eq (tgt := 36) X.1 X.2.1 dX3_readMove_20 (by decide) (fun c58 => ?_) (fun c58 => ?_)
      · have i59 : vC (sgT1 P) (sgL1 P) a = (109 : Int) := vq_eq c58 hf1 (by decide +kernel)
        refine lv_aload_n X.1 X.2.1 dX3_readMove_36 rfl (lv_at hl 2 rfl) ?_
        refine ca_X10_step_v X hK hG hC hS hb a1 h1 hl0 (vC_lt (b := sgT1 P) (by rw [i59]; decide)) wl_4_25 hl.1 (rest := []) rfl (Nat.le_of_ble_eq_true rfl) ⟨Nat.le_of_ble_eq_true rfl, Nat.le_of_ble_eq_true rfl⟩ ⟨Nat.le_of_ble_eq_true rfl, Nat.le_of_ble_eq_true rfl⟩ dX3_readMove_37 (fun tg61 H locs htg61 hWg61 hS => ?_)
        have b62 := vC_lt (b := sgT1 P) (n := sgL1 P) (a := a) (by rw [i59]; decide)
        have bb62 := vq_bdX (b := sgT1 P) b62
        have pb62 : a + 1 ≤ vX (sgT1 P) (sgL1 P) (a + 1) := vq_pg (vq_pg0 a) (m := 1) (vX_ge (sgT1 P) (sgL1 P) (a + 1)).1 (by decide)
        have hG := hWg61.2.2.2
        rw [htg61] at hG
        refine lv_iload_n X.1 X.2.1 dX3_readMove_40 rfl (lv_at hl 0 rfl) ?_
        refine lv_bipush (v := 120) X.1 X.2.1 dX3_readMove_41 (by decide +kernel) ?_
        refine lv_icmp_ne (tgt := 54) X.1 X.2.1 dX3_readMove_43 (by decide) (fun c63 => ?_) (fun c63 => ?_)
        · have i64 : (vC (sgT1 P) (sgL1 P) a = (120 : Int)) = False := vq_ne c63 hf1 (by decide +kernel)
          refine lv_iload_n X.1 X.2.1 dX3_readMove_54 rfl (lv_at hl 0 rfl) ?_
          refine lv_bipush (v := 103) X.1 X.2.1 dX3_readMove_55 (by decide +kernel) ?_
          refine lv_icmp_ne (tgt := 91) X.1 X.2.1 dX3_readMove_57 (by decide) (fun c66 => ?_) (fun c66 => ?_)
          · have i67 : (vC (sgT1 P) (sgL1 P) a = (103 : Int)) = False := vq_ne c66 hf1 (by decide +kernel)
            refine lv_aload_n X.1 X.2.1 dX3_readMove_91 rfl (lv_at hl 2 rfl) ?_
            refine lv_iconst (v := 2) X.1 X.2.1 dX3_readMove_92 (by decide +kernel) ?_
            refine lv_iconst (v := 0) X.1 X.2.1 dX3_readMove_93 (by decide +kernel) ?_
            refine lv_bipush (v := 29) X.1 X.2.1 dX3_readMove_94 (by decide +kernel) ?_
            refine ca_X10_number_v2 X hK hG hC hS hb a1 h1 2 (iv_c 2 (a := 2) (b := 2) (by decide +kernel)) 0 29 hl0 bb62 (show (0 : Int32).toInt = (0 : Int) ∧ (29 : Int32).toInt = (29 : Int) from ⟨(by decide +kernel), (by decide +kernel)⟩) wl_4_29 hl.1 (rest := []) rfl (Nat.le_of_ble_eq_true rfl) ⟨Nat.le_of_ble_eq_true rfl, Nat.le_of_ble_eq_true rfl⟩ ⟨Nat.le_of_ble_eq_true rfl, Nat.le_of_ble_eq_true rfl⟩ dX3_readMove_96 (fun f69 tf69 H locs htf69 hf69 hWf69 hS => ?_)
            rcases hWf69 with ⟨av70, nv70, pv70, xv70, g1v70, g2v70, g3v70, g4v70, gav70, gbv70, hBf69⟩ | ⟨rfl, wv70, pv70, hBf69⟩
            · have hG := hBf69.2.2.2
              rw [htf69] at hG
              have bv70 := vq_bd2 (k := 1) bb62 (by decide) gav70 gbv70
              have p2v70 : a + 2 ≤ av70 := vq_pg pb62 gav70 (by decide)
              have yv70 : iv 0 29 f69 := ⟨by omega, by omega⟩
              refine lv_istore_n (lv' := [(3, .int f69), (2, .int f1), (0, .ref a0), (1, .ref a1)]) X.1 X.2.1 dX3_readMove_99 rfl hl (by decide) rfl (fun ls hl => ?_)
              refine lv_iload_n X.1 X.2.1 dX3_readMove_100 rfl (lv_at hl 0 rfl) ?_
              refine lv_iconst (v := (-1)) X.1 X.2.1 dX3_readMove_101 (by decide +kernel) ?_
              refine lv_icmp_ne (tgt := 107) X.1 X.2.1 dX3_readMove_102 (by decide) (fun c71 => ?_) (fun c71 => ?_)
              · have i72 : (nv70 = ((-1) : Int)) = False := vq_ne c71 xv70 (by decide +kernel)
                refine lv_iload_n X.1 X.2.1 dX3_readMove_107 rfl (lv_at hl 1 rfl) ?_
                refine lv_bipush (v := 99) X.1 X.2.1 dX3_readMove_108 (by decide +kernel) ?_
                refine lv_icmp_ne (tgt := 119) X.1 X.2.1 dX3_readMove_110 (by decide) (fun c74 => ?_) (fun c74 => ?_)
                · have i75 : (vC (sgT1 P) (sgL1 P) a = (99 : Int)) = False := vq_ne c74 hf1 (by decide +kernel)
                  refine lv_iload_n X.1 X.2.1 dX3_readMove_119 rfl (lv_at hl 1 rfl) ?_
                  refine lv_bipush (v := 103) X.1 X.2.1 dX3_readMove_120 (by decide +kernel) ?_
                  refine lv_icmp_ne (tgt := 129) X.1 X.2.1 dX3_readMove_122 (by decide) (fun c77 => ?_) (fun c77 => ?_)
                  · have i78 : (vC (sgT1 P) (sgL1 P) a = (103 : Int)) = False := vq_ne c77 hf1 (by decide +kernel)
                    refine lv_iconst (v := 2) X.1 X.2.1 dX3_readMove_129 (by decide +kernel) ?_
                    refine lv_iload_n X.1 X.2.1 dX3_readMove_130 rfl (lv_at hl 0 rfl) ?_
                    refine lv_iconst (v := 0) X.1 X.2.1 dX3_readMove_131 (by decide +kernel) ?_
                    refine lv_iconst (v := 0) X.1 X.2.1 dX3_readMove_132 (by decide +kernel) ?_
                    refine ca_X3_packed_v X hK (ka_toKT hG (bv70).1 (Int.le_trans (bv70).2 hl0.2)) hC (fun _ h => h) hS hb 2 (iv_of (iv_c 2 (a := 2) (b := 2) (by decide +kernel)) (a' := 0) (b' := 3) (by decide +kernel)) f69 (iv_of yv70 (a' := (-1)) (b' := 29) (by decide +kernel)) 0 (iv_of (iv_c 0 (a := 0) (b := 0) (by decide +kernel)) (a' := 0) (b' := 1) (by decide +kernel)) 0 (iv_of (iv_c 0 (a := 0) (b := 0) (by decide +kernel)) (a' := 0) (b' := 5) (by decide +kernel)) wl_4_26 hl.1 (rest := []) rfl (Nat.le_of_ble_eq_true rfl) ⟨Nat.le_of_ble_eq_true rfl, Nat.le_of_ble_eq_true rfl⟩ ⟨Nat.le_of_ble_eq_true rfl, Nat.le_of_ble_eq_true rfl⟩ dX3_readMove_133 (fun f80 locs hf80 hS => ?_)
                    have spr : vMv (sgT1 P) (sgL1 P) a = (true, av70) := by simp only [vMv, vNu, i4, i38, i59, i64, i67, pv70, i72, i75, i78, cond_true, cond_false, vB_t, vB_f, if_true, if_false, eq_self, not_true_eq_false, not_false_eq_true, Int.reduceEq, Int.reduceLT, or_false, false_or, or_true, true_or]
                    have hv8 : iv 0 1487 f80 := hf80
                    exact sg_iret2 X hr hlk hS trivial (fun t ht hW => (Or.inl ⟨hv8.1, hv8.2, _, spr, vq_pgw p2v70 (by decide), (bv70).2, sg_post hb hK hC hG hS ht hW⟩)) dX3_readMove_136
                  · have i79 : vC (sgT1 P) (sgL1 P) a = (103 : Int) := vq_eq c77 hf1 (by decide +kernel)
                    exact ((iv_no (a := 109) (b := 103) (iv_eqm c77 (iv_eqm (a' := 109) (b' := 109) c58 yf1 (iv_c 109 (a := 109) (b := 109) (by decide +kernel)) (by decide +kernel)) (iv_c 103 (a := 103) (b := 103) (by decide +kernel)) (by decide +kernel)) (by decide +kernel))).elim
                · have i76 : vC (sgT1 P) (sgL1 P) a = (99 : Int) := vq_eq c74 hf1 (by decide +kernel)
                  exact ((iv_no (a := 109) (b := 99) (iv_eqm c74 (iv_eqm (a' := 109) (b' := 109) c58 yf1 (iv_c 109 (a := 109) (b := 109) (by decide +kernel)) (by decide +kernel)) (iv_c 99 (a := 99) (b := 99) (by decide +kernel)) (by decide +kernel)) (by decide +kernel))).elim
              · have i73 : nv70 = ((-1) : Int) := vq_eq c71 xv70 (by decide +kernel)
                exact ((iv_no (a := 0) (b := (-1)) (iv_eqm c71 yv70 (iv_c (-1) (a := (-1)) (b := (-1)) (by decide +kernel)) (by decide +kernel)) (by decide +kernel))).elim
            · have hG := hBf69.2.2.2
              rw [htf69] at hG
              refine lv_istore_n (lv' := [(3, .int (-1)), (2, .int f1), (0, .ref a0), (1, .ref a1)]) X.1 X.2.1 dX3_readMove_99 rfl hl (by decide) rfl (fun ls hl => ?_)
              refine lv_iload_n X.1 X.2.1 dX3_readMove_100 rfl (lv_at hl 0 rfl) ?_
              refine lv_iconst (v := (-1)) X.1 X.2.1 dX3_readMove_101 (by decide +kernel) ?_
              refine lv_icmp_ne (tgt := 107) X.1 X.2.1 dX3_readMove_102 (by decide) (fun c81 => ?_) (fun c81 => ?_)
              · exact ((c81 (iv_one (iv_c (-1) (a := (-1)) (b := (-1)) (by decide +kernel)) (iv_c (-1) (a := (-1)) (b := (-1)) (by decide +kernel)) (by decide +kernel)))).elim
              · refine lv_iconst (v := (-1)) X.1 X.2.1 dX3_readMove_105 (by decide +kernel) ?_
                have spr : vMv (sgT1 P) (sgL1 P) a = (false, wv70) := by simp only [vMv, vNu, i4, i38, i59, i64, i67, pv70, cond_true, cond_false, vB_t, vB_f, if_true, if_false, eq_self, not_true_eq_false, not_false_eq_true, Int.reduceEq, Int.reduceLT, or_false, false_or, or_true, true_or]
                have hG := ka_weak (b1 := 0) (b2 := 240) (c1 := wv70) (c2 := wv70) hG (Int.le_refl _) (Int.le_refl _) (Int.le_refl _) (Int.le_refl _)
                exact sg_iret2 X hr hlk hS trivial (fun t ht hW => (Or.inr ⟨rfl, _, spr, sg_post hb hK hC hG hS ht hW⟩)) dX3_readMove_106
          · have i68 : vC (sgT1 P) (sgL1 P) a = (103 : Int) := vq_eq c66 hf1 (by decide +kernel)
            exact ((iv_no (a := 109) (b := 103) (iv_eqm c66 (iv_eqm (a' := 109) (b' := 109) c58 yf1 (iv_c 109 (a := 109) (b := 109) (by decide +kernel)) (by decide +kernel)) (iv_c 103 (a := 103) (b := 103) (by decide +kernel)) (by decide +kernel)) (by decide +kernel))).elim
        · have i65 : vC (sgT1 P) (sgL1 P) a = (120 : Int) := vq_eq c63 hf1 (by decide +kernel)
          exact ((iv_no (a := 120) (b := 109) (iv_eqm c63 (iv_eqm (a' := 109) (b' := 109) c58 yf1 (iv_c 109 (a := 109) (b := 109) (by decide +kernel)) (by decide +kernel)) (iv_c 120 (a := 120) (b := 120) (by decide +kernel)) (by decide +kernel)) (by decide +kernel))).elim
      · have i60 : (vC (sgT1 P) (sgL1 P) a = (109 : Int)) = False := vq_ne c58 hf1 (by decide +kernel)
        refine lv_iload_n X.1 X.2.1 dX3_readMove_23 rfl (lv_at hl 0 rfl) ?_
        refine lv_bipush (v := 120) X.1 X.2.1 dX3_readMove_24 (by decide +kernel) ?_
        refine lv_icmp_eq (tgt := 36) X.1 X.2.1 dX3_readMove_26 (by decide) (fun c82 => ?_) (fun c82 => ?_)
        · have i83 : vC (sgT1 P) (sgL1 P) a = (120 : Int) := vq_eq c82 hf1 (by decide +kernel)
          refine lv_aload_n X.1 X.2.1 dX3_readMove_36 rfl (lv_at hl 2 rfl) ?_
          refine ca_X10_step_v X hK hG hC hS hb a1 h1 hl0 (vC_lt (b := sgT1 P) (by rw [i83]; decide)) wl_4_25 hl.1 (rest := []) rfl (Nat.le_of_ble_eq_true rfl) ⟨Nat.le_of_ble_eq_true rfl, Nat.le_of_ble_eq_true rfl⟩ ⟨Nat.le_of_ble_eq_true rfl, Nat.le_of_ble_eq_true rfl⟩ dX3_readMove_37 (fun tg85 H locs htg85 hWg85 hS => ?_)
          have b86 := vC_lt (b := sgT1 P) (n := sgL1 P) (a := a) (by rw [i83]; decide)
          have bb86 := vq_bdX (b := sgT1 P) b86
          have pb86 : a + 1 ≤ vX (sgT1 P) (sgL1 P) (a + 1) := vq_pg (vq_pg0 a) (m := 1) (vX_ge (sgT1 P) (sgL1 P) (a + 1)).1 (by decide)
          have hG := hWg85.2.2.2
          rw [htg85] at hG
          refine lv_iload_n X.1 X.2.1 dX3_readMove_40 rfl (lv_at hl 0 rfl) ?_
          refine lv_bipush (v := 120) X.1 X.2.1 dX3_readMove_41 (by decide +kernel) ?_
          refine lv_icmp_ne (tgt := 54) X.1 X.2.1 dX3_readMove_43 (by decide) (fun c87 => ?_) (fun c87 => ?_)
          · have i88 : (vC (sgT1 P) (sgL1 P) a = (120 : Int)) = False := vq_ne c87 hf1 (by decide +kernel)
            exact ((c87 (iv_one (iv_eqm (a' := 120) (b' := 120) c82 yf1 (iv_c 120 (a := 120) (b := 120) (by decide +kernel)) (by decide +kernel)) (iv_c 120 (a := 120) (b := 120) (by decide +kernel)) (by decide +kernel)))).elim
          · have i89 : vC (sgT1 P) (sgL1 P) a = (120 : Int) := vq_eq c87 hf1 (by decide +kernel)
            refine lv_iconst (v := 3) X.1 X.2.1 dX3_readMove_46 (by decide +kernel) ?_
            refine lv_iconst (v := (-1)) X.1 X.2.1 dX3_readMove_47 (by decide +kernel) ?_
            refine lv_iconst (v := 0) X.1 X.2.1 dX3_readMove_48 (by decide +kernel) ?_
            refine lv_iconst (v := 0) X.1 X.2.1 dX3_readMove_49 (by decide +kernel) ?_
            refine ca_X3_packed_v X hK (ka_toKT hG (bb86).1 (Int.le_trans (bb86).2 hl0.2)) hC (fun _ h => h) hS hb 3 (iv_of (iv_c 3 (a := 3) (b := 3) (by decide +kernel)) (a' := 0) (b' := 3) (by decide +kernel)) (-1) (iv_of (iv_c (-1) (a := (-1)) (b := (-1)) (by decide +kernel)) (a' := (-1)) (b' := 29) (by decide +kernel)) 0 (iv_of (iv_c 0 (a := 0) (b := 0) (by decide +kernel)) (a' := 0) (b' := 1) (by decide +kernel)) 0 (iv_of (iv_c 0 (a := 0) (b := 0) (by decide +kernel)) (a' := 0) (b' := 5) (by decide +kernel)) wl_4_26 hl.1 (rest := []) rfl (Nat.le_of_ble_eq_true rfl) ⟨Nat.le_of_ble_eq_true rfl, Nat.le_of_ble_eq_true rfl⟩ ⟨Nat.le_of_ble_eq_true rfl, Nat.le_of_ble_eq_true rfl⟩ dX3_readMove_50 (fun f90 locs hf90 hS => ?_)
            have spr : vMv (sgT1 P) (sgL1 P) a = (true, (vX (sgT1 P) (sgL1 P) (a + 1))) := by simp only [vMv, vNu, i4, i38, i60, i83, i89, cond_true, cond_false, vB_t, vB_f, if_true, if_false, eq_self, not_true_eq_false, not_false_eq_true, Int.reduceEq, Int.reduceLT, or_false, false_or, or_true, true_or]
            have hv8 : iv 0 1487 f90 := hf90
            exact sg_iret2 X hr hlk hS trivial (fun t ht hW => (Or.inl ⟨hv8.1, hv8.2, _, spr, vq_pgw pb86 (by decide), (bb86).2, sg_post hb hK hC hG hS ht hW⟩)) dX3_readMove_53
        · have i84 : (vC (sgT1 P) (sgL1 P) a = (120 : Int)) = False := vq_ne c82 hf1 (by decide +kernel)
          refine lv_aload_n X.1 X.2.1 dX3_readMove_29 rfl (lv_at hl 2 rfl) ?_
          refine ca_X10_wrong_v X hK hG hC hS hb a1 h1 hl0 hav wl_4_24 hl.1 (rest := []) rfl (Nat.le_of_ble_eq_true rfl) ⟨Nat.le_of_ble_eq_true rfl, Nat.le_of_ble_eq_true rfl⟩ ⟨Nat.le_of_ble_eq_true rfl, Nat.le_of_ble_eq_true rfl⟩ dX3_readMove_30 (fun f91 tf91 H locs htf91 hf91 hWf91 hS => ?_)
          have hG := hWf91.2.2.2
          rw [htf91] at hG
          obtain rfl : f91 = 0 := sg_is0 hf91
          refine lv_pop X.1 X.2.1 dX3_readMove_33 rfl ?_
          refine lv_iconst (v := (-1)) X.1 X.2.1 dX3_readMove_34 (by decide +kernel) ?_
          have spr : vMv (sgT1 P) (sgL1 P) a = (false, a) := by simp only [vMv, vNu, i4, i38, i60, i84, cond_true, cond_false, vB_t, vB_f, if_true, if_false, eq_self, not_true_eq_false, not_false_eq_true, Int.reduceEq, Int.reduceLT, or_false, false_or, or_true, true_or]
          have hG := ka_weak (b1 := 0) (b2 := 240) (c1 := a) (c2 := a) hG (hav).1 (Int.le_trans (hav).2 hl0.2) (Int.le_refl _) (Int.le_refl _)
          exact sg_iret2 X hr hlk hS trivial (fun t ht hW => (Or.inr ⟨rfl, _, spr, sg_post hb hK hC hG hS ht hW⟩)) dX3_readMove_35

theorem ca_X3_readMove_v  {a w1 w2 : Int}  (X : CallFix p m c cc nL s args sg_tbl own) (hK : va_K D vwCl tys s) (hG : sgG (KA a a w1 w2 P) D vwCl (fun q : Nat => base ≤ q) tys ad ks H) (hC : sgC base s) (hS : va_S (fun q : Nat => base ≤ q) s.heap H locs) (hb : base ≤ s.heap.size) (a0 : Nat) (h0 : isK ad ks 3 a0) (a1 : Nat) (h1 : isK ad ks 10 a1) (hl0 : 0 ≤ sgL1 P ∧ sgL1 P ≤ 240) (hav : 0 ≤ a ∧ a ≤ sgL1 P) (hby : ∀ j : Nat, (↑j : Int) < sgL1 P → 1 ≤ sgT1 P j ∧ sgT1 P j ≤ 255) (hl : Cond.methodLink own index yX3_readMove ∈ sg_tbl) (hsize : ls.size = nL) (hst : st0 = [.ref a1].reverse ++ .ref a0 :: rest) (hW : (rest.map fun v => v.category).sum ≤ 8) (hR : 4 ≤ R.frames ∧ 80 ≤ R.locals) (hf : cells ≤ R.cells ∧ slots ≤ R.slots) (hdg : decode cc pc = .ok (.invokevirtual index, 3)) (kk : ∀ (r : Int32) (t : State) (H1 : Heap) (locs1 : List Loc), t.heap = H1 → (fun r : Int32 => True) r → ((0 ≤ r.toInt ∧ r.toInt ≤ 1487 ∧ ∃ a1 : Int, vMv (sgT1 P) (sgL1 P) a = (true, a1) ∧ a + 1 ≤ a1 ∧ a1 ≤ sgL1 P ∧ sgB (KA a1 a1 w1 w2 P) D vwCl base tys ad ks t) ∨ (r = -1 ∧ ∃ w : Int, vMv (sgT1 P) (sgL1 P) a = (false, w) ∧ sgB (KA 0 240 w w P) D vwCl base tys ad ks t)) → va_S (fun q : Nat => base ≤ q) s.heap H1 locs1 → W p l e R s m args below meth c H1 locs1 cells slots Q (F0 m (pc + 3) ls (.int r :: rest))) : W p l e R s m args below meth c H locs cells slots Q (F0 m pc ls st0) :=
  sg_callV2i X hK hG hC hS hb (m_X3_readMove_v l a0 h0 a1 h1 hl0 hav hby) h0 (k := 3) (ci := 3) rfl (C := RX3) (T := TX3) (N := 3) rfl wl_4_22 wl_1_4 wl_4_21 wl_0_17 (n := 1) (by decide +kernel) rfl rfl rfl hl hsize hst hW hR hf hdg kk

set_option maxHeartbeats 8000000 in
set_option maxRecDepth 100000 in
theorem m_X3_read_v (l : Launch) {D : va_G} {base : Nat} {tys : List (ClassId × FieldType)} {ad ks : List Nat} {P : sgPm} (a0 : Nat) (h0 : isK ad ks 3 a0) (a1 : Nat) (h1 : isK ad ks 10 a1) (hl0 : 0 ≤ sgL1 P ∧ sgL1 P ≤ 240) (hby : ∀ j : Nat, (↑j : Int) < sgL1 P → 1 ≤ sgT1 P j ∧ sgT1 P j ≤ 255) : Met l yX3_read (Cond.code yX3_read cX3_read 4 (some .boolean) :: sg_tbl) ({ frames := 4, cells := 0, slots := 0, locals := 80 }) (va_Pc [.ref a0, .ref a1] (sgB (KT P) D vwCl base tys ad ks)) (va_Qi (fun r (u : Int32) => u = r ∧ (fun r : Int32 => iv 0 1 r) r) (fun u t => (u = 1 ∧ ∃ a1 : Int, vGame (sgT1 P) (sgL1 P) = (true, a1) ∧ sgB (KA a1 a1 (-1) (-1) P) D vwCl base tys ad ks t) ∨ (u = 0 ∧ ∃ w : Int, vGame (sgT1 P) (sgL1 P) = (false, w) ∧ sgB (KA 0 240 w w P) D vwCl base tys ad ks t)) (fun q : Nat => base ≤ q)) 0 0 (fun q : Nat => base ≤ q) := by
  refine sg_ofW (by decide +kernel) (Nat.le_of_ble_eq_true rfl) (fun p e s m below meth c X hr hlk hb hK hC hG ls hl => ?_)
  have hS : va_S (fun q : Nat => base ≤ q) s.heap s.heap [] := va_S.rf
  have hl : lv_has ls 4 [(0, .ref a0), (1, .ref a1)] := hl
  refine lv_aload_n X.1 X.2.1 dX3_read_0 rfl (lv_at hl 1 rfl) ?_
  refine ca_X10_rewind_v X hK hG hC hS hb a1 h1 hl0 wl_4_18 hl.1 (rest := []) rfl (Nat.le_of_ble_eq_true rfl) ⟨Nat.le_of_ble_eq_true rfl, Nat.le_of_ble_eq_true rfl⟩ ⟨Nat.le_of_ble_eq_true rfl, Nat.le_of_ble_eq_true rfl⟩ dX3_read_1 (fun tg1 H locs htg1 hWg1 hS => ?_)
  have hG := hWg1.2.2.2
  rw [htg1] at hG
  refine lv_aload_n X.1 X.2.1 dX3_read_4 rfl (lv_at hl 0 rfl) ?_
  refine lv_iconst (v := 0) X.1 X.2.1 dX3_read_5 (by decide +kernel) ?_
  refine pf_X3_2a X hK hG hS h0 wl_1_100 ⟨_, rfl, (iv_top _)⟩ dX3_read_6 (fun H locs hG hS ku2 ru2 => ?_)
  refine lv_aload_n X.1 X.2.1 dX3_read_9 rfl (lv_at hl 0 rfl) ?_
  refine lv_iconst (v := 0) X.1 X.2.1 dX3_read_10 (by decide +kernel) ?_
  refine pf_X3_1a X hK hG hS h0 wl_1_97 ⟨_, rfl, (iv_of (iv_c 0 (a := 0) (b := 0) (by decide +kernel)) (a' := 0) (b' := 16) (by decide +kernel))⟩ dX3_read_11 (fun H locs hG hS ku3 ru3 => ?_)
  refine lv_iconst (v := 0) X.1 X.2.1 dX3_read_14 (by decide +kernel) ?_
  refine lv_istore_n (lv' := [(2, .int 0), (0, .ref a0), (1, .ref a1)]) X.1 X.2.1 dX3_read_15 rfl hl (by decide) rfl (fun ls hl => ?_)
  have B4_16 : ∀ (N : Nat) (H : Heap) (locs : List Loc) (ls : Array Slot) (z4_2 : Int32) (a4 : Int), 0 ≤ a4 → a4 ≤ sgL1 P → sgG (KA a4 a4 (-1) (-1) P) D vwCl (fun q : Nat => base ≤ q) tys ad ks H → va_S (fun q : Nat => base ≤ q) s.heap H locs → lv_has ls 4 [(0, .ref a0), (1, .ref a1), (2, .int z4_2)] → iv 0 16 z4_2 → (vGame (sgT1 P) (sgL1 P) = vB (vGm (sgT1 P) (sgL1 P) (16 - (z4_2 : Int32).toInt).toNat a4) (vEn (sgT1 P) (sgL1 P)) ∧ (z4_2 : Int32).toInt < 16) → (17 - z4_2.toInt).toNat ≤ N → W p l e (headSpec (Cond.code yX3_read cX3_read 4 (some .boolean) :: sg_tbl) ({ frames := 4, cells := 0, slots := 0, locals := 80 })).room s m #[.ref a0, .ref a1] below meth c H locs 0 0 (MQ below (va_Qi (fun r (u : Int32) => u = r ∧ (fun r : Int32 => iv 0 1 r) r) (fun u t => (u = 1 ∧ ∃ a1 : Int, vGame (sgT1 P) (sgL1 P) = (true, a1) ∧ sgB (KA a1 a1 (-1) (-1) P) D vwCl base tys ad ks t) ∨ (u = 0 ∧ ∃ w : Int, vGame (sgT1 P) (sgL1 P) = (false, w) ∧ sgB (KA 0 240 w w P) D vwCl base tys ad ks t)) (fun q : Nat => base ≤ q)) #[.ref a0, .ref a1] s 0 0 (fun q : Nat => base ≤ q)) (F0 m 16 ls []) := by
    intro N; induction N with
    | zero =>
      intro H locs ls z4_2 a4 jl4 jm4 hG hS hl hz4_2 xf4 hN
      exact absurd hN (by have := iv_up hz4_2; omega)
    | succ N ih4 =>
      intro H locs ls z4_2 a4 jl4 jm4 hG hS hl hz4_2 xf4 hN4
      refine lv_iload_n X.1 X.2.1 dX3_read_16 rfl (lv_at hl 2 rfl) ?_
      refine lv_bipush (v := 16) X.1 X.2.1 dX3_read_17 (by decide +kernel) ?_
      refine lv_icmp_ge (tgt := 80) X.1 X.2.1 dX3_read_19 (by decide) (fun c5 => ?_) (fun c5 => ?_)
      · have i6 : ¬ z4_2.toInt < (16 : Int) := vq_le c5 (by decide +kernel) rfl
        exact absurd xf4.2 i6
      · have i7 : z4_2.toInt < (16 : Int) := vq_lt (iv_gt_of c5) rfl (by decide +kernel)
        refine lv_aload_n X.1 X.2.1 dX3_read_22 rfl (lv_at hl 0 rfl) ?_
        refine lv_aload_n X.1 X.2.1 dX3_read_23 rfl (lv_at hl 1 rfl) ?_
        refine ca_X3_readMove_v X hK hG hC hS hb a0 h0 a1 h1 hl0 (And.intro jl4 jm4) hby wl_4_19 hl.1 (rest := []) rfl (Nat.le_of_ble_eq_true rfl) ⟨Nat.le_of_ble_eq_true rfl, Nat.le_of_ble_eq_true rfl⟩ ⟨Nat.le_of_ble_eq_true rfl, Nat.le_of_ble_eq_true rfl⟩ dX3_read_24 (fun f8 tf8 H locs htf8 hf8 hWf8 hS => ?_)
        rcases hWf8 with ⟨g1v9, g2v9, av9, pv9, gav9, gbv9, hBf8⟩ | ⟨rfl, wv9, pv9, hBf8⟩
        · have hG := hBf8.2.2.2
          rw [htf8] at hG
          have bv9 := vq_bd2 (k := 1) (And.intro jl4 jm4) (by decide) gav9 gbv9
          refine lv_istore_n (lv' := [(3, .int f8), (0, .ref a0), (1, .ref a1), (2, .int z4_2)]) X.1 X.2.1 dX3_read_27 rfl hl (by decide) rfl (fun ls hl => ?_)
          refine lv_iload_n X.1 X.2.1 dX3_read_28 rfl (lv_at hl 0 rfl) ?_
          refine lv_iconst (v := (-1)) X.1 X.2.1 dX3_read_29 (by decide +kernel) ?_
          refine lv_icmp_ne (tgt := 35) X.1 X.2.1 dX3_read_30 (by decide) (fun c10 => ?_) (fun c10 => ?_)
          · refine lv_aload_n X.1 X.2.1 dX3_read_35 rfl (lv_at hl 1 rfl) ?_
            refine gf_X3_0a X hK hG h0 wl_1_94 dX3_read_36 (fun q11 hq11 kq11 => ?_)
            refine lv_iload_n X.1 X.2.1 dX3_read_39 rfl (lv_at hl 3 rfl) ?_
            refine lv_iload_n X.1 X.2.1 dX3_read_40 rfl (lv_at hl 0 rfl) ?_
            refine as_20a X hK hG hS hq11 (iv_vpin (iv_lt (b' := 15) (iv_gt_of c5) hz4_2 (iv_c 16 (a := 16) (b := 16) (by decide +kernel)) (by decide +kernel)) (by decide +kernel)) ⟨_, rfl, (iv_top _)⟩ dX3_read_41 (fun H locs hG hS ru12 => ?_)
            refine lv_aload_n X.1 X.2.1 dX3_read_42 rfl (lv_at hl 1 rfl) ?_
            refine lv_iload_n X.1 X.2.1 dX3_read_43 rfl (lv_at hl 3 rfl) ?_
            refine lv_iconst (v := 1) X.1 X.2.1 dX3_read_44 (by decide +kernel) ?_
            refine lv_iadd X.1 X.2.1 dX3_read_45 ?_
            refine lv_topi (fun f13 ef13 => ?_)
            have xf13 : f13.toInt = (z4_2.toInt + 1) := sg_exadd ef13 (iv_lt (b' := 15) (iv_gt_of c5) hz4_2 (iv_c 16 (a := 16) (b := 16) (by decide +kernel)) (by decide +kernel)) (iv_c 1 (a := 1) (b := 1) (by decide +kernel)) (by decide +kernel) rfl (by decide +kernel)
            refine pf_X3_1a X hK hG hS h0 wl_1_97 ⟨_, rfl, (iv_of (iv_add (a' := 1) (b' := 16) ef13 (iv_lt (b' := 15) (iv_gt_of c5) hz4_2 (iv_c 16 (a := 16) (b := 16) (by decide +kernel)) (by decide +kernel)) (iv_c 1 (a := 1) (b := 1) (by decide +kernel)) (by decide +kernel)) (a' := 0) (b' := 16) (by decide +kernel))⟩ dX3_read_46 (fun H locs hG hS ku14 ru14 => ?_)
            refine lv_aload_n X.1 X.2.1 dX3_read_49 rfl (lv_at hl 2 rfl) ?_
            refine ca_X10_sign_v X hK hG hC (fun _ h => h) hS hb a1 h1 hl0 bv9 wl_4_23 hl.1 (rest := []) rfl (Nat.le_of_ble_eq_true rfl) ⟨Nat.le_of_ble_eq_true rfl, Nat.le_of_ble_eq_true rfl⟩ ⟨Nat.le_of_ble_eq_true rfl, Nat.le_of_ble_eq_true rfl⟩ dX3_read_50 (fun f15 locs hf15 hS => ?_)
            have yf15 : iv 0 255 f15 := vq_255 hf15 hby
            refine lv_bipush (v := 59) X.1 X.2.1 dX3_read_53 (by decide +kernel) ?_
            refine lv_icmp_ne (tgt := 80) X.1 X.2.1 dX3_read_55 (by decide) (fun c16 => ?_) (fun c16 => ?_)
            · have i17 : (vC (sgT1 P) (sgL1 P) av9 = (59 : Int)) = False := vq_ne c16 hf15 (by decide +kernel)
              refine lv_aload_n X.1 X.2.1 dX3_read_80 rfl (lv_at hl 2 rfl) ?_
              refine ca_X10_ended_v X hK hG hC hS hb a1 h1 hl0 bv9 wl_4_33 hl.1 (rest := []) rfl (Nat.le_of_ble_eq_true rfl) ⟨Nat.le_of_ble_eq_true rfl, Nat.le_of_ble_eq_true rfl⟩ ⟨Nat.le_of_ble_eq_true rfl, Nat.le_of_ble_eq_true rfl⟩ dX3_read_81 (fun f19 tf19 H locs htf19 hf19 hWf19 hS => ?_)
              rcases hWf19 with ⟨rfl, av20, pv20, gav20, gbv20, hBf19⟩ | ⟨rfl, wv20, pv20, hBf19⟩
              · have hG := hBf19.2.2.2
                rw [htf19] at hG
                have bv20 := vq_bd2 (k := 0) bv9 (by decide) gav20 gbv20
                have spr : vGame (sgT1 P) (sgL1 P) = (true, av20) := by exact xf4.1.trans ((congrArg (fun r => vB r (vEn (sgT1 P) (sgL1 P))) (vG_end i7 pv9 (Or.inl i17))).trans pv20)
                exact sg_zret2 X hr (sg_zn (iv_of (iv_c 1 (a := 1) (b := 1) (by decide +kernel)) (a' := 0) (b' := 1) (by decide +kernel))) hlk hS (iv_of (iv_c 1 (a := 1) (b := 1) (by decide +kernel)) (a' := 0) (b' := 1) (by decide +kernel)) (fun t ht hW => (Or.inl ⟨rfl, _, spr, sg_post hb hK hC hG hS ht hW⟩)) dX3_read_84
              · have hG := hBf19.2.2.2
                rw [htf19] at hG
                have spr : vGame (sgT1 P) (sgL1 P) = (false, wv20) := by exact xf4.1.trans ((congrArg (fun r => vB r (vEn (sgT1 P) (sgL1 P))) (vG_end i7 pv9 (Or.inl i17))).trans pv20)
                have hG := ka_weak (b1 := 0) (b2 := 240) (c1 := wv20) (c2 := wv20) hG (Int.le_refl _) (Int.le_refl _) (Int.le_refl _) (Int.le_refl _)
                exact sg_zret2 X hr (sg_zn (iv_of (iv_c 0 (a := 0) (b := 0) (by decide +kernel)) (a' := 0) (b' := 1) (by decide +kernel))) hlk hS (iv_of (iv_c 0 (a := 0) (b := 0) (by decide +kernel)) (a' := 0) (b' := 1) (by decide +kernel)) (fun t ht hW => (Or.inr ⟨rfl, _, spr, sg_post hb hK hC hG hS ht hW⟩)) dX3_read_84
            · have i18 : vC (sgT1 P) (sgL1 P) av9 = (59 : Int) := vq_eq c16 hf15 (by decide +kernel)
              refine lv_aload_n X.1 X.2.1 dX3_read_58 rfl (lv_at hl 1 rfl) ?_
              refine gg_X3_1a X hK hG h0 wl_1_97 ku14 dX3_read_59 ?_
              refine lv_bipush (v := 16) X.1 X.2.1 dX3_read_62 (by decide +kernel) ?_
              refine lv_icmp_ne (tgt := 70) X.1 X.2.1 dX3_read_64 (by decide) (fun c21 => ?_) (fun c21 => ?_)
              · have i22 : ((z4_2.toInt + 1) = (16 : Int)) = False := vq_ne c21 xf13 (by decide +kernel)
                refine lv_aload_n X.1 X.2.1 dX3_read_70 rfl (lv_at hl 2 rfl) ?_
                refine ca_X10_step_v X hK hG hC hS hb a1 h1 hl0 (vC_lt (b := sgT1 P) (by rw [i18]; decide)) wl_4_25 hl.1 (rest := []) rfl (Nat.le_of_ble_eq_true rfl) ⟨Nat.le_of_ble_eq_true rfl, Nat.le_of_ble_eq_true rfl⟩ ⟨Nat.le_of_ble_eq_true rfl, Nat.le_of_ble_eq_true rfl⟩ dX3_read_71 (fun tg24 H locs htg24 hWg24 hS => ?_)
                have b25 := vC_lt (b := sgT1 P) (n := sgL1 P) (a := av9) (by rw [i18]; decide)
                have bb25 := vq_bdX (b := sgT1 P) b25
                have hG := hWg24.2.2.2
                rw [htg24] at hG
                obtain ⟨y26, ey26⟩ : ∃ y : Int32, y = z4_2 + Int32.ofInt 1 := ⟨_, rfl⟩
                have xy26 : y26.toInt = (z4_2.toInt + 1) := sg_exadd ey26 (iv_lt (b' := 15) (iv_gt_of c5) hz4_2 (iv_c 16 (a := 16) (b := 16) (by decide +kernel)) (by decide +kernel)) (iv_c _ (a := 1) (b := 1) (by decide +kernel)) (by decide +kernel) rfl (by decide +kernel)
                refine lv_iinc (v := y26) (lv' := [(2, .int y26), (3, .int f8), (0, .ref a0), (1, .ref a1)]) X.1 X.2.1 dX3_read_74 hl (k := 3) rfl ey26.symm (by decide) rfl (fun ls hl => ?_)
                refine lv_goto (tgt := 16) X.1 X.2.1 dX3_read_77 (by decide) ?_
                exact ih4 H _ _ y26 ((vX (sgT1 P) (sgL1 P) (av9 + 1))) (bb25).1 (bb25).2 hG hS (lv_sub hl [2, 3, 0] rfl) (iv_of (iv_add (a' := 1) (b' := 16) ey26 (iv_lt (b' := 15) (iv_gt_of c5) hz4_2 (iv_c 16 (a := 16) (b := 16) (by decide +kernel)) (by decide +kernel)) (iv_c _ (a := 1) (b := 1) (by decide +kernel)) (by decide +kernel)) (a' := 0) (b' := 16) (by decide +kernel)) ⟨xf4.1.trans (congrArg (fun r => vB r (vEn (sgT1 P) (sgL1 P))) (vG_step i7 i22 pv9 i18 (vq_k64 i7 xy26))), vq_g1 i7 i22 xy26⟩ (iv_stepU ey26 (iv_lt (b' := 15) (iv_gt_of c5) hz4_2 (iv_c 16 (a := 16) (b := 16) (by decide +kernel)) (by decide +kernel)) (by decide +kernel) hN4)
              · have i23 : (z4_2.toInt + 1) = (16 : Int) := vq_eq c21 xf13 (by decide +kernel)
                refine lv_goto (tgt := 80) X.1 X.2.1 dX3_read_67 (by decide) ?_
                refine lv_aload_n X.1 X.2.1 dX3_read_80 rfl (lv_at hl 2 rfl) ?_
                refine ca_X10_ended_v X hK hG hC hS hb a1 h1 hl0 bv9 wl_4_33 hl.1 (rest := []) rfl (Nat.le_of_ble_eq_true rfl) ⟨Nat.le_of_ble_eq_true rfl, Nat.le_of_ble_eq_true rfl⟩ ⟨Nat.le_of_ble_eq_true rfl, Nat.le_of_ble_eq_true rfl⟩ dX3_read_81 (fun f27 tf27 H locs htf27 hf27 hWf27 hS => ?_)
                rcases hWf27 with ⟨rfl, av28, pv28, gav28, gbv28, hBf27⟩ | ⟨rfl, wv28, pv28, hBf27⟩
                · have hG := hBf27.2.2.2
                  rw [htf27] at hG
                  have bv28 := vq_bd2 (k := 0) bv9 (by decide) gav28 gbv28
                  have spr : vGame (sgT1 P) (sgL1 P) = (true, av28) := by exact xf4.1.trans ((congrArg (fun r => vB r (vEn (sgT1 P) (sgL1 P))) (vG_end i7 pv9 (Or.inr i23))).trans pv28)
                  exact sg_zret2 X hr (sg_zn (iv_of (iv_c 1 (a := 1) (b := 1) (by decide +kernel)) (a' := 0) (b' := 1) (by decide +kernel))) hlk hS (iv_of (iv_c 1 (a := 1) (b := 1) (by decide +kernel)) (a' := 0) (b' := 1) (by decide +kernel)) (fun t ht hW => (Or.inl ⟨rfl, _, spr, sg_post hb hK hC hG hS ht hW⟩)) dX3_read_84
                · have hG := hBf27.2.2.2
                  rw [htf27] at hG
                  have spr : vGame (sgT1 P) (sgL1 P) = (false, wv28) := by exact xf4.1.trans ((congrArg (fun r => vB r (vEn (sgT1 P) (sgL1 P))) (vG_end i7 pv9 (Or.inr i23))).trans pv28)
                  have hG := ka_weak (b1 := 0) (b2 := 240) (c1 := wv28) (c2 := wv28) hG (Int.le_refl _) (Int.le_refl _) (Int.le_refl _) (Int.le_refl _)
                  exact sg_zret2 X hr (sg_zn (iv_of (iv_c 0 (a := 0) (b := 0) (by decide +kernel)) (a' := 0) (b' := 1) (by decide +kernel))) hlk hS (iv_of (iv_c 0 (a := 0) (b := 0) (by decide +kernel)) (a' := 0) (b' := 1) (by decide +kernel)) (fun t ht hW => (Or.inr ⟨rfl, _, spr, sg_post hb hK hC hG hS ht hW⟩)) dX3_read_84
          · exact ((iv_no (a := 0) (b := (-1)) (iv_eqm c10 (show iv 0 1487 f8 from ⟨g1v9, g2v9⟩) (iv_c (-1) (a := (-1)) (b := (-1)) (by decide +kernel)) (by decide +kernel)) (by decide +kernel))).elim
        · have hG := hBf8.2.2.2
          rw [htf8] at hG
          refine lv_istore_n (lv' := [(3, .int (-1)), (0, .ref a0), (1, .ref a1), (2, .int z4_2)]) X.1 X.2.1 dX3_read_27 rfl hl (by decide) rfl (fun ls hl => ?_)
          refine lv_iload_n X.1 X.2.1 dX3_read_28 rfl (lv_at hl 0 rfl) ?_
          refine lv_iconst (v := (-1)) X.1 X.2.1 dX3_read_29 (by decide +kernel) ?_
          refine lv_icmp_ne (tgt := 35) X.1 X.2.1 dX3_read_30 (by decide) (fun c29 => ?_) (fun c29 => ?_)
          · exact ((c29 (iv_one (iv_c (-1) (a := (-1)) (b := (-1)) (by decide +kernel)) (iv_c (-1) (a := (-1)) (b := (-1)) (by decide +kernel)) (by decide +kernel)))).elim
          · refine lv_iconst (v := 0) X.1 X.2.1 dX3_read_33 (by decide +kernel) ?_
            have spr : vGame (sgT1 P) (sgL1 P) = (false, wv9) := by exact xf4.1.trans (congrArg (fun r => vB r (vEn (sgT1 P) (sgL1 P))) (vG_bad i7 pv9))
            have hG := ka_weak (b1 := 0) (b2 := 240) (c1 := wv9) (c2 := wv9) hG (Int.le_refl _) (Int.le_refl _) (Int.le_refl _) (Int.le_refl _)
            exact sg_zret2 X hr (sg_zn (iv_of (iv_c 0 (a := 0) (b := 0) (by decide +kernel)) (a' := 0) (b' := 1) (by decide +kernel))) hlk hS (iv_of (iv_c 0 (a := 0) (b := 0) (by decide +kernel)) (a' := 0) (b' := 1) (by decide +kernel)) (fun t ht hW => (Or.inr ⟨rfl, _, spr, sg_post hb hK hC hG hS ht hW⟩)) dX3_read_34
  exact B4_16 _ H _ _ 0 ((vX (sgT1 P) (sgL1 P) 0)) ((vq_bd0 (b := sgT1 P) hl0.1)).1 ((vq_bd0 (b := sgT1 P) hl0.1)).2 hG hS (lv_sub hl [1, 2, 0] rfl) (iv_of (iv_c 0 (a := 0) (b := 0) (by decide +kernel)) (a' := 0) (b' := 16) (by decide +kernel)) ⟨rfl, vq_g0⟩ (Nat.le_refl _)

theorem ca_X3_read_v   (X : CallFix p m c cc nL s args sg_tbl own) (hK : va_K D vwCl tys s) (hG : sgG (KT P) D vwCl (fun q : Nat => base ≤ q) tys ad ks H) (hC : sgC base s) (hS : va_S (fun q : Nat => base ≤ q) s.heap H locs) (hb : base ≤ s.heap.size) (a0 : Nat) (h0 : isK ad ks 3 a0) (a1 : Nat) (h1 : isK ad ks 10 a1) (hl0 : 0 ≤ sgL1 P ∧ sgL1 P ≤ 240) (hby : ∀ j : Nat, (↑j : Int) < sgL1 P → 1 ≤ sgT1 P j ∧ sgT1 P j ≤ 255) (hl : Cond.methodLink own index yX3_read ∈ sg_tbl) (hsize : ls.size = nL) (hst : st0 = [.ref a1].reverse ++ .ref a0 :: rest) (hW : (rest.map fun v => v.category).sum ≤ 8) (hR : 5 ≤ R.frames ∧ 103 ≤ R.locals) (hf : cells ≤ R.cells ∧ slots ≤ R.slots) (hdg : decode cc pc = .ok (.invokevirtual index, 3)) (kk : ∀ (r : Int32) (t : State) (H1 : Heap) (locs1 : List Loc), t.heap = H1 → (fun r : Int32 => iv 0 1 r) r → ((r = 1 ∧ ∃ a1 : Int, vGame (sgT1 P) (sgL1 P) = (true, a1) ∧ sgB (KA a1 a1 (-1) (-1) P) D vwCl base tys ad ks t) ∨ (r = 0 ∧ ∃ w : Int, vGame (sgT1 P) (sgL1 P) = (false, w) ∧ sgB (KA 0 240 w w P) D vwCl base tys ad ks t)) → va_S (fun q : Nat => base ≤ q) s.heap H1 locs1 → W p l e R s m args below meth c H1 locs1 cells slots Q (F0 m (pc + 3) ls (.int r :: rest))) : W p l e R s m args below meth c H locs cells slots Q (F0 m pc ls st0) :=
  sg_callV2i X hK hG hC hS hb (m_X3_read_v l a0 h0 a1 h1 hl0 hby) h0 (k := 3) (ci := 3) rfl (C := RX3) (T := TX3) (N := 3) rfl wl_4_17 wl_1_4 wl_4_15 wl_4_16 (n := 1) (by decide +kernel) rfl rfl rfl hl hsize hst hW hR hf hdg kk
end
