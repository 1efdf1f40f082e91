def w_c_X5_init : List Cond := .code yX5_init cX5_init 2 none :: ([.methodLink RX5 3 objectInit, .instanceMethod objectInit, .code objectInit ⟨#[0xb1]⟩ 1 none, .classLink RX5 9 RX9, .fieldLink RX5 11 "LawnAhead$History" "states" "[LLawnAhead$State;", .arrayClass .int, .fieldLink RX5 15 "LawnAhead$History" "deeds" "[I", .instantiable RX9 8, .initialized RX9, .methodLink RX9 1 objectInit, .code yX9_init cX9_init 1 none, .instanceMethod yX9_init, .fieldLink RX5 20 "LawnAhead$History" "imageState" "LLawnAhead$State;", .fieldLink RX5 24 "LawnAhead$History" "imageDeeds" "[I"] ++ (wsX50 ++ (wsX90 ++ [])))
theorem in_c_X5_init_X5 : ∀ w ∈ wsX50, w ∈ w_c_X5_init := fun w h => List.mem_cons_of_mem _ (List.mem_append_right _ (List.mem_append_left _ h))
theorem in_c_X5_init_X9 : ∀ w ∈ wsX90, w ∈ w_c_X5_init := fun w h => List.mem_cons_of_mem _ (List.mem_append_right _ (List.mem_append_right _ (List.mem_append_left _ h)))
set_option maxRecDepth 100000 in
theorem g_c_X5_init_26_c_X9_init : GoodIn w_c_X5_init (w_c_X9_init) := goodIn_r _ [11, 10, 2, 3] rfl (by decide +kernel)
set_option maxRecDepth 100000 in
theorem g_c_X5_init_57_c_X9_init : GoodIn w_c_X5_init (w_c_X9_init) := goodIn_r _ [11, 10, 2, 3] rfl (by decide +kernel)
set_option maxHeartbeats 8000000 in
set_option maxRecDepth 100000 in
theorem c_X5_init (l : Launch) (dC : Nat → ClassId) (dI : Nat → Nat → Nat) (h0 : Nat) (sz : Nat) : Met l yX5_init w_c_X5_init ({ frames := 2, cells := 44, slots := 568, locals := 32 }) (va_Pc [.ref h0] (fun U => U.heap.size = sz ∧ va_P (dC, dI) vwCl [(h0, .inr (5, [.null, .null, .null, .null, .int 0, .int 0, .int 0, .int 0, .int 0, .int 0, .int 0]))] U.heap ∧ va_K (dC, dI) vwCl [] U ∧ va_D (fun _ => True) [(h0, .inr (5, [.null, .null, .null, .null, .int 0, .int 0, .int 0, .int 0, .int 0, .int 0, .int 0]))] ∧ va_Nw (.methodLinkNest RX5 19 yX9_init RX11) U ∧ va_AO RX9 U)) (va_Qv (fun (_ : Unit) => True) (fun _ t => ∃ (q_1 : Nat) (q_3 : Nat) (q_5 : Nat) (q_7 : Nat), va_P (dC, dI) vwCl [(h0, .inr (5, [.ref q_1, .ref q_3, .ref q_5, .ref q_7, .int 0, .int 0, .int 0, .int 0, .int 0, .int 0, .int 0]))] t.heap ∧ va_K (dC, dI) vwCl [] t ∧ va_D (va_A [(h0, .inr (5, [.null, .null, .null, .null, .int 0, .int 0, .int 0, .int 0, .int 0, .int 0, .int 0]))] sz) [(h0, .inr (5, [.ref q_1, .ref q_3, .ref q_5, .ref q_7, .int 0, .int 0, .int 0, .int 0, .int 0, .int 0, .int 0]))]) (va_A [(h0, .inr (5, [.null, .null, .null, .null, .int 0, .int 0, .int 0, .int 0, .int 0, .int 0, .int 0]))] sz)) 44 568 (va_A [(h0, .inr (5, [.null, .null, .null, .null, .int 0, .int 0, .int 0, .int 0, .int 0, .int 0, .int 0]))] sz) := by
  refine Met.ofW (cc := cX5_init) (maxL := 2) (ret := none) (by decide) rfl ?_
  intro p e s m args below meth c s₁ B hml hv
  obtain ⟨rfl, hsz, hP, hK, hD0, hNX5_X9, hAOX9⟩ := hv
  have hx := B.exec
  have hb := B.bytes
  have hr := B.returns
  have hts := atoms_spec (ws := w_c_X5_init) B.pre
  have hown : s.vm.findClass RX5 = some m.cls := findClass_of_methodNamed B.named
  have hlocks := B.notSynchronized
  have hin : meth.name = "<init>" := (name_of_methodNamed B.named B.method).1
  subst hsz
  have hD := hD0.self (sz := s.heap.size)
  generalize hAe : va_A [(h0, .inr (5, [.null, .null, .null, .null, .int 0, .int 0, .int 0, .int 0, .int 0, .int 0, .int 0]))] s.heap.size = A at hD ⊢
  have hA : ∀ q : Nat, s.heap.size ≤ q → A q := fun q h => by rw [← hAe]; exact Or.inr h
  have hS : va_S A s.heap s.heap [] := va_S.rf
  have hP : va_P (dC, dI) vwCl [(h0, .inr (5, [.null, .null, .null, .null, .int 0, .int 0, .int 0, .int 0, .int 0, .int 0, .int 0]))] s.heap := hP
  have hl := lv_entry ([.ref h0]) (n := 2) (Nat.le_of_ble_eq_true rfl)
  rw [lg_entry_eq]
  generalize (lg_sl ([.ref h0]) ++ List.replicate (2 - (lg_sl ([.ref h0])).length) Slot.unset).toArray = ls at hl ⊢
  have hl : lv_has ls 2 [(0, .ref h0)] := hl
  refine lv_aload_n hx hb dX5_init_0 rfl (lv_at hl 0 rfl) ?_
  refine W.objInit hx hb hown (hts (.methodLink RX5 3 objectInit) (List.mem_of_getElem? (i := 1) rfl)) (hts (.instanceMethod objectInit) (List.mem_of_getElem? (i := 2) rfl)) (hts (.code objectInit ⟨#[0xb1]⟩ 1 none) (List.mem_of_getElem? (i := 3) rfl)) rfl (by rw [hml]; exact hl.1) rfl dX5_init_1 (Nat.le_of_ble_eq_true rfl) (Nat.le_of_ble_eq_true rfl) ?_
  refine W.eq (g2 := F0 m 4 ls []) rfl ?_
  refine lv_aload_n hx hb dX5_init_4 rfl (lv_at hl 0 rfl) ?_
  refine lv_bipush (v := 40) hx hb dX5_init_5 (by decide +kernel) ?_
  refine va_newq hx hb hown (hts (.classLink RX5 9 RX9) (List.mem_of_getElem? (i := 4) rfl)) hAOX9 hK hP hD hS hA (N' := 40) (by decide +kernel) rfl (Nat.le_of_ble_eq_true rfl) (Nat.le_of_ble_eq_true rfl) (Nat.le_of_ble_eq_true rfl) dX5_init_7 (fun q_1 cy_2 H hK hP hD hS => ?_)
  have hK : va_K (dC, dI) vwCl [(cy_2, .object RX9)] s := hK
  have hP : va_P (dC, dI) vwCl [(h0, .inr (5, [.null, .null, .null, .null, .int 0, .int 0, .int 0, .int 0, .int 0, .int 0, .int 0])), (q_1, .inl (cy_2, 40, .inr (.inr (.inr (.inr (fun _ => none))))))] H := hP
  have hD : va_D A [(h0, .inr (5, [.null, .null, .null, .null, .int 0, .int 0, .int 0, .int 0, .int 0, .int 0, .int 0])), (q_1, .inl (cy_2, 40, .inr (.inr (.inr (.inr (fun _ => none))))))] := hD
  refine W.widen (k := 1) (n := 40) (Nat.le_of_ble_eq_true rfl) (Nat.le_of_ble_eq_true rfl) ?_
  refine va_putF (D := (dC, dI)) (ci := 5) (v := .ref q_1) (ty := (tyX5 0)) (C := RX5) (T := TX5) (N := 11) hx hb hts in_c_X5_init_X5 tyX5 tyX5_ok nmX5 hown hK hP hD hS 0 rfl rfl 0 (by decide) (hts (.fieldLink RX5 11 "LawnAhead$History" "states" "[LLawnAhead$State;") (List.mem_of_getElem? (i := 5) rfl)) (fun _ h9 => h9) rfl hin rfl (by decide +kernel) rfl rfl (Nat.le_of_ble_eq_true rfl) dX5_init_10 (fun H locs hP hD hS => ?_)
  have hP : va_P (dC, dI) vwCl [(h0, .inr (5, [.ref q_1, .null, .null, .null, .int 0, .int 0, .int 0, .int 0, .int 0, .int 0, .int 0])), (q_1, .inl (cy_2, 40, .inr (.inr (.inr (.inr (fun _ => none))))))] H := hP
  have hD : va_D A [(h0, .inr (5, [.ref q_1, .null, .null, .null, .int 0, .int 0, .int 0, .int 0, .int 0, .int 0, .int 0])), (q_1, .inl (cy_2, 40, .inr (.inr (.inr (.inr (fun _ => none))))))] := hD
  refine lv_aload_n hx hb dX5_init_13 rfl (lv_at hl 0 rfl) ?_
  refine lv_bipush (v := 100) hx hb dX5_init_14 (by decide +kernel) ?_
  refine va_newa (atype := .int) (ty := .int) (a0 := (100, .inl (fun _ => 0))) hx hb (hts (.arrayClass .int) (List.mem_of_getElem? (i := 6) rfl)) rfl hK hP hD hS hA (N' := 100) (fun _ => rfl) (by decide +kernel) rfl (Nat.le_of_ble_eq_true rfl) (Nat.le_of_ble_eq_true rfl) (Nat.le_of_ble_eq_true rfl) dX5_init_16 (fun q_3 cy_4 H hK hP hD hS => ?_)
  have hK : va_K (dC, dI) vwCl [(cy_2, .object RX9), (cy_4, .int)] s := hK
  have hP : va_P (dC, dI) vwCl [(h0, .inr (5, [.ref q_1, .null, .null, .null, .int 0, .int 0, .int 0, .int 0, .int 0, .int 0, .int 0])), (q_1, .inl (cy_2, 40, .inr (.inr (.inr (.inr (fun _ => none)))))), (q_3, .inl (cy_4, 100, .inl (fun _ => 0)))] H := hP
  have hD : va_D A [(h0, .inr (5, [.ref q_1, .null, .null, .null, .int 0, .int 0, .int 0, .int 0, .int 0, .int 0, .int 0])), (q_1, .inl (cy_2, 40, .inr (.inr (.inr (.inr (fun _ => none)))))), (q_3, .inl (cy_4, 100, .inl (fun _ => 0)))] := hD
  refine W.widen (k := 2) (n := 140) (Nat.le_of_ble_eq_true rfl) (Nat.le_of_ble_eq_true rfl) ?_
  refine va_putF (D := (dC, dI)) (ci := 5) (v := .ref q_3) (ty := (tyX5 1)) (C := RX5) (T := TX5) (N := 11) hx hb hts in_c_X5_init_X5 tyX5 tyX5_ok nmX5 hown hK hP hD hS 0 rfl rfl 1 (by decide) (hts (.fieldLink RX5 15 "LawnAhead$History" "deeds" "[I") (List.mem_of_getElem? (i := 7) rfl)) (fun _ h9 => h9) rfl hin rfl (by decide +kernel) rfl rfl (Nat.le_of_ble_eq_true rfl) dX5_init_18 (fun H locs hP hD hS => ?_)
  have hP : va_P (dC, dI) vwCl [(h0, .inr (5, [.ref q_1, .ref q_3, .null, .null, .int 0, .int 0, .int 0, .int 0, .int 0, .int 0, .int 0])), (q_1, .inl (cy_2, 40, .inr (.inr (.inr (.inr (fun _ => none)))))), (q_3, .inl (cy_4, 100, .inl (fun _ => 0)))] H := hP
  have hD : va_D A [(h0, .inr (5, [.ref q_1, .ref q_3, .null, .null, .int 0, .int 0, .int 0, .int 0, .int 0, .int 0, .int 0])), (q_1, .inl (cy_2, 40, .inr (.inr (.inr (.inr (fun _ => none)))))), (q_3, .inl (cy_4, 100, .inl (fun _ => 0)))] := hD
  refine lv_aload_n hx hb dX5_init_21 rfl (lv_at hl 0 rfl) ?_
  refine va_new (ci := 9) (fs := [.int 0, .int 0, .int 0, .int 0, .int 0, .int 0, .int 0, .int 0]) (C := RX9) (T := TX9) (N := 8) hx hb hts in_c_X5_init_X9 tyX9 tyX9_ok hown (hts (.classLink RX5 9 RX9) (List.mem_of_getElem? (i := 4) rfl)) (hts (.instantiable RX9 8) (List.mem_of_getElem? (i := 8) rfl)) (hts (.initialized RX9) (List.mem_of_getElem? (i := 9) rfl)) hK hP hD hS hA rfl (by decide +kernel) (Nat.le_of_ble_eq_true rfl) (Nat.le_of_ble_eq_true rfl) dX5_init_22 (fun q_5 H hP hD hS => ?_)
  have hP : va_P (dC, dI) vwCl [(h0, .inr (5, [.ref q_1, .ref q_3, .null, .null, .int 0, .int 0, .int 0, .int 0, .int 0, .int 0, .int 0])), (q_1, .inl (cy_2, 40, .inr (.inr (.inr (.inr (fun _ => none)))))), (q_3, .inl (cy_4, 100, .inl (fun _ => 0))), (q_5, .inr (9, [.int 0, .int 0, .int 0, .int 0, .int 0, .int 0, .int 0, .int 0]))] H := hP
  have hD : va_D A [(h0, .inr (5, [.ref q_1, .ref q_3, .null, .null, .int 0, .int 0, .int 0, .int 0, .int 0, .int 0, .int 0])), (q_1, .inl (cy_2, 40, .inr (.inr (.inr (.inr (fun _ => none)))))), (q_3, .inl (cy_4, 100, .inl (fun _ => 0))), (q_5, .inr (9, [.int 0, .int 0, .int 0, .int 0, .int 0, .int 0, .int 0, .int 0]))] := hD
  refine W.widen (k := 3) (n := 148) (Nat.le_of_ble_eq_true rfl) (Nat.le_of_ble_eq_true rfl) ?_
  refine lv_dup hx hb dX5_init_25 rfl ?_
  have hPc := hP.sub (ws' := [(q_5, .inr (9, [.int 0, .int 0, .int 0, .int 0, .int 0, .int 0, .int 0, .int 0]))]) [3] rfl
  have hDc := hD.sub (ws' := [(q_5, .inr (9, [.int 0, .int 0, .int 0, .int 0, .int 0, .int 0, .int 0, .int 0]))]) [3] (by decide) rfl
  have hKc := hK.sub (tys' := []) [] rfl
  have hFc := va_free (wc := [(q_5, .inr (9, [.int 0, .int 0, .int 0, .int 0, .int 0, .int 0, .int 0, .int 0]))]) hD hS hA [3] rfl
  refine va_callv (va_runIN (As := []) (rest := [.ref q_5, .ref h0]) ⟨hx, hb, hml, hown, hts⟩ (c_X9_init l dC dI q_5 H.size) ⟨va_cnB 0 hts g_c_X5_init_26_c_X9_init rfl rfl rfl hNX5_X9 (hts (.initialized RX9) (List.mem_of_getElem? (i := 9) rfl)) (by decide +kernel) ⟨Nat.le_of_ble_eq_true rfl, Nat.le_of_ble_eq_true rfl⟩, rfl, (hts (.instanceMethod yX9_init) (List.mem_of_getElem? (i := 12) rfl))⟩ ⟨fun a U g mk q => by obtain ⟨q0, q1, qP, qK, qD⟩ := q; exact ⟨q0, q1, qP, va_K.moved (u := U) (U := U.calling g mk a) (Vm.Alike.refl U.vm) qK, qD⟩, fun U hU hW => ⟨rfl, by rw [hU], by rw [hU]; exact hPc, va_K.moved hW.alike hKc, hDc.weaken (fun _ _ _ _ => trivial)⟩⟩ rfl rfl hl.1 rfl (lv_room (Nat.le_of_ble_eq_true rfl)) dX5_init_26 ⟨Nat.le_of_ble_eq_true rfl, Nat.le_of_ble_eq_true rfl⟩) hS (fun q _ h => hFc q h) hFc (fun u t H1 locs ht hvm hw hB hz1 hk1 hS => ?_)
  obtain ⟨hP1, hK1, hD1⟩ := hB
  rw [ht] at hP1
  have hK1 := va_K.moved hvm.symm hK1
  try dsimp only at hw
  obtain ⟨hP, hD⟩ := va_join (wr := [(h0, .inr (5, [.ref q_1, .ref q_3, .null, .null, .int 0, .int 0, .int 0, .int 0, .int 0, .int 0, .int 0])), (q_1, .inl (cy_2, 40, .inr (.inr (.inr (.inr (fun _ => none)))))), (q_3, .inl (cy_4, 100, .inl (fun _ => 0)))]) (w1 := [(q_5, .inr (9, [.int 0, .int 0, .int 0, .int 0, .int 0, .int 0, .int 0, .int 0]))]) hP hD [3] [0, 1, 2] rfl rfl (by decide) (by decide) hk1 hFc hP1 hD1
  have hK := hK.app hK1
  generalize H1 = H at hP hS ⊢
  have hP : va_P (dC, dI) vwCl [(h0, .inr (5, [.ref q_1, .ref q_3, .null, .null, .int 0, .int 0, .int 0, .int 0, .int 0, .int 0, .int 0])), (q_1, .inl (cy_2, 40, .inr (.inr (.inr (.inr (fun _ => none)))))), (q_3, .inl (cy_4, 100, .inl (fun _ => 0))), (q_5, .inr (9, [.int 0, .int 0, .int 0, .int 0, .int 0, .int 0, .int 0, .int 0]))] H := hP
  have hD : va_D A [(h0, .inr (5, [.ref q_1, .ref q_3, .null, .null, .int 0, .int 0, .int 0, .int 0, .int 0, .int 0, .int 0])), (q_1, .inl (cy_2, 40, .inr (.inr (.inr (.inr (fun _ => none)))))), (q_3, .inl (cy_4, 100, .inl (fun _ => 0))), (q_5, .inr (9, [.int 0, .int 0, .int 0, .int 0, .int 0, .int 0, .int 0, .int 0]))] := hD
  have hK : va_K (dC, dI) vwCl [(cy_2, .object RX9), (cy_4, .int)] s := hK
  refine W.widen (k := 3) (n := 148) (Nat.le_of_ble_eq_true rfl) (Nat.le_of_ble_eq_true rfl) ?_
  refine va_putF (D := (dC, dI)) (ci := 5) (v := .ref q_5) (ty := (tyX5 2)) (C := RX5) (T := TX5) (N := 11) hx hb hts in_c_X5_init_X5 tyX5 tyX5_ok nmX5 hown hK hP hD hS 0 rfl rfl 2 (by decide) (hts (.fieldLink RX5 20 "LawnAhead$History" "imageState" "LLawnAhead$State;") (List.mem_of_getElem? (i := 13) rfl)) (fun _ h9 => h9) rfl hin rfl (by decide +kernel) rfl rfl (Nat.le_of_ble_eq_true rfl) dX5_init_29 (fun H locs hP hD hS => ?_)
  have hP : va_P (dC, dI) vwCl [(h0, .inr (5, [.ref q_1, .ref q_3, .ref q_5, .null, .int 0, .int 0, .int 0, .int 0, .int 0, .int 0, .int 0])), (q_1, .inl (cy_2, 40, .inr (.inr (.inr (.inr (fun _ => none)))))), (q_3, .inl (cy_4, 100, .inl (fun _ => 0))), (q_5, .inr (9, [.int 0, .int 0, .int 0, .int 0, .int 0, .int 0, .int 0, .int 0]))] H := hP
  have hD : va_D A [(h0, .inr (5, [.ref q_1, .ref q_3, .ref q_5, .null, .int 0, .int 0, .int 0, .int 0, .int 0, .int 0, .int 0])), (q_1, .inl (cy_2, 40, .inr (.inr (.inr (.inr (fun _ => none)))))), (q_3, .inl (cy_4, 100, .inl (fun _ => 0))), (q_5, .inr (9, [.int 0, .int 0, .int 0, .int 0, .int 0, .int 0, .int 0, .int 0]))] := hD
  refine lv_aload_n hx hb dX5_init_32 rfl (lv_at hl 0 rfl) ?_
  refine lv_bipush (v := 100) hx hb dX5_init_33 (by decide +kernel) ?_
  refine va_newa (atype := .int) (ty := .int) (a0 := (100, .inl (fun _ => 0))) hx hb (hts (.arrayClass .int) (List.mem_of_getElem? (i := 6) rfl)) rfl hK hP hD hS hA (N' := 100) (fun _ => rfl) (by decide +kernel) rfl (Nat.le_of_ble_eq_true rfl) (Nat.le_of_ble_eq_true rfl) (Nat.le_of_ble_eq_true rfl) dX5_init_35 (fun q_7 cy_8 H hK hP hD hS => ?_)
  have hK : va_K (dC, dI) vwCl [(cy_2, .object RX9), (cy_4, .int), (cy_8, .int)] s := hK
  have hP : va_P (dC, dI) vwCl [(h0, .inr (5, [.ref q_1, .ref q_3, .ref q_5, .null, .int 0, .int 0, .int 0, .int 0, .int 0, .int 0, .int 0])), (q_1, .inl (cy_2, 40, .inr (.inr (.inr (.inr (fun _ => none)))))), (q_3, .inl (cy_4, 100, .inl (fun _ => 0))), (q_5, .inr (9, [.int 0, .int 0, .int 0, .int 0, .int 0, .int 0, .int 0, .int 0])), (q_7, .inl (cy_8, 100, .inl (fun _ => 0)))] H := hP
  have hD : va_D A [(h0, .inr (5, [.ref q_1, .ref q_3, .ref q_5, .null, .int 0, .int 0, .int 0, .int 0, .int 0, .int 0, .int 0])), (q_1, .inl (cy_2, 40, .inr (.inr (.inr (.inr (fun _ => none)))))), (q_3, .inl (cy_4, 100, .inl (fun _ => 0))), (q_5, .inr (9, [.int 0, .int 0, .int 0, .int 0, .int 0, .int 0, .int 0, .int 0])), (q_7, .inl (cy_8, 100, .inl (fun _ => 0)))] := hD
  refine W.widen (k := 4) (n := 248) (Nat.le_of_ble_eq_true rfl) (Nat.le_of_ble_eq_true rfl) ?_
  refine va_putF (D := (dC, dI)) (ci := 5) (v := .ref q_7) (ty := (tyX5 3)) (C := RX5) (T := TX5) (N := 11) hx hb hts in_c_X5_init_X5 tyX5 tyX5_ok nmX5 hown hK hP hD hS 0 rfl rfl 3 (by decide) (hts (.fieldLink RX5 24 "LawnAhead$History" "imageDeeds" "[I") (List.mem_of_getElem? (i := 14) rfl)) (fun _ h9 => h9) rfl hin rfl (by decide +kernel) rfl rfl (Nat.le_of_ble_eq_true rfl) dX5_init_37 (fun H locs hP hD hS => ?_)
  have hP : va_P (dC, dI) vwCl [(h0, .inr (5, [.ref q_1, .ref q_3, .ref q_5, .ref q_7, .int 0, .int 0, .int 0, .int 0, .int 0, .int 0, .int 0])), (q_1, .inl (cy_2, 40, .inr (.inr (.inr (.inr (fun _ => none)))))), (q_3, .inl (cy_4, 100, .inl (fun _ => 0))), (q_5, .inr (9, [.int 0, .int 0, .int 0, .int 0, .int 0, .int 0, .int 0, .int 0])), (q_7, .inl (cy_8, 100, .inl (fun _ => 0)))] H := hP
  have hD : va_D A [(h0, .inr (5, [.ref q_1, .ref q_3, .ref q_5, .ref q_7, .int 0, .int 0, .int 0, .int 0, .int 0, .int 0, .int 0])), (q_1, .inl (cy_2, 40, .inr (.inr (.inr (.inr (fun _ => none)))))), (q_3, .inl (cy_4, 100, .inl (fun _ => 0))), (q_5, .inr (9, [.int 0, .int 0, .int 0, .int 0, .int 0, .int 0, .int 0, .int 0])), (q_7, .inl (cy_8, 100, .inl (fun _ => 0)))] := hD
  refine lv_iconst (v := 0) hx hb dX5_init_40 (by decide +kernel) ?_
  refine lv_istore_n (lv' := [(1, .int 0), (0, .ref h0)]) hx hb dX5_init_41 rfl hl (by decide) rfl (fun ls hl => ?_)
  have hP := hP.sub (ws' := [(h0, .inr (5, [.ref q_1, .ref q_3, .ref q_5, .ref q_7, .int 0, .int 0, .int 0, .int 0, .int 0, .int 0, .int 0])), (q_1, .inl (cy_2, 40, .inr (.inr (.inr (.inr (fun _ => none))))))]) [0, 1] rfl
  have hD := hD.sub (ws' := [(h0, .inr (5, [.ref q_1, .ref q_3, .ref q_5, .ref q_7, .int 0, .int 0, .int 0, .int 0, .int 0, .int 0, .int 0])), (q_1, .inl (cy_2, 40, .inr (.inr (.inr (.inr (fun _ => none))))))]) [0, 1] (by decide) rfl
  refine lv_iload_n hx hb dX5_init_42 rfl (lv_at hl 0 rfl) ?_
  refine lv_bipush (v := 40) hx hb dX5_init_43 (by decide +kernel) ?_
  refine lv_icmp_ge (tgt := 67) hx hb dX5_init_45 (by decide) (fun c_9 => absurd c_9 (by decide +kernel)) (fun c_9 => ?_)
  refine lv_aload_n hx hb dX5_init_48 rfl (lv_at hl 1 rfl) ?_
  refine va_get (D := (dC, dI)) (ci := 5) (v := .ref q_1) (C := RX5) (T := TX5) (N := 11) hx hb hts in_c_X5_init_X5 hown hK hP 0 rfl rfl 0 (by decide) (hts (.fieldLink RX5 11 "LawnAhead$History" "states" "[LLawnAhead$State;") (List.mem_of_getElem? (i := 5) rfl)) (fun _ h9 => h9) rfl dX5_init_49 ?_
  refine lv_iload_n hx hb dX5_init_52 rfl (lv_at hl 0 rfl) ?_
  refine va_new (ci := 9) (fs := [.int 0, .int 0, .int 0, .int 0, .int 0, .int 0, .int 0, .int 0]) (C := RX9) (T := TX9) (N := 8) hx hb hts in_c_X5_init_X9 tyX9 tyX9_ok hown (hts (.classLink RX5 9 RX9) (List.mem_of_getElem? (i := 4) rfl)) (hts (.instantiable RX9 8) (List.mem_of_getElem? (i := 8) rfl)) (hts (.initialized RX9) (List.mem_of_getElem? (i := 9) rfl)) hK hP hD hS hA rfl (by decide +kernel) (Nat.le_of_ble_eq_true rfl) (Nat.le_of_ble_eq_true rfl) dX5_init_53 (fun q_10 H hP hD hS => ?_)
  have hP : va_P (dC, dI) vwCl [(h0, .inr (5, [.ref q_1, .ref q_3, .ref q_5, .ref q_7, .int 0, .int 0, .int 0, .int 0, .int 0, .int 0, .int 0])), (q_1, .inl (cy_2, 40, .inr (.inr (.inr (.inr (fun _ => none)))))), (q_10, .inr (9, [.int 0, .int 0, .int 0, .int 0, .int 0, .int 0, .int 0, .int 0]))] H := hP
  have hD : va_D A [(h0, .inr (5, [.ref q_1, .ref q_3, .ref q_5, .ref q_7, .int 0, .int 0, .int 0, .int 0, .int 0, .int 0, .int 0])), (q_1, .inl (cy_2, 40, .inr (.inr (.inr (.inr (fun _ => none)))))), (q_10, .inr (9, [.int 0, .int 0, .int 0, .int 0, .int 0, .int 0, .int 0, .int 0]))] := hD
  refine W.widen (k := 5) (n := 256) (Nat.le_of_ble_eq_true rfl) (Nat.le_of_ble_eq_true rfl) ?_
  refine lv_dup hx hb dX5_init_56 rfl ?_
  have hPc := hP.sub (ws' := [(q_10, .inr (9, [.int 0, .int 0, .int 0, .int 0, .int 0, .int 0, .int 0, .int 0]))]) [2] rfl
  have hDc := hD.sub (ws' := [(q_10, .inr (9, [.int 0, .int 0, .int 0, .int 0, .int 0, .int 0, .int 0, .int 0]))]) [2] (by decide) rfl
  have hKc := hK.sub (tys' := []) [] rfl
  have hFc := va_free (wc := [(q_10, .inr (9, [.int 0, .int 0, .int 0, .int 0, .int 0, .int 0, .int 0, .int 0]))]) hD hS hA [2] rfl
  refine va_callv (va_runIN (As := []) (rest := [.ref q_10, .int 0, .ref q_1]) ⟨hx, hb, hml, hown, hts⟩ (c_X9_init l dC dI q_10 H.size) ⟨va_cnB 0 hts g_c_X5_init_57_c_X9_init rfl rfl rfl hNX5_X9 (hts (.initialized RX9) (List.mem_of_getElem? (i := 9) rfl)) (by decide +kernel) ⟨Nat.le_of_ble_eq_true rfl, Nat.le_of_ble_eq_true rfl⟩, rfl, (hts (.instanceMethod yX9_init) (List.mem_of_getElem? (i := 12) rfl))⟩ ⟨fun a U g mk q => by obtain ⟨q0, q1, qP, qK, qD⟩ := q; exact ⟨q0, q1, qP, va_K.moved (u := U) (U := U.calling g mk a) (Vm.Alike.refl U.vm) qK, qD⟩, fun U hU hW => ⟨rfl, by rw [hU], by rw [hU]; exact hPc, va_K.moved hW.alike hKc, hDc.weaken (fun _ _ _ _ => trivial)⟩⟩ rfl rfl hl.1 rfl (lv_room (Nat.le_of_ble_eq_true rfl)) dX5_init_57 ⟨Nat.le_of_ble_eq_true rfl, Nat.le_of_ble_eq_true rfl⟩) hS (fun q _ h => hFc q h) hFc (fun u t H1 locs ht hvm hw hB hz1 hk1 hS => ?_)
  obtain ⟨hP1, hK1, hD1⟩ := hB
  rw [ht] at hP1
  have hK1 := va_K.moved hvm.symm hK1
  try dsimp only at hw
  obtain ⟨hP, hD⟩ := va_join (wr := [(h0, .inr (5, [.ref q_1, .ref q_3, .ref q_5, .ref q_7, .int 0, .int 0, .int 0, .int 0, .int 0, .int 0, .int 0])), (q_1, .inl (cy_2, 40, .inr (.inr (.inr (.inr (fun _ => none))))))]) (w1 := [(q_10, .inr (9, [.int 0, .int 0, .int 0, .int 0, .int 0, .int 0, .int 0, .int 0]))]) hP hD [2] [0, 1] rfl rfl (by decide) (by decide) hk1 hFc hP1 hD1
  have hK := hK.app hK1
  generalize H1 = H at hP hS ⊢
  have hP : va_P (dC, dI) vwCl [(h0, .inr (5, [.ref q_1, .ref q_3, .ref q_5, .ref q_7, .int 0, .int 0, .int 0, .int 0, .int 0, .int 0, .int 0])), (q_1, .inl (cy_2, 40, .inr (.inr (.inr (.inr (fun _ => none)))))), (q_10, .inr (9, [.int 0, .int 0, .int 0, .int 0, .int 0, .int 0, .int 0, .int 0]))] H := hP
  have hD : va_D A [(h0, .inr (5, [.ref q_1, .ref q_3, .ref q_5, .ref q_7, .int 0, .int 0, .int 0, .int 0, .int 0, .int 0, .int 0])), (q_1, .inl (cy_2, 40, .inr (.inr (.inr (.inr (fun _ => none)))))), (q_10, .inr (9, [.int 0, .int 0, .int 0, .int 0, .int 0, .int 0, .int 0, .int 0]))] := hD
  have hK : va_K (dC, dI) vwCl [(cy_2, .object RX9), (cy_4, .int), (cy_8, .int)] s := hK
  refine W.widen (k := 5) (n := 256) (Nat.le_of_ble_eq_true rfl) (Nat.le_of_ble_eq_true rfl) ?_
  refine va_astq (D := (dC, dI)) (i := 0) hx hb hK hP hD hS 1 0 2 9 (r := (RX9, TX9, 8)) rfl rfl rfl rfl (show ¬ ((0 : Int32) < 0 ∨ 40 ≤ (0 : Int32).toNatClampNeg) by decide +kernel) dX5_init_60 (fun H locs hP hD hS => ?_)
  have hP : va_P (dC, dI) vwCl [(h0, .inr (5, [.ref q_1, .ref q_3, .ref q_5, .ref q_7, .int 0, .int 0, .int 0, .int 0, .int 0, .int 0, .int 0])), (q_1, .inl (cy_2, 40, .inr (.inr (.inr (.inr (va_up (fun _ => none) (0 : Int32).toNatClampNeg (some q_10))))))), (q_10, .inr (9, [.int 0, .int 0, .int 0, .int 0, .int 0, .int 0, .int 0, .int 0]))] H := hP
  have hD : va_D A [(h0, .inr (5, [.ref q_1, .ref q_3, .ref q_5, .ref q_7, .int 0, .int 0, .int 0, .int 0, .int 0, .int 0, .int 0])), (q_1, .inl (cy_2, 40, .inr (.inr (.inr (.inr (va_up (fun _ => none) (0 : Int32).toNatClampNeg (some q_10))))))), (q_10, .inr (9, [.int 0, .int 0, .int 0, .int 0, .int 0, .int 0, .int 0, .int 0]))] := hD
  generalize va_up (fun _ => none) (0 : Int32).toNatClampNeg (some q_10) = g_12 at hP hD
  refine lv_iinc (v := 1) (lv' := [(1, .int 1), (0, .ref h0)]) hx hb dX5_init_61 hl (k := 0) rfl (by decide +kernel) (by decide) rfl (fun ls hl => ?_)
  refine lv_goto (tgt := 42) hx hb dX5_init_64 (by decide) ?_
  have hP := hP.sub (ws' := [(h0, .inr (5, [.ref q_1, .ref q_3, .ref q_5, .ref q_7, .int 0, .int 0, .int 0, .int 0, .int 0, .int 0, .int 0])), (q_1, .inl (cy_2, 40, .inr (.inr (.inr (.inr g_12)))))]) [0, 1] rfl
  have hD := hD.sub (ws' := [(h0, .inr (5, [.ref q_1, .ref q_3, .ref q_5, .ref q_7, .int 0, .int 0, .int 0, .int 0, .int 0, .int 0, .int 0])), (q_1, .inl (cy_2, 40, .inr (.inr (.inr (.inr g_12)))))]) [0, 1] (by decide) rfl
  refine lv_iload_n hx hb dX5_init_42 rfl (lv_at hl 0 rfl) ?_
  refine lv_bipush (v := 40) hx hb dX5_init_43 (by decide +kernel) ?_
  refine lv_icmp_ge (tgt := 67) hx hb dX5_init_45 (by decide) (fun c_13 => absurd c_13 (by decide +kernel)) (fun c_13 => ?_)
  refine lv_aload_n hx hb dX5_init_48 rfl (lv_at hl 1 rfl) ?_
  refine va_get (D := (dC, dI)) (ci := 5) (v := .ref q_1) (C := RX5) (T := TX5) (N := 11) hx hb hts in_c_X5_init_X5 hown hK hP 0 rfl rfl 0 (by decide) (hts (.fieldLink RX5 11 "LawnAhead$History" "states" "[LLawnAhead$State;") (List.mem_of_getElem? (i := 5) rfl)) (fun _ h9 => h9) rfl dX5_init_49 ?_
  refine lv_iload_n hx hb dX5_init_52 rfl (lv_at hl 0 rfl) ?_
  refine va_new (ci := 9) (fs := [.int 0, .int 0, .int 0, .int 0, .int 0, .int 0, .int 0, .int 0]) (C := RX9) (T := TX9) (N := 8) hx hb hts in_c_X5_init_X9 tyX9 tyX9_ok hown (hts (.classLink RX5 9 RX9) (List.mem_of_getElem? (i := 4) rfl)) (hts (.instantiable RX9 8) (List.mem_of_getElem? (i := 8) rfl)) (hts (.initialized RX9) (List.mem_of_getElem? (i := 9) rfl)) hK hP hD hS hA rfl (by decide +kernel) (Nat.le_of_ble_eq_true rfl) (Nat.le_of_ble_eq_true rfl) dX5_init_53 (fun q_14 H hP hD hS => ?_)
  have hP : va_P (dC, dI) vwCl [(h0, .inr (5, [.ref q_1, .ref q_3, .ref q_5, .ref q_7, .int 0, .int 0, .int 0, .int 0, .int 0, .int 0, .int 0])), (q_1, .inl (cy_2, 40, .inr (.inr (.inr (.inr g_12))))), (q_14, .inr (9, [.int 0, .int 0, .int 0, .int 0, .int 0, .int 0, .int 0, .int 0]))] H := hP
  have hD : va_D A [(h0, .inr (5, [.ref q_1, .ref q_3, .ref q_5, .ref q_7, .int 0, .int 0, .int 0, .int 0, .int 0, .int 0, .int 0])), (q_1, .inl (cy_2, 40, .inr (.inr (.inr (.inr g_12))))), (q_14, .inr (9, [.int 0, .int 0, .int 0, .int 0, .int 0, .int 0, .int 0, .int 0]))] := hD
  refine W.widen (k := 6) (n := 264) (Nat.le_of_ble_eq_true rfl) (Nat.le_of_ble_eq_true rfl) ?_
  refine lv_dup hx hb dX5_init_56 rfl ?_
  have hPc := hP.sub (ws' := [(q_14, .inr (9, [.int 0, .int 0, .int 0, .int 0, .int 0, .int 0, .int 0, .int 0]))]) [2] rfl
  have hDc := hD.sub (ws' := [(q_14, .inr (9, [.int 0, .int 0, .int 0, .int 0, .int 0, .int 0, .int 0, .int 0]))]) [2] (by decide) rfl
  have hKc := hK.sub (tys' := []) [] rfl
  have hFc := va_free (wc := [(q_14, .inr (9, [.int 0, .int 0, .int 0, .int 0, .int 0, .int 0, .int 0, .int 0]))]) hD hS hA [2] rfl
  refine va_callv (va_runIN (As := []) (rest := [.ref q_14, .int 1, .ref q_1]) ⟨hx, hb, hml, hown, hts⟩ (c_X9_init l dC dI q_14 H.size) ⟨va_cnB 0 hts g_c_X5_init_57_c_X9_init rfl rfl rfl hNX5_X9 (hts (.initialized RX9) (List.mem_of_getElem? (i := 9) rfl)) (by decide +kernel) ⟨Nat.le_of_ble_eq_true rfl, Nat.le_of_ble_eq_true rfl⟩, rfl, (hts (.instanceMethod yX9_init) (List.mem_of_getElem? (i := 12) rfl))⟩ ⟨fun a U g mk q => by obtain ⟨q0, q1, qP, qK, qD⟩ := q; exact ⟨q0, q1, qP, va_K.moved (u := U) (U := U.calling g mk a) (Vm.Alike.refl U.vm) qK, qD⟩, fun U hU hW => ⟨rfl, by rw [hU], by rw [hU]; exact hPc, va_K.moved hW.alike hKc, hDc.weaken (fun _ _ _ _ => trivial)⟩⟩ rfl rfl hl.1 rfl (lv_room (Nat.le_of_ble_eq_true rfl)) dX5_init_57 ⟨Nat.le_of_ble_eq_true rfl, Nat.le_of_ble_eq_true rfl⟩) hS (fun q _ h => hFc q h) hFc (fun u t H1 locs ht hvm hw hB hz1 hk1 hS => ?_)
  obtain ⟨hP1, hK1, hD1⟩ := hB
  rw [ht] at hP1
  have hK1 := va_K.moved hvm.symm hK1
  try dsimp only at hw
  obtain ⟨hP, hD⟩ := va_join (wr := [(h0, .inr (5, [.ref q_1, .ref q_3, .ref q_5, .ref q_7, .int 0, .int 0, .int 0, .int 0, .int 0, .int 0, .int 0])), (q_1, .inl (cy_2, 40, .inr (.inr (.inr (.inr g_12)))))]) (w1 := [(q_14, .inr (9, [.int 0, .int 0, .int 0, .int 0, .int 0, .int 0, .int 0, .int 0]))]) hP hD [2] [0, 1] rfl rfl (by decide) (by decide) hk1 hFc hP1 hD1
  have hK := hK.app hK1
  generalize H1 = H at hP hS ⊢
  have hP : va_P (dC, dI) vwCl [(h0, .inr (5, [.ref q_1, .ref q_3, .ref q_5, .ref q_7, .int 0, .int 0, .int 0, .int 0, .int 0, .int 0, .int 0])), (q_1, .inl (cy_2, 40, .inr (.inr (.inr (.inr g_12))))), (q_14, .inr (9, [.int 0, .int 0, .int 0, .int 0, .int 0, .int 0, .int 0, .int 0]))] H := hP
  have hD : va_D A [(h0, .inr (5, [.ref q_1, .ref q_3, .ref q_5, .ref q_7, .int 0, .int 0, .int 0, .int 0, .int 0, .int 0, .int 0])), (q_1, .inl (cy_2, 40, .inr (.inr (.inr (.inr g_12))))), (q_14, .inr (9, [.int 0, .int 0, .int 0, .int 0, .int 0, .int 0, .int 0, .int 0]))] := hD
  have hK : va_K (dC, dI) vwCl [(cy_2, .object RX9), (cy_4, .int), (cy_8, .int)] s := hK
  refine W.widen (k := 6) (n := 264) (Nat.le_of_ble_eq_true rfl) (Nat.le_of_ble_eq_true rfl) ?_
  refine va_astq (D := (dC, dI)) (i := 1) hx hb hK hP hD hS 1 0 2 9 (r := (RX9, TX9, 8)) rfl rfl rfl rfl (show ¬ ((1 : Int32) < 0 ∨ 40 ≤ (1 : Int32).toNatClampNeg) by decide +kernel) dX5_init_60 (fun H locs hP hD hS => ?_)
  have hP : va_P (dC, dI) vwCl [(h0, .inr (5, [.ref q_1, .ref q_3, .ref q_5, .ref q_7, .int 0, .int 0, .int 0, .int 0, .int 0, .int 0, .int 0])), (q_1, .inl (cy_2, 40, .inr (.inr (.inr (.inr (va_up (g_12) (1 : Int32).toNatClampNeg (some q_14))))))), (q_14, .inr (9, [.int 0, .int 0, .int 0, .int 0, .int 0, .int 0, .int 0, .int 0]))] H := hP
  have hD : va_D A [(h0, .inr (5, [.ref q_1, .ref q_3, .ref q_5, .ref q_7, .int 0, .int 0, .int 0, .int 0, .int 0, .int 0, .int 0])), (q_1, .inl (cy_2, 40, .inr (.inr (.inr (.inr (va_up (g_12) (1 : Int32).toNatClampNeg (some q_14))))))), (q_14, .inr (9, [.int 0, .int 0, .int 0, .int 0, .int 0, .int 0, .int 0, .int 0]))] := hD
  generalize va_up (g_12) (1 : Int32).toNatClampNeg (some q_14) = g_16 at hP hD
  refine lv_iinc (v := 2) (lv' := [(1, .int 2), (0, .ref h0)]) hx hb dX5_init_61 hl (k := 0) rfl (by decide +kernel) (by decide) rfl (fun ls hl => ?_)
  refine lv_goto (tgt := 42) hx hb dX5_init_64 (by decide) ?_
  have hP := hP.sub (ws' := [(h0, .inr (5, [.ref q_1, .ref q_3, .ref q_5, .ref q_7, .int 0, .int 0, .int 0, .int 0, .int 0, .int 0, .int 0])), (q_1, .inl (cy_2, 40, .inr (.inr (.inr (.inr g_16)))))]) [0, 1] rfl
  have hD := hD.sub (ws' := [(h0, .inr (5, [.ref q_1, .ref q_3, .ref q_5, .ref q_7, .int 0, .int 0, .int 0, .int 0, .int 0, .int 0, .int 0])), (q_1, .inl (cy_2, 40, .inr (.inr (.inr (.inr g_16)))))]) [0, 1] (by decide) rfl
  refine lv_iload_n hx hb dX5_init_42 rfl (lv_at hl 0 rfl) ?_
  refine lv_bipush (v := 40) hx hb dX5_init_43 (by decide +kernel) ?_
  refine lv_icmp_ge (tgt := 67) hx hb dX5_init_45 (by decide) (fun c_17 => absurd c_17 (by decide +kernel)) (fun c_17 => ?_)
  refine lv_aload_n hx hb dX5_init_48 rfl (lv_at hl 1 rfl) ?_
  refine va_get (D := (dC, dI)) (ci := 5) (v := .ref q_1) (C := RX5) (T := TX5) (N := 11) hx hb hts in_c_X5_init_X5 hown hK hP 0 rfl rfl 0 (by decide) (hts (.fieldLink RX5 11 "LawnAhead$History" "states" "[LLawnAhead$State;") (List.mem_of_getElem? (i := 5) rfl)) (fun _ h9 => h9) rfl dX5_init_49 ?_
  refine lv_iload_n hx hb dX5_init_52 rfl (lv_at hl 0 rfl) ?_
  refine va_new (ci := 9) (fs := [.int 0, .int 0, .int 0, .int 0, .int 0, .int 0, .int 0, .int 0]) (C := RX9) (T := TX9) (N := 8) hx hb hts in_c_X5_init_X9 tyX9 tyX9_ok hown (hts (.classLink RX5 9 RX9) (List.mem_of_getElem? (i := 4) rfl)) (hts (.instantiable RX9 8) (List.mem_of_getElem? (i := 8) rfl)) (hts (.initialized RX9) (List.mem_of_getElem? (i := 9) rfl)) hK hP hD hS hA rfl (by decide +kernel) (Nat.le_of_ble_eq_true rfl) (Nat.le_of_ble_eq_true rfl) dX5_init_53 (fun q_18 H hP hD hS => ?_)
  have hP : va_P (dC, dI) vwCl [(h0, .inr (5, [.ref q_1, .ref q_3, .ref q_5, .ref q_7, .int 0, .int 0, .int 0, .int 0, .int 0, .int 0, .int 0])), (q_1, .inl (cy_2, 40, .inr (.inr (.inr (.inr g_16))))), (q_18, .inr (9, [.int 0, .int 0, .int 0, .int 0, .int 0, .int 0, .int 0, .int 0]))] H := hP
  have hD : va_D A [(h0, .inr (5, [.ref q_1, .ref q_3, .ref q_5, .ref q_7, .int 0, .int 0, .int 0, .int 0, .int 0, .int 0, .int 0])), (q_1, .inl (cy_2, 40, .inr (.inr (.inr (.inr g_16))))), (q_18, .inr (9, [.int 0, .int 0, .int 0, .int 0, .int 0, .int 0, .int 0, .int 0]))] := hD
  refine W.widen (k := 7) (n := 272) (Nat.le_of_ble_eq_true rfl) (Nat.le_of_ble_eq_true rfl) ?_
  refine lv_dup hx hb dX5_init_56 rfl ?_
  have hPc := hP.sub (ws' := [(q_18, .inr (9, [.int 0, .int 0, .int 0, .int 0, .int 0, .int 0, .int 0, .int 0]))]) [2] rfl
  have hDc := hD.sub (ws' := [(q_18, .inr (9, [.int 0, .int 0, .int 0, .int 0, .int 0, .int 0, .int 0, .int 0]))]) [2] (by decide) rfl
  have hKc := hK.sub (tys' := []) [] rfl
  have hFc := va_free (wc := [(q_18, .inr (9, [.int 0, .int 0, .int 0, .int 0, .int 0, .int 0, .int 0, .int 0]))]) hD hS hA [2] rfl
  refine va_callv (va_runIN (As := []) (rest := [.ref q_18, .int 2, .ref q_1]) ⟨hx, hb, hml, hown, hts⟩ (c_X9_init l dC dI q_18 H.size) ⟨va_cnB 0 hts g_c_X5_init_57_c_X9_init rfl rfl rfl hNX5_X9 (hts (.initialized RX9) (List.mem_of_getElem? (i := 9) rfl)) (by decide +kernel) ⟨Nat.le_of_ble_eq_true rfl, Nat.le_of_ble_eq_true rfl⟩, rfl, (hts (.instanceMethod yX9_init) (List.mem_of_getElem? (i := 12) rfl))⟩ ⟨fun a U g mk q => by obtain ⟨q0, q1, qP, qK, qD⟩ := q; exact ⟨q0, q1, qP, va_K.moved (u := U) (U := U.calling g mk a) (Vm.Alike.refl U.vm) qK, qD⟩, fun U hU hW => ⟨rfl, by rw [hU], by rw [hU]; exact hPc, va_K.moved hW.alike hKc, hDc.weaken (fun _ _ _ _ => trivial)⟩⟩ rfl rfl hl.1 rfl (lv_room (Nat.le_of_ble_eq_true rfl)) dX5_init_57 ⟨Nat.le_of_ble_eq_true rfl, Nat.le_of_ble_eq_true rfl⟩) hS (fun q _ h => hFc q h) hFc (fun u t H1 locs ht hvm hw hB hz1 hk1 hS => ?_)
  obtain ⟨hP1, hK1, hD1⟩ := hB
  rw [ht] at hP1
  have hK1 := va_K.moved hvm.symm hK1
  try dsimp only at hw
  obtain ⟨hP, hD⟩ := va_join (wr := [(h0, .inr (5, [.ref q_1, .ref q_3, .ref q_5, .ref q_7, .int 0, .int 0, .int 0, .int 0, .int 0, .int 0, .int 0])), (q_1, .inl (cy_2, 40, .inr (.inr (.inr (.inr g_16)))))]) (w1 := [(q_18, .inr (9, [.int 0, .int 0, .int 0, .int 0, .int 0, .int 0, .int 0, .int 0]))]) hP hD [2] [0, 1] rfl rfl (by decide) (by decide) hk1 hFc hP1 hD1
  have hK := hK.app hK1
  generalize H1 = H at hP hS ⊢
  have hP : va_P (dC, dI) vwCl [(h0, .inr (5, [.ref q_1, .ref q_3, .ref q_5, .ref q_7, .int 0, .int 0, .int 0, .int 0, .int 0, .int 0, .int 0])), (q_1, .inl (cy_2, 40, .inr (.inr (.inr (.inr g_16))))), (q_18, .inr (9, [.int 0, .int 0, .int 0, .int 0, .int 0, .int 0, .int 0, .int 0]))] H := hP
  have hD : va_D A [(h0, .inr (5, [.ref q_1, .ref q_3, .ref q_5, .ref q_7, .int 0, .int 0, .int 0, .int 0, .int 0, .int 0, .int 0])), (q_1, .inl (cy_2, 40, .inr (.inr (.inr (.inr g_16))))), (q_18, .inr (9, [.int 0, .int 0, .int 0, .int 0, .int 0, .int 0, .int 0, .int 0]))] := hD
  have hK : va_K (dC, dI) vwCl [(cy_2, .object RX9), (cy_4, .int), (cy_8, .int)] s := hK
  refine W.widen (k := 7) (n := 272) (Nat.le_of_ble_eq_true rfl) (Nat.le_of_ble_eq_true rfl) ?_
  refine va_astq (D := (dC, dI)) (i := 2) hx hb hK hP hD hS 1 0 2 9 (r := (RX9, TX9, 8)) rfl rfl rfl rfl (show ¬ ((2 : Int32) < 0 ∨ 40 ≤ (2 : Int32).toNatClampNeg) by decide +kernel) dX5_init_60 (fun H locs hP hD hS => ?_)
  have hP : va_P (dC, dI) vwCl [(h0, .inr (5, [.ref q_1, .ref q_3, .ref q_5, .ref q_7, .int 0, .int 0, .int 0, .int 0, .int 0, .int 0, .int 0])), (q_1, .inl (cy_2, 40, .inr (.inr (.inr (.inr (va_up (g_16) (2 : Int32).toNatClampNeg (some q_18))))))), (q_18, .inr (9, [.int 0, .int 0, .int 0, .int 0, .int 0, .int 0, .int 0, .int 0]))] H := hP
  have hD : va_D A [(h0, .inr (5, [.ref q_1, .ref q_3, .ref q_5, .ref q_7, .int 0, .int 0, .int 0, .int 0, .int 0, .int 0, .int 0])), (q_1, .inl (cy_2, 40, .inr (.inr (.inr (.inr (va_up (g_16) (2 : Int32).toNatClampNeg (some q_18))))))), (q_18, .inr (9, [.int 0, .int 0, .int 0, .int 0, .int 0, .int 0, .int 0, .int 0]))] := hD
  generalize va_up (g_16) (2 : Int32).toNatClampNeg (some q_18) = g_20 at hP hD
  refine lv_iinc (v := 3) (lv' := [(1, .int 3), (0, .ref h0)]) hx hb dX5_init_61 hl (k := 0) rfl (by decide +kernel) (by decide) rfl (fun ls hl => ?_)
  refine lv_goto (tgt := 42) hx hb dX5_init_64 (by decide) ?_
  have hP := hP.sub (ws' := [(h0, .inr (5, [.ref q_1, .ref q_3, .ref q_5, .ref q_7, .int 0, .int 0, .int 0, .int 0, .int 0, .int 0, .int 0])), (q_1, .inl (cy_2, 40, .inr (.inr (.inr (.inr g_20)))))]) [0, 1] rfl
  have hD := hD.sub (ws' := [(h0, .inr (5, [.ref q_1, .ref q_3, .ref q_5, .ref q_7, .int 0, .int 0, .int 0, .int 0, .int 0, .int 0, .int 0])), (q_1, .inl (cy_2, 40, .inr (.inr (.inr (.inr g_20)))))]) [0, 1] (by decide) rfl
  refine lv_iload_n hx hb dX5_init_42 rfl (lv_at hl 0 rfl) ?_
  refine lv_bipush (v := 40) hx hb dX5_init_43 (by decide +kernel) ?_
  refine lv_icmp_ge (tgt := 67) hx hb dX5_init_45 (by decide) (fun c_21 => absurd c_21 (by decide +kernel)) (fun c_21 => ?_)
  refine lv_aload_n hx hb dX5_init_48 rfl (lv_at hl 1 rfl) ?_
  refine va_get (D := (dC, dI)) (ci := 5) (v := .ref q_1) (C := RX5) (T := TX5) (N := 11) hx hb hts in_c_X5_init_X5 hown hK hP 0 rfl rfl 0 (by decide) (hts (.fieldLink RX5 11 "LawnAhead$History" "states" "[LLawnAhead$State;") (List.mem_of_getElem? (i := 5) rfl)) (fun _ h9 => h9) rfl dX5_init_49 ?_
  refine lv_iload_n hx hb dX5_init_52 rfl (lv_at hl 0 rfl) ?_
  refine va_new (ci := 9) (fs := [.int 0, .int 0, .int 0, .int 0, .int 0, .int 0, .int 0, .int 0]) (C := RX9) (T := TX9) (N := 8) hx hb hts in_c_X5_init_X9 tyX9 tyX9_ok hown (hts (.classLink RX5 9 RX9) (List.mem_of_getElem? (i := 4) rfl)) (hts (.instantiable RX9 8) (List.mem_of_getElem? (i := 8) rfl)) (hts (.initialized RX9) (List.mem_of_getElem? (i := 9) rfl)) hK hP hD hS hA rfl (by decide +kernel) (Nat.le_of_ble_eq_true rfl) (Nat.le_of_ble_eq_true rfl) dX5_init_53 (fun q_22 H hP hD hS => ?_)
  have hP : va_P (dC, dI) vwCl [(h0, .inr (5, [.ref q_1, .ref q_3, .ref q_5, .ref q_7, .int 0, .int 0, .int 0, .int 0, .int 0, .int 0, .int 0])), (q_1, .inl (cy_2, 40, .inr (.inr (.inr (.inr g_20))))), (q_22, .inr (9, [.int 0, .int 0, .int 0, .int 0, .int 0, .int 0, .int 0, .int 0]))] H := hP
  have hD : va_D A [(h0, .inr (5, [.ref q_1, .ref q_3, .ref q_5, .ref q_7, .int 0, .int 0, .int 0, .int 0, .int 0, .int 0, .int 0])), (q_1, .inl (cy_2, 40, .inr (.inr (.inr (.inr g_20))))), (q_22, .inr (9, [.int 0, .int 0, .int 0, .int 0, .int 0, .int 0, .int 0, .int 0]))] := hD
  refine W.widen (k := 8) (n := 280) (Nat.le_of_ble_eq_true rfl) (Nat.le_of_ble_eq_true rfl) ?_
  refine lv_dup hx hb dX5_init_56 rfl ?_
  have hPc := hP.sub (ws' := [(q_22, .inr (9, [.int 0, .int 0, .int 0, .int 0, .int 0, .int 0, .int 0, .int 0]))]) [2] rfl
  have hDc := hD.sub (ws' := [(q_22, .inr (9, [.int 0, .int 0, .int 0, .int 0, .int 0, .int 0, .int 0, .int 0]))]) [2] (by decide) rfl
  have hKc := hK.sub (tys' := []) [] rfl
  have hFc := va_free (wc := [(q_22, .inr (9, [.int 0, .int 0, .int 0, .int 0, .int 0, .int 0, .int 0, .int 0]))]) hD hS hA [2] rfl
  refine va_callv (va_runIN (As := []) (rest := [.ref q_22, .int 3, .ref q_1]) ⟨hx, hb, hml, hown, hts⟩ (c_X9_init l dC dI q_22 H.size) ⟨va_cnB 0 hts g_c_X5_init_57_c_X9_init rfl rfl rfl hNX5_X9 (hts (.initialized RX9) (List.mem_of_getElem? (i := 9) rfl)) (by decide +kernel) ⟨Nat.le_of_ble_eq_true rfl, Nat.le_of_ble_eq_true rfl⟩, rfl, (hts (.instanceMethod yX9_init) (List.mem_of_getElem? (i := 12) rfl))⟩ ⟨fun a U g mk q => by obtain ⟨q0, q1, qP, qK, qD⟩ := q; exact ⟨q0, q1, qP, va_K.moved (u := U) (U := U.calling g mk a) (Vm.Alike.refl U.vm) qK, qD⟩, fun U hU hW => ⟨rfl, by rw [hU], by rw [hU]; exact hPc, va_K.moved hW.alike hKc, hDc.weaken (fun _ _ _ _ => trivial)⟩⟩ rfl rfl hl.1 rfl (lv_room (Nat.le_of_ble_eq_true rfl)) dX5_init_57 ⟨Nat.le_of_ble_eq_true rfl, Nat.le_of_ble_eq_true rfl⟩) hS (fun q _ h => hFc q h) hFc (fun u t H1 locs ht hvm hw hB hz1 hk1 hS => ?_)
  obtain ⟨hP1, hK1, hD1⟩ := hB
  rw [ht] at hP1
  have hK1 := va_K.moved hvm.symm hK1
  try dsimp only at hw
  obtain ⟨hP, hD⟩ := va_join (wr := [(h0, .inr (5, [.ref q_1, .ref q_3, .ref q_5, .ref q_7, .int 0, .int 0, .int 0, .int 0, .int 0, .int 0, .int 0])), (q_1, .inl (cy_2, 40, .inr (.inr (.inr (.inr g_20)))))]) (w1 := [(q_22, .inr (9, [.int 0, .int 0, .int 0, .int 0, .int 0, .int 0, .int 0, .int 0]))]) hP hD [2] [0, 1] rfl rfl (by decide) (by decide) hk1 hFc hP1 hD1
  have hK := hK.app hK1
  generalize H1 = H at hP hS ⊢
  have hP : va_P (dC, dI) vwCl [(h0, .inr (5, [.ref q_1, .ref q_3, .ref q_5, .ref q_7, .int 0, .int 0, .int 0, .int 0, .int 0, .int 0, .int 0])), (q_1, .inl (cy_2, 40, .inr (.inr (.inr (.inr g_20))))), (q_22, .inr (9, [.int 0, .int 0, .int 0, .int 0, .int 0, .int 0, .int 0, .int 0]))] H := hP
  have hD : va_D A [(h0, .inr (5, [.ref q_1, .ref q_3, .ref q_5, .ref q_7, .int 0, .int 0, .int 0, .int 0, .int 0, .int 0, .int 0])), (q_1, .inl (cy_2, 40, .inr (.inr (.inr (.inr g_20))))), (q_22, .inr (9, [.int 0, .int 0, .int 0, .int 0, .int 0, .int 0, .int 0, .int 0]))] := hD
  have hK : va_K (dC, dI) vwCl [(cy_2, .object RX9), (cy_4, .int), (cy_8, .int)] s := hK
  refine W.widen (k := 8) (n := 280) (Nat.le_of_ble_eq_true rfl) (Nat.le_of_ble_eq_true rfl) ?_
  refine va_astq (D := (dC, dI)) (i := 3) hx hb hK hP hD hS 1 0 2 9 (r := (RX9, TX9, 8)) rfl rfl rfl rfl (show ¬ ((3 : Int32) < 0 ∨ 40 ≤ (3 : Int32).toNatClampNeg) by decide +kernel) dX5_init_60 (fun H locs hP hD hS => ?_)
  have hP : va_P (dC, dI) vwCl [(h0, .inr (5, [.ref q_1, .ref q_3, .ref q_5, .ref q_7, .int 0, .int 0, .int 0, .int 0, .int 0, .int 0, .int 0])), (q_1, .inl (cy_2, 40, .inr (.inr (.inr (.inr (va_up (g_20) (3 : Int32).toNatClampNeg (some q_22))))))), (q_22, .inr (9, [.int 0, .int 0, .int 0, .int 0, .int 0, .int 0, .int 0, .int 0]))] H := hP
  have hD : va_D A [(h0, .inr (5, [.ref q_1, .ref q_3, .ref q_5, .ref q_7, .int 0, .int 0, .int 0, .int 0, .int 0, .int 0, .int 0])), (q_1, .inl (cy_2, 40, .inr (.inr (.inr (.inr (va_up (g_20) (3 : Int32).toNatClampNeg (some q_22))))))), (q_22, .inr (9, [.int 0, .int 0, .int 0, .int 0, .int 0, .int 0, .int 0, .int 0]))] := hD
  generalize va_up (g_20) (3 : Int32).toNatClampNeg (some q_22) = g_24 at hP hD
  refine lv_iinc (v := 4) (lv' := [(1, .int 4), (0, .ref h0)]) hx hb dX5_init_61 hl (k := 0) rfl (by decide +kernel) (by decide) rfl (fun ls hl => ?_)
  refine lv_goto (tgt := 42) hx hb dX5_init_64 (by decide) ?_
  have hP := hP.sub (ws' := [(h0, .inr (5, [.ref q_1, .ref q_3, .ref q_5, .ref q_7, .int 0, .int 0, .int 0, .int 0, .int 0, .int 0, .int 0])), (q_1, .inl (cy_2, 40, .inr (.inr (.inr (.inr g_24)))))]) [0, 1] rfl
  have hD := hD.sub (ws' := [(h0, .inr (5, [.ref q_1, .ref q_3, .ref q_5, .ref q_7, .int 0, .int 0, .int 0, .int 0, .int 0, .int 0, .int 0])), (q_1, .inl (cy_2, 40, .inr (.inr (.inr (.inr g_24)))))]) [0, 1] (by decide) rfl
  refine lv_iload_n hx hb dX5_init_42 rfl (lv_at hl 0 rfl) ?_
  refine lv_bipush (v := 40) hx hb dX5_init_43 (by decide +kernel) ?_
  refine lv_icmp_ge (tgt := 67) hx hb dX5_init_45 (by decide) (fun c_25 => absurd c_25 (by decide +kernel)) (fun c_25 => ?_)
  refine lv_aload_n hx hb dX5_init_48 rfl (lv_at hl 1 rfl) ?_
  refine va_get (D := (dC, dI)) (ci := 5) (v := .ref q_1) (C := RX5) (T := TX5) (N := 11) hx hb hts in_c_X5_init_X5 hown hK hP 0 rfl rfl 0 (by decide) (hts (.fieldLink RX5 11 "LawnAhead$History" "states" "[LLawnAhead$State;") (List.mem_of_getElem? (i := 5) rfl)) (fun _ h9 => h9) rfl dX5_init_49 ?_
  refine lv_iload_n hx hb dX5_init_52 rfl (lv_at hl 0 rfl) ?_
  refine va_new (ci := 9) (fs := [.int 0, .int 0, .int 0, .int 0, .int 0, .int 0, .int 0, .int 0]) (C := RX9) (T := TX9) (N := 8) hx hb hts in_c_X5_init_X9 tyX9 tyX9_ok hown (hts (.classLink RX5 9 RX9) (List.mem_of_getElem? (i := 4) rfl)) (hts (.instantiable RX9 8) (List.mem_of_getElem? (i := 8) rfl)) (hts (.initialized RX9) (List.mem_of_getElem? (i := 9) rfl)) hK hP hD hS hA rfl (by decide +kernel) (Nat.le_of_ble_eq_true rfl) (Nat.le_of_ble_eq_true rfl) dX5_init_53 (fun q_26 H hP hD hS => ?_)
  have hP : va_P (dC, dI) vwCl [(h0, .inr (5, [.ref q_1, .ref q_3, .ref q_5, .ref q_7, .int 0, .int 0, .int 0, .int 0, .int 0, .int 0, .int 0])), (q_1, .inl (cy_2, 40, .inr (.inr (.inr (.inr g_24))))), (q_26, .inr (9, [.int 0, .int 0, .int 0, .int 0, .int 0, .int 0, .int 0, .int 0]))] H := hP
  have hD : va_D A [(h0, .inr (5, [.ref q_1, .ref q_3, .ref q_5, .ref q_7, .int 0, .int 0, .int 0, .int 0, .int 0, .int 0, .int 0])), (q_1, .inl (cy_2, 40, .inr (.inr (.inr (.inr g_24))))), (q_26, .inr (9, [.int 0, .int 0, .int 0, .int 0, .int 0, .int 0, .int 0, .int 0]))] := hD
  refine W.widen (k := 9) (n := 288) (Nat.le_of_ble_eq_true rfl) (Nat.le_of_ble_eq_true rfl) ?_
  refine lv_dup hx hb dX5_init_56 rfl ?_
  have hPc := hP.sub (ws' := [(q_26, .inr (9, [.int 0, .int 0, .int 0, .int 0, .int 0, .int 0, .int 0, .int 0]))]) [2] rfl
  have hDc := hD.sub (ws' := [(q_26, .inr (9, [.int 0, .int 0, .int 0, .int 0, .int 0, .int 0, .int 0, .int 0]))]) [2] (by decide) rfl
  have hKc := hK.sub (tys' := []) [] rfl
  have hFc := va_free (wc := [(q_26, .inr (9, [.int 0, .int 0, .int 0, .int 0, .int 0, .int 0, .int 0, .int 0]))]) hD hS hA [2] rfl
  refine va_callv (va_runIN (As := []) (rest := [.ref q_26, .int 4, .ref q_1]) ⟨hx, hb, hml, hown, hts⟩ (c_X9_init l dC dI q_26 H.size) ⟨va_cnB 0 hts g_c_X5_init_57_c_X9_init rfl rfl rfl hNX5_X9 (hts (.initialized RX9) (List.mem_of_getElem? (i := 9) rfl)) (by decide +kernel) ⟨Nat.le_of_ble_eq_true rfl, Nat.le_of_ble_eq_true rfl⟩, rfl, (hts (.instanceMethod yX9_init) (List.mem_of_getElem? (i := 12) rfl))⟩ ⟨fun a U g mk q => by obtain ⟨q0, q1, qP, qK, qD⟩ := q; exact ⟨q0, q1, qP, va_K.moved (u := U) (U := U.calling g mk a) (Vm.Alike.refl U.vm) qK, qD⟩, fun U hU hW => ⟨rfl, by rw [hU], by rw [hU]; exact hPc, va_K.moved hW.alike hKc, hDc.weaken (fun _ _ _ _ => trivial)⟩⟩ rfl rfl hl.1 rfl (lv_room (Nat.le_of_ble_eq_true rfl)) dX5_init_57 ⟨Nat.le_of_ble_eq_true rfl, Nat.le_of_ble_eq_true rfl⟩) hS (fun q _ h => hFc q h) hFc (fun u t H1 locs ht hvm hw hB hz1 hk1 hS => ?_)
  obtain ⟨hP1, hK1, hD1⟩ := hB
  rw [ht] at hP1
  have hK1 := va_K.moved hvm.symm hK1
  try dsimp only at hw
  obtain ⟨hP, hD⟩ := va_join (wr := [(h0, .inr (5, [.ref q_1, .ref q_3, .ref q_5, .ref q_7, .int 0, .int 0, .int 0, .int 0, .int 0, .int 0, .int 0])), (q_1, .inl (cy_2, 40, .inr (.inr (.inr (.inr g_24)))))]) (w1 := [(q_26, .inr (9, [.int 0, .int 0, .int 0, .int 0, .int 0, .int 0, .int 0, .int 0]))]) hP hD [2] [0, 1] rfl rfl (by decide) (by decide) hk1 hFc hP1 hD1
  have hK := hK.app hK1
  generalize H1 = H at hP hS ⊢
  have hP : va_P (dC, dI) vwCl [(h0, .inr (5, [.ref q_1, .ref q_3, .ref q_5, .ref q_7, .int 0, .int 0, .int 0, .int 0, .int 0, .int 0, .int 0])), (q_1, .inl (cy_2, 40, .inr (.inr (.inr (.inr g_24))))), (q_26, .inr (9, [.int 0, .int 0, .int 0, .int 0, .int 0, .int 0, .int 0, .int 0]))] H := hP
  have hD : va_D A [(h0, .inr (5, [.ref q_1, .ref q_3, .ref q_5, .ref q_7, .int 0, .int 0, .int 0, .int 0, .int 0, .int 0, .int 0])), (q_1, .inl (cy_2, 40, .inr (.inr (.inr (.inr g_24))))), (q_26, .inr (9, [.int 0, .int 0, .int 0, .int 0, .int 0, .int 0, .int 0, .int 0]))] := hD
  have hK : va_K (dC, dI) vwCl [(cy_2, .object RX9), (cy_4, .int), (cy_8, .int)] s := hK
  refine W.widen (k := 9) (n := 288) (Nat.le_of_ble_eq_true rfl) (Nat.le_of_ble_eq_true rfl) ?_
  refine va_astq (D := (dC, dI)) (i := 4) hx hb hK hP hD hS 1 0 2 9 (r := (RX9, TX9, 8)) rfl rfl rfl rfl (show ¬ ((4 : Int32) < 0 ∨ 40 ≤ (4 : Int32).toNatClampNeg) by decide +kernel) dX5_init_60 (fun H locs hP hD hS => ?_)
  have hP : va_P (dC, dI) vwCl [(h0, .inr (5, [.ref q_1, .ref q_3, .ref q_5, .ref q_7, .int 0, .int 0, .int 0, .int 0, .int 0, .int 0, .int 0])), (q_1, .inl (cy_2, 40, .inr (.inr (.inr (.inr (va_up (g_24) (4 : Int32).toNatClampNeg (some q_26))))))), (q_26, .inr (9, [.int 0, .int 0, .int 0, .int 0, .int 0, .int 0, .int 0, .int 0]))] H := hP
  have hD : va_D A [(h0, .inr (5, [.ref q_1, .ref q_3, .ref q_5, .ref q_7, .int 0, .int 0, .int 0, .int 0, .int 0, .int 0, .int 0])), (q_1, .inl (cy_2, 40, .inr (.inr (.inr (.inr (va_up (g_24) (4 : Int32).toNatClampNeg (some q_26))))))), (q_26, .inr (9, [.int 0, .int 0, .int 0, .int 0, .int 0, .int 0, .int 0, .int 0]))] := hD
  generalize va_up (g_24) (4 : Int32).toNatClampNeg (some q_26) = g_28 at hP hD
  refine lv_iinc (v := 5) (lv' := [(1, .int 5), (0, .ref h0)]) hx hb dX5_init_61 hl (k := 0) rfl (by decide +kernel) (by decide) rfl (fun ls hl => ?_)
  refine lv_goto (tgt := 42) hx hb dX5_init_64 (by decide) ?_
  have hP := hP.sub (ws' := [(h0, .inr (5, [.ref q_1, .ref q_3, .ref q_5, .ref q_7, .int 0, .int 0, .int 0, .int 0, .int 0, .int 0, .int 0])), (q_1, .inl (cy_2, 40, .inr (.inr (.inr (.inr g_28)))))]) [0, 1] rfl
  have hD := hD.sub (ws' := [(h0, .inr (5, [.ref q_1, .ref q_3, .ref q_5, .ref q_7, .int 0, .int 0, .int 0, .int 0, .int 0, .int 0, .int 0])), (q_1, .inl (cy_2, 40, .inr (.inr (.inr (.inr g_28)))))]) [0, 1] (by decide) rfl
  refine lv_iload_n hx hb dX5_init_42 rfl (lv_at hl 0 rfl) ?_
  refine lv_bipush (v := 40) hx hb dX5_init_43 (by decide +kernel) ?_
  refine lv_icmp_ge (tgt := 67) hx hb dX5_init_45 (by decide) (fun c_29 => absurd c_29 (by decide +kernel)) (fun c_29 => ?_)
  refine lv_aload_n hx hb dX5_init_48 rfl (lv_at hl 1 rfl) ?_
  refine va_get (D := (dC, dI)) (ci := 5) (v := .ref q_1) (C := RX5) (T := TX5) (N := 11) hx hb hts in_c_X5_init_X5 hown hK hP 0 rfl rfl 0 (by decide) (hts (.fieldLink RX5 11 "LawnAhead$History" "states" "[LLawnAhead$State;") (List.mem_of_getElem? (i := 5) rfl)) (fun _ h9 => h9) rfl dX5_init_49 ?_
  refine lv_iload_n hx hb dX5_init_52 rfl (lv_at hl 0 rfl) ?_
  refine va_new (ci := 9) (fs := [.int 0, .int 0, .int 0, .int 0, .int 0, .int 0, .int 0, .int 0]) (C := RX9) (T := TX9) (N := 8) hx hb hts in_c_X5_init_X9 tyX9 tyX9_ok hown (hts (.classLink RX5 9 RX9) (List.mem_of_getElem? (i := 4) rfl)) (hts (.instantiable RX9 8) (List.mem_of_getElem? (i := 8) rfl)) (hts (.initialized RX9) (List.mem_of_getElem? (i := 9) rfl)) hK hP hD hS hA rfl (by decide +kernel) (Nat.le_of_ble_eq_true rfl) (Nat.le_of_ble_eq_true rfl) dX5_init_53 (fun q_30 H hP hD hS => ?_)
  have hP : va_P (dC, dI) vwCl [(h0, .inr (5, [.ref q_1, .ref q_3, .ref q_5, .ref q_7, .int 0, .int 0, .int 0, .int 0, .int 0, .int 0, .int 0])), (q_1, .inl (cy_2, 40, .inr (.inr (.inr (.inr g_28))))), (q_30, .inr (9, [.int 0, .int 0, .int 0, .int 0, .int 0, .int 0, .int 0, .int 0]))] H := hP
  have hD : va_D A [(h0, .inr (5, [.ref q_1, .ref q_3, .ref q_5, .ref q_7, .int 0, .int 0, .int 0, .int 0, .int 0, .int 0, .int 0])), (q_1, .inl (cy_2, 40, .inr (.inr (.inr (.inr g_28))))), (q_30, .inr (9, [.int 0, .int 0, .int 0, .int 0, .int 0, .int 0, .int 0, .int 0]))] := hD
  refine W.widen (k := 10) (n := 296) (Nat.le_of_ble_eq_true rfl) (Nat.le_of_ble_eq_true rfl) ?_
  refine lv_dup hx hb dX5_init_56 rfl ?_
  have hPc := hP.sub (ws' := [(q_30, .inr (9, [.int 0, .int 0, .int 0, .int 0, .int 0, .int 0, .int 0, .int 0]))]) [2] rfl
  have hDc := hD.sub (ws' := [(q_30, .inr (9, [.int 0, .int 0, .int 0, .int 0, .int 0, .int 0, .int 0, .int 0]))]) [2] (by decide) rfl
  have hKc := hK.sub (tys' := []) [] rfl
  have hFc := va_free (wc := [(q_30, .inr (9, [.int 0, .int 0, .int 0, .int 0, .int 0, .int 0, .int 0, .int 0]))]) hD hS hA [2] rfl
  refine va_callv (va_runIN (As := []) (rest := [.ref q_30, .int 5, .ref q_1]) ⟨hx, hb, hml, hown, hts⟩ (c_X9_init l dC dI q_30 H.size) ⟨va_cnB 0 hts g_c_X5_init_57_c_X9_init rfl rfl rfl hNX5_X9 (hts (.initialized RX9) (List.mem_of_getElem? (i := 9) rfl)) (by decide +kernel) ⟨Nat.le_of_ble_eq_true rfl, Nat.le_of_ble_eq_true rfl⟩, rfl, (hts (.instanceMethod yX9_init) (List.mem_of_getElem? (i := 12) rfl))⟩ ⟨fun a U g mk q => by obtain ⟨q0, q1, qP, qK, qD⟩ := q; exact ⟨q0, q1, qP, va_K.moved (u := U) (U := U.calling g mk a) (Vm.Alike.refl U.vm) qK, qD⟩, fun U hU hW => ⟨rfl, by rw [hU], by rw [hU]; exact hPc, va_K.moved hW.alike hKc, hDc.weaken (fun _ _ _ _ => trivial)⟩⟩ rfl rfl hl.1 rfl (lv_room (Nat.le_of_ble_eq_true rfl)) dX5_init_57 ⟨Nat.le_of_ble_eq_true rfl, Nat.le_of_ble_eq_true rfl⟩) hS (fun q _ h => hFc q h) hFc (fun u t H1 locs ht hvm hw hB hz1 hk1 hS => ?_)
  obtain ⟨hP1, hK1, hD1⟩ := hB
  rw [ht] at hP1
  have hK1 := va_K.moved hvm.symm hK1
  try dsimp only at hw
  obtain ⟨hP, hD⟩ := va_join (wr := [(h0, .inr (5, [.ref q_1, .ref q_3, .ref q_5, .ref q_7, .int 0, .int 0, .int 0, .int 0, .int 0, .int 0, .int 0])), (q_1, .inl (cy_2, 40, .inr (.inr (.inr (.inr g_28)))))]) (w1 := [(q_30, .inr (9, [.int 0, .int 0, .int 0, .int 0, .int 0, .int 0, .int 0, .int 0]))]) hP hD [2] [0, 1] rfl rfl (by decide) (by decide) hk1 hFc hP1 hD1
  have hK := hK.app hK1
  generalize H1 = H at hP hS ⊢
  have hP : va_P (dC, dI) vwCl [(h0, .inr (5, [.ref q_1, .ref q_3, .ref q_5, .ref q_7, .int 0, .int 0, .int 0, .int 0, .int 0, .int 0, .int 0])), (q_1, .inl (cy_2, 40, .inr (.inr (.inr (.inr g_28))))), (q_30, .inr (9, [.int 0, .int 0, .int 0, .int 0, .int 0, .int 0, .int 0, .int 0]))] H := hP
  have hD : va_D A [(h0, .inr (5, [.ref q_1, .ref q_3, .ref q_5, .ref q_7, .int 0, .int 0, .int 0, .int 0, .int 0, .int 0, .int 0])), (q_1, .inl (cy_2, 40, .inr (.inr (.inr (.inr g_28))))), (q_30, .inr (9, [.int 0, .int 0, .int 0, .int 0, .int 0, .int 0, .int 0, .int 0]))] := hD
  have hK : va_K (dC, dI) vwCl [(cy_2, .object RX9), (cy_4, .int), (cy_8, .int)] s := hK
  refine W.widen (k := 10) (n := 296) (Nat.le_of_ble_eq_true rfl) (Nat.le_of_ble_eq_true rfl) ?_
  refine va_astq (D := (dC, dI)) (i := 5) hx hb hK hP hD hS 1 0 2 9 (r := (RX9, TX9, 8)) rfl rfl rfl rfl (show ¬ ((5 : Int32) < 0 ∨ 40 ≤ (5 : Int32).toNatClampNeg) by decide +kernel) dX5_init_60 (fun H locs hP hD hS => ?_)
  have hP : va_P (dC, dI) vwCl [(h0, .inr (5, [.ref q_1, .ref q_3, .ref q_5, .ref q_7, .int 0, .int 0, .int 0, .int 0, .int 0, .int 0, .int 0])), (q_1, .inl (cy_2, 40, .inr (.inr (.inr (.inr (va_up (g_28) (5 : Int32).toNatClampNeg (some q_30))))))), (q_30, .inr (9, [.int 0, .int 0, .int 0, .int 0, .int 0, .int 0, .int 0, .int 0]))] H := hP
  have hD : va_D A [(h0, .inr (5, [.ref q_1, .ref q_3, .ref q_5, .ref q_7, .int 0, .int 0, .int 0, .int 0, .int 0, .int 0, .int 0])), (q_1, .inl (cy_2, 40, .inr (.inr (.inr (.inr (va_up (g_28) (5 : Int32).toNatClampNeg (some q_30))))))), (q_30, .inr (9, [.int 0, .int 0, .int 0, .int 0, .int 0, .int 0, .int 0, .int 0]))] := hD
  generalize va_up (g_28) (5 : Int32).toNatClampNeg (some q_30) = g_32 at hP hD
  refine lv_iinc (v := 6) (lv' := [(1, .int 6), (0, .ref h0)]) hx hb dX5_init_61 hl (k := 0) rfl (by decide +kernel) (by decide) rfl (fun ls hl => ?_)
  refine lv_goto (tgt := 42) hx hb dX5_init_64 (by decide) ?_
  have hP := hP.sub (ws' := [(h0, .inr (5, [.ref q_1, .ref q_3, .ref q_5, .ref q_7, .int 0, .int 0, .int 0, .int 0, .int 0, .int 0, .int 0])), (q_1, .inl (cy_2, 40, .inr (.inr (.inr (.inr g_32)))))]) [0, 1] rfl
  have hD := hD.sub (ws' := [(h0, .inr (5, [.ref q_1, .ref q_3, .ref q_5, .ref q_7, .int 0, .int 0, .int 0, .int 0, .int 0, .int 0, .int 0])), (q_1, .inl (cy_2, 40, .inr (.inr (.inr (.inr g_32)))))]) [0, 1] (by decide) rfl
  refine lv_iload_n hx hb dX5_init_42 rfl (lv_at hl 0 rfl) ?_
  refine lv_bipush (v := 40) hx hb dX5_init_43 (by decide +kernel) ?_
  refine lv_icmp_ge (tgt := 67) hx hb dX5_init_45 (by decide) (fun c_33 => absurd c_33 (by decide +kernel)) (fun c_33 => ?_)
  refine lv_aload_n hx hb dX5_init_48 rfl (lv_at hl 1 rfl) ?_
  refine va_get (D := (dC, dI)) (ci := 5) (v := .ref q_1) (C := RX5) (T := TX5) (N := 11) hx hb hts in_c_X5_init_X5 hown hK hP 0 rfl rfl 0 (by decide) (hts (.fieldLink RX5 11 "LawnAhead$History" "states" "[LLawnAhead$State;") (List.mem_of_getElem? (i := 5) rfl)) (fun _ h9 => h9) rfl dX5_init_49 ?_
  refine lv_iload_n hx hb dX5_init_52 rfl (lv_at hl 0 rfl) ?_
  refine va_new (ci := 9) (fs := [.int 0, .int 0, .int 0, .int 0, .int 0, .int 0, .int 0, .int 0]) (C := RX9) (T := TX9) (N := 8) hx hb hts in_c_X5_init_X9 tyX9 tyX9_ok hown (hts (.classLink RX5 9 RX9) (List.mem_of_getElem? (i := 4) rfl)) (hts (.instantiable RX9 8) (List.mem_of_getElem? (i := 8) rfl)) (hts (.initialized RX9) (List.mem_of_getElem? (i := 9) rfl)) hK hP hD hS hA rfl (by decide +kernel) (Nat.le_of_ble_eq_true rfl) (Nat.le_of_ble_eq_true rfl) dX5_init_53 (fun q_34 H hP hD hS => ?_)
  have hP : va_P (dC, dI) vwCl [(h0, .inr (5, [.ref q_1, .ref q_3, .ref q_5, .ref q_7, .int 0, .int 0, .int 0, .int 0, .int 0, .int 0, .int 0])), (q_1, .inl (cy_2, 40, .inr (.inr (.inr (.inr g_32))))), (q_34, .inr (9, [.int 0, .int 0, .int 0, .int 0, .int 0, .int 0, .int 0, .int 0]))] H := hP
  have hD : va_D A [(h0, .inr (5, [.ref q_1, .ref q_3, .ref q_5, .ref q_7, .int 0, .int 0, .int 0, .int 0, .int 0, .int 0, .int 0])), (q_1, .inl (cy_2, 40, .inr (.inr (.inr (.inr g_32))))), (q_34, .inr (9, [.int 0, .int 0, .int 0, .int 0, .int 0, .int 0, .int 0, .int 0]))] := hD
  refine W.widen (k := 11) (n := 304) (Nat.le_of_ble_eq_true rfl) (Nat.le_of_ble_eq_true rfl) ?_
  refine lv_dup hx hb dX5_init_56 rfl ?_
  have hPc := hP.sub (ws' := [(q_34, .inr (9, [.int 0, .int 0, .int 0, .int 0, .int 0, .int 0, .int 0, .int 0]))]) [2] rfl
  have hDc := hD.sub (ws' := [(q_34, .inr (9, [.int 0, .int 0, .int 0, .int 0, .int 0, .int 0, .int 0, .int 0]))]) [2] (by decide) rfl
  have hKc := hK.sub (tys' := []) [] rfl
  have hFc := va_free (wc := [(q_34, .inr (9, [.int 0, .int 0, .int 0, .int 0, .int 0, .int 0, .int 0, .int 0]))]) hD hS hA [2] rfl
  refine va_callv (va_runIN (As := []) (rest := [.ref q_34, .int 6, .ref q_1]) ⟨hx, hb, hml, hown, hts⟩ (c_X9_init l dC dI q_34 H.size) ⟨va_cnB 0 hts g_c_X5_init_57_c_X9_init rfl rfl rfl hNX5_X9 (hts (.initialized RX9) (List.mem_of_getElem? (i := 9) rfl)) (by decide +kernel) ⟨Nat.le_of_ble_eq_true rfl, Nat.le_of_ble_eq_true rfl⟩, rfl, (hts (.instanceMethod yX9_init) (List.mem_of_getElem? (i := 12) rfl))⟩ ⟨fun a U g mk q => by obtain ⟨q0, q1, qP, qK, qD⟩ := q; exact ⟨q0, q1, qP, va_K.moved (u := U) (U := U.calling g mk a) (Vm.Alike.refl U.vm) qK, qD⟩, fun U hU hW => ⟨rfl, by rw [hU], by rw [hU]; exact hPc, va_K.moved hW.alike hKc, hDc.weaken (fun _ _ _ _ => trivial)⟩⟩ rfl rfl hl.1 rfl (lv_room (Nat.le_of_ble_eq_true rfl)) dX5_init_57 ⟨Nat.le_of_ble_eq_true rfl, Nat.le_of_ble_eq_true rfl⟩) hS (fun q _ h => hFc q h) hFc (fun u t H1 locs ht hvm hw hB hz1 hk1 hS => ?_)
  obtain ⟨hP1, hK1, hD1⟩ := hB
  rw [ht] at hP1
  have hK1 := va_K.moved hvm.symm hK1
  try dsimp only at hw
  obtain ⟨hP, hD⟩ := va_join (wr := [(h0, .inr (5, [.ref q_1, .ref q_3, .ref q_5, .ref q_7, .int 0, .int 0, .int 0, .int 0, .int 0, .int 0, .int 0])), (q_1, .inl (cy_2, 40, .inr (.inr (.inr (.inr g_32)))))]) (w1 := [(q_34, .inr (9, [.int 0, .int 0, .int 0, .int 0, .int 0, .int 0, .int 0, .int 0]))]) hP hD [2] [0, 1] rfl rfl (by decide) (by decide) hk1 hFc hP1 hD1
  have hK := hK.app hK1
  generalize H1 = H at hP hS ⊢
  have hP : va_P (dC, dI) vwCl [(h0, .inr (5, [.ref q_1, .ref q_3, .ref q_5, .ref q_7, .int 0, .int 0, .int 0, .int 0, .int 0, .int 0, .int 0])), (q_1, .inl (cy_2, 40, .inr (.inr (.inr (.inr g_32))))), (q_34, .inr (9, [.int 0, .int 0, .int 0, .int 0, .int 0, .int 0, .int 0, .int 0]))] H := hP
  have hD : va_D A [(h0, .inr (5, [.ref q_1, .ref q_3, .ref q_5, .ref q_7, .int 0, .int 0, .int 0, .int 0, .int 0, .int 0, .int 0])), (q_1, .inl (cy_2, 40, .inr (.inr (.inr (.inr g_32))))), (q_34, .inr (9, [.int 0, .int 0, .int 0, .int 0, .int 0, .int 0, .int 0, .int 0]))] := hD
  have hK : va_K (dC, dI) vwCl [(cy_2, .object RX9), (cy_4, .int), (cy_8, .int)] s := hK
  refine W.widen (k := 11) (n := 304) (Nat.le_of_ble_eq_true rfl) (Nat.le_of_ble_eq_true rfl) ?_
  refine va_astq (D := (dC, dI)) (i := 6) hx hb hK hP hD hS 1 0 2 9 (r := (RX9, TX9, 8)) rfl rfl rfl rfl (show ¬ ((6 : Int32) < 0 ∨ 40 ≤ (6 : Int32).toNatClampNeg) by decide +kernel) dX5_init_60 (fun H locs hP hD hS => ?_)
  have hP : va_P (dC, dI) vwCl [(h0, .inr (5, [.ref q_1, .ref q_3, .ref q_5, .ref q_7, .int 0, .int 0, .int 0, .int 0, .int 0, .int 0, .int 0])), (q_1, .inl (cy_2, 40, .inr (.inr (.inr (.inr (va_up (g_32) (6 : Int32).toNatClampNeg (some q_34))))))), (q_34, .inr (9, [.int 0, .int 0, .int 0, .int 0, .int 0, .int 0, .int 0, .int 0]))] H := hP
  have hD : va_D A [(h0, .inr (5, [.ref q_1, .ref q_3, .ref q_5, .ref q_7, .int 0, .int 0, .int 0, .int 0, .int 0, .int 0, .int 0])), (q_1, .inl (cy_2, 40, .inr (.inr (.inr (.inr (va_up (g_32) (6 : Int32).toNatClampNeg (some q_34))))))), (q_34, .inr (9, [.int 0, .int 0, .int 0, .int 0, .int 0, .int 0, .int 0, .int 0]))] := hD
  generalize va_up (g_32) (6 : Int32).toNatClampNeg (some q_34) = g_36 at hP hD
  refine lv_iinc (v := 7) (lv' := [(1, .int 7), (0, .ref h0)]) hx hb dX5_init_61 hl (k := 0) rfl (by decide +kernel) (by decide) rfl (fun ls hl => ?_)
  refine lv_goto (tgt := 42) hx hb dX5_init_64 (by decide) ?_
  have hP := hP.sub (ws' := [(h0, .inr (5, [.ref q_1, .ref q_3, .ref q_5, .ref q_7, .int 0, .int 0, .int 0, .int 0, .int 0, .int 0, .int 0])), (q_1, .inl (cy_2, 40, .inr (.inr (.inr (.inr g_36)))))]) [0, 1] rfl
  have hD := hD.sub (ws' := [(h0, .inr (5, [.ref q_1, .ref q_3, .ref q_5, .ref q_7, .int 0, .int 0, .int 0, .int 0, .int 0, .int 0, .int 0])), (q_1, .inl (cy_2, 40, .inr (.inr (.inr (.inr g_36)))))]) [0, 1] (by decide) rfl
  refine lv_iload_n hx hb dX5_init_42 rfl (lv_at hl 0 rfl) ?_
  refine lv_bipush (v := 40) hx hb dX5_init_43 (by decide +kernel) ?_
  refine lv_icmp_ge (tgt := 67) hx hb dX5_init_45 (by decide) (fun c_37 => absurd c_37 (by decide +kernel)) (fun c_37 => ?_)
  refine lv_aload_n hx hb dX5_init_48 rfl (lv_at hl 1 rfl) ?_
  refine va_get (D := (dC, dI)) (ci := 5) (v := .ref q_1) (C := RX5) (T := TX5) (N := 11) hx hb hts in_c_X5_init_X5 hown hK hP 0 rfl rfl 0 (by decide) (hts (.fieldLink RX5 11 "LawnAhead$History" "states" "[LLawnAhead$State;") (List.mem_of_getElem? (i := 5) rfl)) (fun _ h9 => h9) rfl dX5_init_49 ?_
  refine lv_iload_n hx hb dX5_init_52 rfl (lv_at hl 0 rfl) ?_
  refine va_new (ci := 9) (fs := [.int 0, .int 0, .int 0, .int 0, .int 0, .int 0, .int 0, .int 0]) (C := RX9) (T := TX9) (N := 8) hx hb hts in_c_X5_init_X9 tyX9 tyX9_ok hown (hts (.classLink RX5 9 RX9) (List.mem_of_getElem? (i := 4) rfl)) (hts (.instantiable RX9 8) (List.mem_of_getElem? (i := 8) rfl)) (hts (.initialized RX9) (List.mem_of_getElem? (i := 9) rfl)) hK hP hD hS hA rfl (by decide +kernel) (Nat.le_of_ble_eq_true rfl) (Nat.le_of_ble_eq_true rfl) dX5_init_53 (fun q_38 H hP hD hS => ?_)
  have hP : va_P (dC, dI) vwCl [(h0, .inr (5, [.ref q_1, .ref q_3, .ref q_5, .ref q_7, .int 0, .int 0, .int 0, .int 0, .int 0, .int 0, .int 0])), (q_1, .inl (cy_2, 40, .inr (.inr (.inr (.inr g_36))))), (q_38, .inr (9, [.int 0, .int 0, .int 0, .int 0, .int 0, .int 0, .int 0, .int 0]))] H := hP
  have hD : va_D A [(h0, .inr (5, [.ref q_1, .ref q_3, .ref q_5, .ref q_7, .int 0, .int 0, .int 0, .int 0, .int 0, .int 0, .int 0])), (q_1, .inl (cy_2, 40, .inr (.inr (.inr (.inr g_36))))), (q_38, .inr (9, [.int 0, .int 0, .int 0, .int 0, .int 0, .int 0, .int 0, .int 0]))] := hD
  refine W.widen (k := 12) (n := 312) (Nat.le_of_ble_eq_true rfl) (Nat.le_of_ble_eq_true rfl) ?_
  refine lv_dup hx hb dX5_init_56 rfl ?_
  have hPc := hP.sub (ws' := [(q_38, .inr (9, [.int 0, .int 0, .int 0, .int 0, .int 0, .int 0, .int 0, .int 0]))]) [2] rfl
  have hDc := hD.sub (ws' := [(q_38, .inr (9, [.int 0, .int 0, .int 0, .int 0, .int 0, .int 0, .int 0, .int 0]))]) [2] (by decide) rfl
  have hKc := hK.sub (tys' := []) [] rfl
  have hFc := va_free (wc := [(q_38, .inr (9, [.int 0, .int 0, .int 0, .int 0, .int 0, .int 0, .int 0, .int 0]))]) hD hS hA [2] rfl
  refine va_callv (va_runIN (As := []) (rest := [.ref q_38, .int 7, .ref q_1]) ⟨hx, hb, hml, hown, hts⟩ (c_X9_init l dC dI q_38 H.size) ⟨va_cnB 0 hts g_c_X5_init_57_c_X9_init rfl rfl rfl hNX5_X9 (hts (.initialized RX9) (List.mem_of_getElem? (i := 9) rfl)) (by decide +kernel) ⟨Nat.le_of_ble_eq_true rfl, Nat.le_of_ble_eq_true rfl⟩, rfl, (hts (.instanceMethod yX9_init) (List.mem_of_getElem? (i := 12) rfl))⟩ ⟨fun a U g mk q => by obtain ⟨q0, q1, qP, qK, qD⟩ := q; exact ⟨q0, q1, qP, va_K.moved (u := U) (U := U.calling g mk a) (Vm.Alike.refl U.vm) qK, qD⟩, fun U hU hW => ⟨rfl, by rw [hU], by rw [hU]; exact hPc, va_K.moved hW.alike hKc, hDc.weaken (fun _ _ _ _ => trivial)⟩⟩ rfl rfl hl.1 rfl (lv_room (Nat.le_of_ble_eq_true rfl)) dX5_init_57 ⟨Nat.le_of_ble_eq_true rfl, Nat.le_of_ble_eq_true rfl⟩) hS (fun q _ h => hFc q h) hFc (fun u t H1 locs ht hvm hw hB hz1 hk1 hS => ?_)
  obtain ⟨hP1, hK1, hD1⟩ := hB
  rw [ht] at hP1
  have hK1 := va_K.moved hvm.symm hK1
  try dsimp only at hw
  obtain ⟨hP, hD⟩ := va_join (wr := [(h0, .inr (5, [.ref q_1, .ref q_3, .ref q_5, .ref q_7, .int 0, .int 0, .int 0, .int 0, .int 0, .int 0, .int 0])), (q_1, .inl (cy_2, 40, .inr (.inr (.inr (.inr g_36)))))]) (w1 := [(q_38, .inr (9, [.int 0, .int 0, .int 0, .int 0, .int 0, .int 0, .int 0, .int 0]))]) hP hD [2] [0, 1] rfl rfl (by decide) (by decide) hk1 hFc hP1 hD1
  have hK := hK.app hK1
  generalize H1 = H at hP hS ⊢
  have hP : va_P (dC, dI) vwCl [(h0, .inr (5, [.ref q_1, .ref q_3, .ref q_5, .ref q_7, .int 0, .int 0, .int 0, .int 0, .int 0, .int 0, .int 0])), (q_1, .inl (cy_2, 40, .inr (.inr (.inr (.inr g_36))))), (q_38, .inr (9, [.int 0, .int 0, .int 0, .int 0, .int 0, .int 0, .int 0, .int 0]))] H := hP
  have hD : va_D A [(h0, .inr (5, [.ref q_1, .ref q_3, .ref q_5, .ref q_7, .int 0, .int 0, .int 0, .int 0, .int 0, .int 0, .int 0])), (q_1, .inl (cy_2, 40, .inr (.inr (.inr (.inr g_36))))), (q_38, .inr (9, [.int 0, .int 0, .int 0, .int 0, .int 0, .int 0, .int 0, .int 0]))] := hD
  have hK : va_K (dC, dI) vwCl [(cy_2, .object RX9), (cy_4, .int), (cy_8, .int)] s := hK
  refine W.widen (k := 12) (n := 312) (Nat.le_of_ble_eq_true rfl) (Nat.le_of_ble_eq_true rfl) ?_
  refine va_astq (D := (dC, dI)) (i := 7) hx hb hK hP hD hS 1 0 2 9 (r := (RX9, TX9, 8)) rfl rfl rfl rfl (show ¬ ((7 : Int32) < 0 ∨ 40 ≤ (7 : Int32).toNatClampNeg) by decide +kernel) dX5_init_60 (fun H locs hP hD hS => ?_)
  have hP : va_P (dC, dI) vwCl [(h0, .inr (5, [.ref q_1, .ref q_3, .ref q_5, .ref q_7, .int 0, .int 0, .int 0, .int 0, .int 0, .int 0, .int 0])), (q_1, .inl (cy_2, 40, .inr (.inr (.inr (.inr (va_up (g_36) (7 : Int32).toNatClampNeg (some q_38))))))), (q_38, .inr (9, [.int 0, .int 0, .int 0, .int 0, .int 0, .int 0, .int 0, .int 0]))] H := hP
  have hD : va_D A [(h0, .inr (5, [.ref q_1, .ref q_3, .ref q_5, .ref q_7, .int 0, .int 0, .int 0, .int 0, .int 0, .int 0, .int 0])), (q_1, .inl (cy_2, 40, .inr (.inr (.inr (.inr (va_up (g_36) (7 : Int32).toNatClampNeg (some q_38))))))), (q_38, .inr (9, [.int 0, .int 0, .int 0, .int 0, .int 0, .int 0, .int 0, .int 0]))] := hD
  generalize va_up (g_36) (7 : Int32).toNatClampNeg (some q_38) = g_40 at hP hD
  refine lv_iinc (v := 8) (lv' := [(1, .int 8), (0, .ref h0)]) hx hb dX5_init_61 hl (k := 0) rfl (by decide +kernel) (by decide) rfl (fun ls hl => ?_)
  refine lv_goto (tgt := 42) hx hb dX5_init_64 (by decide) ?_
  have hP := hP.sub (ws' := [(h0, .inr (5, [.ref q_1, .ref q_3, .ref q_5, .ref q_7, .int 0, .int 0, .int 0, .int 0, .int 0, .int 0, .int 0])), (q_1, .inl (cy_2, 40, .inr (.inr (.inr (.inr g_40)))))]) [0, 1] rfl
  have hD := hD.sub (ws' := [(h0, .inr (5, [.ref q_1, .ref q_3, .ref q_5, .ref q_7, .int 0, .int 0, .int 0, .int 0, .int 0, .int 0, .int 0])), (q_1, .inl (cy_2, 40, .inr (.inr (.inr (.inr g_40)))))]) [0, 1] (by decide) rfl
  refine lv_iload_n hx hb dX5_init_42 rfl (lv_at hl 0 rfl) ?_
  refine lv_bipush (v := 40) hx hb dX5_init_43 (by decide +kernel) ?_
  refine lv_icmp_ge (tgt := 67) hx hb dX5_init_45 (by decide) (fun c_41 => absurd c_41 (by decide +kernel)) (fun c_41 => ?_)
  refine lv_aload_n hx hb dX5_init_48 rfl (lv_at hl 1 rfl) ?_
  refine va_get (D := (dC, dI)) (ci := 5) (v := .ref q_1) (C := RX5) (T := TX5) (N := 11) hx hb hts in_c_X5_init_X5 hown hK hP 0 rfl rfl 0 (by decide) (hts (.fieldLink RX5 11 "LawnAhead$History" "states" "[LLawnAhead$State;") (List.mem_of_getElem? (i := 5) rfl)) (fun _ h9 => h9) rfl dX5_init_49 ?_
  refine lv_iload_n hx hb dX5_init_52 rfl (lv_at hl 0 rfl) ?_
  refine va_new (ci := 9) (fs := [.int 0, .int 0, .int 0, .int 0, .int 0, .int 0, .int 0, .int 0]) (C := RX9) (T := TX9) (N := 8) hx hb hts in_c_X5_init_X9 tyX9 tyX9_ok hown (hts (.classLink RX5 9 RX9) (List.mem_of_getElem? (i := 4) rfl)) (hts (.instantiable RX9 8) (List.mem_of_getElem? (i := 8) rfl)) (hts (.initialized RX9) (List.mem_of_getElem? (i := 9) rfl)) hK hP hD hS hA rfl (by decide +kernel) (Nat.le_of_ble_eq_true rfl) (Nat.le_of_ble_eq_true rfl) dX5_init_53 (fun q_42 H hP hD hS => ?_)
  have hP : va_P (dC, dI) vwCl [(h0, .inr (5, [.ref q_1, .ref q_3, .ref q_5, .ref q_7, .int 0, .int 0, .int 0, .int 0, .int 0, .int 0, .int 0])), (q_1, .inl (cy_2, 40, .inr (.inr (.inr (.inr g_40))))), (q_42, .inr (9, [.int 0, .int 0, .int 0, .int 0, .int 0, .int 0, .int 0, .int 0]))] H := hP
  have hD : va_D A [(h0, .inr (5, [.ref q_1, .ref q_3, .ref q_5, .ref q_7, .int 0, .int 0, .int 0, .int 0, .int 0, .int 0, .int 0])), (q_1, .inl (cy_2, 40, .inr (.inr (.inr (.inr g_40))))), (q_42, .inr (9, [.int 0, .int 0, .int 0, .int 0, .int 0, .int 0, .int 0, .int 0]))] := hD
  refine W.widen (k := 13) (n := 320) (Nat.le_of_ble_eq_true rfl) (Nat.le_of_ble_eq_true rfl) ?_
  refine lv_dup hx hb dX5_init_56 rfl ?_
  have hPc := hP.sub (ws' := [(q_42, .inr (9, [.int 0, .int 0, .int 0, .int 0, .int 0, .int 0, .int 0, .int 0]))]) [2] rfl
  have hDc := hD.sub (ws' := [(q_42, .inr (9, [.int 0, .int 0, .int 0, .int 0, .int 0, .int 0, .int 0, .int 0]))]) [2] (by decide) rfl
  have hKc := hK.sub (tys' := []) [] rfl
  have hFc := va_free (wc := [(q_42, .inr (9, [.int 0, .int 0, .int 0, .int 0, .int 0, .int 0, .int 0, .int 0]))]) hD hS hA [2] rfl
  refine va_callv (va_runIN (As := []) (rest := [.ref q_42, .int 8, .ref q_1]) ⟨hx, hb, hml, hown, hts⟩ (c_X9_init l dC dI q_42 H.size) ⟨va_cnB 0 hts g_c_X5_init_57_c_X9_init rfl rfl rfl hNX5_X9 (hts (.initialized RX9) (List.mem_of_getElem? (i := 9) rfl)) (by decide +kernel) ⟨Nat.le_of_ble_eq_true rfl, Nat.le_of_ble_eq_true rfl⟩, rfl, (hts (.instanceMethod yX9_init) (List.mem_of_getElem? (i := 12) rfl))⟩ ⟨fun a U g mk q => by obtain ⟨q0, q1, qP, qK, qD⟩ := q; exact ⟨q0, q1, qP, va_K.moved (u := U) (U := U.calling g mk a) (Vm.Alike.refl U.vm) qK, qD⟩, fun U hU hW => ⟨rfl, by rw [hU], by rw [hU]; exact hPc, va_K.moved hW.alike hKc, hDc.weaken (fun _ _ _ _ => trivial)⟩⟩ rfl rfl hl.1 rfl (lv_room (Nat.le_of_ble_eq_true rfl)) dX5_init_57 ⟨Nat.le_of_ble_eq_true rfl, Nat.le_of_ble_eq_true rfl⟩) hS (fun q _ h => hFc q h) hFc (fun u t H1 locs ht hvm hw hB hz1 hk1 hS => ?_)
  obtain ⟨hP1, hK1, hD1⟩ := hB
  rw [ht] at hP1
  have hK1 := va_K.moved hvm.symm hK1
  try dsimp only at hw
  obtain ⟨hP, hD⟩ := va_join (wr := [(h0, .inr (5, [.ref q_1, .ref q_3, .ref q_5, .ref q_7, .int 0, .int 0, .int 0, .int 0, .int 0, .int 0, .int 0])), (q_1, .inl (cy_2, 40, .inr (.inr (.inr (.inr g_40)))))]) (w1 := [(q_42, .inr (9, [.int 0, .int 0, .int 0, .int 0, .int 0, .int 0, .int 0, .int 0]))]) hP hD [2] [0, 1] rfl rfl (by decide) (by decide) hk1 hFc hP1 hD1
  have hK := hK.app hK1
  generalize H1 = H at hP hS ⊢
  have hP : va_P (dC, dI) vwCl [(h0, .inr (5, [.ref q_1, .ref q_3, .ref q_5, .ref q_7, .int 0, .int 0, .int 0, .int 0, .int 0, .int 0, .int 0])), (q_1, .inl (cy_2, 40, .inr (.inr (.inr (.inr g_40))))), (q_42, .inr (9, [.int 0, .int 0, .int 0, .int 0, .int 0, .int 0, .int 0, .int 0]))] H := hP
  have hD : va_D A [(h0, .inr (5, [.ref q_1, .ref q_3, .ref q_5, .ref q_7, .int 0, .int 0, .int 0, .int 0, .int 0, .int 0, .int 0])), (q_1, .inl (cy_2, 40, .inr (.inr (.inr (.inr g_40))))), (q_42, .inr (9, [.int 0, .int 0, .int 0, .int 0, .int 0, .int 0, .int 0, .int 0]))] := hD
  have hK : va_K (dC, dI) vwCl [(cy_2, .object RX9), (cy_4, .int), (cy_8, .int)] s := hK
  refine W.widen (k := 13) (n := 320) (Nat.le_of_ble_eq_true rfl) (Nat.le_of_ble_eq_true rfl) ?_
  refine va_astq (D := (dC, dI)) (i := 8) hx hb hK hP hD hS 1 0 2 9 (r := (RX9, TX9, 8)) rfl rfl rfl rfl (show ¬ ((8 : Int32) < 0 ∨ 40 ≤ (8 : Int32).toNatClampNeg) by decide +kernel) dX5_init_60 (fun H locs hP hD hS => ?_)
  have hP : va_P (dC, dI) vwCl [(h0, .inr (5, [.ref q_1, .ref q_3, .ref q_5, .ref q_7, .int 0, .int 0, .int 0, .int 0, .int 0, .int 0, .int 0])), (q_1, .inl (cy_2, 40, .inr (.inr (.inr (.inr (va_up (g_40) (8 : Int32).toNatClampNeg (some q_42))))))), (q_42, .inr (9, [.int 0, .int 0, .int 0, .int 0, .int 0, .int 0, .int 0, .int 0]))] H := hP
  have hD : va_D A [(h0, .inr (5, [.ref q_1, .ref q_3, .ref q_5, .ref q_7, .int 0, .int 0, .int 0, .int 0, .int 0, .int 0, .int 0])), (q_1, .inl (cy_2, 40, .inr (.inr (.inr (.inr (va_up (g_40) (8 : Int32).toNatClampNeg (some q_42))))))), (q_42, .inr (9, [.int 0, .int 0, .int 0, .int 0, .int 0, .int 0, .int 0, .int 0]))] := hD
  generalize va_up (g_40) (8 : Int32).toNatClampNeg (some q_42) = g_44 at hP hD
  refine lv_iinc (v := 9) (lv' := [(1, .int 9), (0, .ref h0)]) hx hb dX5_init_61 hl (k := 0) rfl (by decide +kernel) (by decide) rfl (fun ls hl => ?_)
  refine lv_goto (tgt := 42) hx hb dX5_init_64 (by decide) ?_
  have hP := hP.sub (ws' := [(h0, .inr (5, [.ref q_1, .ref q_3, .ref q_5, .ref q_7, .int 0, .int 0, .int 0, .int 0, .int 0, .int 0, .int 0])), (q_1, .inl (cy_2, 40, .inr (.inr (.inr (.inr g_44)))))]) [0, 1] rfl
  have hD := hD.sub (ws' := [(h0, .inr (5, [.ref q_1, .ref q_3, .ref q_5, .ref q_7, .int 0, .int 0, .int 0, .int 0, .int 0, .int 0, .int 0])), (q_1, .inl (cy_2, 40, .inr (.inr (.inr (.inr g_44)))))]) [0, 1] (by decide) rfl
  refine lv_iload_n hx hb dX5_init_42 rfl (lv_at hl 0 rfl) ?_
  refine lv_bipush (v := 40) hx hb dX5_init_43 (by decide +kernel) ?_
  refine lv_icmp_ge (tgt := 67) hx hb dX5_init_45 (by decide) (fun c_45 => absurd c_45 (by decide +kernel)) (fun c_45 => ?_)
  refine lv_aload_n hx hb dX5_init_48 rfl (lv_at hl 1 rfl) ?_
  refine va_get (D := (dC, dI)) (ci := 5) (v := .ref q_1) (C := RX5) (T := TX5) (N := 11) hx hb hts in_c_X5_init_X5 hown hK hP 0 rfl rfl 0 (by decide) (hts (.fieldLink RX5 11 "LawnAhead$History" "states" "[LLawnAhead$State;") (List.mem_of_getElem? (i := 5) rfl)) (fun _ h9 => h9) rfl dX5_init_49 ?_
  refine lv_iload_n hx hb dX5_init_52 rfl (lv_at hl 0 rfl) ?_
  refine va_new (ci := 9) (fs := [.int 0, .int 0, .int 0, .int 0, .int 0, .int 0, .int 0, .int 0]) (C := RX9) (T := TX9) (N := 8) hx hb hts in_c_X5_init_X9 tyX9 tyX9_ok hown (hts (.classLink RX5 9 RX9) (List.mem_of_getElem? (i := 4) rfl)) (hts (.instantiable RX9 8) (List.mem_of_getElem? (i := 8) rfl)) (hts (.initialized RX9) (List.mem_of_getElem? (i := 9) rfl)) hK hP hD hS hA rfl (by decide +kernel) (Nat.le_of_ble_eq_true rfl) (Nat.le_of_ble_eq_true rfl) dX5_init_53 (fun q_46 H hP hD hS => ?_)
  have hP : va_P (dC, dI) vwCl [(h0, .inr (5, [.ref q_1, .ref q_3, .ref q_5, .ref q_7, .int 0, .int 0, .int 0, .int 0, .int 0, .int 0, .int 0])), (q_1, .inl (cy_2, 40, .inr (.inr (.inr (.inr g_44))))), (q_46, .inr (9, [.int 0, .int 0, .int 0, .int 0, .int 0, .int 0, .int 0, .int 0]))] H := hP
  have hD : va_D A [(h0, .inr (5, [.ref q_1, .ref q_3, .ref q_5, .ref q_7, .int 0, .int 0, .int 0, .int 0, .int 0, .int 0, .int 0])), (q_1, .inl (cy_2, 40, .inr (.inr (.inr (.inr g_44))))), (q_46, .inr (9, [.int 0, .int 0, .int 0, .int 0, .int 0, .int 0, .int 0, .int 0]))] := hD
  refine W.widen (k := 14) (n := 328) (Nat.le_of_ble_eq_true rfl) (Nat.le_of_ble_eq_true rfl) ?_
  refine lv_dup hx hb dX5_init_56 rfl ?_
  have hPc := hP.sub (ws' := [(q_46, .inr (9, [.int 0, .int 0, .int 0, .int 0, .int 0, .int 0, .int 0, .int 0]))]) [2] rfl
  have hDc := hD.sub (ws' := [(q_46, .inr (9, [.int 0, .int 0, .int 0, .int 0, .int 0, .int 0, .int 0, .int 0]))]) [2] (by decide) rfl
  have hKc := hK.sub (tys' := []) [] rfl
  have hFc := va_free (wc := [(q_46, .inr (9, [.int 0, .int 0, .int 0, .int 0, .int 0, .int 0, .int 0, .int 0]))]) hD hS hA [2] rfl
  refine va_callv (va_runIN (As := []) (rest := [.ref q_46, .int 9, .ref q_1]) ⟨hx, hb, hml, hown, hts⟩ (c_X9_init l dC dI q_46 H.size) ⟨va_cnB 0 hts g_c_X5_init_57_c_X9_init rfl rfl rfl hNX5_X9 (hts (.initialized RX9) (List.mem_of_getElem? (i := 9) rfl)) (by decide +kernel) ⟨Nat.le_of_ble_eq_true rfl, Nat.le_of_ble_eq_true rfl⟩, rfl, (hts (.instanceMethod yX9_init) (List.mem_of_getElem? (i := 12) rfl))⟩ ⟨fun a U g mk q => by obtain ⟨q0, q1, qP, qK, qD⟩ := q; exact ⟨q0, q1, qP, va_K.moved (u := U) (U := U.calling g mk a) (Vm.Alike.refl U.vm) qK, qD⟩, fun U hU hW => ⟨rfl, by rw [hU], by rw [hU]; exact hPc, va_K.moved hW.alike hKc, hDc.weaken (fun _ _ _ _ => trivial)⟩⟩ rfl rfl hl.1 rfl (lv_room (Nat.le_of_ble_eq_true rfl)) dX5_init_57 ⟨Nat.le_of_ble_eq_true rfl, Nat.le_of_ble_eq_true rfl⟩) hS (fun q _ h => hFc q h) hFc (fun u t H1 locs ht hvm hw hB hz1 hk1 hS => ?_)
  obtain ⟨hP1, hK1, hD1⟩ := hB
  rw [ht] at hP1
  have hK1 := va_K.moved hvm.symm hK1
  try dsimp only at hw
  obtain ⟨hP, hD⟩ := va_join (wr := [(h0, .inr (5, [.ref q_1, .ref q_3, .ref q_5, .ref q_7, .int 0, .int 0, .int 0, .int 0, .int 0, .int 0, .int 0])), (q_1, .inl (cy_2, 40, .inr (.inr (.inr (.inr g_44)))))]) (w1 := [(q_46, .inr (9, [.int 0, .int 0, .int 0, .int 0, .int 0, .int 0, .int 0, .int 0]))]) hP hD [2] [0, 1] rfl rfl (by decide) (by decide) hk1 hFc hP1 hD1
  have hK := hK.app hK1
  generalize H1 = H at hP hS ⊢
  have hP : va_P (dC, dI) vwCl [(h0, .inr (5, [.ref q_1, .ref q_3, .ref q_5, .ref q_7, .int 0, .int 0, .int 0, .int 0, .int 0, .int 0, .int 0])), (q_1, .inl (cy_2, 40, .inr (.inr (.inr (.inr g_44))))), (q_46, .inr (9, [.int 0, .int 0, .int 0, .int 0, .int 0, .int 0, .int 0, .int 0]))] H := hP
  have hD : va_D A [(h0, .inr (5, [.ref q_1, .ref q_3, .ref q_5, .ref q_7, .int 0, .int 0, .int 0, .int 0, .int 0, .int 0, .int 0])), (q_1, .inl (cy_2, 40, .inr (.inr (.inr (.inr g_44))))), (q_46, .inr (9, [.int 0, .int 0, .int 0, .int 0, .int 0, .int 0, .int 0, .int 0]))] := hD
  have hK : va_K (dC, dI) vwCl [(cy_2, .object RX9), (cy_4, .int), (cy_8, .int)] s := hK
  refine W.widen (k := 14) (n := 328) (Nat.le_of_ble_eq_true rfl) (Nat.le_of_ble_eq_true rfl) ?_
  refine va_astq (D := (dC, dI)) (i := 9) hx hb hK hP hD hS 1 0 2 9 (r := (RX9, TX9, 8)) rfl rfl rfl rfl (show ¬ ((9 : Int32) < 0 ∨ 40 ≤ (9 : Int32).toNatClampNeg) by decide +kernel) dX5_init_60 (fun H locs hP hD hS => ?_)
  have hP : va_P (dC, dI) vwCl [(h0, .inr (5, [.ref q_1, .ref q_3, .ref q_5, .ref q_7, .int 0, .int 0, .int 0, .int 0, .int 0, .int 0, .int 0])), (q_1, .inl (cy_2, 40, .inr (.inr (.inr (.inr (va_up (g_44) (9 : Int32).toNatClampNeg (some q_46))))))), (q_46, .inr (9, [.int 0, .int 0, .int 0, .int 0, .int 0, .int 0, .int 0, .int 0]))] H := hP
  have hD : va_D A [(h0, .inr (5, [.ref q_1, .ref q_3, .ref q_5, .ref q_7, .int 0, .int 0, .int 0, .int 0, .int 0, .int 0, .int 0])), (q_1, .inl (cy_2, 40, .inr (.inr (.inr (.inr (va_up (g_44) (9 : Int32).toNatClampNeg (some q_46))))))), (q_46, .inr (9, [.int 0, .int 0, .int 0, .int 0, .int 0, .int 0, .int 0, .int 0]))] := hD
  generalize va_up (g_44) (9 : Int32).toNatClampNeg (some q_46) = g_48 at hP hD
  refine lv_iinc (v := 10) (lv' := [(1, .int 10), (0, .ref h0)]) hx hb dX5_init_61 hl (k := 0) rfl (by decide +kernel) (by decide) rfl (fun ls hl => ?_)
  refine lv_goto (tgt := 42) hx hb dX5_init_64 (by decide) ?_
  have hP := hP.sub (ws' := [(h0, .inr (5, [.ref q_1, .ref q_3, .ref q_5, .ref q_7, .int 0, .int 0, .int 0, .int 0, .int 0, .int 0, .int 0])), (q_1, .inl (cy_2, 40, .inr (.inr (.inr (.inr g_48)))))]) [0, 1] rfl
  have hD := hD.sub (ws' := [(h0, .inr (5, [.ref q_1, .ref q_3, .ref q_5, .ref q_7, .int 0, .int 0, .int 0, .int 0, .int 0, .int 0, .int 0])), (q_1, .inl (cy_2, 40, .inr (.inr (.inr (.inr g_48)))))]) [0, 1] (by decide) rfl
  refine lv_iload_n hx hb dX5_init_42 rfl (lv_at hl 0 rfl) ?_
  refine lv_bipush (v := 40) hx hb dX5_init_43 (by decide +kernel) ?_
  refine lv_icmp_ge (tgt := 67) hx hb dX5_init_45 (by decide) (fun c_49 => absurd c_49 (by decide +kernel)) (fun c_49 => ?_)
  refine lv_aload_n hx hb dX5_init_48 rfl (lv_at hl 1 rfl) ?_
  refine va_get (D := (dC, dI)) (ci := 5) (v := .ref q_1) (C := RX5) (T := TX5) (N := 11) hx hb hts in_c_X5_init_X5 hown hK hP 0 rfl rfl 0 (by decide) (hts (.fieldLink RX5 11 "LawnAhead$History" "states" "[LLawnAhead$State;") (List.mem_of_getElem? (i := 5) rfl)) (fun _ h9 => h9) rfl dX5_init_49 ?_
  refine lv_iload_n hx hb dX5_init_52 rfl (lv_at hl 0 rfl) ?_
  refine va_new (ci := 9) (fs := [.int 0, .int 0, .int 0, .int 0, .int 0, .int 0, .int 0, .int 0]) (C := RX9) (T := TX9) (N := 8) hx hb hts in_c_X5_init_X9 tyX9 tyX9_ok hown (hts (.classLink RX5 9 RX9) (List.mem_of_getElem? (i := 4) rfl)) (hts (.instantiable RX9 8) (List.mem_of_getElem? (i := 8) rfl)) (hts (.initialized RX9) (List.mem_of_getElem? (i := 9) rfl)) hK hP hD hS hA rfl (by decide +kernel) (Nat.le_of_ble_eq_true rfl) (Nat.le_of_ble_eq_true rfl) dX5_init_53 (fun q_50 H hP hD hS => ?_)
  have hP : va_P (dC, dI) vwCl [(h0, .inr (5, [.ref q_1, .ref q_3, .ref q_5, .ref q_7, .int 0, .int 0, .int 0, .int 0, .int 0, .int 0, .int 0])), (q_1, .inl (cy_2, 40, .inr (.inr (.inr (.inr g_48))))), (q_50, .inr (9, [.int 0, .int 0, .int 0, .int 0, .int 0, .int 0, .int 0, .int 0]))] H := hP
  have hD : va_D A [(h0, .inr (5, [.ref q_1, .ref q_3, .ref q_5, .ref q_7, .int 0, .int 0, .int 0, .int 0, .int 0, .int 0, .int 0])), (q_1, .inl (cy_2, 40, .inr (.inr (.inr (.inr g_48))))), (q_50, .inr (9, [.int 0, .int 0, .int 0, .int 0, .int 0, .int 0, .int 0, .int 0]))] := hD
  refine W.widen (k := 15) (n := 336) (Nat.le_of_ble_eq_true rfl) (Nat.le_of_ble_eq_true rfl) ?_
  refine lv_dup hx hb dX5_init_56 rfl ?_
  have hPc := hP.sub (ws' := [(q_50, .inr (9, [.int 0, .int 0, .int 0, .int 0, .int 0, .int 0, .int 0, .int 0]))]) [2] rfl
  have hDc := hD.sub (ws' := [(q_50, .inr (9, [.int 0, .int 0, .int 0, .int 0, .int 0, .int 0, .int 0, .int 0]))]) [2] (by decide) rfl
  have hKc := hK.sub (tys' := []) [] rfl
  have hFc := va_free (wc := [(q_50, .inr (9, [.int 0, .int 0, .int 0, .int 0, .int 0, .int 0, .int 0, .int 0]))]) hD hS hA [2] rfl
  refine va_callv (va_runIN (As := []) (rest := [.ref q_50, .int 10, .ref q_1]) ⟨hx, hb, hml, hown, hts⟩ (c_X9_init l dC dI q_50 H.size) ⟨va_cnB 0 hts g_c_X5_init_57_c_X9_init rfl rfl rfl hNX5_X9 (hts (.initialized RX9) (List.mem_of_getElem? (i := 9) rfl)) (by decide +kernel) ⟨Nat.le_of_ble_eq_true rfl, Nat.le_of_ble_eq_true rfl⟩, rfl, (hts (.instanceMethod yX9_init) (List.mem_of_getElem? (i := 12) rfl))⟩ ⟨fun a U g mk q => by obtain ⟨q0, q1, qP, qK, qD⟩ := q; exact ⟨q0, q1, qP, va_K.moved (u := U) (U := U.calling g mk a) (Vm.Alike.refl U.vm) qK, qD⟩, fun U hU hW => ⟨rfl, by rw [hU], by rw [hU]; exact hPc, va_K.moved hW.alike hKc, hDc.weaken (fun _ _ _ _ => trivial)⟩⟩ rfl rfl hl.1 rfl (lv_room (Nat.le_of_ble_eq_true rfl)) dX5_init_57 ⟨Nat.le_of_ble_eq_true rfl, Nat.le_of_ble_eq_true rfl⟩) hS (fun q _ h => hFc q h) hFc (fun u t H1 locs ht hvm hw hB hz1 hk1 hS => ?_)
  obtain ⟨hP1, hK1, hD1⟩ := hB
  rw [ht] at hP1
  have hK1 := va_K.moved hvm.symm hK1
  try dsimp only at hw
  obtain ⟨hP, hD⟩ := va_join (wr := [(h0, .inr (5, [.ref q_1, .ref q_3, .ref q_5, .ref q_7, .int 0, .int 0, .int 0, .int 0, .int 0, .int 0, .int 0])), (q_1, .inl (cy_2, 40, .inr (.inr (.inr (.inr g_48)))))]) (w1 := [(q_50, .inr (9, [.int 0, .int 0, .int 0, .int 0, .int 0, .int 0, .int 0, .int 0]))]) hP hD [2] [0, 1] rfl rfl (by decide) (by decide) hk1 hFc hP1 hD1
  have hK := hK.app hK1
  generalize H1 = H at hP hS ⊢
  have hP : va_P (dC, dI) vwCl [(h0, .inr (5, [.ref q_1, .ref q_3, .ref q_5, .ref q_7, .int 0, .int 0, .int 0, .int 0, .int 0, .int 0, .int 0])), (q_1, .inl (cy_2, 40, .inr (.inr (.inr (.inr g_48))))), (q_50, .inr (9, [.int 0, .int 0, .int 0, .int 0, .int 0, .int 0, .int 0, .int 0]))] H := hP
  have hD : va_D A [(h0, .inr (5, [.ref q_1, .ref q_3, .ref q_5, .ref q_7, .int 0, .int 0, .int 0, .int 0, .int 0, .int 0, .int 0])), (q_1, .inl (cy_2, 40, .inr (.inr (.inr (.inr g_48))))), (q_50, .inr (9, [.int 0, .int 0, .int 0, .int 0, .int 0, .int 0, .int 0, .int 0]))] := hD
  have hK : va_K (dC, dI) vwCl [(cy_2, .object RX9), (cy_4, .int), (cy_8, .int)] s := hK
  refine W.widen (k := 15) (n := 336) (Nat.le_of_ble_eq_true rfl) (Nat.le_of_ble_eq_true rfl) ?_
  refine va_astq (D := (dC, dI)) (i := 10) hx hb hK hP hD hS 1 0 2 9 (r := (RX9, TX9, 8)) rfl rfl rfl rfl (show ¬ ((10 : Int32) < 0 ∨ 40 ≤ (10 : Int32).toNatClampNeg) by decide +kernel) dX5_init_60 (fun H locs hP hD hS => ?_)
  have hP : va_P (dC, dI) vwCl [(h0, .inr (5, [.ref q_1, .ref q_3, .ref q_5, .ref q_7, .int 0, .int 0, .int 0, .int 0, .int 0, .int 0, .int 0])), (q_1, .inl (cy_2, 40, .inr (.inr (.inr (.inr (va_up (g_48) (10 : Int32).toNatClampNeg (some q_50))))))), (q_50, .inr (9, [.int 0, .int 0, .int 0, .int 0, .int 0, .int 0, .int 0, .int 0]))] H := hP
  have hD : va_D A [(h0, .inr (5, [.ref q_1, .ref q_3, .ref q_5, .ref q_7, .int 0, .int 0, .int 0, .int 0, .int 0, .int 0, .int 0])), (q_1, .inl (cy_2, 40, .inr (.inr (.inr (.inr (va_up (g_48) (10 : Int32).toNatClampNeg (some q_50))))))), (q_50, .inr (9, [.int 0, .int 0, .int 0, .int 0, .int 0, .int 0, .int 0, .int 0]))] := hD
  generalize va_up (g_48) (10 : Int32).toNatClampNeg (some q_50) = g_52 at hP hD
  refine lv_iinc (v := 11) (lv' := [(1, .int 11), (0, .ref h0)]) hx hb dX5_init_61 hl (k := 0) rfl (by decide +kernel) (by decide) rfl (fun ls hl => ?_)
  refine lv_goto (tgt := 42) hx hb dX5_init_64 (by decide) ?_
  have hP := hP.sub (ws' := [(h0, .inr (5, [.ref q_1, .ref q_3, .ref q_5, .ref q_7, .int 0, .int 0, .int 0, .int 0, .int 0, .int 0, .int 0])), (q_1, .inl (cy_2, 40, .inr (.inr (.inr (.inr g_52)))))]) [0, 1] rfl
  have hD := hD.sub (ws' := [(h0, .inr (5, [.ref q_1, .ref q_3, .ref q_5, .ref q_7, .int 0, .int 0, .int 0, .int 0, .int 0, .int 0, .int 0])), (q_1, .inl (cy_2, 40, .inr (.inr (.inr (.inr g_52)))))]) [0, 1] (by decide) rfl
  refine lv_iload_n hx hb dX5_init_42 rfl (lv_at hl 0 rfl) ?_
  refine lv_bipush (v := 40) hx hb dX5_init_43 (by decide +kernel) ?_
  refine lv_icmp_ge (tgt := 67) hx hb dX5_init_45 (by decide) (fun c_53 => absurd c_53 (by decide +kernel)) (fun c_53 => ?_)
  refine lv_aload_n hx hb dX5_init_48 rfl (lv_at hl 1 rfl) ?_
  refine va_get (D := (dC, dI)) (ci := 5) (v := .ref q_1) (C := RX5) (T := TX5) (N := 11) hx hb hts in_c_X5_init_X5 hown hK hP 0 rfl rfl 0 (by decide) (hts (.fieldLink RX5 11 "LawnAhead$History" "states" "[LLawnAhead$State;") (List.mem_of_getElem? (i := 5) rfl)) (fun _ h9 => h9) rfl dX5_init_49 ?_
  refine lv_iload_n hx hb dX5_init_52 rfl (lv_at hl 0 rfl) ?_
  refine va_new (ci := 9) (fs := [.int 0, .int 0, .int 0, .int 0, .int 0, .int 0, .int 0, .int 0]) (C := RX9) (T := TX9) (N := 8) hx hb hts in_c_X5_init_X9 tyX9 tyX9_ok hown (hts (.classLink RX5 9 RX9) (List.mem_of_getElem? (i := 4) rfl)) (hts (.instantiable RX9 8) (List.mem_of_getElem? (i := 8) rfl)) (hts (.initialized RX9) (List.mem_of_getElem? (i := 9) rfl)) hK hP hD hS hA rfl (by decide +kernel) (Nat.le_of_ble_eq_true rfl) (Nat.le_of_ble_eq_true rfl) dX5_init_53 (fun q_54 H hP hD hS => ?_)
  have hP : va_P (dC, dI) vwCl [(h0, .inr (5, [.ref q_1, .ref q_3, .ref q_5, .ref q_7, .int 0, .int 0, .int 0, .int 0, .int 0, .int 0, .int 0])), (q_1, .inl (cy_2, 40, .inr (.inr (.inr (.inr g_52))))), (q_54, .inr (9, [.int 0, .int 0, .int 0, .int 0, .int 0, .int 0, .int 0, .int 0]))] H := hP
  have hD : va_D A [(h0, .inr (5, [.ref q_1, .ref q_3, .ref q_5, .ref q_7, .int 0, .int 0, .int 0, .int 0, .int 0, .int 0, .int 0])), (q_1, .inl (cy_2, 40, .inr (.inr (.inr (.inr g_52))))), (q_54, .inr (9, [.int 0, .int 0, .int 0, .int 0, .int 0, .int 0, .int 0, .int 0]))] := hD
  refine W.widen (k := 16) (n := 344) (Nat.le_of_ble_eq_true rfl) (Nat.le_of_ble_eq_true rfl) ?_
  refine lv_dup hx hb dX5_init_56 rfl ?_
  have hPc := hP.sub (ws' := [(q_54, .inr (9, [.int 0, .int 0, .int 0, .int 0, .int 0, .int 0, .int 0, .int 0]))]) [2] rfl
  have hDc := hD.sub (ws' := [(q_54, .inr (9, [.int 0, .int 0, .int 0, .int 0, .int 0, .int 0, .int 0, .int 0]))]) [2] (by decide) rfl
  have hKc := hK.sub (tys' := []) [] rfl
  have hFc := va_free (wc := [(q_54, .inr (9, [.int 0, .int 0, .int 0, .int 0, .int 0, .int 0, .int 0, .int 0]))]) hD hS hA [2] rfl
  refine va_callv (va_runIN (As := []) (rest := [.ref q_54, .int 11, .ref q_1]) ⟨hx, hb, hml, hown, hts⟩ (c_X9_init l dC dI q_54 H.size) ⟨va_cnB 0 hts g_c_X5_init_57_c_X9_init rfl rfl rfl hNX5_X9 (hts (.initialized RX9) (List.mem_of_getElem? (i := 9) rfl)) (by decide +kernel) ⟨Nat.le_of_ble_eq_true rfl, Nat.le_of_ble_eq_true rfl⟩, rfl, (hts (.instanceMethod yX9_init) (List.mem_of_getElem? (i := 12) rfl))⟩ ⟨fun a U g mk q => by obtain ⟨q0, q1, qP, qK, qD⟩ := q; exact ⟨q0, q1, qP, va_K.moved (u := U) (U := U.calling g mk a) (Vm.Alike.refl U.vm) qK, qD⟩, fun U hU hW => ⟨rfl, by rw [hU], by rw [hU]; exact hPc, va_K.moved hW.alike hKc, hDc.weaken (fun _ _ _ _ => trivial)⟩⟩ rfl rfl hl.1 rfl (lv_room (Nat.le_of_ble_eq_true rfl)) dX5_init_57 ⟨Nat.le_of_ble_eq_true rfl, Nat.le_of_ble_eq_true rfl⟩) hS (fun q _ h => hFc q h) hFc (fun u t H1 locs ht hvm hw hB hz1 hk1 hS => ?_)
  obtain ⟨hP1, hK1, hD1⟩ := hB
  rw [ht] at hP1
  have hK1 := va_K.moved hvm.symm hK1
  try dsimp only at hw
  obtain ⟨hP, hD⟩ := va_join (wr := [(h0, .inr (5, [.ref q_1, .ref q_3, .ref q_5, .ref q_7, .int 0, .int 0, .int 0, .int 0, .int 0, .int 0, .int 0])), (q_1, .inl (cy_2, 40, .inr (.inr (.inr (.inr g_52)))))]) (w1 := [(q_54, .inr (9, [.int 0, .int 0, .int 0, .int 0, .int 0, .int 0, .int 0, .int 0]))]) hP hD [2] [0, 1] rfl rfl (by decide) (by decide) hk1 hFc hP1 hD1
  have hK := hK.app hK1
  generalize H1 = H at hP hS ⊢
  have hP : va_P (dC, dI) vwCl [(h0, .inr (5, [.ref q_1, .ref q_3, .ref q_5, .ref q_7, .int 0, .int 0, .int 0, .int 0, .int 0, .int 0, .int 0])), (q_1, .inl (cy_2, 40, .inr (.inr (.inr (.inr g_52))))), (q_54, .inr (9, [.int 0, .int 0, .int 0, .int 0, .int 0, .int 0, .int 0, .int 0]))] H := hP
  have hD : va_D A [(h0, .inr (5, [.ref q_1, .ref q_3, .ref q_5, .ref q_7, .int 0, .int 0, .int 0, .int 0, .int 0, .int 0, .int 0])), (q_1, .inl (cy_2, 40, .inr (.inr (.inr (.inr g_52))))), (q_54, .inr (9, [.int 0, .int 0, .int 0, .int 0, .int 0, .int 0, .int 0, .int 0]))] := hD
  have hK : va_K (dC, dI) vwCl [(cy_2, .object RX9), (cy_4, .int), (cy_8, .int)] s := hK
  refine W.widen (k := 16) (n := 344) (Nat.le_of_ble_eq_true rfl) (Nat.le_of_ble_eq_true rfl) ?_
  refine va_astq (D := (dC, dI)) (i := 11) hx hb hK hP hD hS 1 0 2 9 (r := (RX9, TX9, 8)) rfl rfl rfl rfl (show ¬ ((11 : Int32) < 0 ∨ 40 ≤ (11 : Int32).toNatClampNeg) by decide +kernel) dX5_init_60 (fun H locs hP hD hS => ?_)
  have hP : va_P (dC, dI) vwCl [(h0, .inr (5, [.ref q_1, .ref q_3, .ref q_5, .ref q_7, .int 0, .int 0, .int 0, .int 0, .int 0, .int 0, .int 0])), (q_1, .inl (cy_2, 40, .inr (.inr (.inr (.inr (va_up (g_52) (11 : Int32).toNatClampNeg (some q_54))))))), (q_54, .inr (9, [.int 0, .int 0, .int 0, .int 0, .int 0, .int 0, .int 0, .int 0]))] H := hP
  have hD : va_D A [(h0, .inr (5, [.ref q_1, .ref q_3, .ref q_5, .ref q_7, .int 0, .int 0, .int 0, .int 0, .int 0, .int 0, .int 0])), (q_1, .inl (cy_2, 40, .inr (.inr (.inr (.inr (va_up (g_52) (11 : Int32).toNatClampNeg (some q_54))))))), (q_54, .inr (9, [.int 0, .int 0, .int 0, .int 0, .int 0, .int 0, .int 0, .int 0]))] := hD
  generalize va_up (g_52) (11 : Int32).toNatClampNeg (some q_54) = g_56 at hP hD
  refine lv_iinc (v := 12) (lv' := [(1, .int 12), (0, .ref h0)]) hx hb dX5_init_61 hl (k := 0) rfl (by decide +kernel) (by decide) rfl (fun ls hl => ?_)
  refine lv_goto (tgt := 42) hx hb dX5_init_64 (by decide) ?_
  have hP := hP.sub (ws' := [(h0, .inr (5, [.ref q_1, .ref q_3, .ref q_5, .ref q_7, .int 0, .int 0, .int 0, .int 0, .int 0, .int 0, .int 0])), (q_1, .inl (cy_2, 40, .inr (.inr (.inr (.inr g_56)))))]) [0, 1] rfl
  have hD := hD.sub (ws' := [(h0, .inr (5, [.ref q_1, .ref q_3, .ref q_5, .ref q_7, .int 0, .int 0, .int 0, .int 0, .int 0, .int 0, .int 0])), (q_1, .inl (cy_2, 40, .inr (.inr (.inr (.inr g_56)))))]) [0, 1] (by decide) rfl
  refine lv_iload_n hx hb dX5_init_42 rfl (lv_at hl 0 rfl) ?_
  refine lv_bipush (v := 40) hx hb dX5_init_43 (by decide +kernel) ?_
  refine lv_icmp_ge (tgt := 67) hx hb dX5_init_45 (by decide) (fun c_57 => absurd c_57 (by decide +kernel)) (fun c_57 => ?_)
  refine lv_aload_n hx hb dX5_init_48 rfl (lv_at hl 1 rfl) ?_
  refine va_get (D := (dC, dI)) (ci := 5) (v := .ref q_1) (C := RX5) (T := TX5) (N := 11) hx hb hts in_c_X5_init_X5 hown hK hP 0 rfl rfl 0 (by decide) (hts (.fieldLink RX5 11 "LawnAhead$History" "states" "[LLawnAhead$State;") (List.mem_of_getElem? (i := 5) rfl)) (fun _ h9 => h9) rfl dX5_init_49 ?_
  refine lv_iload_n hx hb dX5_init_52 rfl (lv_at hl 0 rfl) ?_
  refine va_new (ci := 9) (fs := [.int 0, .int 0, .int 0, .int 0, .int 0, .int 0, .int 0, .int 0]) (C := RX9) (T := TX9) (N := 8) hx hb hts in_c_X5_init_X9 tyX9 tyX9_ok hown (hts (.classLink RX5 9 RX9) (List.mem_of_getElem? (i := 4) rfl)) (hts (.instantiable RX9 8) (List.mem_of_getElem? (i := 8) rfl)) (hts (.initialized RX9) (List.mem_of_getElem? (i := 9) rfl)) hK hP hD hS hA rfl (by decide +kernel) (Nat.le_of_ble_eq_true rfl) (Nat.le_of_ble_eq_true rfl) dX5_init_53 (fun q_58 H hP hD hS => ?_)
  have hP : va_P (dC, dI) vwCl [(h0, .inr (5, [.ref q_1, .ref q_3, .ref q_5, .ref q_7, .int 0, .int 0, .int 0, .int 0, .int 0, .int 0, .int 0])), (q_1, .inl (cy_2, 40, .inr (.inr (.inr (.inr g_56))))), (q_58, .inr (9, [.int 0, .int 0, .int 0, .int 0, .int 0, .int 0, .int 0, .int 0]))] H := hP
  have hD : va_D A [(h0, .inr (5, [.ref q_1, .ref q_3, .ref q_5, .ref q_7, .int 0, .int 0, .int 0, .int 0, .int 0, .int 0, .int 0])), (q_1, .inl (cy_2, 40, .inr (.inr (.inr (.inr g_56))))), (q_58, .inr (9, [.int 0, .int 0, .int 0, .int 0, .int 0, .int 0, .int 0, .int 0]))] := hD
  refine W.widen (k := 17) (n := 352) (Nat.le_of_ble_eq_true rfl) (Nat.le_of_ble_eq_true rfl) ?_
  refine lv_dup hx hb dX5_init_56 rfl ?_
  have hPc := hP.sub (ws' := [(q_58, .inr (9, [.int 0, .int 0, .int 0, .int 0, .int 0, .int 0, .int 0, .int 0]))]) [2] rfl
  have hDc := hD.sub (ws' := [(q_58, .inr (9, [.int 0, .int 0, .int 0, .int 0, .int 0, .int 0, .int 0, .int 0]))]) [2] (by decide) rfl
  have hKc := hK.sub (tys' := []) [] rfl
  have hFc := va_free (wc := [(q_58, .inr (9, [.int 0, .int 0, .int 0, .int 0, .int 0, .int 0, .int 0, .int 0]))]) hD hS hA [2] rfl
  refine va_callv (va_runIN (As := []) (rest := [.ref q_58, .int 12, .ref q_1]) ⟨hx, hb, hml, hown, hts⟩ (c_X9_init l dC dI q_58 H.size) ⟨va_cnB 0 hts g_c_X5_init_57_c_X9_init rfl rfl rfl hNX5_X9 (hts (.initialized RX9) (List.mem_of_getElem? (i := 9) rfl)) (by decide +kernel) ⟨Nat.le_of_ble_eq_true rfl, Nat.le_of_ble_eq_true rfl⟩, rfl, (hts (.instanceMethod yX9_init) (List.mem_of_getElem? (i := 12) rfl))⟩ ⟨fun a U g mk q => by obtain ⟨q0, q1, qP, qK, qD⟩ := q; exact ⟨q0, q1, qP, va_K.moved (u := U) (U := U.calling g mk a) (Vm.Alike.refl U.vm) qK, qD⟩, fun U hU hW => ⟨rfl, by rw [hU], by rw [hU]; exact hPc, va_K.moved hW.alike hKc, hDc.weaken (fun _ _ _ _ => trivial)⟩⟩ rfl rfl hl.1 rfl (lv_room (Nat.le_of_ble_eq_true rfl)) dX5_init_57 ⟨Nat.le_of_ble_eq_true rfl, Nat.le_of_ble_eq_true rfl⟩) hS (fun q _ h => hFc q h) hFc (fun u t H1 locs ht hvm hw hB hz1 hk1 hS => ?_)
  obtain ⟨hP1, hK1, hD1⟩ := hB
  rw [ht] at hP1
  have hK1 := va_K.moved hvm.symm hK1
  try dsimp only at hw
  obtain ⟨hP, hD⟩ := va_join (wr := [(h0, .inr (5, [.ref q_1, .ref q_3, .ref q_5, .ref q_7, .int 0, .int 0, .int 0, .int 0, .int 0, .int 0, .int 0])), (q_1, .inl (cy_2, 40, .inr (.inr (.inr (.inr g_56)))))]) (w1 := [(q_58, .inr (9, [.int 0, .int 0, .int 0, .int 0, .int 0, .int 0, .int 0, .int 0]))]) hP hD [2] [0, 1] rfl rfl (by decide) (by decide) hk1 hFc hP1 hD1
  have hK := hK.app hK1
  generalize H1 = H at hP hS ⊢
  have hP : va_P (dC, dI) vwCl [(h0, .inr (5, [.ref q_1, .ref q_3, .ref q_5, .ref q_7, .int 0, .int 0, .int 0, .int 0, .int 0, .int 0, .int 0])), (q_1, .inl (cy_2, 40, .inr (.inr (.inr (.inr g_56))))), (q_58, .inr (9, [.int 0, .int 0, .int 0, .int 0, .int 0, .int 0, .int 0, .int 0]))] H := hP
  have hD : va_D A [(h0, .inr (5, [.ref q_1, .ref q_3, .ref q_5, .ref q_7, .int 0, .int 0, .int 0, .int 0, .int 0, .int 0, .int 0])), (q_1, .inl (cy_2, 40, .inr (.inr (.inr (.inr g_56))))), (q_58, .inr (9, [.int 0, .int 0, .int 0, .int 0, .int 0, .int 0, .int 0, .int 0]))] := hD
  have hK : va_K (dC, dI) vwCl [(cy_2, .object RX9), (cy_4, .int), (cy_8, .int)] s := hK
  refine W.widen (k := 17) (n := 352) (Nat.le_of_ble_eq_true rfl) (Nat.le_of_ble_eq_true rfl) ?_
  refine va_astq (D := (dC, dI)) (i := 12) hx hb hK hP hD hS 1 0 2 9 (r := (RX9, TX9, 8)) rfl rfl rfl rfl (show ¬ ((12 : Int32) < 0 ∨ 40 ≤ (12 : Int32).toNatClampNeg) by decide +kernel) dX5_init_60 (fun H locs hP hD hS => ?_)
  have hP : va_P (dC, dI) vwCl [(h0, .inr (5, [.ref q_1, .ref q_3, .ref q_5, .ref q_7, .int 0, .int 0, .int 0, .int 0, .int 0, .int 0, .int 0])), (q_1, .inl (cy_2, 40, .inr (.inr (.inr (.inr (va_up (g_56) (12 : Int32).toNatClampNeg (some q_58))))))), (q_58, .inr (9, [.int 0, .int 0, .int 0, .int 0, .int 0, .int 0, .int 0, .int 0]))] H := hP
  have hD : va_D A [(h0, .inr (5, [.ref q_1, .ref q_3, .ref q_5, .ref q_7, .int 0, .int 0, .int 0, .int 0, .int 0, .int 0, .int 0])), (q_1, .inl (cy_2, 40, .inr (.inr (.inr (.inr (va_up (g_56) (12 : Int32).toNatClampNeg (some q_58))))))), (q_58, .inr (9, [.int 0, .int 0, .int 0, .int 0, .int 0, .int 0, .int 0, .int 0]))] := hD
  generalize va_up (g_56) (12 : Int32).toNatClampNeg (some q_58) = g_60 at hP hD
  refine lv_iinc (v := 13) (lv' := [(1, .int 13), (0, .ref h0)]) hx hb dX5_init_61 hl (k := 0) rfl (by decide +kernel) (by decide) rfl (fun ls hl => ?_)
  refine lv_goto (tgt := 42) hx hb dX5_init_64 (by decide) ?_
  have hP := hP.sub (ws' := [(h0, .inr (5, [.ref q_1, .ref q_3, .ref q_5, .ref q_7, .int 0, .int 0, .int 0, .int 0, .int 0, .int 0, .int 0])), (q_1, .inl (cy_2, 40, .inr (.inr (.inr (.inr g_60)))))]) [0, 1] rfl
  have hD := hD.sub (ws' := [(h0, .inr (5, [.ref q_1, .ref q_3, .ref q_5, .ref q_7, .int 0, .int 0, .int 0, .int 0, .int 0, .int 0, .int 0])), (q_1, .inl (cy_2, 40, .inr (.inr (.inr (.inr g_60)))))]) [0, 1] (by decide) rfl
  refine lv_iload_n hx hb dX5_init_42 rfl (lv_at hl 0 rfl) ?_
  refine lv_bipush (v := 40) hx hb dX5_init_43 (by decide +kernel) ?_
  refine lv_icmp_ge (tgt := 67) hx hb dX5_init_45 (by decide) (fun c_61 => absurd c_61 (by decide +kernel)) (fun c_61 => ?_)
  refine lv_aload_n hx hb dX5_init_48 rfl (lv_at hl 1 rfl) ?_
  refine va_get (D := (dC, dI)) (ci := 5) (v := .ref q_1) (C := RX5) (T := TX5) (N := 11) hx hb hts in_c_X5_init_X5 hown hK hP 0 rfl rfl 0 (by decide) (hts (.fieldLink RX5 11 "LawnAhead$History" "states" "[LLawnAhead$State;") (List.mem_of_getElem? (i := 5) rfl)) (fun _ h9 => h9) rfl dX5_init_49 ?_
  refine lv_iload_n hx hb dX5_init_52 rfl (lv_at hl 0 rfl) ?_
  refine va_new (ci := 9) (fs := [.int 0, .int 0, .int 0, .int 0, .int 0, .int 0, .int 0, .int 0]) (C := RX9) (T := TX9) (N := 8) hx hb hts in_c_X5_init_X9 tyX9 tyX9_ok hown (hts (.classLink RX5 9 RX9) (List.mem_of_getElem? (i := 4) rfl)) (hts (.instantiable RX9 8) (List.mem_of_getElem? (i := 8) rfl)) (hts (.initialized RX9) (List.mem_of_getElem? (i := 9) rfl)) hK hP hD hS hA rfl (by decide +kernel) (Nat.le_of_ble_eq_true rfl) (Nat.le_of_ble_eq_true rfl) dX5_init_53 (fun q_62 H hP hD hS => ?_)
  have hP : va_P (dC, dI) vwCl [(h0, .inr (5, [.ref q_1, .ref q_3, .ref q_5, .ref q_7, .int 0, .int 0, .int 0, .int 0, .int 0, .int 0, .int 0])), (q_1, .inl (cy_2, 40, .inr (.inr (.inr (.inr g_60))))), (q_62, .inr (9, [.int 0, .int 0, .int 0, .int 0, .int 0, .int 0, .int 0, .int 0]))] H := hP
  have hD : va_D A [(h0, .inr (5, [.ref q_1, .ref q_3, .ref q_5, .ref q_7, .int 0, .int 0, .int 0, .int 0, .int 0, .int 0, .int 0])), (q_1, .inl (cy_2, 40, .inr (.inr (.inr (.inr g_60))))), (q_62, .inr (9, [.int 0, .int 0, .int 0, .int 0, .int 0, .int 0, .int 0, .int 0]))] := hD
  refine W.widen (k := 18) (n := 360) (Nat.le_of_ble_eq_true rfl) (Nat.le_of_ble_eq_true rfl) ?_
  refine lv_dup hx hb dX5_init_56 rfl ?_
  have hPc := hP.sub (ws' := [(q_62, .inr (9, [.int 0, .int 0, .int 0, .int 0, .int 0, .int 0, .int 0, .int 0]))]) [2] rfl
  have hDc := hD.sub (ws' := [(q_62, .inr (9, [.int 0, .int 0, .int 0, .int 0, .int 0, .int 0, .int 0, .int 0]))]) [2] (by decide) rfl
  have hKc := hK.sub (tys' := []) [] rfl
  have hFc := va_free (wc := [(q_62, .inr (9, [.int 0, .int 0, .int 0, .int 0, .int 0, .int 0, .int 0, .int 0]))]) hD hS hA [2] rfl
  refine va_callv (va_runIN (As := []) (rest := [.ref q_62, .int 13, .ref q_1]) ⟨hx, hb, hml, hown, hts⟩ (c_X9_init l dC dI q_62 H.size) ⟨va_cnB 0 hts g_c_X5_init_57_c_X9_init rfl rfl rfl hNX5_X9 (hts (.initialized RX9) (List.mem_of_getElem? (i := 9) rfl)) (by decide +kernel) ⟨Nat.le_of_ble_eq_true rfl, Nat.le_of_ble_eq_true rfl⟩, rfl, (hts (.instanceMethod yX9_init) (List.mem_of_getElem? (i := 12) rfl))⟩ ⟨fun a U g mk q => by obtain ⟨q0, q1, qP, qK, qD⟩ := q; exact ⟨q0, q1, qP, va_K.moved (u := U) (U := U.calling g mk a) (Vm.Alike.refl U.vm) qK, qD⟩, fun U hU hW => ⟨rfl, by rw [hU], by rw [hU]; exact hPc, va_K.moved hW.alike hKc, hDc.weaken (fun _ _ _ _ => trivial)⟩⟩ rfl rfl hl.1 rfl (lv_room (Nat.le_of_ble_eq_true rfl)) dX5_init_57 ⟨Nat.le_of_ble_eq_true rfl, Nat.le_of_ble_eq_true rfl⟩) hS (fun q _ h => hFc q h) hFc (fun u t H1 locs ht hvm hw hB hz1 hk1 hS => ?_)
  obtain ⟨hP1, hK1, hD1⟩ := hB
  rw [ht] at hP1
  have hK1 := va_K.moved hvm.symm hK1
  try dsimp only at hw
  obtain ⟨hP, hD⟩ := va_join (wr := [(h0, .inr (5, [.ref q_1, .ref q_3, .ref q_5, .ref q_7, .int 0, .int 0, .int 0, .int 0, .int 0, .int 0, .int 0])), (q_1, .inl (cy_2, 40, .inr (.inr (.inr (.inr g_60)))))]) (w1 := [(q_62, .inr (9, [.int 0, .int 0, .int 0, .int 0, .int 0, .int 0, .int 0, .int 0]))]) hP hD [2] [0, 1] rfl rfl (by decide) (by decide) hk1 hFc hP1 hD1
  have hK := hK.app hK1
  generalize H1 = H at hP hS ⊢
  have hP : va_P (dC, dI) vwCl [(h0, .inr (5, [.ref q_1, .ref q_3, .ref q_5, .ref q_7, .int 0, .int 0, .int 0, .int 0, .int 0, .int 0, .int 0])), (q_1, .inl (cy_2, 40, .inr (.inr (.inr (.inr g_60))))), (q_62, .inr (9, [.int 0, .int 0, .int 0, .int 0, .int 0, .int 0, .int 0, .int 0]))] H := hP
  have hD : va_D A [(h0, .inr (5, [.ref q_1, .ref q_3, .ref q_5, .ref q_7, .int 0, .int 0, .int 0, .int 0, .int 0, .int 0, .int 0])), (q_1, .inl (cy_2, 40, .inr (.inr (.inr (.inr g_60))))), (q_62, .inr (9, [.int 0, .int 0, .int 0, .int 0, .int 0, .int 0, .int 0, .int 0]))] := hD
  have hK : va_K (dC, dI) vwCl [(cy_2, .object RX9), (cy_4, .int), (cy_8, .int)] s := hK
  refine W.widen (k := 18) (n := 360) (Nat.le_of_ble_eq_true rfl) (Nat.le_of_ble_eq_true rfl) ?_
  refine va_astq (D := (dC, dI)) (i := 13) hx hb hK hP hD hS 1 0 2 9 (r := (RX9, TX9, 8)) rfl rfl rfl rfl (show ¬ ((13 : Int32) < 0 ∨ 40 ≤ (13 : Int32).toNatClampNeg) by decide +kernel) dX5_init_60 (fun H locs hP hD hS => ?_)
  have hP : va_P (dC, dI) vwCl [(h0, .inr (5, [.ref q_1, .ref q_3, .ref q_5, .ref q_7, .int 0, .int 0, .int 0, .int 0, .int 0, .int 0, .int 0])), (q_1, .inl (cy_2, 40, .inr (.inr (.inr (.inr (va_up (g_60) (13 : Int32).toNatClampNeg (some q_62))))))), (q_62, .inr (9, [.int 0, .int 0, .int 0, .int 0, .int 0, .int 0, .int 0, .int 0]))] H := hP
  have hD : va_D A [(h0, .inr (5, [.ref q_1, .ref q_3, .ref q_5, .ref q_7, .int 0, .int 0, .int 0, .int 0, .int 0, .int 0, .int 0])), (q_1, .inl (cy_2, 40, .inr (.inr (.inr (.inr (va_up (g_60) (13 : Int32).toNatClampNeg (some q_62))))))), (q_62, .inr (9, [.int 0, .int 0, .int 0, .int 0, .int 0, .int 0, .int 0, .int 0]))] := hD
  generalize va_up (g_60) (13 : Int32).toNatClampNeg (some q_62) = g_64 at hP hD
  refine lv_iinc (v := 14) (lv' := [(1, .int 14), (0, .ref h0)]) hx hb dX5_init_61 hl (k := 0) rfl (by decide +kernel) (by decide) rfl (fun ls hl => ?_)
  refine lv_goto (tgt := 42) hx hb dX5_init_64 (by decide) ?_
  have hP := hP.sub (ws' := [(h0, .inr (5, [.ref q_1, .ref q_3, .ref q_5, .ref q_7, .int 0, .int 0, .int 0, .int 0, .int 0, .int 0, .int 0])), (q_1, .inl (cy_2, 40, .inr (.inr (.inr (.inr g_64)))))]) [0, 1] rfl
  have hD := hD.sub (ws' := [(h0, .inr (5, [.ref q_1, .ref q_3, .ref q_5, .ref q_7, .int 0, .int 0, .int 0, .int 0, .int 0, .int 0, .int 0])), (q_1, .inl (cy_2, 40, .inr (.inr (.inr (.inr g_64)))))]) [0, 1] (by decide) rfl
  refine lv_iload_n hx hb dX5_init_42 rfl (lv_at hl 0 rfl) ?_
  refine lv_bipush (v := 40) hx hb dX5_init_43 (by decide +kernel) ?_
  refine lv_icmp_ge (tgt := 67) hx hb dX5_init_45 (by decide) (fun c_65 => absurd c_65 (by decide +kernel)) (fun c_65 => ?_)
  refine lv_aload_n hx hb dX5_init_48 rfl (lv_at hl 1 rfl) ?_
  refine va_get (D := (dC, dI)) (ci := 5) (v := .ref q_1) (C := RX5) (T := TX5) (N := 11) hx hb hts in_c_X5_init_X5 hown hK hP 0 rfl rfl 0 (by decide) (hts (.fieldLink RX5 11 "LawnAhead$History" "states" "[LLawnAhead$State;") (List.mem_of_getElem? (i := 5) rfl)) (fun _ h9 => h9) rfl dX5_init_49 ?_
  refine lv_iload_n hx hb dX5_init_52 rfl (lv_at hl 0 rfl) ?_
  refine va_new (ci := 9) (fs := [.int 0, .int 0, .int 0, .int 0, .int 0, .int 0, .int 0, .int 0]) (C := RX9) (T := TX9) (N := 8) hx hb hts in_c_X5_init_X9 tyX9 tyX9_ok hown (hts (.classLink RX5 9 RX9) (List.mem_of_getElem? (i := 4) rfl)) (hts (.instantiable RX9 8) (List.mem_of_getElem? (i := 8) rfl)) (hts (.initialized RX9) (List.mem_of_getElem? (i := 9) rfl)) hK hP hD hS hA rfl (by decide +kernel) (Nat.le_of_ble_eq_true rfl) (Nat.le_of_ble_eq_true rfl) dX5_init_53 (fun q_66 H hP hD hS => ?_)
  have hP : va_P (dC, dI) vwCl [(h0, .inr (5, [.ref q_1, .ref q_3, .ref q_5, .ref q_7, .int 0, .int 0, .int 0, .int 0, .int 0, .int 0, .int 0])), (q_1, .inl (cy_2, 40, .inr (.inr (.inr (.inr g_64))))), (q_66, .inr (9, [.int 0, .int 0, .int 0, .int 0, .int 0, .int 0, .int 0, .int 0]))] H := hP
  have hD : va_D A [(h0, .inr (5, [.ref q_1, .ref q_3, .ref q_5, .ref q_7, .int 0, .int 0, .int 0, .int 0, .int 0, .int 0, .int 0])), (q_1, .inl (cy_2, 40, .inr (.inr (.inr (.inr g_64))))), (q_66, .inr (9, [.int 0, .int 0, .int 0, .int 0, .int 0, .int 0, .int 0, .int 0]))] := hD
  refine W.widen (k := 19) (n := 368) (Nat.le_of_ble_eq_true rfl) (Nat.le_of_ble_eq_true rfl) ?_
  refine lv_dup hx hb dX5_init_56 rfl ?_
  have hPc := hP.sub (ws' := [(q_66, .inr (9, [.int 0, .int 0, .int 0, .int 0, .int 0, .int 0, .int 0, .int 0]))]) [2] rfl
  have hDc := hD.sub (ws' := [(q_66, .inr (9, [.int 0, .int 0, .int 0, .int 0, .int 0, .int 0, .int 0, .int 0]))]) [2] (by decide) rfl
  have hKc := hK.sub (tys' := []) [] rfl
  have hFc := va_free (wc := [(q_66, .inr (9, [.int 0, .int 0, .int 0, .int 0, .int 0, .int 0, .int 0, .int 0]))]) hD hS hA [2] rfl
  refine va_callv (va_runIN (As := []) (rest := [.ref q_66, .int 14, .ref q_1]) ⟨hx, hb, hml, hown, hts⟩ (c_X9_init l dC dI q_66 H.size) ⟨va_cnB 0 hts g_c_X5_init_57_c_X9_init rfl rfl rfl hNX5_X9 (hts (.initialized RX9) (List.mem_of_getElem? (i := 9) rfl)) (by decide +kernel) ⟨Nat.le_of_ble_eq_true rfl, Nat.le_of_ble_eq_true rfl⟩, rfl, (hts (.instanceMethod yX9_init) (List.mem_of_getElem? (i := 12) rfl))⟩ ⟨fun a U g mk q => by obtain ⟨q0, q1, qP, qK, qD⟩ := q; exact ⟨q0, q1, qP, va_K.moved (u := U) (U := U.calling g mk a) (Vm.Alike.refl U.vm) qK, qD⟩, fun U hU hW => ⟨rfl, by rw [hU], by rw [hU]; exact hPc, va_K.moved hW.alike hKc, hDc.weaken (fun _ _ _ _ => trivial)⟩⟩ rfl rfl hl.1 rfl (lv_room (Nat.le_of_ble_eq_true rfl)) dX5_init_57 ⟨Nat.le_of_ble_eq_true rfl, Nat.le_of_ble_eq_true rfl⟩) hS (fun q _ h => hFc q h) hFc (fun u t H1 locs ht hvm hw hB hz1 hk1 hS => ?_)
  obtain ⟨hP1, hK1, hD1⟩ := hB
  rw [ht] at hP1
  have hK1 := va_K.moved hvm.symm hK1
  try dsimp only at hw
  obtain ⟨hP, hD⟩ := va_join (wr := [(h0, .inr (5, [.ref q_1, .ref q_3, .ref q_5, .ref q_7, .int 0, .int 0, .int 0, .int 0, .int 0, .int 0, .int 0])), (q_1, .inl (cy_2, 40, .inr (.inr (.inr (.inr g_64)))))]) (w1 := [(q_66, .inr (9, [.int 0, .int 0, .int 0, .int 0, .int 0, .int 0, .int 0, .int 0]))]) hP hD [2] [0, 1] rfl rfl (by decide) (by decide) hk1 hFc hP1 hD1
  have hK := hK.app hK1
  generalize H1 = H at hP hS ⊢
  have hP : va_P (dC, dI) vwCl [(h0, .inr (5, [.ref q_1, .ref q_3, .ref q_5, .ref q_7, .int 0, .int 0, .int 0, .int 0, .int 0, .int 0, .int 0])), (q_1, .inl (cy_2, 40, .inr (.inr (.inr (.inr g_64))))), (q_66, .inr (9, [.int 0, .int 0, .int 0, .int 0, .int 0, .int 0, .int 0, .int 0]))] H := hP
  have hD : va_D A [(h0, .inr (5, [.ref q_1, .ref q_3, .ref q_5, .ref q_7, .int 0, .int 0, .int 0, .int 0, .int 0, .int 0, .int 0])), (q_1, .inl (cy_2, 40, .inr (.inr (.inr (.inr g_64))))), (q_66, .inr (9, [.int 0, .int 0, .int 0, .int 0, .int 0, .int 0, .int 0, .int 0]))] := hD
  have hK : va_K (dC, dI) vwCl [(cy_2, .object RX9), (cy_4, .int), (cy_8, .int)] s := hK
  refine W.widen (k := 19) (n := 368) (Nat.le_of_ble_eq_true rfl) (Nat.le_of_ble_eq_true rfl) ?_
  refine va_astq (D := (dC, dI)) (i := 14) hx hb hK hP hD hS 1 0 2 9 (r := (RX9, TX9, 8)) rfl rfl rfl rfl (show ¬ ((14 : Int32) < 0 ∨ 40 ≤ (14 : Int32).toNatClampNeg) by decide +kernel) dX5_init_60 (fun H locs hP hD hS => ?_)
  have hP : va_P (dC, dI) vwCl [(h0, .inr (5, [.ref q_1, .ref q_3, .ref q_5, .ref q_7, .int 0, .int 0, .int 0, .int 0, .int 0, .int 0, .int 0])), (q_1, .inl (cy_2, 40, .inr (.inr (.inr (.inr (va_up (g_64) (14 : Int32).toNatClampNeg (some q_66))))))), (q_66, .inr (9, [.int 0, .int 0, .int 0, .int 0, .int 0, .int 0, .int 0, .int 0]))] H := hP
  have hD : va_D A [(h0, .inr (5, [.ref q_1, .ref q_3, .ref q_5, .ref q_7, .int 0, .int 0, .int 0, .int 0, .int 0, .int 0, .int 0])), (q_1, .inl (cy_2, 40, .inr (.inr (.inr (.inr (va_up (g_64) (14 : Int32).toNatClampNeg (some q_66))))))), (q_66, .inr (9, [.int 0, .int 0, .int 0, .int 0, .int 0, .int 0, .int 0, .int 0]))] := hD
  generalize va_up (g_64) (14 : Int32).toNatClampNeg (some q_66) = g_68 at hP hD
  refine lv_iinc (v := 15) (lv' := [(1, .int 15), (0, .ref h0)]) hx hb dX5_init_61 hl (k := 0) rfl (by decide +kernel) (by decide) rfl (fun ls hl => ?_)
  refine lv_goto (tgt := 42) hx hb dX5_init_64 (by decide) ?_
  have hP := hP.sub (ws' := [(h0, .inr (5, [.ref q_1, .ref q_3, .ref q_5, .ref q_7, .int 0, .int 0, .int 0, .int 0, .int 0, .int 0, .int 0])), (q_1, .inl (cy_2, 40, .inr (.inr (.inr (.inr g_68)))))]) [0, 1] rfl
  have hD := hD.sub (ws' := [(h0, .inr (5, [.ref q_1, .ref q_3, .ref q_5, .ref q_7, .int 0, .int 0, .int 0, .int 0, .int 0, .int 0, .int 0])), (q_1, .inl (cy_2, 40, .inr (.inr (.inr (.inr g_68)))))]) [0, 1] (by decide) rfl
  refine lv_iload_n hx hb dX5_init_42 rfl (lv_at hl 0 rfl) ?_
  refine lv_bipush (v := 40) hx hb dX5_init_43 (by decide +kernel) ?_
  refine lv_icmp_ge (tgt := 67) hx hb dX5_init_45 (by decide) (fun c_69 => absurd c_69 (by decide +kernel)) (fun c_69 => ?_)
  refine lv_aload_n hx hb dX5_init_48 rfl (lv_at hl 1 rfl) ?_
  refine va_get (D := (dC, dI)) (ci := 5) (v := .ref q_1) (C := RX5) (T := TX5) (N := 11) hx hb hts in_c_X5_init_X5 hown hK hP 0 rfl rfl 0 (by decide) (hts (.fieldLink RX5 11 "LawnAhead$History" "states" "[LLawnAhead$State;") (List.mem_of_getElem? (i := 5) rfl)) (fun _ h9 => h9) rfl dX5_init_49 ?_
  refine lv_iload_n hx hb dX5_init_52 rfl (lv_at hl 0 rfl) ?_
  refine va_new (ci := 9) (fs := [.int 0, .int 0, .int 0, .int 0, .int 0, .int 0, .int 0, .int 0]) (C := RX9) (T := TX9) (N := 8) hx hb hts in_c_X5_init_X9 tyX9 tyX9_ok hown (hts (.classLink RX5 9 RX9) (List.mem_of_getElem? (i := 4) rfl)) (hts (.instantiable RX9 8) (List.mem_of_getElem? (i := 8) rfl)) (hts (.initialized RX9) (List.mem_of_getElem? (i := 9) rfl)) hK hP hD hS hA rfl (by decide +kernel) (Nat.le_of_ble_eq_true rfl) (Nat.le_of_ble_eq_true rfl) dX5_init_53 (fun q_70 H hP hD hS => ?_)
  have hP : va_P (dC, dI) vwCl [(h0, .inr (5, [.ref q_1, .ref q_3, .ref q_5, .ref q_7, .int 0, .int 0, .int 0, .int 0, .int 0, .int 0, .int 0])), (q_1, .inl (cy_2, 40, .inr (.inr (.inr (.inr g_68))))), (q_70, .inr (9, [.int 0, .int 0, .int 0, .int 0, .int 0, .int 0, .int 0, .int 0]))] H := hP
  have hD : va_D A [(h0, .inr (5, [.ref q_1, .ref q_3, .ref q_5, .ref q_7, .int 0, .int 0, .int 0, .int 0, .int 0, .int 0, .int 0])), (q_1, .inl (cy_2, 40, .inr (.inr (.inr (.inr g_68))))), (q_70, .inr (9, [.int 0, .int 0, .int 0, .int 0, .int 0, .int 0, .int 0, .int 0]))] := hD
  refine W.widen (k := 20) (n := 376) (Nat.le_of_ble_eq_true rfl) (Nat.le_of_ble_eq_true rfl) ?_
  refine lv_dup hx hb dX5_init_56 rfl ?_
  have hPc := hP.sub (ws' := [(q_70, .inr (9, [.int 0, .int 0, .int 0, .int 0, .int 0, .int 0, .int 0, .int 0]))]) [2] rfl
  have hDc := hD.sub (ws' := [(q_70, .inr (9, [.int 0, .int 0, .int 0, .int 0, .int 0, .int 0, .int 0, .int 0]))]) [2] (by decide) rfl
  have hKc := hK.sub (tys' := []) [] rfl
  have hFc := va_free (wc := [(q_70, .inr (9, [.int 0, .int 0, .int 0, .int 0, .int 0, .int 0, .int 0, .int 0]))]) hD hS hA [2] rfl
  refine va_callv (va_runIN (As := []) (rest := [.ref q_70, .int 15, .ref q_1]) ⟨hx, hb, hml, hown, hts⟩ (c_X9_init l dC dI q_70 H.size) ⟨va_cnB 0 hts g_c_X5_init_57_c_X9_init rfl rfl rfl hNX5_X9 (hts (.initialized RX9) (List.mem_of_getElem? (i := 9) rfl)) (by decide +kernel) ⟨Nat.le_of_ble_eq_true rfl, Nat.le_of_ble_eq_true rfl⟩, rfl, (hts (.instanceMethod yX9_init) (List.mem_of_getElem? (i := 12) rfl))⟩ ⟨fun a U g mk q => by obtain ⟨q0, q1, qP, qK, qD⟩ := q; exact ⟨q0, q1, qP, va_K.moved (u := U) (U := U.calling g mk a) (Vm.Alike.refl U.vm) qK, qD⟩, fun U hU hW => ⟨rfl, by rw [hU], by rw [hU]; exact hPc, va_K.moved hW.alike hKc, hDc.weaken (fun _ _ _ _ => trivial)⟩⟩ rfl rfl hl.1 rfl (lv_room (Nat.le_of_ble_eq_true rfl)) dX5_init_57 ⟨Nat.le_of_ble_eq_true rfl, Nat.le_of_ble_eq_true rfl⟩) hS (fun q _ h => hFc q h) hFc (fun u t H1 locs ht hvm hw hB hz1 hk1 hS => ?_)
  obtain ⟨hP1, hK1, hD1⟩ := hB
  rw [ht] at hP1
  have hK1 := va_K.moved hvm.symm hK1
  try dsimp only at hw
  obtain ⟨hP, hD⟩ := va_join (wr := [(h0, .inr (5, [.ref q_1, .ref q_3, .ref q_5, .ref q_7, .int 0, .int 0, .int 0, .int 0, .int 0, .int 0, .int 0])), (q_1, .inl (cy_2, 40, .inr (.inr (.inr (.inr g_68)))))]) (w1 := [(q_70, .inr (9, [.int 0, .int 0, .int 0, .int 0, .int 0, .int 0, .int 0, .int 0]))]) hP hD [2] [0, 1] rfl rfl (by decide) (by decide) hk1 hFc hP1 hD1
  have hK := hK.app hK1
  generalize H1 = H at hP hS ⊢
  have hP : va_P (dC, dI) vwCl [(h0, .inr (5, [.ref q_1, .ref q_3, .ref q_5, .ref q_7, .int 0, .int 0, .int 0, .int 0, .int 0, .int 0, .int 0])), (q_1, .inl (cy_2, 40, .inr (.inr (.inr (.inr g_68))))), (q_70, .inr (9, [.int 0, .int 0, .int 0, .int 0, .int 0, .int 0, .int 0, .int 0]))] H := hP
  have hD : va_D A [(h0, .inr (5, [.ref q_1, .ref q_3, .ref q_5, .ref q_7, .int 0, .int 0, .int 0, .int 0, .int 0, .int 0, .int 0])), (q_1, .inl (cy_2, 40, .inr (.inr (.inr (.inr g_68))))), (q_70, .inr (9, [.int 0, .int 0, .int 0, .int 0, .int 0, .int 0, .int 0, .int 0]))] := hD
  have hK : va_K (dC, dI) vwCl [(cy_2, .object RX9), (cy_4, .int), (cy_8, .int)] s := hK
  refine W.widen (k := 20) (n := 376) (Nat.le_of_ble_eq_true rfl) (Nat.le_of_ble_eq_true rfl) ?_
  refine va_astq (D := (dC, dI)) (i := 15) hx hb hK hP hD hS 1 0 2 9 (r := (RX9, TX9, 8)) rfl rfl rfl rfl (show ¬ ((15 : Int32) < 0 ∨ 40 ≤ (15 : Int32).toNatClampNeg) by decide +kernel) dX5_init_60 (fun H locs hP hD hS => ?_)
  have hP : va_P (dC, dI) vwCl [(h0, .inr (5, [.ref q_1, .ref q_3, .ref q_5, .ref q_7, .int 0, .int 0, .int 0, .int 0, .int 0, .int 0, .int 0])), (q_1, .inl (cy_2, 40, .inr (.inr (.inr (.inr (va_up (g_68) (15 : Int32).toNatClampNeg (some q_70))))))), (q_70, .inr (9, [.int 0, .int 0, .int 0, .int 0, .int 0, .int 0, .int 0, .int 0]))] H := hP
  have hD : va_D A [(h0, .inr (5, [.ref q_1, .ref q_3, .ref q_5, .ref q_7, .int 0, .int 0, .int 0, .int 0, .int 0, .int 0, .int 0])), (q_1, .inl (cy_2, 40, .inr (.inr (.inr (.inr (va_up (g_68) (15 : Int32).toNatClampNeg (some q_70))))))), (q_70, .inr (9, [.int 0, .int 0, .int 0, .int 0, .int 0, .int 0, .int 0, .int 0]))] := hD
  generalize va_up (g_68) (15 : Int32).toNatClampNeg (some q_70) = g_72 at hP hD
  refine lv_iinc (v := 16) (lv' := [(1, .int 16), (0, .ref h0)]) hx hb dX5_init_61 hl (k := 0) rfl (by decide +kernel) (by decide) rfl (fun ls hl => ?_)
  refine lv_goto (tgt := 42) hx hb dX5_init_64 (by decide) ?_
  have hP := hP.sub (ws' := [(h0, .inr (5, [.ref q_1, .ref q_3, .ref q_5, .ref q_7, .int 0, .int 0, .int 0, .int 0, .int 0, .int 0, .int 0])), (q_1, .inl (cy_2, 40, .inr (.inr (.inr (.inr g_72)))))]) [0, 1] rfl
  have hD := hD.sub (ws' := [(h0, .inr (5, [.ref q_1, .ref q_3, .ref q_5, .ref q_7, .int 0, .int 0, .int 0, .int 0, .int 0, .int 0, .int 0])), (q_1, .inl (cy_2, 40, .inr (.inr (.inr (.inr g_72)))))]) [0, 1] (by decide) rfl
  refine lv_iload_n hx hb dX5_init_42 rfl (lv_at hl 0 rfl) ?_
  refine lv_bipush (v := 40) hx hb dX5_init_43 (by decide +kernel) ?_
  refine lv_icmp_ge (tgt := 67) hx hb dX5_init_45 (by decide) (fun c_73 => absurd c_73 (by decide +kernel)) (fun c_73 => ?_)
  refine lv_aload_n hx hb dX5_init_48 rfl (lv_at hl 1 rfl) ?_
  refine va_get (D := (dC, dI)) (ci := 5) (v := .ref q_1) (C := RX5) (T := TX5) (N := 11) hx hb hts in_c_X5_init_X5 hown hK hP 0 rfl rfl 0 (by decide) (hts (.fieldLink RX5 11 "LawnAhead$History" "states" "[LLawnAhead$State;") (List.mem_of_getElem? (i := 5) rfl)) (fun _ h9 => h9) rfl dX5_init_49 ?_
  refine lv_iload_n hx hb dX5_init_52 rfl (lv_at hl 0 rfl) ?_
  refine va_new (ci := 9) (fs := [.int 0, .int 0, .int 0, .int 0, .int 0, .int 0, .int 0, .int 0]) (C := RX9) (T := TX9) (N := 8) hx hb hts in_c_X5_init_X9 tyX9 tyX9_ok hown (hts (.classLink RX5 9 RX9) (List.mem_of_getElem? (i := 4) rfl)) (hts (.instantiable RX9 8) (List.mem_of_getElem? (i := 8) rfl)) (hts (.initialized RX9) (List.mem_of_getElem? (i := 9) rfl)) hK hP hD hS hA rfl (by decide +kernel) (Nat.le_of_ble_eq_true rfl) (Nat.le_of_ble_eq_true rfl) dX5_init_53 (fun q_74 H hP hD hS => ?_)
  have hP : va_P (dC, dI) vwCl [(h0, .inr (5, [.ref q_1, .ref q_3, .ref q_5, .ref q_7, .int 0, .int 0, .int 0, .int 0, .int 0, .int 0, .int 0])), (q_1, .inl (cy_2, 40, .inr (.inr (.inr (.inr g_72))))), (q_74, .inr (9, [.int 0, .int 0, .int 0, .int 0, .int 0, .int 0, .int 0, .int 0]))] H := hP
  have hD : va_D A [(h0, .inr (5, [.ref q_1, .ref q_3, .ref q_5, .ref q_7, .int 0, .int 0, .int 0, .int 0, .int 0, .int 0, .int 0])), (q_1, .inl (cy_2, 40, .inr (.inr (.inr (.inr g_72))))), (q_74, .inr (9, [.int 0, .int 0, .int 0, .int 0, .int 0, .int 0, .int 0, .int 0]))] := hD
  refine W.widen (k := 21) (n := 384) (Nat.le_of_ble_eq_true rfl) (Nat.le_of_ble_eq_true rfl) ?_
  refine lv_dup hx hb dX5_init_56 rfl ?_
  have hPc := hP.sub (ws' := [(q_74, .inr (9, [.int 0, .int 0, .int 0, .int 0, .int 0, .int 0, .int 0, .int 0]))]) [2] rfl
  have hDc := hD.sub (ws' := [(q_74, .inr (9, [.int 0, .int 0, .int 0, .int 0, .int 0, .int 0, .int 0, .int 0]))]) [2] (by decide) rfl
  have hKc := hK.sub (tys' := []) [] rfl
  have hFc := va_free (wc := [(q_74, .inr (9, [.int 0, .int 0, .int 0, .int 0, .int 0, .int 0, .int 0, .int 0]))]) hD hS hA [2] rfl
  refine va_callv (va_runIN (As := []) (rest := [.ref q_74, .int 16, .ref q_1]) ⟨hx, hb, hml, hown, hts⟩ (c_X9_init l dC dI q_74 H.size) ⟨va_cnB 0 hts g_c_X5_init_57_c_X9_init rfl rfl rfl hNX5_X9 (hts (.initialized RX9) (List.mem_of_getElem? (i := 9) rfl)) (by decide +kernel) ⟨Nat.le_of_ble_eq_true rfl, Nat.le_of_ble_eq_true rfl⟩, rfl, (hts (.instanceMethod yX9_init) (List.mem_of_getElem? (i := 12) rfl))⟩ ⟨fun a U g mk q => by obtain ⟨q0, q1, qP, qK, qD⟩ := q; exact ⟨q0, q1, qP, va_K.moved (u := U) (U := U.calling g mk a) (Vm.Alike.refl U.vm) qK, qD⟩, fun U hU hW => ⟨rfl, by rw [hU], by rw [hU]; exact hPc, va_K.moved hW.alike hKc, hDc.weaken (fun _ _ _ _ => trivial)⟩⟩ rfl rfl hl.1 rfl (lv_room (Nat.le_of_ble_eq_true rfl)) dX5_init_57 ⟨Nat.le_of_ble_eq_true rfl, Nat.le_of_ble_eq_true rfl⟩) hS (fun q _ h => hFc q h) hFc (fun u t H1 locs ht hvm hw hB hz1 hk1 hS => ?_)
  obtain ⟨hP1, hK1, hD1⟩ := hB
  rw [ht] at hP1
  have hK1 := va_K.moved hvm.symm hK1
  try dsimp only at hw
  obtain ⟨hP, hD⟩ := va_join (wr := [(h0, .inr (5, [.ref q_1, .ref q_3, .ref q_5, .ref q_7, .int 0, .int 0, .int 0, .int 0, .int 0, .int 0, .int 0])), (q_1, .inl (cy_2, 40, .inr (.inr (.inr (.inr g_72)))))]) (w1 := [(q_74, .inr (9, [.int 0, .int 0, .int 0, .int 0, .int 0, .int 0, .int 0, .int 0]))]) hP hD [2] [0, 1] rfl rfl (by decide) (by decide) hk1 hFc hP1 hD1
  have hK := hK.app hK1
  generalize H1 = H at hP hS ⊢
  have hP : va_P (dC, dI) vwCl [(h0, .inr (5, [.ref q_1, .ref q_3, .ref q_5, .ref q_7, .int 0, .int 0, .int 0, .int 0, .int 0, .int 0, .int 0])), (q_1, .inl (cy_2, 40, .inr (.inr (.inr (.inr g_72))))), (q_74, .inr (9, [.int 0, .int 0, .int 0, .int 0, .int 0, .int 0, .int 0, .int 0]))] H := hP
  have hD : va_D A [(h0, .inr (5, [.ref q_1, .ref q_3, .ref q_5, .ref q_7, .int 0, .int 0, .int 0, .int 0, .int 0, .int 0, .int 0])), (q_1, .inl (cy_2, 40, .inr (.inr (.inr (.inr g_72))))), (q_74, .inr (9, [.int 0, .int 0, .int 0, .int 0, .int 0, .int 0, .int 0, .int 0]))] := hD
  have hK : va_K (dC, dI) vwCl [(cy_2, .object RX9), (cy_4, .int), (cy_8, .int)] s := hK
  refine W.widen (k := 21) (n := 384) (Nat.le_of_ble_eq_true rfl) (Nat.le_of_ble_eq_true rfl) ?_
  refine va_astq (D := (dC, dI)) (i := 16) hx hb hK hP hD hS 1 0 2 9 (r := (RX9, TX9, 8)) rfl rfl rfl rfl (show ¬ ((16 : Int32) < 0 ∨ 40 ≤ (16 : Int32).toNatClampNeg) by decide +kernel) dX5_init_60 (fun H locs hP hD hS => ?_)
  have hP : va_P (dC, dI) vwCl [(h0, .inr (5, [.ref q_1, .ref q_3, .ref q_5, .ref q_7, .int 0, .int 0, .int 0, .int 0, .int 0, .int 0, .int 0])), (q_1, .inl (cy_2, 40, .inr (.inr (.inr (.inr (va_up (g_72) (16 : Int32).toNatClampNeg (some q_74))))))), (q_74, .inr (9, [.int 0, .int 0, .int 0, .int 0, .int 0, .int 0, .int 0, .int 0]))] H := hP
  have hD : va_D A [(h0, .inr (5, [.ref q_1, .ref q_3, .ref q_5, .ref q_7, .int 0, .int 0, .int 0, .int 0, .int 0, .int 0, .int 0])), (q_1, .inl (cy_2, 40, .inr (.inr (.inr (.inr (va_up (g_72) (16 : Int32).toNatClampNeg (some q_74))))))), (q_74, .inr (9, [.int 0, .int 0, .int 0, .int 0, .int 0, .int 0, .int 0, .int 0]))] := hD
  generalize va_up (g_72) (16 : Int32).toNatClampNeg (some q_74) = g_76 at hP hD
  refine lv_iinc (v := 17) (lv' := [(1, .int 17), (0, .ref h0)]) hx hb dX5_init_61 hl (k := 0) rfl (by decide +kernel) (by decide) rfl (fun ls hl => ?_)
  refine lv_goto (tgt := 42) hx hb dX5_init_64 (by decide) ?_
  have hP := hP.sub (ws' := [(h0, .inr (5, [.ref q_1, .ref q_3, .ref q_5, .ref q_7, .int 0, .int 0, .int 0, .int 0, .int 0, .int 0, .int 0])), (q_1, .inl (cy_2, 40, .inr (.inr (.inr (.inr g_76)))))]) [0, 1] rfl
  have hD := hD.sub (ws' := [(h0, .inr (5, [.ref q_1, .ref q_3, .ref q_5, .ref q_7, .int 0, .int 0, .int 0, .int 0, .int 0, .int 0, .int 0])), (q_1, .inl (cy_2, 40, .inr (.inr (.inr (.inr g_76)))))]) [0, 1] (by decide) rfl
  refine lv_iload_n hx hb dX5_init_42 rfl (lv_at hl 0 rfl) ?_
  refine lv_bipush (v := 40) hx hb dX5_init_43 (by decide +kernel) ?_
  refine lv_icmp_ge (tgt := 67) hx hb dX5_init_45 (by decide) (fun c_77 => absurd c_77 (by decide +kernel)) (fun c_77 => ?_)
  refine lv_aload_n hx hb dX5_init_48 rfl (lv_at hl 1 rfl) ?_
  refine va_get (D := (dC, dI)) (ci := 5) (v := .ref q_1) (C := RX5) (T := TX5) (N := 11) hx hb hts in_c_X5_init_X5 hown hK hP 0 rfl rfl 0 (by decide) (hts (.fieldLink RX5 11 "LawnAhead$History" "states" "[LLawnAhead$State;") (List.mem_of_getElem? (i := 5) rfl)) (fun _ h9 => h9) rfl dX5_init_49 ?_
  refine lv_iload_n hx hb dX5_init_52 rfl (lv_at hl 0 rfl) ?_
  refine va_new (ci := 9) (fs := [.int 0, .int 0, .int 0, .int 0, .int 0, .int 0, .int 0, .int 0]) (C := RX9) (T := TX9) (N := 8) hx hb hts in_c_X5_init_X9 tyX9 tyX9_ok hown (hts (.classLink RX5 9 RX9) (List.mem_of_getElem? (i := 4) rfl)) (hts (.instantiable RX9 8) (List.mem_of_getElem? (i := 8) rfl)) (hts (.initialized RX9) (List.mem_of_getElem? (i := 9) rfl)) hK hP hD hS hA rfl (by decide +kernel) (Nat.le_of_ble_eq_true rfl) (Nat.le_of_ble_eq_true rfl) dX5_init_53 (fun q_78 H hP hD hS => ?_)
  have hP : va_P (dC, dI) vwCl [(h0, .inr (5, [.ref q_1, .ref q_3, .ref q_5, .ref q_7, .int 0, .int 0, .int 0, .int 0, .int 0, .int 0, .int 0])), (q_1, .inl (cy_2, 40, .inr (.inr (.inr (.inr g_76))))), (q_78, .inr (9, [.int 0, .int 0, .int 0, .int 0, .int 0, .int 0, .int 0, .int 0]))] H := hP
  have hD : va_D A [(h0, .inr (5, [.ref q_1, .ref q_3, .ref q_5, .ref q_7, .int 0, .int 0, .int 0, .int 0, .int 0, .int 0, .int 0])), (q_1, .inl (cy_2, 40, .inr (.inr (.inr (.inr g_76))))), (q_78, .inr (9, [.int 0, .int 0, .int 0, .int 0, .int 0, .int 0, .int 0, .int 0]))] := hD
  refine W.widen (k := 22) (n := 392) (Nat.le_of_ble_eq_true rfl) (Nat.le_of_ble_eq_true rfl) ?_
  refine lv_dup hx hb dX5_init_56 rfl ?_
  have hPc := hP.sub (ws' := [(q_78, .inr (9, [.int 0, .int 0, .int 0, .int 0, .int 0, .int 0, .int 0, .int 0]))]) [2] rfl
  have hDc := hD.sub (ws' := [(q_78, .inr (9, [.int 0, .int 0, .int 0, .int 0, .int 0, .int 0, .int 0, .int 0]))]) [2] (by decide) rfl
  have hKc := hK.sub (tys' := []) [] rfl
  have hFc := va_free (wc := [(q_78, .inr (9, [.int 0, .int 0, .int 0, .int 0, .int 0, .int 0, .int 0, .int 0]))]) hD hS hA [2] rfl
  refine va_callv (va_runIN (As := []) (rest := [.ref q_78, .int 17, .ref q_1]) ⟨hx, hb, hml, hown, hts⟩ (c_X9_init l dC dI q_78 H.size) ⟨va_cnB 0 hts g_c_X5_init_57_c_X9_init rfl rfl rfl hNX5_X9 (hts (.initialized RX9) (List.mem_of_getElem? (i := 9) rfl)) (by decide +kernel) ⟨Nat.le_of_ble_eq_true rfl, Nat.le_of_ble_eq_true rfl⟩, rfl, (hts (.instanceMethod yX9_init) (List.mem_of_getElem? (i := 12) rfl))⟩ ⟨fun a U g mk q => by obtain ⟨q0, q1, qP, qK, qD⟩ := q; exact ⟨q0, q1, qP, va_K.moved (u := U) (U := U.calling g mk a) (Vm.Alike.refl U.vm) qK, qD⟩, fun U hU hW => ⟨rfl, by rw [hU], by rw [hU]; exact hPc, va_K.moved hW.alike hKc, hDc.weaken (fun _ _ _ _ => trivial)⟩⟩ rfl rfl hl.1 rfl (lv_room (Nat.le_of_ble_eq_true rfl)) dX5_init_57 ⟨Nat.le_of_ble_eq_true rfl, Nat.le_of_ble_eq_true rfl⟩) hS (fun q _ h => hFc q h) hFc (fun u t H1 locs ht hvm hw hB hz1 hk1 hS => ?_)
  obtain ⟨hP1, hK1, hD1⟩ := hB
  rw [ht] at hP1
  have hK1 := va_K.moved hvm.symm hK1
  try dsimp only at hw
  obtain ⟨hP, hD⟩ := va_join (wr := [(h0, .inr (5, [.ref q_1, .ref q_3, .ref q_5, .ref q_7, .int 0, .int 0, .int 0, .int 0, .int 0, .int 0, .int 0])), (q_1, .inl (cy_2, 40, .inr (.inr (.inr (.inr g_76)))))]) (w1 := [(q_78, .inr (9, [.int 0, .int 0, .int 0, .int 0, .int 0, .int 0, .int 0, .int 0]))]) hP hD [2] [0, 1] rfl rfl (by decide) (by decide) hk1 hFc hP1 hD1
  have hK := hK.app hK1
  generalize H1 = H at hP hS ⊢
  have hP : va_P (dC, dI) vwCl [(h0, .inr (5, [.ref q_1, .ref q_3, .ref q_5, .ref q_7, .int 0, .int 0, .int 0, .int 0, .int 0, .int 0, .int 0])), (q_1, .inl (cy_2, 40, .inr (.inr (.inr (.inr g_76))))), (q_78, .inr (9, [.int 0, .int 0, .int 0, .int 0, .int 0, .int 0, .int 0, .int 0]))] H := hP
  have hD : va_D A [(h0, .inr (5, [.ref q_1, .ref q_3, .ref q_5, .ref q_7, .int 0, .int 0, .int 0, .int 0, .int 0, .int 0, .int 0])), (q_1, .inl (cy_2, 40, .inr (.inr (.inr (.inr g_76))))), (q_78, .inr (9, [.int 0, .int 0, .int 0, .int 0, .int 0, .int 0, .int 0, .int 0]))] := hD
  have hK : va_K (dC, dI) vwCl [(cy_2, .object RX9), (cy_4, .int), (cy_8, .int)] s := hK
  refine W.widen (k := 22) (n := 392) (Nat.le_of_ble_eq_true rfl) (Nat.le_of_ble_eq_true rfl) ?_
  refine va_astq (D := (dC, dI)) (i := 17) hx hb hK hP hD hS 1 0 2 9 (r := (RX9, TX9, 8)) rfl rfl rfl rfl (show ¬ ((17 : Int32) < 0 ∨ 40 ≤ (17 : Int32).toNatClampNeg) by decide +kernel) dX5_init_60 (fun H locs hP hD hS => ?_)
  have hP : va_P (dC, dI) vwCl [(h0, .inr (5, [.ref q_1, .ref q_3, .ref q_5, .ref q_7, .int 0, .int 0, .int 0, .int 0, .int 0, .int 0, .int 0])), (q_1, .inl (cy_2, 40, .inr (.inr (.inr (.inr (va_up (g_76) (17 : Int32).toNatClampNeg (some q_78))))))), (q_78, .inr (9, [.int 0, .int 0, .int 0, .int 0, .int 0, .int 0, .int 0, .int 0]))] H := hP
  have hD : va_D A [(h0, .inr (5, [.ref q_1, .ref q_3, .ref q_5, .ref q_7, .int 0, .int 0, .int 0, .int 0, .int 0, .int 0, .int 0])), (q_1, .inl (cy_2, 40, .inr (.inr (.inr (.inr (va_up (g_76) (17 : Int32).toNatClampNeg (some q_78))))))), (q_78, .inr (9, [.int 0, .int 0, .int 0, .int 0, .int 0, .int 0, .int 0, .int 0]))] := hD
  generalize va_up (g_76) (17 : Int32).toNatClampNeg (some q_78) = g_80 at hP hD
  refine lv_iinc (v := 18) (lv' := [(1, .int 18), (0, .ref h0)]) hx hb dX5_init_61 hl (k := 0) rfl (by decide +kernel) (by decide) rfl (fun ls hl => ?_)
  refine lv_goto (tgt := 42) hx hb dX5_init_64 (by decide) ?_
  have hP := hP.sub (ws' := [(h0, .inr (5, [.ref q_1, .ref q_3, .ref q_5, .ref q_7, .int 0, .int 0, .int 0, .int 0, .int 0, .int 0, .int 0])), (q_1, .inl (cy_2, 40, .inr (.inr (.inr (.inr g_80)))))]) [0, 1] rfl
  have hD := hD.sub (ws' := [(h0, .inr (5, [.ref q_1, .ref q_3, .ref q_5, .ref q_7, .int 0, .int 0, .int 0, .int 0, .int 0, .int 0, .int 0])), (q_1, .inl (cy_2, 40, .inr (.inr (.inr (.inr g_80)))))]) [0, 1] (by decide) rfl
  refine lv_iload_n hx hb dX5_init_42 rfl (lv_at hl 0 rfl) ?_
  refine lv_bipush (v := 40) hx hb dX5_init_43 (by decide +kernel) ?_
  refine lv_icmp_ge (tgt := 67) hx hb dX5_init_45 (by decide) (fun c_81 => absurd c_81 (by decide +kernel)) (fun c_81 => ?_)
  refine lv_aload_n hx hb dX5_init_48 rfl (lv_at hl 1 rfl) ?_
  refine va_get (D := (dC, dI)) (ci := 5) (v := .ref q_1) (C := RX5) (T := TX5) (N := 11) hx hb hts in_c_X5_init_X5 hown hK hP 0 rfl rfl 0 (by decide) (hts (.fieldLink RX5 11 "LawnAhead$History" "states" "[LLawnAhead$State;") (List.mem_of_getElem? (i := 5) rfl)) (fun _ h9 => h9) rfl dX5_init_49 ?_
  refine lv_iload_n hx hb dX5_init_52 rfl (lv_at hl 0 rfl) ?_
  refine va_new (ci := 9) (fs := [.int 0, .int 0, .int 0, .int 0, .int 0, .int 0, .int 0, .int 0]) (C := RX9) (T := TX9) (N := 8) hx hb hts in_c_X5_init_X9 tyX9 tyX9_ok hown (hts (.classLink RX5 9 RX9) (List.mem_of_getElem? (i := 4) rfl)) (hts (.instantiable RX9 8) (List.mem_of_getElem? (i := 8) rfl)) (hts (.initialized RX9) (List.mem_of_getElem? (i := 9) rfl)) hK hP hD hS hA rfl (by decide +kernel) (Nat.le_of_ble_eq_true rfl) (Nat.le_of_ble_eq_true rfl) dX5_init_53 (fun q_82 H hP hD hS => ?_)
  have hP : va_P (dC, dI) vwCl [(h0, .inr (5, [.ref q_1, .ref q_3, .ref q_5, .ref q_7, .int 0, .int 0, .int 0, .int 0, .int 0, .int 0, .int 0])), (q_1, .inl (cy_2, 40, .inr (.inr (.inr (.inr g_80))))), (q_82, .inr (9, [.int 0, .int 0, .int 0, .int 0, .int 0, .int 0, .int 0, .int 0]))] H := hP
  have hD : va_D A [(h0, .inr (5, [.ref q_1, .ref q_3, .ref q_5, .ref q_7, .int 0, .int 0, .int 0, .int 0, .int 0, .int 0, .int 0])), (q_1, .inl (cy_2, 40, .inr (.inr (.inr (.inr g_80))))), (q_82, .inr (9, [.int 0, .int 0, .int 0, .int 0, .int 0, .int 0, .int 0, .int 0]))] := hD
  refine W.widen (k := 23) (n := 400) (Nat.le_of_ble_eq_true rfl) (Nat.le_of_ble_eq_true rfl) ?_
  refine lv_dup hx hb dX5_init_56 rfl ?_
  have hPc := hP.sub (ws' := [(q_82, .inr (9, [.int 0, .int 0, .int 0, .int 0, .int 0, .int 0, .int 0, .int 0]))]) [2] rfl
  have hDc := hD.sub (ws' := [(q_82, .inr (9, [.int 0, .int 0, .int 0, .int 0, .int 0, .int 0, .int 0, .int 0]))]) [2] (by decide) rfl
  have hKc := hK.sub (tys' := []) [] rfl
  have hFc := va_free (wc := [(q_82, .inr (9, [.int 0, .int 0, .int 0, .int 0, .int 0, .int 0, .int 0, .int 0]))]) hD hS hA [2] rfl
  refine va_callv (va_runIN (As := []) (rest := [.ref q_82, .int 18, .ref q_1]) ⟨hx, hb, hml, hown, hts⟩ (c_X9_init l dC dI q_82 H.size) ⟨va_cnB 0 hts g_c_X5_init_57_c_X9_init rfl rfl rfl hNX5_X9 (hts (.initialized RX9) (List.mem_of_getElem? (i := 9) rfl)) (by decide +kernel) ⟨Nat.le_of_ble_eq_true rfl, Nat.le_of_ble_eq_true rfl⟩, rfl, (hts (.instanceMethod yX9_init) (List.mem_of_getElem? (i := 12) rfl))⟩ ⟨fun a U g mk q => by obtain ⟨q0, q1, qP, qK, qD⟩ := q; exact ⟨q0, q1, qP, va_K.moved (u := U) (U := U.calling g mk a) (Vm.Alike.refl U.vm) qK, qD⟩, fun U hU hW => ⟨rfl, by rw [hU], by rw [hU]; exact hPc, va_K.moved hW.alike hKc, hDc.weaken (fun _ _ _ _ => trivial)⟩⟩ rfl rfl hl.1 rfl (lv_room (Nat.le_of_ble_eq_true rfl)) dX5_init_57 ⟨Nat.le_of_ble_eq_true rfl, Nat.le_of_ble_eq_true rfl⟩) hS (fun q _ h => hFc q h) hFc (fun u t H1 locs ht hvm hw hB hz1 hk1 hS => ?_)
  obtain ⟨hP1, hK1, hD1⟩ := hB
  rw [ht] at hP1
  have hK1 := va_K.moved hvm.symm hK1
  try dsimp only at hw
  obtain ⟨hP, hD⟩ := va_join (wr := [(h0, .inr (5, [.ref q_1, .ref q_3, .ref q_5, .ref q_7, .int 0, .int 0, .int 0, .int 0, .int 0, .int 0, .int 0])), (q_1, .inl (cy_2, 40, .inr (.inr (.inr (.inr g_80)))))]) (w1 := [(q_82, .inr (9, [.int 0, .int 0, .int 0, .int 0, .int 0, .int 0, .int 0, .int 0]))]) hP hD [2] [0, 1] rfl rfl (by decide) (by decide) hk1 hFc hP1 hD1
  have hK := hK.app hK1
  generalize H1 = H at hP hS ⊢
  have hP : va_P (dC, dI) vwCl [(h0, .inr (5, [.ref q_1, .ref q_3, .ref q_5, .ref q_7, .int 0, .int 0, .int 0, .int 0, .int 0, .int 0, .int 0])), (q_1, .inl (cy_2, 40, .inr (.inr (.inr (.inr g_80))))), (q_82, .inr (9, [.int 0, .int 0, .int 0, .int 0, .int 0, .int 0, .int 0, .int 0]))] H := hP
  have hD : va_D A [(h0, .inr (5, [.ref q_1, .ref q_3, .ref q_5, .ref q_7, .int 0, .int 0, .int 0, .int 0, .int 0, .int 0, .int 0])), (q_1, .inl (cy_2, 40, .inr (.inr (.inr (.inr g_80))))), (q_82, .inr (9, [.int 0, .int 0, .int 0, .int 0, .int 0, .int 0, .int 0, .int 0]))] := hD
  have hK : va_K (dC, dI) vwCl [(cy_2, .object RX9), (cy_4, .int), (cy_8, .int)] s := hK
  refine W.widen (k := 23) (n := 400) (Nat.le_of_ble_eq_true rfl) (Nat.le_of_ble_eq_true rfl) ?_
  refine va_astq (D := (dC, dI)) (i := 18) hx hb hK hP hD hS 1 0 2 9 (r := (RX9, TX9, 8)) rfl rfl rfl rfl (show ¬ ((18 : Int32) < 0 ∨ 40 ≤ (18 : Int32).toNatClampNeg) by decide +kernel) dX5_init_60 (fun H locs hP hD hS => ?_)
  have hP : va_P (dC, dI) vwCl [(h0, .inr (5, [.ref q_1, .ref q_3, .ref q_5, .ref q_7, .int 0, .int 0, .int 0, .int 0, .int 0, .int 0, .int 0])), (q_1, .inl (cy_2, 40, .inr (.inr (.inr (.inr (va_up (g_80) (18 : Int32).toNatClampNeg (some q_82))))))), (q_82, .inr (9, [.int 0, .int 0, .int 0, .int 0, .int 0, .int 0, .int 0, .int 0]))] H := hP
  have hD : va_D A [(h0, .inr (5, [.ref q_1, .ref q_3, .ref q_5, .ref q_7, .int 0, .int 0, .int 0, .int 0, .int 0, .int 0, .int 0])), (q_1, .inl (cy_2, 40, .inr (.inr (.inr (.inr (va_up (g_80) (18 : Int32).toNatClampNeg (some q_82))))))), (q_82, .inr (9, [.int 0, .int 0, .int 0, .int 0, .int 0, .int 0, .int 0, .int 0]))] := hD
  generalize va_up (g_80) (18 : Int32).toNatClampNeg (some q_82) = g_84 at hP hD
  refine lv_iinc (v := 19) (lv' := [(1, .int 19), (0, .ref h0)]) hx hb dX5_init_61 hl (k := 0) rfl (by decide +kernel) (by decide) rfl (fun ls hl => ?_)
  refine lv_goto (tgt := 42) hx hb dX5_init_64 (by decide) ?_
  have hP := hP.sub (ws' := [(h0, .inr (5, [.ref q_1, .ref q_3, .ref q_5, .ref q_7, .int 0, .int 0, .int 0, .int 0, .int 0, .int 0, .int 0])), (q_1, .inl (cy_2, 40, .inr (.inr (.inr (.inr g_84)))))]) [0, 1] rfl
  have hD := hD.sub (ws' := [(h0, .inr (5, [.ref q_1, .ref q_3, .ref q_5, .ref q_7, .int 0, .int 0, .int 0, .int 0, .int 0, .int 0, .int 0])), (q_1, .inl (cy_2, 40, .inr (.inr (.inr (.inr g_84)))))]) [0, 1] (by decide) rfl
  refine lv_iload_n hx hb dX5_init_42 rfl (lv_at hl 0 rfl) ?_
  refine lv_bipush (v := 40) hx hb dX5_init_43 (by decide +kernel) ?_
  refine lv_icmp_ge (tgt := 67) hx hb dX5_init_45 (by decide) (fun c_85 => absurd c_85 (by decide +kernel)) (fun c_85 => ?_)
  refine lv_aload_n hx hb dX5_init_48 rfl (lv_at hl 1 rfl) ?_
  refine va_get (D := (dC, dI)) (ci := 5) (v := .ref q_1) (C := RX5) (T := TX5) (N := 11) hx hb hts in_c_X5_init_X5 hown hK hP 0 rfl rfl 0 (by decide) (hts (.fieldLink RX5 11 "LawnAhead$History" "states" "[LLawnAhead$State;") (List.mem_of_getElem? (i := 5) rfl)) (fun _ h9 => h9) rfl dX5_init_49 ?_
  refine lv_iload_n hx hb dX5_init_52 rfl (lv_at hl 0 rfl) ?_
  refine va_new (ci := 9) (fs := [.int 0, .int 0, .int 0, .int 0, .int 0, .int 0, .int 0, .int 0]) (C := RX9) (T := TX9) (N := 8) hx hb hts in_c_X5_init_X9 tyX9 tyX9_ok hown (hts (.classLink RX5 9 RX9) (List.mem_of_getElem? (i := 4) rfl)) (hts (.instantiable RX9 8) (List.mem_of_getElem? (i := 8) rfl)) (hts (.initialized RX9) (List.mem_of_getElem? (i := 9) rfl)) hK hP hD hS hA rfl (by decide +kernel) (Nat.le_of_ble_eq_true rfl) (Nat.le_of_ble_eq_true rfl) dX5_init_53 (fun q_86 H hP hD hS => ?_)
  have hP : va_P (dC, dI) vwCl [(h0, .inr (5, [.ref q_1, .ref q_3, .ref q_5, .ref q_7, .int 0, .int 0, .int 0, .int 0, .int 0, .int 0, .int 0])), (q_1, .inl (cy_2, 40, .inr (.inr (.inr (.inr g_84))))), (q_86, .inr (9, [.int 0, .int 0, .int 0, .int 0, .int 0, .int 0, .int 0, .int 0]))] H := hP
  have hD : va_D A [(h0, .inr (5, [.ref q_1, .ref q_3, .ref q_5, .ref q_7, .int 0, .int 0, .int 0, .int 0, .int 0, .int 0, .int 0])), (q_1, .inl (cy_2, 40, .inr (.inr (.inr (.inr g_84))))), (q_86, .inr (9, [.int 0, .int 0, .int 0, .int 0, .int 0, .int 0, .int 0, .int 0]))] := hD
  refine W.widen (k := 24) (n := 408) (Nat.le_of_ble_eq_true rfl) (Nat.le_of_ble_eq_true rfl) ?_
  refine lv_dup hx hb dX5_init_56 rfl ?_
  have hPc := hP.sub (ws' := [(q_86, .inr (9, [.int 0, .int 0, .int 0, .int 0, .int 0, .int 0, .int 0, .int 0]))]) [2] rfl
  have hDc := hD.sub (ws' := [(q_86, .inr (9, [.int 0, .int 0, .int 0, .int 0, .int 0, .int 0, .int 0, .int 0]))]) [2] (by decide) rfl
  have hKc := hK.sub (tys' := []) [] rfl
  have hFc := va_free (wc := [(q_86, .inr (9, [.int 0, .int 0, .int 0, .int 0, .int 0, .int 0, .int 0, .int 0]))]) hD hS hA [2] rfl
  refine va_callv (va_runIN (As := []) (rest := [.ref q_86, .int 19, .ref q_1]) ⟨hx, hb, hml, hown, hts⟩ (c_X9_init l dC dI q_86 H.size) ⟨va_cnB 0 hts g_c_X5_init_57_c_X9_init rfl rfl rfl hNX5_X9 (hts (.initialized RX9) (List.mem_of_getElem? (i := 9) rfl)) (by decide +kernel) ⟨Nat.le_of_ble_eq_true rfl, Nat.le_of_ble_eq_true rfl⟩, rfl, (hts (.instanceMethod yX9_init) (List.mem_of_getElem? (i := 12) rfl))⟩ ⟨fun a U g mk q => by obtain ⟨q0, q1, qP, qK, qD⟩ := q; exact ⟨q0, q1, qP, va_K.moved (u := U) (U := U.calling g mk a) (Vm.Alike.refl U.vm) qK, qD⟩, fun U hU hW => ⟨rfl, by rw [hU], by rw [hU]; exact hPc, va_K.moved hW.alike hKc, hDc.weaken (fun _ _ _ _ => trivial)⟩⟩ rfl rfl hl.1 rfl (lv_room (Nat.le_of_ble_eq_true rfl)) dX5_init_57 ⟨Nat.le_of_ble_eq_true rfl, Nat.le_of_ble_eq_true rfl⟩) hS (fun q _ h => hFc q h) hFc (fun u t H1 locs ht hvm hw hB hz1 hk1 hS => ?_)
  obtain ⟨hP1, hK1, hD1⟩ := hB
  rw [ht] at hP1
  have hK1 := va_K.moved hvm.symm hK1
  try dsimp only at hw
  obtain ⟨hP, hD⟩ := va_join (wr := [(h0, .inr (5, [.ref q_1, .ref q_3, .ref q_5, .ref q_7, .int 0, .int 0, .int 0, .int 0, .int 0, .int 0, .int 0])), (q_1, .inl (cy_2, 40, .inr (.inr (.inr (.inr g_84)))))]) (w1 := [(q_86, .inr (9, [.int 0, .int 0, .int 0, .int 0, .int 0, .int 0, .int 0, .int 0]))]) hP hD [2] [0, 1] rfl rfl (by decide) (by decide) hk1 hFc hP1 hD1
  have hK := hK.app hK1
  generalize H1 = H at hP hS ⊢
  have hP : va_P (dC, dI) vwCl [(h0, .inr (5, [.ref q_1, .ref q_3, .ref q_5, .ref q_7, .int 0, .int 0, .int 0, .int 0, .int 0, .int 0, .int 0])), (q_1, .inl (cy_2, 40, .inr (.inr (.inr (.inr g_84))))), (q_86, .inr (9, [.int 0, .int 0, .int 0, .int 0, .int 0, .int 0, .int 0, .int 0]))] H := hP
  have hD : va_D A [(h0, .inr (5, [.ref q_1, .ref q_3, .ref q_5, .ref q_7, .int 0, .int 0, .int 0, .int 0, .int 0, .int 0, .int 0])), (q_1, .inl (cy_2, 40, .inr (.inr (.inr (.inr g_84))))), (q_86, .inr (9, [.int 0, .int 0, .int 0, .int 0, .int 0, .int 0, .int 0, .int 0]))] := hD
  have hK : va_K (dC, dI) vwCl [(cy_2, .object RX9), (cy_4, .int), (cy_8, .int)] s := hK
  refine W.widen (k := 24) (n := 408) (Nat.le_of_ble_eq_true rfl) (Nat.le_of_ble_eq_true rfl) ?_
  refine va_astq (D := (dC, dI)) (i := 19) hx hb hK hP hD hS 1 0 2 9 (r := (RX9, TX9, 8)) rfl rfl rfl rfl (show ¬ ((19 : Int32) < 0 ∨ 40 ≤ (19 : Int32).toNatClampNeg) by decide +kernel) dX5_init_60 (fun H locs hP hD hS => ?_)
  have hP : va_P (dC, dI) vwCl [(h0, .inr (5, [.ref q_1, .ref q_3, .ref q_5, .ref q_7, .int 0, .int 0, .int 0, .int 0, .int 0, .int 0, .int 0])), (q_1, .inl (cy_2, 40, .inr (.inr (.inr (.inr (va_up (g_84) (19 : Int32).toNatClampNeg (some q_86))))))), (q_86, .inr (9, [.int 0, .int 0, .int 0, .int 0, .int 0, .int 0, .int 0, .int 0]))] H := hP
  have hD : va_D A [(h0, .inr (5, [.ref q_1, .ref q_3, .ref q_5, .ref q_7, .int 0, .int 0, .int 0, .int 0, .int 0, .int 0, .int 0])), (q_1, .inl (cy_2, 40, .inr (.inr (.inr (.inr (va_up (g_84) (19 : Int32).toNatClampNeg (some q_86))))))), (q_86, .inr (9, [.int 0, .int 0, .int 0, .int 0, .int 0, .int 0, .int 0, .int 0]))] := hD
  generalize va_up (g_84) (19 : Int32).toNatClampNeg (some q_86) = g_88 at hP hD
  refine lv_iinc (v := 20) (lv' := [(1, .int 20), (0, .ref h0)]) hx hb dX5_init_61 hl (k := 0) rfl (by decide +kernel) (by decide) rfl (fun ls hl => ?_)
  refine lv_goto (tgt := 42) hx hb dX5_init_64 (by decide) ?_
  have hP := hP.sub (ws' := [(h0, .inr (5, [.ref q_1, .ref q_3, .ref q_5, .ref q_7, .int 0, .int 0, .int 0, .int 0, .int 0, .int 0, .int 0])), (q_1, .inl (cy_2, 40, .inr (.inr (.inr (.inr g_88)))))]) [0, 1] rfl
  have hD := hD.sub (ws' := [(h0, .inr (5, [.ref q_1, .ref q_3, .ref q_5, .ref q_7, .int 0, .int 0, .int 0, .int 0, .int 0, .int 0, .int 0])), (q_1, .inl (cy_2, 40, .inr (.inr (.inr (.inr g_88)))))]) [0, 1] (by decide) rfl
  refine lv_iload_n hx hb dX5_init_42 rfl (lv_at hl 0 rfl) ?_
  refine lv_bipush (v := 40) hx hb dX5_init_43 (by decide +kernel) ?_
  refine lv_icmp_ge (tgt := 67) hx hb dX5_init_45 (by decide) (fun c_89 => absurd c_89 (by decide +kernel)) (fun c_89 => ?_)
  refine lv_aload_n hx hb dX5_init_48 rfl (lv_at hl 1 rfl) ?_
  refine va_get (D := (dC, dI)) (ci := 5) (v := .ref q_1) (C := RX5) (T := TX5) (N := 11) hx hb hts in_c_X5_init_X5 hown hK hP 0 rfl rfl 0 (by decide) (hts (.fieldLink RX5 11 "LawnAhead$History" "states" "[LLawnAhead$State;") (List.mem_of_getElem? (i := 5) rfl)) (fun _ h9 => h9) rfl dX5_init_49 ?_
  refine lv_iload_n hx hb dX5_init_52 rfl (lv_at hl 0 rfl) ?_
  refine va_new (ci := 9) (fs := [.int 0, .int 0, .int 0, .int 0, .int 0, .int 0, .int 0, .int 0]) (C := RX9) (T := TX9) (N := 8) hx hb hts in_c_X5_init_X9 tyX9 tyX9_ok hown (hts (.classLink RX5 9 RX9) (List.mem_of_getElem? (i := 4) rfl)) (hts (.instantiable RX9 8) (List.mem_of_getElem? (i := 8) rfl)) (hts (.initialized RX9) (List.mem_of_getElem? (i := 9) rfl)) hK hP hD hS hA rfl (by decide +kernel) (Nat.le_of_ble_eq_true rfl) (Nat.le_of_ble_eq_true rfl) dX5_init_53 (fun q_90 H hP hD hS => ?_)
  have hP : va_P (dC, dI) vwCl [(h0, .inr (5, [.ref q_1, .ref q_3, .ref q_5, .ref q_7, .int 0, .int 0, .int 0, .int 0, .int 0, .int 0, .int 0])), (q_1, .inl (cy_2, 40, .inr (.inr (.inr (.inr g_88))))), (q_90, .inr (9, [.int 0, .int 0, .int 0, .int 0, .int 0, .int 0, .int 0, .int 0]))] H := hP
  have hD : va_D A [(h0, .inr (5, [.ref q_1, .ref q_3, .ref q_5, .ref q_7, .int 0, .int 0, .int 0, .int 0, .int 0, .int 0, .int 0])), (q_1, .inl (cy_2, 40, .inr (.inr (.inr (.inr g_88))))), (q_90, .inr (9, [.int 0, .int 0, .int 0, .int 0, .int 0, .int 0, .int 0, .int 0]))] := hD
  refine W.widen (k := 25) (n := 416) (Nat.le_of_ble_eq_true rfl) (Nat.le_of_ble_eq_true rfl) ?_
  refine lv_dup hx hb dX5_init_56 rfl ?_
  have hPc := hP.sub (ws' := [(q_90, .inr (9, [.int 0, .int 0, .int 0, .int 0, .int 0, .int 0, .int 0, .int 0]))]) [2] rfl
  have hDc := hD.sub (ws' := [(q_90, .inr (9, [.int 0, .int 0, .int 0, .int 0, .int 0, .int 0, .int 0, .int 0]))]) [2] (by decide) rfl
  have hKc := hK.sub (tys' := []) [] rfl
  have hFc := va_free (wc := [(q_90, .inr (9, [.int 0, .int 0, .int 0, .int 0, .int 0, .int 0, .int 0, .int 0]))]) hD hS hA [2] rfl
  refine va_callv (va_runIN (As := []) (rest := [.ref q_90, .int 20, .ref q_1]) ⟨hx, hb, hml, hown, hts⟩ (c_X9_init l dC dI q_90 H.size) ⟨va_cnB 0 hts g_c_X5_init_57_c_X9_init rfl rfl rfl hNX5_X9 (hts (.initialized RX9) (List.mem_of_getElem? (i := 9) rfl)) (by decide +kernel) ⟨Nat.le_of_ble_eq_true rfl, Nat.le_of_ble_eq_true rfl⟩, rfl, (hts (.instanceMethod yX9_init) (List.mem_of_getElem? (i := 12) rfl))⟩ ⟨fun a U g mk q => by obtain ⟨q0, q1, qP, qK, qD⟩ := q; exact ⟨q0, q1, qP, va_K.moved (u := U) (U := U.calling g mk a) (Vm.Alike.refl U.vm) qK, qD⟩, fun U hU hW => ⟨rfl, by rw [hU], by rw [hU]; exact hPc, va_K.moved hW.alike hKc, hDc.weaken (fun _ _ _ _ => trivial)⟩⟩ rfl rfl hl.1 rfl (lv_room (Nat.le_of_ble_eq_true rfl)) dX5_init_57 ⟨Nat.le_of_ble_eq_true rfl, Nat.le_of_ble_eq_true rfl⟩) hS (fun q _ h => hFc q h) hFc (fun u t H1 locs ht hvm hw hB hz1 hk1 hS => ?_)
  obtain ⟨hP1, hK1, hD1⟩ := hB
  rw [ht] at hP1
  have hK1 := va_K.moved hvm.symm hK1
  try dsimp only at hw
  obtain ⟨hP, hD⟩ := va_join (wr := [(h0, .inr (5, [.ref q_1, .ref q_3, .ref q_5, .ref q_7, .int 0, .int 0, .int 0, .int 0, .int 0, .int 0, .int 0])), (q_1, .inl (cy_2, 40, .inr (.inr (.inr (.inr g_88)))))]) (w1 := [(q_90, .inr (9, [.int 0, .int 0, .int 0, .int 0, .int 0, .int 0, .int 0, .int 0]))]) hP hD [2] [0, 1] rfl rfl (by decide) (by decide) hk1 hFc hP1 hD1
  have hK := hK.app hK1
  generalize H1 = H at hP hS ⊢
  have hP : va_P (dC, dI) vwCl [(h0, .inr (5, [.ref q_1, .ref q_3, .ref q_5, .ref q_7, .int 0, .int 0, .int 0, .int 0, .int 0, .int 0, .int 0])), (q_1, .inl (cy_2, 40, .inr (.inr (.inr (.inr g_88))))), (q_90, .inr (9, [.int 0, .int 0, .int 0, .int 0, .int 0, .int 0, .int 0, .int 0]))] H := hP
  have hD : va_D A [(h0, .inr (5, [.ref q_1, .ref q_3, .ref q_5, .ref q_7, .int 0, .int 0, .int 0, .int 0, .int 0, .int 0, .int 0])), (q_1, .inl (cy_2, 40, .inr (.inr (.inr (.inr g_88))))), (q_90, .inr (9, [.int 0, .int 0, .int 0, .int 0, .int 0, .int 0, .int 0, .int 0]))] := hD
  have hK : va_K (dC, dI) vwCl [(cy_2, .object RX9), (cy_4, .int), (cy_8, .int)] s := hK
  refine W.widen (k := 25) (n := 416) (Nat.le_of_ble_eq_true rfl) (Nat.le_of_ble_eq_true rfl) ?_
  refine va_astq (D := (dC, dI)) (i := 20) hx hb hK hP hD hS 1 0 2 9 (r := (RX9, TX9, 8)) rfl rfl rfl rfl (show ¬ ((20 : Int32) < 0 ∨ 40 ≤ (20 : Int32).toNatClampNeg) by decide +kernel) dX5_init_60 (fun H locs hP hD hS => ?_)
  have hP : va_P (dC, dI) vwCl [(h0, .inr (5, [.ref q_1, .ref q_3, .ref q_5, .ref q_7, .int 0, .int 0, .int 0, .int 0, .int 0, .int 0, .int 0])), (q_1, .inl (cy_2, 40, .inr (.inr (.inr (.inr (va_up (g_88) (20 : Int32).toNatClampNeg (some q_90))))))), (q_90, .inr (9, [.int 0, .int 0, .int 0, .int 0, .int 0, .int 0, .int 0, .int 0]))] H := hP
  have hD : va_D A [(h0, .inr (5, [.ref q_1, .ref q_3, .ref q_5, .ref q_7, .int 0, .int 0, .int 0, .int 0, .int 0, .int 0, .int 0])), (q_1, .inl (cy_2, 40, .inr (.inr (.inr (.inr (va_up (g_88) (20 : Int32).toNatClampNeg (some q_90))))))), (q_90, .inr (9, [.int 0, .int 0, .int 0, .int 0, .int 0, .int 0, .int 0, .int 0]))] := hD
  generalize va_up (g_88) (20 : Int32).toNatClampNeg (some q_90) = g_92 at hP hD
  refine lv_iinc (v := 21) (lv' := [(1, .int 21), (0, .ref h0)]) hx hb dX5_init_61 hl (k := 0) rfl (by decide +kernel) (by decide) rfl (fun ls hl => ?_)
  refine lv_goto (tgt := 42) hx hb dX5_init_64 (by decide) ?_
  have hP := hP.sub (ws' := [(h0, .inr (5, [.ref q_1, .ref q_3, .ref q_5, .ref q_7, .int 0, .int 0, .int 0, .int 0, .int 0, .int 0, .int 0])), (q_1, .inl (cy_2, 40, .inr (.inr (.inr (.inr g_92)))))]) [0, 1] rfl
  have hD := hD.sub (ws' := [(h0, .inr (5, [.ref q_1, .ref q_3, .ref q_5, .ref q_7, .int 0, .int 0, .int 0, .int 0, .int 0, .int 0, .int 0])), (q_1, .inl (cy_2, 40, .inr (.inr (.inr (.inr g_92)))))]) [0, 1] (by decide) rfl
  refine lv_iload_n hx hb dX5_init_42 rfl (lv_at hl 0 rfl) ?_
  refine lv_bipush (v := 40) hx hb dX5_init_43 (by decide +kernel) ?_
  refine lv_icmp_ge (tgt := 67) hx hb dX5_init_45 (by decide) (fun c_93 => absurd c_93 (by decide +kernel)) (fun c_93 => ?_)
  refine lv_aload_n hx hb dX5_init_48 rfl (lv_at hl 1 rfl) ?_
  refine va_get (D := (dC, dI)) (ci := 5) (v := .ref q_1) (C := RX5) (T := TX5) (N := 11) hx hb hts in_c_X5_init_X5 hown hK hP 0 rfl rfl 0 (by decide) (hts (.fieldLink RX5 11 "LawnAhead$History" "states" "[LLawnAhead$State;") (List.mem_of_getElem? (i := 5) rfl)) (fun _ h9 => h9) rfl dX5_init_49 ?_
  refine lv_iload_n hx hb dX5_init_52 rfl (lv_at hl 0 rfl) ?_
  refine va_new (ci := 9) (fs := [.int 0, .int 0, .int 0, .int 0, .int 0, .int 0, .int 0, .int 0]) (C := RX9) (T := TX9) (N := 8) hx hb hts in_c_X5_init_X9 tyX9 tyX9_ok hown (hts (.classLink RX5 9 RX9) (List.mem_of_getElem? (i := 4) rfl)) (hts (.instantiable RX9 8) (List.mem_of_getElem? (i := 8) rfl)) (hts (.initialized RX9) (List.mem_of_getElem? (i := 9) rfl)) hK hP hD hS hA rfl (by decide +kernel) (Nat.le_of_ble_eq_true rfl) (Nat.le_of_ble_eq_true rfl) dX5_init_53 (fun q_94 H hP hD hS => ?_)
  have hP : va_P (dC, dI) vwCl [(h0, .inr (5, [.ref q_1, .ref q_3, .ref q_5, .ref q_7, .int 0, .int 0, .int 0, .int 0, .int 0, .int 0, .int 0])), (q_1, .inl (cy_2, 40, .inr (.inr (.inr (.inr g_92))))), (q_94, .inr (9, [.int 0, .int 0, .int 0, .int 0, .int 0, .int 0, .int 0, .int 0]))] H := hP
  have hD : va_D A [(h0, .inr (5, [.ref q_1, .ref q_3, .ref q_5, .ref q_7, .int 0, .int 0, .int 0, .int 0, .int 0, .int 0, .int 0])), (q_1, .inl (cy_2, 40, .inr (.inr (.inr (.inr g_92))))), (q_94, .inr (9, [.int 0, .int 0, .int 0, .int 0, .int 0, .int 0, .int 0, .int 0]))] := hD
  refine W.widen (k := 26) (n := 424) (Nat.le_of_ble_eq_true rfl) (Nat.le_of_ble_eq_true rfl) ?_
  refine lv_dup hx hb dX5_init_56 rfl ?_
  have hPc := hP.sub (ws' := [(q_94, .inr (9, [.int 0, .int 0, .int 0, .int 0, .int 0, .int 0, .int 0, .int 0]))]) [2] rfl
  have hDc := hD.sub (ws' := [(q_94, .inr (9, [.int 0, .int 0, .int 0, .int 0, .int 0, .int 0, .int 0, .int 0]))]) [2] (by decide) rfl
  have hKc := hK.sub (tys' := []) [] rfl
  have hFc := va_free (wc := [(q_94, .inr (9, [.int 0, .int 0, .int 0, .int 0, .int 0, .int 0, .int 0, .int 0]))]) hD hS hA [2] rfl
  refine va_callv (va_runIN (As := []) (rest := [.ref q_94, .int 21, .ref q_1]) ⟨hx, hb, hml, hown, hts⟩ (c_X9_init l dC dI q_94 H.size) ⟨va_cnB 0 hts g_c_X5_init_57_c_X9_init rfl rfl rfl hNX5_X9 (hts (.initialized RX9) (List.mem_of_getElem? (i := 9) rfl)) (by decide +kernel) ⟨Nat.le_of_ble_eq_true rfl, Nat.le_of_ble_eq_true rfl⟩, rfl, (hts (.instanceMethod yX9_init) (List.mem_of_getElem? (i := 12) rfl))⟩ ⟨fun a U g mk q => by obtain ⟨q0, q1, qP, qK, qD⟩ := q; exact ⟨q0, q1, qP, va_K.moved (u := U) (U := U.calling g mk a) (Vm.Alike.refl U.vm) qK, qD⟩, fun U hU hW => ⟨rfl, by rw [hU], by rw [hU]; exact hPc, va_K.moved hW.alike hKc, hDc.weaken (fun _ _ _ _ => trivial)⟩⟩ rfl rfl hl.1 rfl (lv_room (Nat.le_of_ble_eq_true rfl)) dX5_init_57 ⟨Nat.le_of_ble_eq_true rfl, Nat.le_of_ble_eq_true rfl⟩) hS (fun q _ h => hFc q h) hFc (fun u t H1 locs ht hvm hw hB hz1 hk1 hS => ?_)
  obtain ⟨hP1, hK1, hD1⟩ := hB
  rw [ht] at hP1
  have hK1 := va_K.moved hvm.symm hK1
  try dsimp only at hw
  obtain ⟨hP, hD⟩ := va_join (wr := [(h0, .inr (5, [.ref q_1, .ref q_3, .ref q_5, .ref q_7, .int 0, .int 0, .int 0, .int 0, .int 0, .int 0, .int 0])), (q_1, .inl (cy_2, 40, .inr (.inr (.inr (.inr g_92)))))]) (w1 := [(q_94, .inr (9, [.int 0, .int 0, .int 0, .int 0, .int 0, .int 0, .int 0, .int 0]))]) hP hD [2] [0, 1] rfl rfl (by decide) (by decide) hk1 hFc hP1 hD1
  have hK := hK.app hK1
  generalize H1 = H at hP hS ⊢
  have hP : va_P (dC, dI) vwCl [(h0, .inr (5, [.ref q_1, .ref q_3, .ref q_5, .ref q_7, .int 0, .int 0, .int 0, .int 0, .int 0, .int 0, .int 0])), (q_1, .inl (cy_2, 40, .inr (.inr (.inr (.inr g_92))))), (q_94, .inr (9, [.int 0, .int 0, .int 0, .int 0, .int 0, .int 0, .int 0, .int 0]))] H := hP
  have hD : va_D A [(h0, .inr (5, [.ref q_1, .ref q_3, .ref q_5, .ref q_7, .int 0, .int 0, .int 0, .int 0, .int 0, .int 0, .int 0])), (q_1, .inl (cy_2, 40, .inr (.inr (.inr (.inr g_92))))), (q_94, .inr (9, [.int 0, .int 0, .int 0, .int 0, .int 0, .int 0, .int 0, .int 0]))] := hD
  have hK : va_K (dC, dI) vwCl [(cy_2, .object RX9), (cy_4, .int), (cy_8, .int)] s := hK
  refine W.widen (k := 26) (n := 424) (Nat.le_of_ble_eq_true rfl) (Nat.le_of_ble_eq_true rfl) ?_
  refine va_astq (D := (dC, dI)) (i := 21) hx hb hK hP hD hS 1 0 2 9 (r := (RX9, TX9, 8)) rfl rfl rfl rfl (show ¬ ((21 : Int32) < 0 ∨ 40 ≤ (21 : Int32).toNatClampNeg) by decide +kernel) dX5_init_60 (fun H locs hP hD hS => ?_)
  have hP : va_P (dC, dI) vwCl [(h0, .inr (5, [.ref q_1, .ref q_3, .ref q_5, .ref q_7, .int 0, .int 0, .int 0, .int 0, .int 0, .int 0, .int 0])), (q_1, .inl (cy_2, 40, .inr (.inr (.inr (.inr (va_up (g_92) (21 : Int32).toNatClampNeg (some q_94))))))), (q_94, .inr (9, [.int 0, .int 0, .int 0, .int 0, .int 0, .int 0, .int 0, .int 0]))] H := hP
  have hD : va_D A [(h0, .inr (5, [.ref q_1, .ref q_3, .ref q_5, .ref q_7, .int 0, .int 0, .int 0, .int 0, .int 0, .int 0, .int 0])), (q_1, .inl (cy_2, 40, .inr (.inr (.inr (.inr (va_up (g_92) (21 : Int32).toNatClampNeg (some q_94))))))), (q_94, .inr (9, [.int 0, .int 0, .int 0, .int 0, .int 0, .int 0, .int 0, .int 0]))] := hD
  generalize va_up (g_92) (21 : Int32).toNatClampNeg (some q_94) = g_96 at hP hD
  refine lv_iinc (v := 22) (lv' := [(1, .int 22), (0, .ref h0)]) hx hb dX5_init_61 hl (k := 0) rfl (by decide +kernel) (by decide) rfl (fun ls hl => ?_)
  refine lv_goto (tgt := 42) hx hb dX5_init_64 (by decide) ?_
  have hP := hP.sub (ws' := [(h0, .inr (5, [.ref q_1, .ref q_3, .ref q_5, .ref q_7, .int 0, .int 0, .int 0, .int 0, .int 0, .int 0, .int 0])), (q_1, .inl (cy_2, 40, .inr (.inr (.inr (.inr g_96)))))]) [0, 1] rfl
  have hD := hD.sub (ws' := [(h0, .inr (5, [.ref q_1, .ref q_3, .ref q_5, .ref q_7, .int 0, .int 0, .int 0, .int 0, .int 0, .int 0, .int 0])), (q_1, .inl (cy_2, 40, .inr (.inr (.inr (.inr g_96)))))]) [0, 1] (by decide) rfl
  refine lv_iload_n hx hb dX5_init_42 rfl (lv_at hl 0 rfl) ?_
  refine lv_bipush (v := 40) hx hb dX5_init_43 (by decide +kernel) ?_
  refine lv_icmp_ge (tgt := 67) hx hb dX5_init_45 (by decide) (fun c_97 => absurd c_97 (by decide +kernel)) (fun c_97 => ?_)
  refine lv_aload_n hx hb dX5_init_48 rfl (lv_at hl 1 rfl) ?_
  refine va_get (D := (dC, dI)) (ci := 5) (v := .ref q_1) (C := RX5) (T := TX5) (N := 11) hx hb hts in_c_X5_init_X5 hown hK hP 0 rfl rfl 0 (by decide) (hts (.fieldLink RX5 11 "LawnAhead$History" "states" "[LLawnAhead$State;") (List.mem_of_getElem? (i := 5) rfl)) (fun _ h9 => h9) rfl dX5_init_49 ?_
  refine lv_iload_n hx hb dX5_init_52 rfl (lv_at hl 0 rfl) ?_
  refine va_new (ci := 9) (fs := [.int 0, .int 0, .int 0, .int 0, .int 0, .int 0, .int 0, .int 0]) (C := RX9) (T := TX9) (N := 8) hx hb hts in_c_X5_init_X9 tyX9 tyX9_ok hown (hts (.classLink RX5 9 RX9) (List.mem_of_getElem? (i := 4) rfl)) (hts (.instantiable RX9 8) (List.mem_of_getElem? (i := 8) rfl)) (hts (.initialized RX9) (List.mem_of_getElem? (i := 9) rfl)) hK hP hD hS hA rfl (by decide +kernel) (Nat.le_of_ble_eq_true rfl) (Nat.le_of_ble_eq_true rfl) dX5_init_53 (fun q_98 H hP hD hS => ?_)
  have hP : va_P (dC, dI) vwCl [(h0, .inr (5, [.ref q_1, .ref q_3, .ref q_5, .ref q_7, .int 0, .int 0, .int 0, .int 0, .int 0, .int 0, .int 0])), (q_1, .inl (cy_2, 40, .inr (.inr (.inr (.inr g_96))))), (q_98, .inr (9, [.int 0, .int 0, .int 0, .int 0, .int 0, .int 0, .int 0, .int 0]))] H := hP
  have hD : va_D A [(h0, .inr (5, [.ref q_1, .ref q_3, .ref q_5, .ref q_7, .int 0, .int 0, .int 0, .int 0, .int 0, .int 0, .int 0])), (q_1, .inl (cy_2, 40, .inr (.inr (.inr (.inr g_96))))), (q_98, .inr (9, [.int 0, .int 0, .int 0, .int 0, .int 0, .int 0, .int 0, .int 0]))] := hD
  refine W.widen (k := 27) (n := 432) (Nat.le_of_ble_eq_true rfl) (Nat.le_of_ble_eq_true rfl) ?_
  refine lv_dup hx hb dX5_init_56 rfl ?_
  have hPc := hP.sub (ws' := [(q_98, .inr (9, [.int 0, .int 0, .int 0, .int 0, .int 0, .int 0, .int 0, .int 0]))]) [2] rfl
  have hDc := hD.sub (ws' := [(q_98, .inr (9, [.int 0, .int 0, .int 0, .int 0, .int 0, .int 0, .int 0, .int 0]))]) [2] (by decide) rfl
  have hKc := hK.sub (tys' := []) [] rfl
  have hFc := va_free (wc := [(q_98, .inr (9, [.int 0, .int 0, .int 0, .int 0, .int 0, .int 0, .int 0, .int 0]))]) hD hS hA [2] rfl
  refine va_callv (va_runIN (As := []) (rest := [.ref q_98, .int 22, .ref q_1]) ⟨hx, hb, hml, hown, hts⟩ (c_X9_init l dC dI q_98 H.size) ⟨va_cnB 0 hts g_c_X5_init_57_c_X9_init rfl rfl rfl hNX5_X9 (hts (.initialized RX9) (List.mem_of_getElem? (i := 9) rfl)) (by decide +kernel) ⟨Nat.le_of_ble_eq_true rfl, Nat.le_of_ble_eq_true rfl⟩, rfl, (hts (.instanceMethod yX9_init) (List.mem_of_getElem? (i := 12) rfl))⟩ ⟨fun a U g mk q => by obtain ⟨q0, q1, qP, qK, qD⟩ := q; exact ⟨q0, q1, qP, va_K.moved (u := U) (U := U.calling g mk a) (Vm.Alike.refl U.vm) qK, qD⟩, fun U hU hW => ⟨rfl, by rw [hU], by rw [hU]; exact hPc, va_K.moved hW.alike hKc, hDc.weaken (fun _ _ _ _ => trivial)⟩⟩ rfl rfl hl.1 rfl (lv_room (Nat.le_of_ble_eq_true rfl)) dX5_init_57 ⟨Nat.le_of_ble_eq_true rfl, Nat.le_of_ble_eq_true rfl⟩) hS (fun q _ h => hFc q h) hFc (fun u t H1 locs ht hvm hw hB hz1 hk1 hS => ?_)
  obtain ⟨hP1, hK1, hD1⟩ := hB
  rw [ht] at hP1
  have hK1 := va_K.moved hvm.symm hK1
  try dsimp only at hw
  obtain ⟨hP, hD⟩ := va_join (wr := [(h0, .inr (5, [.ref q_1, .ref q_3, .ref q_5, .ref q_7, .int 0, .int 0, .int 0, .int 0, .int 0, .int 0, .int 0])), (q_1, .inl (cy_2, 40, .inr (.inr (.inr (.inr g_96)))))]) (w1 := [(q_98, .inr (9, [.int 0, .int 0, .int 0, .int 0, .int 0, .int 0, .int 0, .int 0]))]) hP hD [2] [0, 1] rfl rfl (by decide) (by decide) hk1 hFc hP1 hD1
  have hK := hK.app hK1
  generalize H1 = H at hP hS ⊢
  have hP : va_P (dC, dI) vwCl [(h0, .inr (5, [.ref q_1, .ref q_3, .ref q_5, .ref q_7, .int 0, .int 0, .int 0, .int 0, .int 0, .int 0, .int 0])), (q_1, .inl (cy_2, 40, .inr (.inr (.inr (.inr g_96))))), (q_98, .inr (9, [.int 0, .int 0, .int 0, .int 0, .int 0, .int 0, .int 0, .int 0]))] H := hP
  have hD : va_D A [(h0, .inr (5, [.ref q_1, .ref q_3, .ref q_5, .ref q_7, .int 0, .int 0, .int 0, .int 0, .int 0, .int 0, .int 0])), (q_1, .inl (cy_2, 40, .inr (.inr (.inr (.inr g_96))))), (q_98, .inr (9, [.int 0, .int 0, .int 0, .int 0, .int 0, .int 0, .int 0, .int 0]))] := hD
  have hK : va_K (dC, dI) vwCl [(cy_2, .object RX9), (cy_4, .int), (cy_8, .int)] s := hK
  refine W.widen (k := 27) (n := 432) (Nat.le_of_ble_eq_true rfl) (Nat.le_of_ble_eq_true rfl) ?_
  refine va_astq (D := (dC, dI)) (i := 22) hx hb hK hP hD hS 1 0 2 9 (r := (RX9, TX9, 8)) rfl rfl rfl rfl (show ¬ ((22 : Int32) < 0 ∨ 40 ≤ (22 : Int32).toNatClampNeg) by decide +kernel) dX5_init_60 (fun H locs hP hD hS => ?_)
  have hP : va_P (dC, dI) vwCl [(h0, .inr (5, [.ref q_1, .ref q_3, .ref q_5, .ref q_7, .int 0, .int 0, .int 0, .int 0, .int 0, .int 0, .int 0])), (q_1, .inl (cy_2, 40, .inr (.inr (.inr (.inr (va_up (g_96) (22 : Int32).toNatClampNeg (some q_98))))))), (q_98, .inr (9, [.int 0, .int 0, .int 0, .int 0, .int 0, .int 0, .int 0, .int 0]))] H := hP
  have hD : va_D A [(h0, .inr (5, [.ref q_1, .ref q_3, .ref q_5, .ref q_7, .int 0, .int 0, .int 0, .int 0, .int 0, .int 0, .int 0])), (q_1, .inl (cy_2, 40, .inr (.inr (.inr (.inr (va_up (g_96) (22 : Int32).toNatClampNeg (some q_98))))))), (q_98, .inr (9, [.int 0, .int 0, .int 0, .int 0, .int 0, .int 0, .int 0, .int 0]))] := hD
  generalize va_up (g_96) (22 : Int32).toNatClampNeg (some q_98) = g_100 at hP hD
  refine lv_iinc (v := 23) (lv' := [(1, .int 23), (0, .ref h0)]) hx hb dX5_init_61 hl (k := 0) rfl (by decide +kernel) (by decide) rfl (fun ls hl => ?_)
  refine lv_goto (tgt := 42) hx hb dX5_init_64 (by decide) ?_
  have hP := hP.sub (ws' := [(h0, .inr (5, [.ref q_1, .ref q_3, .ref q_5, .ref q_7, .int 0, .int 0, .int 0, .int 0, .int 0, .int 0, .int 0])), (q_1, .inl (cy_2, 40, .inr (.inr (.inr (.inr g_100)))))]) [0, 1] rfl
  have hD := hD.sub (ws' := [(h0, .inr (5, [.ref q_1, .ref q_3, .ref q_5, .ref q_7, .int 0, .int 0, .int 0, .int 0, .int 0, .int 0, .int 0])), (q_1, .inl (cy_2, 40, .inr (.inr (.inr (.inr g_100)))))]) [0, 1] (by decide) rfl
  refine lv_iload_n hx hb dX5_init_42 rfl (lv_at hl 0 rfl) ?_
  refine lv_bipush (v := 40) hx hb dX5_init_43 (by decide +kernel) ?_
  refine lv_icmp_ge (tgt := 67) hx hb dX5_init_45 (by decide) (fun c_101 => absurd c_101 (by decide +kernel)) (fun c_101 => ?_)
  refine lv_aload_n hx hb dX5_init_48 rfl (lv_at hl 1 rfl) ?_
  refine va_get (D := (dC, dI)) (ci := 5) (v := .ref q_1) (C := RX5) (T := TX5) (N := 11) hx hb hts in_c_X5_init_X5 hown hK hP 0 rfl rfl 0 (by decide) (hts (.fieldLink RX5 11 "LawnAhead$History" "states" "[LLawnAhead$State;") (List.mem_of_getElem? (i := 5) rfl)) (fun _ h9 => h9) rfl dX5_init_49 ?_
  refine lv_iload_n hx hb dX5_init_52 rfl (lv_at hl 0 rfl) ?_
  refine va_new (ci := 9) (fs := [.int 0, .int 0, .int 0, .int 0, .int 0, .int 0, .int 0, .int 0]) (C := RX9) (T := TX9) (N := 8) hx hb hts in_c_X5_init_X9 tyX9 tyX9_ok hown (hts (.classLink RX5 9 RX9) (List.mem_of_getElem? (i := 4) rfl)) (hts (.instantiable RX9 8) (List.mem_of_getElem? (i := 8) rfl)) (hts (.initialized RX9) (List.mem_of_getElem? (i := 9) rfl)) hK hP hD hS hA rfl (by decide +kernel) (Nat.le_of_ble_eq_true rfl) (Nat.le_of_ble_eq_true rfl) dX5_init_53 (fun q_102 H hP hD hS => ?_)
  have hP : va_P (dC, dI) vwCl [(h0, .inr (5, [.ref q_1, .ref q_3, .ref q_5, .ref q_7, .int 0, .int 0, .int 0, .int 0, .int 0, .int 0, .int 0])), (q_1, .inl (cy_2, 40, .inr (.inr (.inr (.inr g_100))))), (q_102, .inr (9, [.int 0, .int 0, .int 0, .int 0, .int 0, .int 0, .int 0, .int 0]))] H := hP
  have hD : va_D A [(h0, .inr (5, [.ref q_1, .ref q_3, .ref q_5, .ref q_7, .int 0, .int 0, .int 0, .int 0, .int 0, .int 0, .int 0])), (q_1, .inl (cy_2, 40, .inr (.inr (.inr (.inr g_100))))), (q_102, .inr (9, [.int 0, .int 0, .int 0, .int 0, .int 0, .int 0, .int 0, .int 0]))] := hD
  refine W.widen (k := 28) (n := 440) (Nat.le_of_ble_eq_true rfl) (Nat.le_of_ble_eq_true rfl) ?_
  refine lv_dup hx hb dX5_init_56 rfl ?_
  have hPc := hP.sub (ws' := [(q_102, .inr (9, [.int 0, .int 0, .int 0, .int 0, .int 0, .int 0, .int 0, .int 0]))]) [2] rfl
  have hDc := hD.sub (ws' := [(q_102, .inr (9, [.int 0, .int 0, .int 0, .int 0, .int 0, .int 0, .int 0, .int 0]))]) [2] (by decide) rfl
  have hKc := hK.sub (tys' := []) [] rfl
  have hFc := va_free (wc := [(q_102, .inr (9, [.int 0, .int 0, .int 0, .int 0, .int 0, .int 0, .int 0, .int 0]))]) hD hS hA [2] rfl
  refine va_callv (va_runIN (As := []) (rest := [.ref q_102, .int 23, .ref q_1]) ⟨hx, hb, hml, hown, hts⟩ (c_X9_init l dC dI q_102 H.size) ⟨va_cnB 0 hts g_c_X5_init_57_c_X9_init rfl rfl rfl hNX5_X9 (hts (.initialized RX9) (List.mem_of_getElem? (i := 9) rfl)) (by decide +kernel) ⟨Nat.le_of_ble_eq_true rfl, Nat.le_of_ble_eq_true rfl⟩, rfl, (hts (.instanceMethod yX9_init) (List.mem_of_getElem? (i := 12) rfl))⟩ ⟨fun a U g mk q => by obtain ⟨q0, q1, qP, qK, qD⟩ := q; exact ⟨q0, q1, qP, va_K.moved (u := U) (U := U.calling g mk a) (Vm.Alike.refl U.vm) qK, qD⟩, fun U hU hW => ⟨rfl, by rw [hU], by rw [hU]; exact hPc, va_K.moved hW.alike hKc, hDc.weaken (fun _ _ _ _ => trivial)⟩⟩ rfl rfl hl.1 rfl (lv_room (Nat.le_of_ble_eq_true rfl)) dX5_init_57 ⟨Nat.le_of_ble_eq_true rfl, Nat.le_of_ble_eq_true rfl⟩) hS (fun q _ h => hFc q h) hFc (fun u t H1 locs ht hvm hw hB hz1 hk1 hS => ?_)
  obtain ⟨hP1, hK1, hD1⟩ := hB
  rw [ht] at hP1
  have hK1 := va_K.moved hvm.symm hK1
  try dsimp only at hw
  obtain ⟨hP, hD⟩ := va_join (wr := [(h0, .inr (5, [.ref q_1, .ref q_3, .ref q_5, .ref q_7, .int 0, .int 0, .int 0, .int 0, .int 0, .int 0, .int 0])), (q_1, .inl (cy_2, 40, .inr (.inr (.inr (.inr g_100)))))]) (w1 := [(q_102, .inr (9, [.int 0, .int 0, .int 0, .int 0, .int 0, .int 0, .int 0, .int 0]))]) hP hD [2] [0, 1] rfl rfl (by decide) (by decide) hk1 hFc hP1 hD1
  have hK := hK.app hK1
  generalize H1 = H at hP hS ⊢
  have hP : va_P (dC, dI) vwCl [(h0, .inr (5, [.ref q_1, .ref q_3, .ref q_5, .ref q_7, .int 0, .int 0, .int 0, .int 0, .int 0, .int 0, .int 0])), (q_1, .inl (cy_2, 40, .inr (.inr (.inr (.inr g_100))))), (q_102, .inr (9, [.int 0, .int 0, .int 0, .int 0, .int 0, .int 0, .int 0, .int 0]))] H := hP
  have hD : va_D A [(h0, .inr (5, [.ref q_1, .ref q_3, .ref q_5, .ref q_7, .int 0, .int 0, .int 0, .int 0, .int 0, .int 0, .int 0])), (q_1, .inl (cy_2, 40, .inr (.inr (.inr (.inr g_100))))), (q_102, .inr (9, [.int 0, .int 0, .int 0, .int 0, .int 0, .int 0, .int 0, .int 0]))] := hD
  have hK : va_K (dC, dI) vwCl [(cy_2, .object RX9), (cy_4, .int), (cy_8, .int)] s := hK
  refine W.widen (k := 28) (n := 440) (Nat.le_of_ble_eq_true rfl) (Nat.le_of_ble_eq_true rfl) ?_
  refine va_astq (D := (dC, dI)) (i := 23) hx hb hK hP hD hS 1 0 2 9 (r := (RX9, TX9, 8)) rfl rfl rfl rfl (show ¬ ((23 : Int32) < 0 ∨ 40 ≤ (23 : Int32).toNatClampNeg) by decide +kernel) dX5_init_60 (fun H locs hP hD hS => ?_)
  have hP : va_P (dC, dI) vwCl [(h0, .inr (5, [.ref q_1, .ref q_3, .ref q_5, .ref q_7, .int 0, .int 0, .int 0, .int 0, .int 0, .int 0, .int 0])), (q_1, .inl (cy_2, 40, .inr (.inr (.inr (.inr (va_up (g_100) (23 : Int32).toNatClampNeg (some q_102))))))), (q_102, .inr (9, [.int 0, .int 0, .int 0, .int 0, .int 0, .int 0, .int 0, .int 0]))] H := hP
  have hD : va_D A [(h0, .inr (5, [.ref q_1, .ref q_3, .ref q_5, .ref q_7, .int 0, .int 0, .int 0, .int 0, .int 0, .int 0, .int 0])), (q_1, .inl (cy_2, 40, .inr (.inr (.inr (.inr (va_up (g_100) (23 : Int32).toNatClampNeg (some q_102))))))), (q_102, .inr (9, [.int 0, .int 0, .int 0, .int 0, .int 0, .int 0, .int 0, .int 0]))] := hD
  generalize va_up (g_100) (23 : Int32).toNatClampNeg (some q_102) = g_104 at hP hD
  refine lv_iinc (v := 24) (lv' := [(1, .int 24), (0, .ref h0)]) hx hb dX5_init_61 hl (k := 0) rfl (by decide +kernel) (by decide) rfl (fun ls hl => ?_)
  refine lv_goto (tgt := 42) hx hb dX5_init_64 (by decide) ?_
  have hP := hP.sub (ws' := [(h0, .inr (5, [.ref q_1, .ref q_3, .ref q_5, .ref q_7, .int 0, .int 0, .int 0, .int 0, .int 0, .int 0, .int 0])), (q_1, .inl (cy_2, 40, .inr (.inr (.inr (.inr g_104)))))]) [0, 1] rfl
  have hD := hD.sub (ws' := [(h0, .inr (5, [.ref q_1, .ref q_3, .ref q_5, .ref q_7, .int 0, .int 0, .int 0, .int 0, .int 0, .int 0, .int 0])), (q_1, .inl (cy_2, 40, .inr (.inr (.inr (.inr g_104)))))]) [0, 1] (by decide) rfl
  refine lv_iload_n hx hb dX5_init_42 rfl (lv_at hl 0 rfl) ?_
  refine lv_bipush (v := 40) hx hb dX5_init_43 (by decide +kernel) ?_
  refine lv_icmp_ge (tgt := 67) hx hb dX5_init_45 (by decide) (fun c_105 => absurd c_105 (by decide +kernel)) (fun c_105 => ?_)
  refine lv_aload_n hx hb dX5_init_48 rfl (lv_at hl 1 rfl) ?_
  refine va_get (D := (dC, dI)) (ci := 5) (v := .ref q_1) (C := RX5) (T := TX5) (N := 11) hx hb hts in_c_X5_init_X5 hown hK hP 0 rfl rfl 0 (by decide) (hts (.fieldLink RX5 11 "LawnAhead$History" "states" "[LLawnAhead$State;") (List.mem_of_getElem? (i := 5) rfl)) (fun _ h9 => h9) rfl dX5_init_49 ?_
  refine lv_iload_n hx hb dX5_init_52 rfl (lv_at hl 0 rfl) ?_
  refine va_new (ci := 9) (fs := [.int 0, .int 0, .int 0, .int 0, .int 0, .int 0, .int 0, .int 0]) (C := RX9) (T := TX9) (N := 8) hx hb hts in_c_X5_init_X9 tyX9 tyX9_ok hown (hts (.classLink RX5 9 RX9) (List.mem_of_getElem? (i := 4) rfl)) (hts (.instantiable RX9 8) (List.mem_of_getElem? (i := 8) rfl)) (hts (.initialized RX9) (List.mem_of_getElem? (i := 9) rfl)) hK hP hD hS hA rfl (by decide +kernel) (Nat.le_of_ble_eq_true rfl) (Nat.le_of_ble_eq_true rfl) dX5_init_53 (fun q_106 H hP hD hS => ?_)
  have hP : va_P (dC, dI) vwCl [(h0, .inr (5, [.ref q_1, .ref q_3, .ref q_5, .ref q_7, .int 0, .int 0, .int 0, .int 0, .int 0, .int 0, .int 0])), (q_1, .inl (cy_2, 40, .inr (.inr (.inr (.inr g_104))))), (q_106, .inr (9, [.int 0, .int 0, .int 0, .int 0, .int 0, .int 0, .int 0, .int 0]))] H := hP
  have hD : va_D A [(h0, .inr (5, [.ref q_1, .ref q_3, .ref q_5, .ref q_7, .int 0, .int 0, .int 0, .int 0, .int 0, .int 0, .int 0])), (q_1, .inl (cy_2, 40, .inr (.inr (.inr (.inr g_104))))), (q_106, .inr (9, [.int 0, .int 0, .int 0, .int 0, .int 0, .int 0, .int 0, .int 0]))] := hD
  refine W.widen (k := 29) (n := 448) (Nat.le_of_ble_eq_true rfl) (Nat.le_of_ble_eq_true rfl) ?_
  refine lv_dup hx hb dX5_init_56 rfl ?_
  have hPc := hP.sub (ws' := [(q_106, .inr (9, [.int 0, .int 0, .int 0, .int 0, .int 0, .int 0, .int 0, .int 0]))]) [2] rfl
  have hDc := hD.sub (ws' := [(q_106, .inr (9, [.int 0, .int 0, .int 0, .int 0, .int 0, .int 0, .int 0, .int 0]))]) [2] (by decide) rfl
  have hKc := hK.sub (tys' := []) [] rfl
  have hFc := va_free (wc := [(q_106, .inr (9, [.int 0, .int 0, .int 0, .int 0, .int 0, .int 0, .int 0, .int 0]))]) hD hS hA [2] rfl
  refine va_callv (va_runIN (As := []) (rest := [.ref q_106, .int 24, .ref q_1]) ⟨hx, hb, hml, hown, hts⟩ (c_X9_init l dC dI q_106 H.size) ⟨va_cnB 0 hts g_c_X5_init_57_c_X9_init rfl rfl rfl hNX5_X9 (hts (.initialized RX9) (List.mem_of_getElem? (i := 9) rfl)) (by decide +kernel) ⟨Nat.le_of_ble_eq_true rfl, Nat.le_of_ble_eq_true rfl⟩, rfl, (hts (.instanceMethod yX9_init) (List.mem_of_getElem? (i := 12) rfl))⟩ ⟨fun a U g mk q => by obtain ⟨q0, q1, qP, qK, qD⟩ := q; exact ⟨q0, q1, qP, va_K.moved (u := U) (U := U.calling g mk a) (Vm.Alike.refl U.vm) qK, qD⟩, fun U hU hW => ⟨rfl, by rw [hU], by rw [hU]; exact hPc, va_K.moved hW.alike hKc, hDc.weaken (fun _ _ _ _ => trivial)⟩⟩ rfl rfl hl.1 rfl (lv_room (Nat.le_of_ble_eq_true rfl)) dX5_init_57 ⟨Nat.le_of_ble_eq_true rfl, Nat.le_of_ble_eq_true rfl⟩) hS (fun q _ h => hFc q h) hFc (fun u t H1 locs ht hvm hw hB hz1 hk1 hS => ?_)
  obtain ⟨hP1, hK1, hD1⟩ := hB
  rw [ht] at hP1
  have hK1 := va_K.moved hvm.symm hK1
  try dsimp only at hw
  obtain ⟨hP, hD⟩ := va_join (wr := [(h0, .inr (5, [.ref q_1, .ref q_3, .ref q_5, .ref q_7, .int 0, .int 0, .int 0, .int 0, .int 0, .int 0, .int 0])), (q_1, .inl (cy_2, 40, .inr (.inr (.inr (.inr g_104)))))]) (w1 := [(q_106, .inr (9, [.int 0, .int 0, .int 0, .int 0, .int 0, .int 0, .int 0, .int 0]))]) hP hD [2] [0, 1] rfl rfl (by decide) (by decide) hk1 hFc hP1 hD1
  have hK := hK.app hK1
  generalize H1 = H at hP hS ⊢
  have hP : va_P (dC, dI) vwCl [(h0, .inr (5, [.ref q_1, .ref q_3, .ref q_5, .ref q_7, .int 0, .int 0, .int 0, .int 0, .int 0, .int 0, .int 0])), (q_1, .inl (cy_2, 40, .inr (.inr (.inr (.inr g_104))))), (q_106, .inr (9, [.int 0, .int 0, .int 0, .int 0, .int 0, .int 0, .int 0, .int 0]))] H := hP
  have hD : va_D A [(h0, .inr (5, [.ref q_1, .ref q_3, .ref q_5, .ref q_7, .int 0, .int 0, .int 0, .int 0, .int 0, .int 0, .int 0])), (q_1, .inl (cy_2, 40, .inr (.inr (.inr (.inr g_104))))), (q_106, .inr (9, [.int 0, .int 0, .int 0, .int 0, .int 0, .int 0, .int 0, .int 0]))] := hD
  have hK : va_K (dC, dI) vwCl [(cy_2, .object RX9), (cy_4, .int), (cy_8, .int)] s := hK
  refine W.widen (k := 29) (n := 448) (Nat.le_of_ble_eq_true rfl) (Nat.le_of_ble_eq_true rfl) ?_
  refine va_astq (D := (dC, dI)) (i := 24) hx hb hK hP hD hS 1 0 2 9 (r := (RX9, TX9, 8)) rfl rfl rfl rfl (show ¬ ((24 : Int32) < 0 ∨ 40 ≤ (24 : Int32).toNatClampNeg) by decide +kernel) dX5_init_60 (fun H locs hP hD hS => ?_)
  have hP : va_P (dC, dI) vwCl [(h0, .inr (5, [.ref q_1, .ref q_3, .ref q_5, .ref q_7, .int 0, .int 0, .int 0, .int 0, .int 0, .int 0, .int 0])), (q_1, .inl (cy_2, 40, .inr (.inr (.inr (.inr (va_up (g_104) (24 : Int32).toNatClampNeg (some q_106))))))), (q_106, .inr (9, [.int 0, .int 0, .int 0, .int 0, .int 0, .int 0, .int 0, .int 0]))] H := hP
  have hD : va_D A [(h0, .inr (5, [.ref q_1, .ref q_3, .ref q_5, .ref q_7, .int 0, .int 0, .int 0, .int 0, .int 0, .int 0, .int 0])), (q_1, .inl (cy_2, 40, .inr (.inr (.inr (.inr (va_up (g_104) (24 : Int32).toNatClampNeg (some q_106))))))), (q_106, .inr (9, [.int 0, .int 0, .int 0, .int 0, .int 0, .int 0, .int 0, .int 0]))] := hD
  generalize va_up (g_104) (24 : Int32).toNatClampNeg (some q_106) = g_108 at hP hD
  refine lv_iinc (v := 25) (lv' := [(1, .int 25), (0, .ref h0)]) hx hb dX5_init_61 hl (k := 0) rfl (by decide +kernel) (by decide) rfl (fun ls hl => ?_)
  refine lv_goto (tgt := 42) hx hb dX5_init_64 (by decide) ?_
  have hP := hP.sub (ws' := [(h0, .inr (5, [.ref q_1, .ref q_3, .ref q_5, .ref q_7, .int 0, .int 0, .int 0, .int 0, .int 0, .int 0, .int 0])), (q_1, .inl (cy_2, 40, .inr (.inr (.inr (.inr g_108)))))]) [0, 1] rfl
  have hD := hD.sub (ws' := [(h0, .inr (5, [.ref q_1, .ref q_3, .ref q_5, .ref q_7, .int 0, .int 0, .int 0, .int 0, .int 0, .int 0, .int 0])), (q_1, .inl (cy_2, 40, .inr (.inr (.inr (.inr g_108)))))]) [0, 1] (by decide) rfl
  refine lv_iload_n hx hb dX5_init_42 rfl (lv_at hl 0 rfl) ?_
  refine lv_bipush (v := 40) hx hb dX5_init_43 (by decide +kernel) ?_
  refine lv_icmp_ge (tgt := 67) hx hb dX5_init_45 (by decide) (fun c_109 => absurd c_109 (by decide +kernel)) (fun c_109 => ?_)
  refine lv_aload_n hx hb dX5_init_48 rfl (lv_at hl 1 rfl) ?_
  refine va_get (D := (dC, dI)) (ci := 5) (v := .ref q_1) (C := RX5) (T := TX5) (N := 11) hx hb hts in_c_X5_init_X5 hown hK hP 0 rfl rfl 0 (by decide) (hts (.fieldLink RX5 11 "LawnAhead$History" "states" "[LLawnAhead$State;") (List.mem_of_getElem? (i := 5) rfl)) (fun _ h9 => h9) rfl dX5_init_49 ?_
  refine lv_iload_n hx hb dX5_init_52 rfl (lv_at hl 0 rfl) ?_
  refine va_new (ci := 9) (fs := [.int 0, .int 0, .int 0, .int 0, .int 0, .int 0, .int 0, .int 0]) (C := RX9) (T := TX9) (N := 8) hx hb hts in_c_X5_init_X9 tyX9 tyX9_ok hown (hts (.classLink RX5 9 RX9) (List.mem_of_getElem? (i := 4) rfl)) (hts (.instantiable RX9 8) (List.mem_of_getElem? (i := 8) rfl)) (hts (.initialized RX9) (List.mem_of_getElem? (i := 9) rfl)) hK hP hD hS hA rfl (by decide +kernel) (Nat.le_of_ble_eq_true rfl) (Nat.le_of_ble_eq_true rfl) dX5_init_53 (fun q_110 H hP hD hS => ?_)
  have hP : va_P (dC, dI) vwCl [(h0, .inr (5, [.ref q_1, .ref q_3, .ref q_5, .ref q_7, .int 0, .int 0, .int 0, .int 0, .int 0, .int 0, .int 0])), (q_1, .inl (cy_2, 40, .inr (.inr (.inr (.inr g_108))))), (q_110, .inr (9, [.int 0, .int 0, .int 0, .int 0, .int 0, .int 0, .int 0, .int 0]))] H := hP
  have hD : va_D A [(h0, .inr (5, [.ref q_1, .ref q_3, .ref q_5, .ref q_7, .int 0, .int 0, .int 0, .int 0, .int 0, .int 0, .int 0])), (q_1, .inl (cy_2, 40, .inr (.inr (.inr (.inr g_108))))), (q_110, .inr (9, [.int 0, .int 0, .int 0, .int 0, .int 0, .int 0, .int 0, .int 0]))] := hD
  refine W.widen (k := 30) (n := 456) (Nat.le_of_ble_eq_true rfl) (Nat.le_of_ble_eq_true rfl) ?_
  refine lv_dup hx hb dX5_init_56 rfl ?_
  have hPc := hP.sub (ws' := [(q_110, .inr (9, [.int 0, .int 0, .int 0, .int 0, .int 0, .int 0, .int 0, .int 0]))]) [2] rfl
  have hDc := hD.sub (ws' := [(q_110, .inr (9, [.int 0, .int 0, .int 0, .int 0, .int 0, .int 0, .int 0, .int 0]))]) [2] (by decide) rfl
  have hKc := hK.sub (tys' := []) [] rfl
  have hFc := va_free (wc := [(q_110, .inr (9, [.int 0, .int 0, .int 0, .int 0, .int 0, .int 0, .int 0, .int 0]))]) hD hS hA [2] rfl
  refine va_callv (va_runIN (As := []) (rest := [.ref q_110, .int 25, .ref q_1]) ⟨hx, hb, hml, hown, hts⟩ (c_X9_init l dC dI q_110 H.size) ⟨va_cnB 0 hts g_c_X5_init_57_c_X9_init rfl rfl rfl hNX5_X9 (hts (.initialized RX9) (List.mem_of_getElem? (i := 9) rfl)) (by decide +kernel) ⟨Nat.le_of_ble_eq_true rfl, Nat.le_of_ble_eq_true rfl⟩, rfl, (hts (.instanceMethod yX9_init) (List.mem_of_getElem? (i := 12) rfl))⟩ ⟨fun a U g mk q => by obtain ⟨q0, q1, qP, qK, qD⟩ := q; exact ⟨q0, q1, qP, va_K.moved (u := U) (U := U.calling g mk a) (Vm.Alike.refl U.vm) qK, qD⟩, fun U hU hW => ⟨rfl, by rw [hU], by rw [hU]; exact hPc, va_K.moved hW.alike hKc, hDc.weaken (fun _ _ _ _ => trivial)⟩⟩ rfl rfl hl.1 rfl (lv_room (Nat.le_of_ble_eq_true rfl)) dX5_init_57 ⟨Nat.le_of_ble_eq_true rfl, Nat.le_of_ble_eq_true rfl⟩) hS (fun q _ h => hFc q h) hFc (fun u t H1 locs ht hvm hw hB hz1 hk1 hS => ?_)
  obtain ⟨hP1, hK1, hD1⟩ := hB
  rw [ht] at hP1
  have hK1 := va_K.moved hvm.symm hK1
  try dsimp only at hw
  obtain ⟨hP, hD⟩ := va_join (wr := [(h0, .inr (5, [.ref q_1, .ref q_3, .ref q_5, .ref q_7, .int 0, .int 0, .int 0, .int 0, .int 0, .int 0, .int 0])), (q_1, .inl (cy_2, 40, .inr (.inr (.inr (.inr g_108)))))]) (w1 := [(q_110, .inr (9, [.int 0, .int 0, .int 0, .int 0, .int 0, .int 0, .int 0, .int 0]))]) hP hD [2] [0, 1] rfl rfl (by decide) (by decide) hk1 hFc hP1 hD1
  have hK := hK.app hK1
  generalize H1 = H at hP hS ⊢
  have hP : va_P (dC, dI) vwCl [(h0, .inr (5, [.ref q_1, .ref q_3, .ref q_5, .ref q_7, .int 0, .int 0, .int 0, .int 0, .int 0, .int 0, .int 0])), (q_1, .inl (cy_2, 40, .inr (.inr (.inr (.inr g_108))))), (q_110, .inr (9, [.int 0, .int 0, .int 0, .int 0, .int 0, .int 0, .int 0, .int 0]))] H := hP
  have hD : va_D A [(h0, .inr (5, [.ref q_1, .ref q_3, .ref q_5, .ref q_7, .int 0, .int 0, .int 0, .int 0, .int 0, .int 0, .int 0])), (q_1, .inl (cy_2, 40, .inr (.inr (.inr (.inr g_108))))), (q_110, .inr (9, [.int 0, .int 0, .int 0, .int 0, .int 0, .int 0, .int 0, .int 0]))] := hD
  have hK : va_K (dC, dI) vwCl [(cy_2, .object RX9), (cy_4, .int), (cy_8, .int)] s := hK
  refine W.widen (k := 30) (n := 456) (Nat.le_of_ble_eq_true rfl) (Nat.le_of_ble_eq_true rfl) ?_
  refine va_astq (D := (dC, dI)) (i := 25) hx hb hK hP hD hS 1 0 2 9 (r := (RX9, TX9, 8)) rfl rfl rfl rfl (show ¬ ((25 : Int32) < 0 ∨ 40 ≤ (25 : Int32).toNatClampNeg) by decide +kernel) dX5_init_60 (fun H locs hP hD hS => ?_)
  have hP : va_P (dC, dI) vwCl [(h0, .inr (5, [.ref q_1, .ref q_3, .ref q_5, .ref q_7, .int 0, .int 0, .int 0, .int 0, .int 0, .int 0, .int 0])), (q_1, .inl (cy_2, 40, .inr (.inr (.inr (.inr (va_up (g_108) (25 : Int32).toNatClampNeg (some q_110))))))), (q_110, .inr (9, [.int 0, .int 0, .int 0, .int 0, .int 0, .int 0, .int 0, .int 0]))] H := hP
  have hD : va_D A [(h0, .inr (5, [.ref q_1, .ref q_3, .ref q_5, .ref q_7, .int 0, .int 0, .int 0, .int 0, .int 0, .int 0, .int 0])), (q_1, .inl (cy_2, 40, .inr (.inr (.inr (.inr (va_up (g_108) (25 : Int32).toNatClampNeg (some q_110))))))), (q_110, .inr (9, [.int 0, .int 0, .int 0, .int 0, .int 0, .int 0, .int 0, .int 0]))] := hD
  generalize va_up (g_108) (25 : Int32).toNatClampNeg (some q_110) = g_112 at hP hD
  refine lv_iinc (v := 26) (lv' := [(1, .int 26), (0, .ref h0)]) hx hb dX5_init_61 hl (k := 0) rfl (by decide +kernel) (by decide) rfl (fun ls hl => ?_)
  refine lv_goto (tgt := 42) hx hb dX5_init_64 (by decide) ?_
  have hP := hP.sub (ws' := [(h0, .inr (5, [.ref q_1, .ref q_3, .ref q_5, .ref q_7, .int 0, .int 0, .int 0, .int 0, .int 0, .int 0, .int 0])), (q_1, .inl (cy_2, 40, .inr (.inr (.inr (.inr g_112)))))]) [0, 1] rfl
  have hD := hD.sub (ws' := [(h0, .inr (5, [.ref q_1, .ref q_3, .ref q_5, .ref q_7, .int 0, .int 0, .int 0, .int 0, .int 0, .int 0, .int 0])), (q_1, .inl (cy_2, 40, .inr (.inr (.inr (.inr g_112)))))]) [0, 1] (by decide) rfl
  refine lv_iload_n hx hb dX5_init_42 rfl (lv_at hl 0 rfl) ?_
  refine lv_bipush (v := 40) hx hb dX5_init_43 (by decide +kernel) ?_
  refine lv_icmp_ge (tgt := 67) hx hb dX5_init_45 (by decide) (fun c_113 => absurd c_113 (by decide +kernel)) (fun c_113 => ?_)
  refine lv_aload_n hx hb dX5_init_48 rfl (lv_at hl 1 rfl) ?_
  refine va_get (D := (dC, dI)) (ci := 5) (v := .ref q_1) (C := RX5) (T := TX5) (N := 11) hx hb hts in_c_X5_init_X5 hown hK hP 0 rfl rfl 0 (by decide) (hts (.fieldLink RX5 11 "LawnAhead$History" "states" "[LLawnAhead$State;") (List.mem_of_getElem? (i := 5) rfl)) (fun _ h9 => h9) rfl dX5_init_49 ?_
  refine lv_iload_n hx hb dX5_init_52 rfl (lv_at hl 0 rfl) ?_
  refine va_new (ci := 9) (fs := [.int 0, .int 0, .int 0, .int 0, .int 0, .int 0, .int 0, .int 0]) (C := RX9) (T := TX9) (N := 8) hx hb hts in_c_X5_init_X9 tyX9 tyX9_ok hown (hts (.classLink RX5 9 RX9) (List.mem_of_getElem? (i := 4) rfl)) (hts (.instantiable RX9 8) (List.mem_of_getElem? (i := 8) rfl)) (hts (.initialized RX9) (List.mem_of_getElem? (i := 9) rfl)) hK hP hD hS hA rfl (by decide +kernel) (Nat.le_of_ble_eq_true rfl) (Nat.le_of_ble_eq_true rfl) dX5_init_53 (fun q_114 H hP hD hS => ?_)
  have hP : va_P (dC, dI) vwCl [(h0, .inr (5, [.ref q_1, .ref q_3, .ref q_5, .ref q_7, .int 0, .int 0, .int 0, .int 0, .int 0, .int 0, .int 0])), (q_1, .inl (cy_2, 40, .inr (.inr (.inr (.inr g_112))))), (q_114, .inr (9, [.int 0, .int 0, .int 0, .int 0, .int 0, .int 0, .int 0, .int 0]))] H := hP
  have hD : va_D A [(h0, .inr (5, [.ref q_1, .ref q_3, .ref q_5, .ref q_7, .int 0, .int 0, .int 0, .int 0, .int 0, .int 0, .int 0])), (q_1, .inl (cy_2, 40, .inr (.inr (.inr (.inr g_112))))), (q_114, .inr (9, [.int 0, .int 0, .int 0, .int 0, .int 0, .int 0, .int 0, .int 0]))] := hD
  refine W.widen (k := 31) (n := 464) (Nat.le_of_ble_eq_true rfl) (Nat.le_of_ble_eq_true rfl) ?_
  refine lv_dup hx hb dX5_init_56 rfl ?_
  have hPc := hP.sub (ws' := [(q_114, .inr (9, [.int 0, .int 0, .int 0, .int 0, .int 0, .int 0, .int 0, .int 0]))]) [2] rfl
  have hDc := hD.sub (ws' := [(q_114, .inr (9, [.int 0, .int 0, .int 0, .int 0, .int 0, .int 0, .int 0, .int 0]))]) [2] (by decide) rfl
  have hKc := hK.sub (tys' := []) [] rfl
  have hFc := va_free (wc := [(q_114, .inr (9, [.int 0, .int 0, .int 0, .int 0, .int 0, .int 0, .int 0, .int 0]))]) hD hS hA [2] rfl
  refine va_callv (va_runIN (As := []) (rest := [.ref q_114, .int 26, .ref q_1]) ⟨hx, hb, hml, hown, hts⟩ (c_X9_init l dC dI q_114 H.size) ⟨va_cnB 0 hts g_c_X5_init_57_c_X9_init rfl rfl rfl hNX5_X9 (hts (.initialized RX9) (List.mem_of_getElem? (i := 9) rfl)) (by decide +kernel) ⟨Nat.le_of_ble_eq_true rfl, Nat.le_of_ble_eq_true rfl⟩, rfl, (hts (.instanceMethod yX9_init) (List.mem_of_getElem? (i := 12) rfl))⟩ ⟨fun a U g mk q => by obtain ⟨q0, q1, qP, qK, qD⟩ := q; exact ⟨q0, q1, qP, va_K.moved (u := U) (U := U.calling g mk a) (Vm.Alike.refl U.vm) qK, qD⟩, fun U hU hW => ⟨rfl, by rw [hU], by rw [hU]; exact hPc, va_K.moved hW.alike hKc, hDc.weaken (fun _ _ _ _ => trivial)⟩⟩ rfl rfl hl.1 rfl (lv_room (Nat.le_of_ble_eq_true rfl)) dX5_init_57 ⟨Nat.le_of_ble_eq_true rfl, Nat.le_of_ble_eq_true rfl⟩) hS (fun q _ h => hFc q h) hFc (fun u t H1 locs ht hvm hw hB hz1 hk1 hS => ?_)
  obtain ⟨hP1, hK1, hD1⟩ := hB
  rw [ht] at hP1
  have hK1 := va_K.moved hvm.symm hK1
  try dsimp only at hw
  obtain ⟨hP, hD⟩ := va_join (wr := [(h0, .inr (5, [.ref q_1, .ref q_3, .ref q_5, .ref q_7, .int 0, .int 0, .int 0, .int 0, .int 0, .int 0, .int 0])), (q_1, .inl (cy_2, 40, .inr (.inr (.inr (.inr g_112)))))]) (w1 := [(q_114, .inr (9, [.int 0, .int 0, .int 0, .int 0, .int 0, .int 0, .int 0, .int 0]))]) hP hD [2] [0, 1] rfl rfl (by decide) (by decide) hk1 hFc hP1 hD1
  have hK := hK.app hK1
  generalize H1 = H at hP hS ⊢
  have hP : va_P (dC, dI) vwCl [(h0, .inr (5, [.ref q_1, .ref q_3, .ref q_5, .ref q_7, .int 0, .int 0, .int 0, .int 0, .int 0, .int 0, .int 0])), (q_1, .inl (cy_2, 40, .inr (.inr (.inr (.inr g_112))))), (q_114, .inr (9, [.int 0, .int 0, .int 0, .int 0, .int 0, .int 0, .int 0, .int 0]))] H := hP
  have hD : va_D A [(h0, .inr (5, [.ref q_1, .ref q_3, .ref q_5, .ref q_7, .int 0, .int 0, .int 0, .int 0, .int 0, .int 0, .int 0])), (q_1, .inl (cy_2, 40, .inr (.inr (.inr (.inr g_112))))), (q_114, .inr (9, [.int 0, .int 0, .int 0, .int 0, .int 0, .int 0, .int 0, .int 0]))] := hD
  have hK : va_K (dC, dI) vwCl [(cy_2, .object RX9), (cy_4, .int), (cy_8, .int)] s := hK
  refine W.widen (k := 31) (n := 464) (Nat.le_of_ble_eq_true rfl) (Nat.le_of_ble_eq_true rfl) ?_
  refine va_astq (D := (dC, dI)) (i := 26) hx hb hK hP hD hS 1 0 2 9 (r := (RX9, TX9, 8)) rfl rfl rfl rfl (show ¬ ((26 : Int32) < 0 ∨ 40 ≤ (26 : Int32).toNatClampNeg) by decide +kernel) dX5_init_60 (fun H locs hP hD hS => ?_)
  have hP : va_P (dC, dI) vwCl [(h0, .inr (5, [.ref q_1, .ref q_3, .ref q_5, .ref q_7, .int 0, .int 0, .int 0, .int 0, .int 0, .int 0, .int 0])), (q_1, .inl (cy_2, 40, .inr (.inr (.inr (.inr (va_up (g_112) (26 : Int32).toNatClampNeg (some q_114))))))), (q_114, .inr (9, [.int 0, .int 0, .int 0, .int 0, .int 0, .int 0, .int 0, .int 0]))] H := hP
  have hD : va_D A [(h0, .inr (5, [.ref q_1, .ref q_3, .ref q_5, .ref q_7, .int 0, .int 0, .int 0, .int 0, .int 0, .int 0, .int 0])), (q_1, .inl (cy_2, 40, .inr (.inr (.inr (.inr (va_up (g_112) (26 : Int32).toNatClampNeg (some q_114))))))), (q_114, .inr (9, [.int 0, .int 0, .int 0, .int 0, .int 0, .int 0, .int 0, .int 0]))] := hD
  generalize va_up (g_112) (26 : Int32).toNatClampNeg (some q_114) = g_116 at hP hD
  refine lv_iinc (v := 27) (lv' := [(1, .int 27), (0, .ref h0)]) hx hb dX5_init_61 hl (k := 0) rfl (by decide +kernel) (by decide) rfl (fun ls hl => ?_)
  refine lv_goto (tgt := 42) hx hb dX5_init_64 (by decide) ?_
  have hP := hP.sub (ws' := [(h0, .inr (5, [.ref q_1, .ref q_3, .ref q_5, .ref q_7, .int 0, .int 0, .int 0, .int 0, .int 0, .int 0, .int 0])), (q_1, .inl (cy_2, 40, .inr (.inr (.inr (.inr g_116)))))]) [0, 1] rfl
  have hD := hD.sub (ws' := [(h0, .inr (5, [.ref q_1, .ref q_3, .ref q_5, .ref q_7, .int 0, .int 0, .int 0, .int 0, .int 0, .int 0, .int 0])), (q_1, .inl (cy_2, 40, .inr (.inr (.inr (.inr g_116)))))]) [0, 1] (by decide) rfl
  refine lv_iload_n hx hb dX5_init_42 rfl (lv_at hl 0 rfl) ?_
  refine lv_bipush (v := 40) hx hb dX5_init_43 (by decide +kernel) ?_
  refine lv_icmp_ge (tgt := 67) hx hb dX5_init_45 (by decide) (fun c_117 => absurd c_117 (by decide +kernel)) (fun c_117 => ?_)
  refine lv_aload_n hx hb dX5_init_48 rfl (lv_at hl 1 rfl) ?_
  refine va_get (D := (dC, dI)) (ci := 5) (v := .ref q_1) (C := RX5) (T := TX5) (N := 11) hx hb hts in_c_X5_init_X5 hown hK hP 0 rfl rfl 0 (by decide) (hts (.fieldLink RX5 11 "LawnAhead$History" "states" "[LLawnAhead$State;") (List.mem_of_getElem? (i := 5) rfl)) (fun _ h9 => h9) rfl dX5_init_49 ?_
  refine lv_iload_n hx hb dX5_init_52 rfl (lv_at hl 0 rfl) ?_
  refine va_new (ci := 9) (fs := [.int 0, .int 0, .int 0, .int 0, .int 0, .int 0, .int 0, .int 0]) (C := RX9) (T := TX9) (N := 8) hx hb hts in_c_X5_init_X9 tyX9 tyX9_ok hown (hts (.classLink RX5 9 RX9) (List.mem_of_getElem? (i := 4) rfl)) (hts (.instantiable RX9 8) (List.mem_of_getElem? (i := 8) rfl)) (hts (.initialized RX9) (List.mem_of_getElem? (i := 9) rfl)) hK hP hD hS hA rfl (by decide +kernel) (Nat.le_of_ble_eq_true rfl) (Nat.le_of_ble_eq_true rfl) dX5_init_53 (fun q_118 H hP hD hS => ?_)
  have hP : va_P (dC, dI) vwCl [(h0, .inr (5, [.ref q_1, .ref q_3, .ref q_5, .ref q_7, .int 0, .int 0, .int 0, .int 0, .int 0, .int 0, .int 0])), (q_1, .inl (cy_2, 40, .inr (.inr (.inr (.inr g_116))))), (q_118, .inr (9, [.int 0, .int 0, .int 0, .int 0, .int 0, .int 0, .int 0, .int 0]))] H := hP
  have hD : va_D A [(h0, .inr (5, [.ref q_1, .ref q_3, .ref q_5, .ref q_7, .int 0, .int 0, .int 0, .int 0, .int 0, .int 0, .int 0])), (q_1, .inl (cy_2, 40, .inr (.inr (.inr (.inr g_116))))), (q_118, .inr (9, [.int 0, .int 0, .int 0, .int 0, .int 0, .int 0, .int 0, .int 0]))] := hD
  refine W.widen (k := 32) (n := 472) (Nat.le_of_ble_eq_true rfl) (Nat.le_of_ble_eq_true rfl) ?_
  refine lv_dup hx hb dX5_init_56 rfl ?_
  have hPc := hP.sub (ws' := [(q_118, .inr (9, [.int 0, .int 0, .int 0, .int 0, .int 0, .int 0, .int 0, .int 0]))]) [2] rfl
  have hDc := hD.sub (ws' := [(q_118, .inr (9, [.int 0, .int 0, .int 0, .int 0, .int 0, .int 0, .int 0, .int 0]))]) [2] (by decide) rfl
  have hKc := hK.sub (tys' := []) [] rfl
  have hFc := va_free (wc := [(q_118, .inr (9, [.int 0, .int 0, .int 0, .int 0, .int 0, .int 0, .int 0, .int 0]))]) hD hS hA [2] rfl
  refine va_callv (va_runIN (As := []) (rest := [.ref q_118, .int 27, .ref q_1]) ⟨hx, hb, hml, hown, hts⟩ (c_X9_init l dC dI q_118 H.size) ⟨va_cnB 0 hts g_c_X5_init_57_c_X9_init rfl rfl rfl hNX5_X9 (hts (.initialized RX9) (List.mem_of_getElem? (i := 9) rfl)) (by decide +kernel) ⟨Nat.le_of_ble_eq_true rfl, Nat.le_of_ble_eq_true rfl⟩, rfl, (hts (.instanceMethod yX9_init) (List.mem_of_getElem? (i := 12) rfl))⟩ ⟨fun a U g mk q => by obtain ⟨q0, q1, qP, qK, qD⟩ := q; exact ⟨q0, q1, qP, va_K.moved (u := U) (U := U.calling g mk a) (Vm.Alike.refl U.vm) qK, qD⟩, fun U hU hW => ⟨rfl, by rw [hU], by rw [hU]; exact hPc, va_K.moved hW.alike hKc, hDc.weaken (fun _ _ _ _ => trivial)⟩⟩ rfl rfl hl.1 rfl (lv_room (Nat.le_of_ble_eq_true rfl)) dX5_init_57 ⟨Nat.le_of_ble_eq_true rfl, Nat.le_of_ble_eq_true rfl⟩) hS (fun q _ h => hFc q h) hFc (fun u t H1 locs ht hvm hw hB hz1 hk1 hS => ?_)
  obtain ⟨hP1, hK1, hD1⟩ := hB
  rw [ht] at hP1
  have hK1 := va_K.moved hvm.symm hK1
  try dsimp only at hw
  obtain ⟨hP, hD⟩ := va_join (wr := [(h0, .inr (5, [.ref q_1, .ref q_3, .ref q_5, .ref q_7, .int 0, .int 0, .int 0, .int 0, .int 0, .int 0, .int 0])), (q_1, .inl (cy_2, 40, .inr (.inr (.inr (.inr g_116)))))]) (w1 := [(q_118, .inr (9, [.int 0, .int 0, .int 0, .int 0, .int 0, .int 0, .int 0, .int 0]))]) hP hD [2] [0, 1] rfl rfl (by decide) (by decide) hk1 hFc hP1 hD1
  have hK := hK.app hK1
  generalize H1 = H at hP hS ⊢
  have hP : va_P (dC, dI) vwCl [(h0, .inr (5, [.ref q_1, .ref q_3, .ref q_5, .ref q_7, .int 0, .int 0, .int 0, .int 0, .int 0, .int 0, .int 0])), (q_1, .inl (cy_2, 40, .inr (.inr (.inr (.inr g_116))))), (q_118, .inr (9, [.int 0, .int 0, .int 0, .int 0, .int 0, .int 0, .int 0, .int 0]))] H := hP
  have hD : va_D A [(h0, .inr (5, [.ref q_1, .ref q_3, .ref q_5, .ref q_7, .int 0, .int 0, .int 0, .int 0, .int 0, .int 0, .int 0])), (q_1, .inl (cy_2, 40, .inr (.inr (.inr (.inr g_116))))), (q_118, .inr (9, [.int 0, .int 0, .int 0, .int 0, .int 0, .int 0, .int 0, .int 0]))] := hD
  have hK : va_K (dC, dI) vwCl [(cy_2, .object RX9), (cy_4, .int), (cy_8, .int)] s := hK
  refine W.widen (k := 32) (n := 472) (Nat.le_of_ble_eq_true rfl) (Nat.le_of_ble_eq_true rfl) ?_
  refine va_astq (D := (dC, dI)) (i := 27) hx hb hK hP hD hS 1 0 2 9 (r := (RX9, TX9, 8)) rfl rfl rfl rfl (show ¬ ((27 : Int32) < 0 ∨ 40 ≤ (27 : Int32).toNatClampNeg) by decide +kernel) dX5_init_60 (fun H locs hP hD hS => ?_)
  have hP : va_P (dC, dI) vwCl [(h0, .inr (5, [.ref q_1, .ref q_3, .ref q_5, .ref q_7, .int 0, .int 0, .int 0, .int 0, .int 0, .int 0, .int 0])), (q_1, .inl (cy_2, 40, .inr (.inr (.inr (.inr (va_up (g_116) (27 : Int32).toNatClampNeg (some q_118))))))), (q_118, .inr (9, [.int 0, .int 0, .int 0, .int 0, .int 0, .int 0, .int 0, .int 0]))] H := hP
  have hD : va_D A [(h0, .inr (5, [.ref q_1, .ref q_3, .ref q_5, .ref q_7, .int 0, .int 0, .int 0, .int 0, .int 0, .int 0, .int 0])), (q_1, .inl (cy_2, 40, .inr (.inr (.inr (.inr (va_up (g_116) (27 : Int32).toNatClampNeg (some q_118))))))), (q_118, .inr (9, [.int 0, .int 0, .int 0, .int 0, .int 0, .int 0, .int 0, .int 0]))] := hD
  generalize va_up (g_116) (27 : Int32).toNatClampNeg (some q_118) = g_120 at hP hD
  refine lv_iinc (v := 28) (lv' := [(1, .int 28), (0, .ref h0)]) hx hb dX5_init_61 hl (k := 0) rfl (by decide +kernel) (by decide) rfl (fun ls hl => ?_)
  refine lv_goto (tgt := 42) hx hb dX5_init_64 (by decide) ?_
  have hP := hP.sub (ws' := [(h0, .inr (5, [.ref q_1, .ref q_3, .ref q_5, .ref q_7, .int 0, .int 0, .int 0, .int 0, .int 0, .int 0, .int 0])), (q_1, .inl (cy_2, 40, .inr (.inr (.inr (.inr g_120)))))]) [0, 1] rfl
  have hD := hD.sub (ws' := [(h0, .inr (5, [.ref q_1, .ref q_3, .ref q_5, .ref q_7, .int 0, .int 0, .int 0, .int 0, .int 0, .int 0, .int 0])), (q_1, .inl (cy_2, 40, .inr (.inr (.inr (.inr g_120)))))]) [0, 1] (by decide) rfl
  refine lv_iload_n hx hb dX5_init_42 rfl (lv_at hl 0 rfl) ?_
  refine lv_bipush (v := 40) hx hb dX5_init_43 (by decide +kernel) ?_
  refine lv_icmp_ge (tgt := 67) hx hb dX5_init_45 (by decide) (fun c_121 => absurd c_121 (by decide +kernel)) (fun c_121 => ?_)
  refine lv_aload_n hx hb dX5_init_48 rfl (lv_at hl 1 rfl) ?_
  refine va_get (D := (dC, dI)) (ci := 5) (v := .ref q_1) (C := RX5) (T := TX5) (N := 11) hx hb hts in_c_X5_init_X5 hown hK hP 0 rfl rfl 0 (by decide) (hts (.fieldLink RX5 11 "LawnAhead$History" "states" "[LLawnAhead$State;") (List.mem_of_getElem? (i := 5) rfl)) (fun _ h9 => h9) rfl dX5_init_49 ?_
  refine lv_iload_n hx hb dX5_init_52 rfl (lv_at hl 0 rfl) ?_
  refine va_new (ci := 9) (fs := [.int 0, .int 0, .int 0, .int 0, .int 0, .int 0, .int 0, .int 0]) (C := RX9) (T := TX9) (N := 8) hx hb hts in_c_X5_init_X9 tyX9 tyX9_ok hown (hts (.classLink RX5 9 RX9) (List.mem_of_getElem? (i := 4) rfl)) (hts (.instantiable RX9 8) (List.mem_of_getElem? (i := 8) rfl)) (hts (.initialized RX9) (List.mem_of_getElem? (i := 9) rfl)) hK hP hD hS hA rfl (by decide +kernel) (Nat.le_of_ble_eq_true rfl) (Nat.le_of_ble_eq_true rfl) dX5_init_53 (fun q_122 H hP hD hS => ?_)
  have hP : va_P (dC, dI) vwCl [(h0, .inr (5, [.ref q_1, .ref q_3, .ref q_5, .ref q_7, .int 0, .int 0, .int 0, .int 0, .int 0, .int 0, .int 0])), (q_1, .inl (cy_2, 40, .inr (.inr (.inr (.inr g_120))))), (q_122, .inr (9, [.int 0, .int 0, .int 0, .int 0, .int 0, .int 0, .int 0, .int 0]))] H := hP
  have hD : va_D A [(h0, .inr (5, [.ref q_1, .ref q_3, .ref q_5, .ref q_7, .int 0, .int 0, .int 0, .int 0, .int 0, .int 0, .int 0])), (q_1, .inl (cy_2, 40, .inr (.inr (.inr (.inr g_120))))), (q_122, .inr (9, [.int 0, .int 0, .int 0, .int 0, .int 0, .int 0, .int 0, .int 0]))] := hD
  refine W.widen (k := 33) (n := 480) (Nat.le_of_ble_eq_true rfl) (Nat.le_of_ble_eq_true rfl) ?_
  refine lv_dup hx hb dX5_init_56 rfl ?_
  have hPc := hP.sub (ws' := [(q_122, .inr (9, [.int 0, .int 0, .int 0, .int 0, .int 0, .int 0, .int 0, .int 0]))]) [2] rfl
  have hDc := hD.sub (ws' := [(q_122, .inr (9, [.int 0, .int 0, .int 0, .int 0, .int 0, .int 0, .int 0, .int 0]))]) [2] (by decide) rfl
  have hKc := hK.sub (tys' := []) [] rfl
  have hFc := va_free (wc := [(q_122, .inr (9, [.int 0, .int 0, .int 0, .int 0, .int 0, .int 0, .int 0, .int 0]))]) hD hS hA [2] rfl
  refine va_callv (va_runIN (As := []) (rest := [.ref q_122, .int 28, .ref q_1]) ⟨hx, hb, hml, hown, hts⟩ (c_X9_init l dC dI q_122 H.size) ⟨va_cnB 0 hts g_c_X5_init_57_c_X9_init rfl rfl rfl hNX5_X9 (hts (.initialized RX9) (List.mem_of_getElem? (i := 9) rfl)) (by decide +kernel) ⟨Nat.le_of_ble_eq_true rfl, Nat.le_of_ble_eq_true rfl⟩, rfl, (hts (.instanceMethod yX9_init) (List.mem_of_getElem? (i := 12) rfl))⟩ ⟨fun a U g mk q => by obtain ⟨q0, q1, qP, qK, qD⟩ := q; exact ⟨q0, q1, qP, va_K.moved (u := U) (U := U.calling g mk a) (Vm.Alike.refl U.vm) qK, qD⟩, fun U hU hW => ⟨rfl, by rw [hU], by rw [hU]; exact hPc, va_K.moved hW.alike hKc, hDc.weaken (fun _ _ _ _ => trivial)⟩⟩ rfl rfl hl.1 rfl (lv_room (Nat.le_of_ble_eq_true rfl)) dX5_init_57 ⟨Nat.le_of_ble_eq_true rfl, Nat.le_of_ble_eq_true rfl⟩) hS (fun q _ h => hFc q h) hFc (fun u t H1 locs ht hvm hw hB hz1 hk1 hS => ?_)
  obtain ⟨hP1, hK1, hD1⟩ := hB
  rw [ht] at hP1
  have hK1 := va_K.moved hvm.symm hK1
  try dsimp only at hw
  obtain ⟨hP, hD⟩ := va_join (wr := [(h0, .inr (5, [.ref q_1, .ref q_3, .ref q_5, .ref q_7, .int 0, .int 0, .int 0, .int 0, .int 0, .int 0, .int 0])), (q_1, .inl (cy_2, 40, .inr (.inr (.inr (.inr g_120)))))]) (w1 := [(q_122, .inr (9, [.int 0, .int 0, .int 0, .int 0, .int 0, .int 0, .int 0, .int 0]))]) hP hD [2] [0, 1] rfl rfl (by decide) (by decide) hk1 hFc hP1 hD1
  have hK := hK.app hK1
  generalize H1 = H at hP hS ⊢
  have hP : va_P (dC, dI) vwCl [(h0, .inr (5, [.ref q_1, .ref q_3, .ref q_5, .ref q_7, .int 0, .int 0, .int 0, .int 0, .int 0, .int 0, .int 0])), (q_1, .inl (cy_2, 40, .inr (.inr (.inr (.inr g_120))))), (q_122, .inr (9, [.int 0, .int 0, .int 0, .int 0, .int 0, .int 0, .int 0, .int 0]))] H := hP
  have hD : va_D A [(h0, .inr (5, [.ref q_1, .ref q_3, .ref q_5, .ref q_7, .int 0, .int 0, .int 0, .int 0, .int 0, .int 0, .int 0])), (q_1, .inl (cy_2, 40, .inr (.inr (.inr (.inr g_120))))), (q_122, .inr (9, [.int 0, .int 0, .int 0, .int 0, .int 0, .int 0, .int 0, .int 0]))] := hD
  have hK : va_K (dC, dI) vwCl [(cy_2, .object RX9), (cy_4, .int), (cy_8, .int)] s := hK
  refine W.widen (k := 33) (n := 480) (Nat.le_of_ble_eq_true rfl) (Nat.le_of_ble_eq_true rfl) ?_
  refine va_astq (D := (dC, dI)) (i := 28) hx hb hK hP hD hS 1 0 2 9 (r := (RX9, TX9, 8)) rfl rfl rfl rfl (show ¬ ((28 : Int32) < 0 ∨ 40 ≤ (28 : Int32).toNatClampNeg) by decide +kernel) dX5_init_60 (fun H locs hP hD hS => ?_)
  have hP : va_P (dC, dI) vwCl [(h0, .inr (5, [.ref q_1, .ref q_3, .ref q_5, .ref q_7, .int 0, .int 0, .int 0, .int 0, .int 0, .int 0, .int 0])), (q_1, .inl (cy_2, 40, .inr (.inr (.inr (.inr (va_up (g_120) (28 : Int32).toNatClampNeg (some q_122))))))), (q_122, .inr (9, [.int 0, .int 0, .int 0, .int 0, .int 0, .int 0, .int 0, .int 0]))] H := hP
  have hD : va_D A [(h0, .inr (5, [.ref q_1, .ref q_3, .ref q_5, .ref q_7, .int 0, .int 0, .int 0, .int 0, .int 0, .int 0, .int 0])), (q_1, .inl (cy_2, 40, .inr (.inr (.inr (.inr (va_up (g_120) (28 : Int32).toNatClampNeg (some q_122))))))), (q_122, .inr (9, [.int 0, .int 0, .int 0, .int 0, .int 0, .int 0, .int 0, .int 0]))] := hD
  generalize va_up (g_120) (28 : Int32).toNatClampNeg (some q_122) = g_124 at hP hD
  refine lv_iinc (v := 29) (lv' := [(1, .int 29), (0, .ref h0)]) hx hb dX5_init_61 hl (k := 0) rfl (by decide +kernel) (by decide) rfl (fun ls hl => ?_)
  refine lv_goto (tgt := 42) hx hb dX5_init_64 (by decide) ?_
  have hP := hP.sub (ws' := [(h0, .inr (5, [.ref q_1, .ref q_3, .ref q_5, .ref q_7, .int 0, .int 0, .int 0, .int 0, .int 0, .int 0, .int 0])), (q_1, .inl (cy_2, 40, .inr (.inr (.inr (.inr g_124)))))]) [0, 1] rfl
  have hD := hD.sub (ws' := [(h0, .inr (5, [.ref q_1, .ref q_3, .ref q_5, .ref q_7, .int 0, .int 0, .int 0, .int 0, .int 0, .int 0, .int 0])), (q_1, .inl (cy_2, 40, .inr (.inr (.inr (.inr g_124)))))]) [0, 1] (by decide) rfl
  refine lv_iload_n hx hb dX5_init_42 rfl (lv_at hl 0 rfl) ?_
  refine lv_bipush (v := 40) hx hb dX5_init_43 (by decide +kernel) ?_
  refine lv_icmp_ge (tgt := 67) hx hb dX5_init_45 (by decide) (fun c_125 => absurd c_125 (by decide +kernel)) (fun c_125 => ?_)
  refine lv_aload_n hx hb dX5_init_48 rfl (lv_at hl 1 rfl) ?_
  refine va_get (D := (dC, dI)) (ci := 5) (v := .ref q_1) (C := RX5) (T := TX5) (N := 11) hx hb hts in_c_X5_init_X5 hown hK hP 0 rfl rfl 0 (by decide) (hts (.fieldLink RX5 11 "LawnAhead$History" "states" "[LLawnAhead$State;") (List.mem_of_getElem? (i := 5) rfl)) (fun _ h9 => h9) rfl dX5_init_49 ?_
  refine lv_iload_n hx hb dX5_init_52 rfl (lv_at hl 0 rfl) ?_
  refine va_new (ci := 9) (fs := [.int 0, .int 0, .int 0, .int 0, .int 0, .int 0, .int 0, .int 0]) (C := RX9) (T := TX9) (N := 8) hx hb hts in_c_X5_init_X9 tyX9 tyX9_ok hown (hts (.classLink RX5 9 RX9) (List.mem_of_getElem? (i := 4) rfl)) (hts (.instantiable RX9 8) (List.mem_of_getElem? (i := 8) rfl)) (hts (.initialized RX9) (List.mem_of_getElem? (i := 9) rfl)) hK hP hD hS hA rfl (by decide +kernel) (Nat.le_of_ble_eq_true rfl) (Nat.le_of_ble_eq_true rfl) dX5_init_53 (fun q_126 H hP hD hS => ?_)
  have hP : va_P (dC, dI) vwCl [(h0, .inr (5, [.ref q_1, .ref q_3, .ref q_5, .ref q_7, .int 0, .int 0, .int 0, .int 0, .int 0, .int 0, .int 0])), (q_1, .inl (cy_2, 40, .inr (.inr (.inr (.inr g_124))))), (q_126, .inr (9, [.int 0, .int 0, .int 0, .int 0, .int 0, .int 0, .int 0, .int 0]))] H := hP
  have hD : va_D A [(h0, .inr (5, [.ref q_1, .ref q_3, .ref q_5, .ref q_7, .int 0, .int 0, .int 0, .int 0, .int 0, .int 0, .int 0])), (q_1, .inl (cy_2, 40, .inr (.inr (.inr (.inr g_124))))), (q_126, .inr (9, [.int 0, .int 0, .int 0, .int 0, .int 0, .int 0, .int 0, .int 0]))] := hD
  refine W.widen (k := 34) (n := 488) (Nat.le_of_ble_eq_true rfl) (Nat.le_of_ble_eq_true rfl) ?_
  refine lv_dup hx hb dX5_init_56 rfl ?_
  have hPc := hP.sub (ws' := [(q_126, .inr (9, [.int 0, .int 0, .int 0, .int 0, .int 0, .int 0, .int 0, .int 0]))]) [2] rfl
  have hDc := hD.sub (ws' := [(q_126, .inr (9, [.int 0, .int 0, .int 0, .int 0, .int 0, .int 0, .int 0, .int 0]))]) [2] (by decide) rfl
  have hKc := hK.sub (tys' := []) [] rfl
  have hFc := va_free (wc := [(q_126, .inr (9, [.int 0, .int 0, .int 0, .int 0, .int 0, .int 0, .int 0, .int 0]))]) hD hS hA [2] rfl
  refine va_callv (va_runIN (As := []) (rest := [.ref q_126, .int 29, .ref q_1]) ⟨hx, hb, hml, hown, hts⟩ (c_X9_init l dC dI q_126 H.size) ⟨va_cnB 0 hts g_c_X5_init_57_c_X9_init rfl rfl rfl hNX5_X9 (hts (.initialized RX9) (List.mem_of_getElem? (i := 9) rfl)) (by decide +kernel) ⟨Nat.le_of_ble_eq_true rfl, Nat.le_of_ble_eq_true rfl⟩, rfl, (hts (.instanceMethod yX9_init) (List.mem_of_getElem? (i := 12) rfl))⟩ ⟨fun a U g mk q => by obtain ⟨q0, q1, qP, qK, qD⟩ := q; exact ⟨q0, q1, qP, va_K.moved (u := U) (U := U.calling g mk a) (Vm.Alike.refl U.vm) qK, qD⟩, fun U hU hW => ⟨rfl, by rw [hU], by rw [hU]; exact hPc, va_K.moved hW.alike hKc, hDc.weaken (fun _ _ _ _ => trivial)⟩⟩ rfl rfl hl.1 rfl (lv_room (Nat.le_of_ble_eq_true rfl)) dX5_init_57 ⟨Nat.le_of_ble_eq_true rfl, Nat.le_of_ble_eq_true rfl⟩) hS (fun q _ h => hFc q h) hFc (fun u t H1 locs ht hvm hw hB hz1 hk1 hS => ?_)
  obtain ⟨hP1, hK1, hD1⟩ := hB
  rw [ht] at hP1
  have hK1 := va_K.moved hvm.symm hK1
  try dsimp only at hw
  obtain ⟨hP, hD⟩ := va_join (wr := [(h0, .inr (5, [.ref q_1, .ref q_3, .ref q_5, .ref q_7, .int 0, .int 0, .int 0, .int 0, .int 0, .int 0, .int 0])), (q_1, .inl (cy_2, 40, .inr (.inr (.inr (.inr g_124)))))]) (w1 := [(q_126, .inr (9, [.int 0, .int 0, .int 0, .int 0, .int 0, .int 0, .int 0, .int 0]))]) hP hD [2] [0, 1] rfl rfl (by decide) (by decide) hk1 hFc hP1 hD1
  have hK := hK.app hK1
  generalize H1 = H at hP hS ⊢
  have hP : va_P (dC, dI) vwCl [(h0, .inr (5, [.ref q_1, .ref q_3, .ref q_5, .ref q_7, .int 0, .int 0, .int 0, .int 0, .int 0, .int 0, .int 0])), (q_1, .inl (cy_2, 40, .inr (.inr (.inr (.inr g_124))))), (q_126, .inr (9, [.int 0, .int 0, .int 0, .int 0, .int 0, .int 0, .int 0, .int 0]))] H := hP
  have hD : va_D A [(h0, .inr (5, [.ref q_1, .ref q_3, .ref q_5, .ref q_7, .int 0, .int 0, .int 0, .int 0, .int 0, .int 0, .int 0])), (q_1, .inl (cy_2, 40, .inr (.inr (.inr (.inr g_124))))), (q_126, .inr (9, [.int 0, .int 0, .int 0, .int 0, .int 0, .int 0, .int 0, .int 0]))] := hD
  have hK : va_K (dC, dI) vwCl [(cy_2, .object RX9), (cy_4, .int), (cy_8, .int)] s := hK
  refine W.widen (k := 34) (n := 488) (Nat.le_of_ble_eq_true rfl) (Nat.le_of_ble_eq_true rfl) ?_
  refine va_astq (D := (dC, dI)) (i := 29) hx hb hK hP hD hS 1 0 2 9 (r := (RX9, TX9, 8)) rfl rfl rfl rfl (show ¬ ((29 : Int32) < 0 ∨ 40 ≤ (29 : Int32).toNatClampNeg) by decide +kernel) dX5_init_60 (fun H locs hP hD hS => ?_)
  have hP : va_P (dC, dI) vwCl [(h0, .inr (5, [.ref q_1, .ref q_3, .ref q_5, .ref q_7, .int 0, .int 0, .int 0, .int 0, .int 0, .int 0, .int 0])), (q_1, .inl (cy_2, 40, .inr (.inr (.inr (.inr (va_up (g_124) (29 : Int32).toNatClampNeg (some q_126))))))), (q_126, .inr (9, [.int 0, .int 0, .int 0, .int 0, .int 0, .int 0, .int 0, .int 0]))] H := hP
  have hD : va_D A [(h0, .inr (5, [.ref q_1, .ref q_3, .ref q_5, .ref q_7, .int 0, .int 0, .int 0, .int 0, .int 0, .int 0, .int 0])), (q_1, .inl (cy_2, 40, .inr (.inr (.inr (.inr (va_up (g_124) (29 : Int32).toNatClampNeg (some q_126))))))), (q_126, .inr (9, [.int 0, .int 0, .int 0, .int 0, .int 0, .int 0, .int 0, .int 0]))] := hD
  generalize va_up (g_124) (29 : Int32).toNatClampNeg (some q_126) = g_128 at hP hD
  refine lv_iinc (v := 30) (lv' := [(1, .int 30), (0, .ref h0)]) hx hb dX5_init_61 hl (k := 0) rfl (by decide +kernel) (by decide) rfl (fun ls hl => ?_)
  refine lv_goto (tgt := 42) hx hb dX5_init_64 (by decide) ?_
  have hP := hP.sub (ws' := [(h0, .inr (5, [.ref q_1, .ref q_3, .ref q_5, .ref q_7, .int 0, .int 0, .int 0, .int 0, .int 0, .int 0, .int 0])), (q_1, .inl (cy_2, 40, .inr (.inr (.inr (.inr g_128)))))]) [0, 1] rfl
  have hD := hD.sub (ws' := [(h0, .inr (5, [.ref q_1, .ref q_3, .ref q_5, .ref q_7, .int 0, .int 0, .int 0, .int 0, .int 0, .int 0, .int 0])), (q_1, .inl (cy_2, 40, .inr (.inr (.inr (.inr g_128)))))]) [0, 1] (by decide) rfl
  refine lv_iload_n hx hb dX5_init_42 rfl (lv_at hl 0 rfl) ?_
  refine lv_bipush (v := 40) hx hb dX5_init_43 (by decide +kernel) ?_
  refine lv_icmp_ge (tgt := 67) hx hb dX5_init_45 (by decide) (fun c_129 => absurd c_129 (by decide +kernel)) (fun c_129 => ?_)
  refine lv_aload_n hx hb dX5_init_48 rfl (lv_at hl 1 rfl) ?_
  refine va_get (D := (dC, dI)) (ci := 5) (v := .ref q_1) (C := RX5) (T := TX5) (N := 11) hx hb hts in_c_X5_init_X5 hown hK hP 0 rfl rfl 0 (by decide) (hts (.fieldLink RX5 11 "LawnAhead$History" "states" "[LLawnAhead$State;") (List.mem_of_getElem? (i := 5) rfl)) (fun _ h9 => h9) rfl dX5_init_49 ?_
  refine lv_iload_n hx hb dX5_init_52 rfl (lv_at hl 0 rfl) ?_
  refine va_new (ci := 9) (fs := [.int 0, .int 0, .int 0, .int 0, .int 0, .int 0, .int 0, .int 0]) (C := RX9) (T := TX9) (N := 8) hx hb hts in_c_X5_init_X9 tyX9 tyX9_ok hown (hts (.classLink RX5 9 RX9) (List.mem_of_getElem? (i := 4) rfl)) (hts (.instantiable RX9 8) (List.mem_of_getElem? (i := 8) rfl)) (hts (.initialized RX9) (List.mem_of_getElem? (i := 9) rfl)) hK hP hD hS hA rfl (by decide +kernel) (Nat.le_of_ble_eq_true rfl) (Nat.le_of_ble_eq_true rfl) dX5_init_53 (fun q_130 H hP hD hS => ?_)
  have hP : va_P (dC, dI) vwCl [(h0, .inr (5, [.ref q_1, .ref q_3, .ref q_5, .ref q_7, .int 0, .int 0, .int 0, .int 0, .int 0, .int 0, .int 0])), (q_1, .inl (cy_2, 40, .inr (.inr (.inr (.inr g_128))))), (q_130, .inr (9, [.int 0, .int 0, .int 0, .int 0, .int 0, .int 0, .int 0, .int 0]))] H := hP
  have hD : va_D A [(h0, .inr (5, [.ref q_1, .ref q_3, .ref q_5, .ref q_7, .int 0, .int 0, .int 0, .int 0, .int 0, .int 0, .int 0])), (q_1, .inl (cy_2, 40, .inr (.inr (.inr (.inr g_128))))), (q_130, .inr (9, [.int 0, .int 0, .int 0, .int 0, .int 0, .int 0, .int 0, .int 0]))] := hD
  refine W.widen (k := 35) (n := 496) (Nat.le_of_ble_eq_true rfl) (Nat.le_of_ble_eq_true rfl) ?_
  refine lv_dup hx hb dX5_init_56 rfl ?_
  have hPc := hP.sub (ws' := [(q_130, .inr (9, [.int 0, .int 0, .int 0, .int 0, .int 0, .int 0, .int 0, .int 0]))]) [2] rfl
  have hDc := hD.sub (ws' := [(q_130, .inr (9, [.int 0, .int 0, .int 0, .int 0, .int 0, .int 0, .int 0, .int 0]))]) [2] (by decide) rfl
  have hKc := hK.sub (tys' := []) [] rfl
  have hFc := va_free (wc := [(q_130, .inr (9, [.int 0, .int 0, .int 0, .int 0, .int 0, .int 0, .int 0, .int 0]))]) hD hS hA [2] rfl
  refine va_callv (va_runIN (As := []) (rest := [.ref q_130, .int 30, .ref q_1]) ⟨hx, hb, hml, hown, hts⟩ (c_X9_init l dC dI q_130 H.size) ⟨va_cnB 0 hts g_c_X5_init_57_c_X9_init rfl rfl rfl hNX5_X9 (hts (.initialized RX9) (List.mem_of_getElem? (i := 9) rfl)) (by decide +kernel) ⟨Nat.le_of_ble_eq_true rfl, Nat.le_of_ble_eq_true rfl⟩, rfl, (hts (.instanceMethod yX9_init) (List.mem_of_getElem? (i := 12) rfl))⟩ ⟨fun a U g mk q => by obtain ⟨q0, q1, qP, qK, qD⟩ := q; exact ⟨q0, q1, qP, va_K.moved (u := U) (U := U.calling g mk a) (Vm.Alike.refl U.vm) qK, qD⟩, fun U hU hW => ⟨rfl, by rw [hU], by rw [hU]; exact hPc, va_K.moved hW.alike hKc, hDc.weaken (fun _ _ _ _ => trivial)⟩⟩ rfl rfl hl.1 rfl (lv_room (Nat.le_of_ble_eq_true rfl)) dX5_init_57 ⟨Nat.le_of_ble_eq_true rfl, Nat.le_of_ble_eq_true rfl⟩) hS (fun q _ h => hFc q h) hFc (fun u t H1 locs ht hvm hw hB hz1 hk1 hS => ?_)
  obtain ⟨hP1, hK1, hD1⟩ := hB
  rw [ht] at hP1
  have hK1 := va_K.moved hvm.symm hK1
  try dsimp only at hw
  obtain ⟨hP, hD⟩ := va_join (wr := [(h0, .inr (5, [.ref q_1, .ref q_3, .ref q_5, .ref q_7, .int 0, .int 0, .int 0, .int 0, .int 0, .int 0, .int 0])), (q_1, .inl (cy_2, 40, .inr (.inr (.inr (.inr g_128)))))]) (w1 := [(q_130, .inr (9, [.int 0, .int 0, .int 0, .int 0, .int 0, .int 0, .int 0, .int 0]))]) hP hD [2] [0, 1] rfl rfl (by decide) (by decide) hk1 hFc hP1 hD1
  have hK := hK.app hK1
  generalize H1 = H at hP hS ⊢
  have hP : va_P (dC, dI) vwCl [(h0, .inr (5, [.ref q_1, .ref q_3, .ref q_5, .ref q_7, .int 0, .int 0, .int 0, .int 0, .int 0, .int 0, .int 0])), (q_1, .inl (cy_2, 40, .inr (.inr (.inr (.inr g_128))))), (q_130, .inr (9, [.int 0, .int 0, .int 0, .int 0, .int 0, .int 0, .int 0, .int 0]))] H := hP
  have hD : va_D A [(h0, .inr (5, [.ref q_1, .ref q_3, .ref q_5, .ref q_7, .int 0, .int 0, .int 0, .int 0, .int 0, .int 0, .int 0])), (q_1, .inl (cy_2, 40, .inr (.inr (.inr (.inr g_128))))), (q_130, .inr (9, [.int 0, .int 0, .int 0, .int 0, .int 0, .int 0, .int 0, .int 0]))] := hD
  have hK : va_K (dC, dI) vwCl [(cy_2, .object RX9), (cy_4, .int), (cy_8, .int)] s := hK
  refine W.widen (k := 35) (n := 496) (Nat.le_of_ble_eq_true rfl) (Nat.le_of_ble_eq_true rfl) ?_
  refine va_astq (D := (dC, dI)) (i := 30) hx hb hK hP hD hS 1 0 2 9 (r := (RX9, TX9, 8)) rfl rfl rfl rfl (show ¬ ((30 : Int32) < 0 ∨ 40 ≤ (30 : Int32).toNatClampNeg) by decide +kernel) dX5_init_60 (fun H locs hP hD hS => ?_)
  have hP : va_P (dC, dI) vwCl [(h0, .inr (5, [.ref q_1, .ref q_3, .ref q_5, .ref q_7, .int 0, .int 0, .int 0, .int 0, .int 0, .int 0, .int 0])), (q_1, .inl (cy_2, 40, .inr (.inr (.inr (.inr (va_up (g_128) (30 : Int32).toNatClampNeg (some q_130))))))), (q_130, .inr (9, [.int 0, .int 0, .int 0, .int 0, .int 0, .int 0, .int 0, .int 0]))] H := hP
  have hD : va_D A [(h0, .inr (5, [.ref q_1, .ref q_3, .ref q_5, .ref q_7, .int 0, .int 0, .int 0, .int 0, .int 0, .int 0, .int 0])), (q_1, .inl (cy_2, 40, .inr (.inr (.inr (.inr (va_up (g_128) (30 : Int32).toNatClampNeg (some q_130))))))), (q_130, .inr (9, [.int 0, .int 0, .int 0, .int 0, .int 0, .int 0, .int 0, .int 0]))] := hD
  generalize va_up (g_128) (30 : Int32).toNatClampNeg (some q_130) = g_132 at hP hD
  refine lv_iinc (v := 31) (lv' := [(1, .int 31), (0, .ref h0)]) hx hb dX5_init_61 hl (k := 0) rfl (by decide +kernel) (by decide) rfl (fun ls hl => ?_)
  refine lv_goto (tgt := 42) hx hb dX5_init_64 (by decide) ?_
  have hP := hP.sub (ws' := [(h0, .inr (5, [.ref q_1, .ref q_3, .ref q_5, .ref q_7, .int 0, .int 0, .int 0, .int 0, .int 0, .int 0, .int 0])), (q_1, .inl (cy_2, 40, .inr (.inr (.inr (.inr g_132)))))]) [0, 1] rfl
  have hD := hD.sub (ws' := [(h0, .inr (5, [.ref q_1, .ref q_3, .ref q_5, .ref q_7, .int 0, .int 0, .int 0, .int 0, .int 0, .int 0, .int 0])), (q_1, .inl (cy_2, 40, .inr (.inr (.inr (.inr g_132)))))]) [0, 1] (by decide) rfl
  refine lv_iload_n hx hb dX5_init_42 rfl (lv_at hl 0 rfl) ?_
  refine lv_bipush (v := 40) hx hb dX5_init_43 (by decide +kernel) ?_
  refine lv_icmp_ge (tgt := 67) hx hb dX5_init_45 (by decide) (fun c_133 => absurd c_133 (by decide +kernel)) (fun c_133 => ?_)
  refine lv_aload_n hx hb dX5_init_48 rfl (lv_at hl 1 rfl) ?_
  refine va_get (D := (dC, dI)) (ci := 5) (v := .ref q_1) (C := RX5) (T := TX5) (N := 11) hx hb hts in_c_X5_init_X5 hown hK hP 0 rfl rfl 0 (by decide) (hts (.fieldLink RX5 11 "LawnAhead$History" "states" "[LLawnAhead$State;") (List.mem_of_getElem? (i := 5) rfl)) (fun _ h9 => h9) rfl dX5_init_49 ?_
  refine lv_iload_n hx hb dX5_init_52 rfl (lv_at hl 0 rfl) ?_
  refine va_new (ci := 9) (fs := [.int 0, .int 0, .int 0, .int 0, .int 0, .int 0, .int 0, .int 0]) (C := RX9) (T := TX9) (N := 8) hx hb hts in_c_X5_init_X9 tyX9 tyX9_ok hown (hts (.classLink RX5 9 RX9) (List.mem_of_getElem? (i := 4) rfl)) (hts (.instantiable RX9 8) (List.mem_of_getElem? (i := 8) rfl)) (hts (.initialized RX9) (List.mem_of_getElem? (i := 9) rfl)) hK hP hD hS hA rfl (by decide +kernel) (Nat.le_of_ble_eq_true rfl) (Nat.le_of_ble_eq_true rfl) dX5_init_53 (fun q_134 H hP hD hS => ?_)
  have hP : va_P (dC, dI) vwCl [(h0, .inr (5, [.ref q_1, .ref q_3, .ref q_5, .ref q_7, .int 0, .int 0, .int 0, .int 0, .int 0, .int 0, .int 0])), (q_1, .inl (cy_2, 40, .inr (.inr (.inr (.inr g_132))))), (q_134, .inr (9, [.int 0, .int 0, .int 0, .int 0, .int 0, .int 0, .int 0, .int 0]))] H := hP
  have hD : va_D A [(h0, .inr (5, [.ref q_1, .ref q_3, .ref q_5, .ref q_7, .int 0, .int 0, .int 0, .int 0, .int 0, .int 0, .int 0])), (q_1, .inl (cy_2, 40, .inr (.inr (.inr (.inr g_132))))), (q_134, .inr (9, [.int 0, .int 0, .int 0, .int 0, .int 0, .int 0, .int 0, .int 0]))] := hD
  refine W.widen (k := 36) (n := 504) (Nat.le_of_ble_eq_true rfl) (Nat.le_of_ble_eq_true rfl) ?_
  refine lv_dup hx hb dX5_init_56 rfl ?_
  have hPc := hP.sub (ws' := [(q_134, .inr (9, [.int 0, .int 0, .int 0, .int 0, .int 0, .int 0, .int 0, .int 0]))]) [2] rfl
  have hDc := hD.sub (ws' := [(q_134, .inr (9, [.int 0, .int 0, .int 0, .int 0, .int 0, .int 0, .int 0, .int 0]))]) [2] (by decide) rfl
  have hKc := hK.sub (tys' := []) [] rfl
  have hFc := va_free (wc := [(q_134, .inr (9, [.int 0, .int 0, .int 0, .int 0, .int 0, .int 0, .int 0, .int 0]))]) hD hS hA [2] rfl
  refine va_callv (va_runIN (As := []) (rest := [.ref q_134, .int 31, .ref q_1]) ⟨hx, hb, hml, hown, hts⟩ (c_X9_init l dC dI q_134 H.size) ⟨va_cnB 0 hts g_c_X5_init_57_c_X9_init rfl rfl rfl hNX5_X9 (hts (.initialized RX9) (List.mem_of_getElem? (i := 9) rfl)) (by decide +kernel) ⟨Nat.le_of_ble_eq_true rfl, Nat.le_of_ble_eq_true rfl⟩, rfl, (hts (.instanceMethod yX9_init) (List.mem_of_getElem? (i := 12) rfl))⟩ ⟨fun a U g mk q => by obtain ⟨q0, q1, qP, qK, qD⟩ := q; exact ⟨q0, q1, qP, va_K.moved (u := U) (U := U.calling g mk a) (Vm.Alike.refl U.vm) qK, qD⟩, fun U hU hW => ⟨rfl, by rw [hU], by rw [hU]; exact hPc, va_K.moved hW.alike hKc, hDc.weaken (fun _ _ _ _ => trivial)⟩⟩ rfl rfl hl.1 rfl (lv_room (Nat.le_of_ble_eq_true rfl)) dX5_init_57 ⟨Nat.le_of_ble_eq_true rfl, Nat.le_of_ble_eq_true rfl⟩) hS (fun q _ h => hFc q h) hFc (fun u t H1 locs ht hvm hw hB hz1 hk1 hS => ?_)
  obtain ⟨hP1, hK1, hD1⟩ := hB
  rw [ht] at hP1
  have hK1 := va_K.moved hvm.symm hK1
  try dsimp only at hw
  obtain ⟨hP, hD⟩ := va_join (wr := [(h0, .inr (5, [.ref q_1, .ref q_3, .ref q_5, .ref q_7, .int 0, .int 0, .int 0, .int 0, .int 0, .int 0, .int 0])), (q_1, .inl (cy_2, 40, .inr (.inr (.inr (.inr g_132)))))]) (w1 := [(q_134, .inr (9, [.int 0, .int 0, .int 0, .int 0, .int 0, .int 0, .int 0, .int 0]))]) hP hD [2] [0, 1] rfl rfl (by decide) (by decide) hk1 hFc hP1 hD1
  have hK := hK.app hK1
  generalize H1 = H at hP hS ⊢
  have hP : va_P (dC, dI) vwCl [(h0, .inr (5, [.ref q_1, .ref q_3, .ref q_5, .ref q_7, .int 0, .int 0, .int 0, .int 0, .int 0, .int 0, .int 0])), (q_1, .inl (cy_2, 40, .inr (.inr (.inr (.inr g_132))))), (q_134, .inr (9, [.int 0, .int 0, .int 0, .int 0, .int 0, .int 0, .int 0, .int 0]))] H := hP
  have hD : va_D A [(h0, .inr (5, [.ref q_1, .ref q_3, .ref q_5, .ref q_7, .int 0, .int 0, .int 0, .int 0, .int 0, .int 0, .int 0])), (q_1, .inl (cy_2, 40, .inr (.inr (.inr (.inr g_132))))), (q_134, .inr (9, [.int 0, .int 0, .int 0, .int 0, .int 0, .int 0, .int 0, .int 0]))] := hD
  have hK : va_K (dC, dI) vwCl [(cy_2, .object RX9), (cy_4, .int), (cy_8, .int)] s := hK
  refine W.widen (k := 36) (n := 504) (Nat.le_of_ble_eq_true rfl) (Nat.le_of_ble_eq_true rfl) ?_
  refine va_astq (D := (dC, dI)) (i := 31) hx hb hK hP hD hS 1 0 2 9 (r := (RX9, TX9, 8)) rfl rfl rfl rfl (show ¬ ((31 : Int32) < 0 ∨ 40 ≤ (31 : Int32).toNatClampNeg) by decide +kernel) dX5_init_60 (fun H locs hP hD hS => ?_)
  have hP : va_P (dC, dI) vwCl [(h0, .inr (5, [.ref q_1, .ref q_3, .ref q_5, .ref q_7, .int 0, .int 0, .int 0, .int 0, .int 0, .int 0, .int 0])), (q_1, .inl (cy_2, 40, .inr (.inr (.inr (.inr (va_up (g_132) (31 : Int32).toNatClampNeg (some q_134))))))), (q_134, .inr (9, [.int 0, .int 0, .int 0, .int 0, .int 0, .int 0, .int 0, .int 0]))] H := hP
  have hD : va_D A [(h0, .inr (5, [.ref q_1, .ref q_3, .ref q_5, .ref q_7, .int 0, .int 0, .int 0, .int 0, .int 0, .int 0, .int 0])), (q_1, .inl (cy_2, 40, .inr (.inr (.inr (.inr (va_up (g_132) (31 : Int32).toNatClampNeg (some q_134))))))), (q_134, .inr (9, [.int 0, .int 0, .int 0, .int 0, .int 0, .int 0, .int 0, .int 0]))] := hD
  generalize va_up (g_132) (31 : Int32).toNatClampNeg (some q_134) = g_136 at hP hD
  refine lv_iinc (v := 32) (lv' := [(1, .int 32), (0, .ref h0)]) hx hb dX5_init_61 hl (k := 0) rfl (by decide +kernel) (by decide) rfl (fun ls hl => ?_)
  refine lv_goto (tgt := 42) hx hb dX5_init_64 (by decide) ?_
  have hP := hP.sub (ws' := [(h0, .inr (5, [.ref q_1, .ref q_3, .ref q_5, .ref q_7, .int 0, .int 0, .int 0, .int 0, .int 0, .int 0, .int 0])), (q_1, .inl (cy_2, 40, .inr (.inr (.inr (.inr g_136)))))]) [0, 1] rfl
  have hD := hD.sub (ws' := [(h0, .inr (5, [.ref q_1, .ref q_3, .ref q_5, .ref q_7, .int 0, .int 0, .int 0, .int 0, .int 0, .int 0, .int 0])), (q_1, .inl (cy_2, 40, .inr (.inr (.inr (.inr g_136)))))]) [0, 1] (by decide) rfl
  refine lv_iload_n hx hb dX5_init_42 rfl (lv_at hl 0 rfl) ?_
  refine lv_bipush (v := 40) hx hb dX5_init_43 (by decide +kernel) ?_
  refine lv_icmp_ge (tgt := 67) hx hb dX5_init_45 (by decide) (fun c_137 => absurd c_137 (by decide +kernel)) (fun c_137 => ?_)
  refine lv_aload_n hx hb dX5_init_48 rfl (lv_at hl 1 rfl) ?_
  refine va_get (D := (dC, dI)) (ci := 5) (v := .ref q_1) (C := RX5) (T := TX5) (N := 11) hx hb hts in_c_X5_init_X5 hown hK hP 0 rfl rfl 0 (by decide) (hts (.fieldLink RX5 11 "LawnAhead$History" "states" "[LLawnAhead$State;") (List.mem_of_getElem? (i := 5) rfl)) (fun _ h9 => h9) rfl dX5_init_49 ?_
  refine lv_iload_n hx hb dX5_init_52 rfl (lv_at hl 0 rfl) ?_
  refine va_new (ci := 9) (fs := [.int 0, .int 0, .int 0, .int 0, .int 0, .int 0, .int 0, .int 0]) (C := RX9) (T := TX9) (N := 8) hx hb hts in_c_X5_init_X9 tyX9 tyX9_ok hown (hts (.classLink RX5 9 RX9) (List.mem_of_getElem? (i := 4) rfl)) (hts (.instantiable RX9 8) (List.mem_of_getElem? (i := 8) rfl)) (hts (.initialized RX9) (List.mem_of_getElem? (i := 9) rfl)) hK hP hD hS hA rfl (by decide +kernel) (Nat.le_of_ble_eq_true rfl) (Nat.le_of_ble_eq_true rfl) dX5_init_53 (fun q_138 H hP hD hS => ?_)
  have hP : va_P (dC, dI) vwCl [(h0, .inr (5, [.ref q_1, .ref q_3, .ref q_5, .ref q_7, .int 0, .int 0, .int 0, .int 0, .int 0, .int 0, .int 0])), (q_1, .inl (cy_2, 40, .inr (.inr (.inr (.inr g_136))))), (q_138, .inr (9, [.int 0, .int 0, .int 0, .int 0, .int 0, .int 0, .int 0, .int 0]))] H := hP
  have hD : va_D A [(h0, .inr (5, [.ref q_1, .ref q_3, .ref q_5, .ref q_7, .int 0, .int 0, .int 0, .int 0, .int 0, .int 0, .int 0])), (q_1, .inl (cy_2, 40, .inr (.inr (.inr (.inr g_136))))), (q_138, .inr (9, [.int 0, .int 0, .int 0, .int 0, .int 0, .int 0, .int 0, .int 0]))] := hD
  refine W.widen (k := 37) (n := 512) (Nat.le_of_ble_eq_true rfl) (Nat.le_of_ble_eq_true rfl) ?_
  refine lv_dup hx hb dX5_init_56 rfl ?_
  have hPc := hP.sub (ws' := [(q_138, .inr (9, [.int 0, .int 0, .int 0, .int 0, .int 0, .int 0, .int 0, .int 0]))]) [2] rfl
  have hDc := hD.sub (ws' := [(q_138, .inr (9, [.int 0, .int 0, .int 0, .int 0, .int 0, .int 0, .int 0, .int 0]))]) [2] (by decide) rfl
  have hKc := hK.sub (tys' := []) [] rfl
  have hFc := va_free (wc := [(q_138, .inr (9, [.int 0, .int 0, .int 0, .int 0, .int 0, .int 0, .int 0, .int 0]))]) hD hS hA [2] rfl
  refine va_callv (va_runIN (As := []) (rest := [.ref q_138, .int 32, .ref q_1]) ⟨hx, hb, hml, hown, hts⟩ (c_X9_init l dC dI q_138 H.size) ⟨va_cnB 0 hts g_c_X5_init_57_c_X9_init rfl rfl rfl hNX5_X9 (hts (.initialized RX9) (List.mem_of_getElem? (i := 9) rfl)) (by decide +kernel) ⟨Nat.le_of_ble_eq_true rfl, Nat.le_of_ble_eq_true rfl⟩, rfl, (hts (.instanceMethod yX9_init) (List.mem_of_getElem? (i := 12) rfl))⟩ ⟨fun a U g mk q => by obtain ⟨q0, q1, qP, qK, qD⟩ := q; exact ⟨q0, q1, qP, va_K.moved (u := U) (U := U.calling g mk a) (Vm.Alike.refl U.vm) qK, qD⟩, fun U hU hW => ⟨rfl, by rw [hU], by rw [hU]; exact hPc, va_K.moved hW.alike hKc, hDc.weaken (fun _ _ _ _ => trivial)⟩⟩ rfl rfl hl.1 rfl (lv_room (Nat.le_of_ble_eq_true rfl)) dX5_init_57 ⟨Nat.le_of_ble_eq_true rfl, Nat.le_of_ble_eq_true rfl⟩) hS (fun q _ h => hFc q h) hFc (fun u t H1 locs ht hvm hw hB hz1 hk1 hS => ?_)
  obtain ⟨hP1, hK1, hD1⟩ := hB
  rw [ht] at hP1
  have hK1 := va_K.moved hvm.symm hK1
  try dsimp only at hw
  obtain ⟨hP, hD⟩ := va_join (wr := [(h0, .inr (5, [.ref q_1, .ref q_3, .ref q_5, .ref q_7, .int 0, .int 0, .int 0, .int 0, .int 0, .int 0, .int 0])), (q_1, .inl (cy_2, 40, .inr (.inr (.inr (.inr g_136)))))]) (w1 := [(q_138, .inr (9, [.int 0, .int 0, .int 0, .int 0, .int 0, .int 0, .int 0, .int 0]))]) hP hD [2] [0, 1] rfl rfl (by decide) (by decide) hk1 hFc hP1 hD1
  have hK := hK.app hK1
  generalize H1 = H at hP hS ⊢
  have hP : va_P (dC, dI) vwCl [(h0, .inr (5, [.ref q_1, .ref q_3, .ref q_5, .ref q_7, .int 0, .int 0, .int 0, .int 0, .int 0, .int 0, .int 0])), (q_1, .inl (cy_2, 40, .inr (.inr (.inr (.inr g_136))))), (q_138, .inr (9, [.int 0, .int 0, .int 0, .int 0, .int 0, .int 0, .int 0, .int 0]))] H := hP
  have hD : va_D A [(h0, .inr (5, [.ref q_1, .ref q_3, .ref q_5, .ref q_7, .int 0, .int 0, .int 0, .int 0, .int 0, .int 0, .int 0])), (q_1, .inl (cy_2, 40, .inr (.inr (.inr (.inr g_136))))), (q_138, .inr (9, [.int 0, .int 0, .int 0, .int 0, .int 0, .int 0, .int 0, .int 0]))] := hD
  have hK : va_K (dC, dI) vwCl [(cy_2, .object RX9), (cy_4, .int), (cy_8, .int)] s := hK
  refine W.widen (k := 37) (n := 512) (Nat.le_of_ble_eq_true rfl) (Nat.le_of_ble_eq_true rfl) ?_
  refine va_astq (D := (dC, dI)) (i := 32) hx hb hK hP hD hS 1 0 2 9 (r := (RX9, TX9, 8)) rfl rfl rfl rfl (show ¬ ((32 : Int32) < 0 ∨ 40 ≤ (32 : Int32).toNatClampNeg) by decide +kernel) dX5_init_60 (fun H locs hP hD hS => ?_)
  have hP : va_P (dC, dI) vwCl [(h0, .inr (5, [.ref q_1, .ref q_3, .ref q_5, .ref q_7, .int 0, .int 0, .int 0, .int 0, .int 0, .int 0, .int 0])), (q_1, .inl (cy_2, 40, .inr (.inr (.inr (.inr (va_up (g_136) (32 : Int32).toNatClampNeg (some q_138))))))), (q_138, .inr (9, [.int 0, .int 0, .int 0, .int 0, .int 0, .int 0, .int 0, .int 0]))] H := hP
  have hD : va_D A [(h0, .inr (5, [.ref q_1, .ref q_3, .ref q_5, .ref q_7, .int 0, .int 0, .int 0, .int 0, .int 0, .int 0, .int 0])), (q_1, .inl (cy_2, 40, .inr (.inr (.inr (.inr (va_up (g_136) (32 : Int32).toNatClampNeg (some q_138))))))), (q_138, .inr (9, [.int 0, .int 0, .int 0, .int 0, .int 0, .int 0, .int 0, .int 0]))] := hD
  generalize va_up (g_136) (32 : Int32).toNatClampNeg (some q_138) = g_140 at hP hD
  refine lv_iinc (v := 33) (lv' := [(1, .int 33), (0, .ref h0)]) hx hb dX5_init_61 hl (k := 0) rfl (by decide +kernel) (by decide) rfl (fun ls hl => ?_)
  refine lv_goto (tgt := 42) hx hb dX5_init_64 (by decide) ?_
  have hP := hP.sub (ws' := [(h0, .inr (5, [.ref q_1, .ref q_3, .ref q_5, .ref q_7, .int 0, .int 0, .int 0, .int 0, .int 0, .int 0, .int 0])), (q_1, .inl (cy_2, 40, .inr (.inr (.inr (.inr g_140)))))]) [0, 1] rfl
  have hD := hD.sub (ws' := [(h0, .inr (5, [.ref q_1, .ref q_3, .ref q_5, .ref q_7, .int 0, .int 0, .int 0, .int 0, .int 0, .int 0, .int 0])), (q_1, .inl (cy_2, 40, .inr (.inr (.inr (.inr g_140)))))]) [0, 1] (by decide) rfl
  refine lv_iload_n hx hb dX5_init_42 rfl (lv_at hl 0 rfl) ?_
  refine lv_bipush (v := 40) hx hb dX5_init_43 (by decide +kernel) ?_
  refine lv_icmp_ge (tgt := 67) hx hb dX5_init_45 (by decide) (fun c_141 => absurd c_141 (by decide +kernel)) (fun c_141 => ?_)
  refine lv_aload_n hx hb dX5_init_48 rfl (lv_at hl 1 rfl) ?_
  refine va_get (D := (dC, dI)) (ci := 5) (v := .ref q_1) (C := RX5) (T := TX5) (N := 11) hx hb hts in_c_X5_init_X5 hown hK hP 0 rfl rfl 0 (by decide) (hts (.fieldLink RX5 11 "LawnAhead$History" "states" "[LLawnAhead$State;") (List.mem_of_getElem? (i := 5) rfl)) (fun _ h9 => h9) rfl dX5_init_49 ?_
  refine lv_iload_n hx hb dX5_init_52 rfl (lv_at hl 0 rfl) ?_
  refine va_new (ci := 9) (fs := [.int 0, .int 0, .int 0, .int 0, .int 0, .int 0, .int 0, .int 0]) (C := RX9) (T := TX9) (N := 8) hx hb hts in_c_X5_init_X9 tyX9 tyX9_ok hown (hts (.classLink RX5 9 RX9) (List.mem_of_getElem? (i := 4) rfl)) (hts (.instantiable RX9 8) (List.mem_of_getElem? (i := 8) rfl)) (hts (.initialized RX9) (List.mem_of_getElem? (i := 9) rfl)) hK hP hD hS hA rfl (by decide +kernel) (Nat.le_of_ble_eq_true rfl) (Nat.le_of_ble_eq_true rfl) dX5_init_53 (fun q_142 H hP hD hS => ?_)
  have hP : va_P (dC, dI) vwCl [(h0, .inr (5, [.ref q_1, .ref q_3, .ref q_5, .ref q_7, .int 0, .int 0, .int 0, .int 0, .int 0, .int 0, .int 0])), (q_1, .inl (cy_2, 40, .inr (.inr (.inr (.inr g_140))))), (q_142, .inr (9, [.int 0, .int 0, .int 0, .int 0, .int 0, .int 0, .int 0, .int 0]))] H := hP
  have hD : va_D A [(h0, .inr (5, [.ref q_1, .ref q_3, .ref q_5, .ref q_7, .int 0, .int 0, .int 0, .int 0, .int 0, .int 0, .int 0])), (q_1, .inl (cy_2, 40, .inr (.inr (.inr (.inr g_140))))), (q_142, .inr (9, [.int 0, .int 0, .int 0, .int 0, .int 0, .int 0, .int 0, .int 0]))] := hD
  refine W.widen (k := 38) (n := 520) (Nat.le_of_ble_eq_true rfl) (Nat.le_of_ble_eq_true rfl) ?_
  refine lv_dup hx hb dX5_init_56 rfl ?_
  have hPc := hP.sub (ws' := [(q_142, .inr (9, [.int 0, .int 0, .int 0, .int 0, .int 0, .int 0, .int 0, .int 0]))]) [2] rfl
  have hDc := hD.sub (ws' := [(q_142, .inr (9, [.int 0, .int 0, .int 0, .int 0, .int 0, .int 0, .int 0, .int 0]))]) [2] (by decide) rfl
  have hKc := hK.sub (tys' := []) [] rfl
  have hFc := va_free (wc := [(q_142, .inr (9, [.int 0, .int 0, .int 0, .int 0, .int 0, .int 0, .int 0, .int 0]))]) hD hS hA [2] rfl
  refine va_callv (va_runIN (As := []) (rest := [.ref q_142, .int 33, .ref q_1]) ⟨hx, hb, hml, hown, hts⟩ (c_X9_init l dC dI q_142 H.size) ⟨va_cnB 0 hts g_c_X5_init_57_c_X9_init rfl rfl rfl hNX5_X9 (hts (.initialized RX9) (List.mem_of_getElem? (i := 9) rfl)) (by decide +kernel) ⟨Nat.le_of_ble_eq_true rfl, Nat.le_of_ble_eq_true rfl⟩, rfl, (hts (.instanceMethod yX9_init) (List.mem_of_getElem? (i := 12) rfl))⟩ ⟨fun a U g mk q => by obtain ⟨q0, q1, qP, qK, qD⟩ := q; exact ⟨q0, q1, qP, va_K.moved (u := U) (U := U.calling g mk a) (Vm.Alike.refl U.vm) qK, qD⟩, fun U hU hW => ⟨rfl, by rw [hU], by rw [hU]; exact hPc, va_K.moved hW.alike hKc, hDc.weaken (fun _ _ _ _ => trivial)⟩⟩ rfl rfl hl.1 rfl (lv_room (Nat.le_of_ble_eq_true rfl)) dX5_init_57 ⟨Nat.le_of_ble_eq_true rfl, Nat.le_of_ble_eq_true rfl⟩) hS (fun q _ h => hFc q h) hFc (fun u t H1 locs ht hvm hw hB hz1 hk1 hS => ?_)
  obtain ⟨hP1, hK1, hD1⟩ := hB
  rw [ht] at hP1
  have hK1 := va_K.moved hvm.symm hK1
  try dsimp only at hw
  obtain ⟨hP, hD⟩ := va_join (wr := [(h0, .inr (5, [.ref q_1, .ref q_3, .ref q_5, .ref q_7, .int 0, .int 0, .int 0, .int 0, .int 0, .int 0, .int 0])), (q_1, .inl (cy_2, 40, .inr (.inr (.inr (.inr g_140)))))]) (w1 := [(q_142, .inr (9, [.int 0, .int 0, .int 0, .int 0, .int 0, .int 0, .int 0, .int 0]))]) hP hD [2] [0, 1] rfl rfl (by decide) (by decide) hk1 hFc hP1 hD1
  have hK := hK.app hK1
  generalize H1 = H at hP hS ⊢
  have hP : va_P (dC, dI) vwCl [(h0, .inr (5, [.ref q_1, .ref q_3, .ref q_5, .ref q_7, .int 0, .int 0, .int 0, .int 0, .int 0, .int 0, .int 0])), (q_1, .inl (cy_2, 40, .inr (.inr (.inr (.inr g_140))))), (q_142, .inr (9, [.int 0, .int 0, .int 0, .int 0, .int 0, .int 0, .int 0, .int 0]))] H := hP
  have hD : va_D A [(h0, .inr (5, [.ref q_1, .ref q_3, .ref q_5, .ref q_7, .int 0, .int 0, .int 0, .int 0, .int 0, .int 0, .int 0])), (q_1, .inl (cy_2, 40, .inr (.inr (.inr (.inr g_140))))), (q_142, .inr (9, [.int 0, .int 0, .int 0, .int 0, .int 0, .int 0, .int 0, .int 0]))] := hD
  have hK : va_K (dC, dI) vwCl [(cy_2, .object RX9), (cy_4, .int), (cy_8, .int)] s := hK
  refine W.widen (k := 38) (n := 520) (Nat.le_of_ble_eq_true rfl) (Nat.le_of_ble_eq_true rfl) ?_
  refine va_astq (D := (dC, dI)) (i := 33) hx hb hK hP hD hS 1 0 2 9 (r := (RX9, TX9, 8)) rfl rfl rfl rfl (show ¬ ((33 : Int32) < 0 ∨ 40 ≤ (33 : Int32).toNatClampNeg) by decide +kernel) dX5_init_60 (fun H locs hP hD hS => ?_)
  have hP : va_P (dC, dI) vwCl [(h0, .inr (5, [.ref q_1, .ref q_3, .ref q_5, .ref q_7, .int 0, .int 0, .int 0, .int 0, .int 0, .int 0, .int 0])), (q_1, .inl (cy_2, 40, .inr (.inr (.inr (.inr (va_up (g_140) (33 : Int32).toNatClampNeg (some q_142))))))), (q_142, .inr (9, [.int 0, .int 0, .int 0, .int 0, .int 0, .int 0, .int 0, .int 0]))] H := hP
  have hD : va_D A [(h0, .inr (5, [.ref q_1, .ref q_3, .ref q_5, .ref q_7, .int 0, .int 0, .int 0, .int 0, .int 0, .int 0, .int 0])), (q_1, .inl (cy_2, 40, .inr (.inr (.inr (.inr (va_up (g_140) (33 : Int32).toNatClampNeg (some q_142))))))), (q_142, .inr (9, [.int 0, .int 0, .int 0, .int 0, .int 0, .int 0, .int 0, .int 0]))] := hD
  generalize va_up (g_140) (33 : Int32).toNatClampNeg (some q_142) = g_144 at hP hD
  refine lv_iinc (v := 34) (lv' := [(1, .int 34), (0, .ref h0)]) hx hb dX5_init_61 hl (k := 0) rfl (by decide +kernel) (by decide) rfl (fun ls hl => ?_)
  refine lv_goto (tgt := 42) hx hb dX5_init_64 (by decide) ?_
  have hP := hP.sub (ws' := [(h0, .inr (5, [.ref q_1, .ref q_3, .ref q_5, .ref q_7, .int 0, .int 0, .int 0, .int 0, .int 0, .int 0, .int 0])), (q_1, .inl (cy_2, 40, .inr (.inr (.inr (.inr g_144)))))]) [0, 1] rfl
  have hD := hD.sub (ws' := [(h0, .inr (5, [.ref q_1, .ref q_3, .ref q_5, .ref q_7, .int 0, .int 0, .int 0, .int 0, .int 0, .int 0, .int 0])), (q_1, .inl (cy_2, 40, .inr (.inr (.inr (.inr g_144)))))]) [0, 1] (by decide) rfl
  refine lv_iload_n hx hb dX5_init_42 rfl (lv_at hl 0 rfl) ?_
  refine lv_bipush (v := 40) hx hb dX5_init_43 (by decide +kernel) ?_
  refine lv_icmp_ge (tgt := 67) hx hb dX5_init_45 (by decide) (fun c_145 => absurd c_145 (by decide +kernel)) (fun c_145 => ?_)
  refine lv_aload_n hx hb dX5_init_48 rfl (lv_at hl 1 rfl) ?_
  refine va_get (D := (dC, dI)) (ci := 5) (v := .ref q_1) (C := RX5) (T := TX5) (N := 11) hx hb hts in_c_X5_init_X5 hown hK hP 0 rfl rfl 0 (by decide) (hts (.fieldLink RX5 11 "LawnAhead$History" "states" "[LLawnAhead$State;") (List.mem_of_getElem? (i := 5) rfl)) (fun _ h9 => h9) rfl dX5_init_49 ?_
  refine lv_iload_n hx hb dX5_init_52 rfl (lv_at hl 0 rfl) ?_
  refine va_new (ci := 9) (fs := [.int 0, .int 0, .int 0, .int 0, .int 0, .int 0, .int 0, .int 0]) (C := RX9) (T := TX9) (N := 8) hx hb hts in_c_X5_init_X9 tyX9 tyX9_ok hown (hts (.classLink RX5 9 RX9) (List.mem_of_getElem? (i := 4) rfl)) (hts (.instantiable RX9 8) (List.mem_of_getElem? (i := 8) rfl)) (hts (.initialized RX9) (List.mem_of_getElem? (i := 9) rfl)) hK hP hD hS hA rfl (by decide +kernel) (Nat.le_of_ble_eq_true rfl) (Nat.le_of_ble_eq_true rfl) dX5_init_53 (fun q_146 H hP hD hS => ?_)
  have hP : va_P (dC, dI) vwCl [(h0, .inr (5, [.ref q_1, .ref q_3, .ref q_5, .ref q_7, .int 0, .int 0, .int 0, .int 0, .int 0, .int 0, .int 0])), (q_1, .inl (cy_2, 40, .inr (.inr (.inr (.inr g_144))))), (q_146, .inr (9, [.int 0, .int 0, .int 0, .int 0, .int 0, .int 0, .int 0, .int 0]))] H := hP
  have hD : va_D A [(h0, .inr (5, [.ref q_1, .ref q_3, .ref q_5, .ref q_7, .int 0, .int 0, .int 0, .int 0, .int 0, .int 0, .int 0])), (q_1, .inl (cy_2, 40, .inr (.inr (.inr (.inr g_144))))), (q_146, .inr (9, [.int 0, .int 0, .int 0, .int 0, .int 0, .int 0, .int 0, .int 0]))] := hD
  refine W.widen (k := 39) (n := 528) (Nat.le_of_ble_eq_true rfl) (Nat.le_of_ble_eq_true rfl) ?_
  refine lv_dup hx hb dX5_init_56 rfl ?_
  have hPc := hP.sub (ws' := [(q_146, .inr (9, [.int 0, .int 0, .int 0, .int 0, .int 0, .int 0, .int 0, .int 0]))]) [2] rfl
  have hDc := hD.sub (ws' := [(q_146, .inr (9, [.int 0, .int 0, .int 0, .int 0, .int 0, .int 0, .int 0, .int 0]))]) [2] (by decide) rfl
  have hKc := hK.sub (tys' := []) [] rfl
  have hFc := va_free (wc := [(q_146, .inr (9, [.int 0, .int 0, .int 0, .int 0, .int 0, .int 0, .int 0, .int 0]))]) hD hS hA [2] rfl
  refine va_callv (va_runIN (As := []) (rest := [.ref q_146, .int 34, .ref q_1]) ⟨hx, hb, hml, hown, hts⟩ (c_X9_init l dC dI q_146 H.size) ⟨va_cnB 0 hts g_c_X5_init_57_c_X9_init rfl rfl rfl hNX5_X9 (hts (.initialized RX9) (List.mem_of_getElem? (i := 9) rfl)) (by decide +kernel) ⟨Nat.le_of_ble_eq_true rfl, Nat.le_of_ble_eq_true rfl⟩, rfl, (hts (.instanceMethod yX9_init) (List.mem_of_getElem? (i := 12) rfl))⟩ ⟨fun a U g mk q => by obtain ⟨q0, q1, qP, qK, qD⟩ := q; exact ⟨q0, q1, qP, va_K.moved (u := U) (U := U.calling g mk a) (Vm.Alike.refl U.vm) qK, qD⟩, fun U hU hW => ⟨rfl, by rw [hU], by rw [hU]; exact hPc, va_K.moved hW.alike hKc, hDc.weaken (fun _ _ _ _ => trivial)⟩⟩ rfl rfl hl.1 rfl (lv_room (Nat.le_of_ble_eq_true rfl)) dX5_init_57 ⟨Nat.le_of_ble_eq_true rfl, Nat.le_of_ble_eq_true rfl⟩) hS (fun q _ h => hFc q h) hFc (fun u t H1 locs ht hvm hw hB hz1 hk1 hS => ?_)
  obtain ⟨hP1, hK1, hD1⟩ := hB
  rw [ht] at hP1
  have hK1 := va_K.moved hvm.symm hK1
  try dsimp only at hw
  obtain ⟨hP, hD⟩ := va_join (wr := [(h0, .inr (5, [.ref q_1, .ref q_3, .ref q_5, .ref q_7, .int 0, .int 0, .int 0, .int 0, .int 0, .int 0, .int 0])), (q_1, .inl (cy_2, 40, .inr (.inr (.inr (.inr g_144)))))]) (w1 := [(q_146, .inr (9, [.int 0, .int 0, .int 0, .int 0, .int 0, .int 0, .int 0, .int 0]))]) hP hD [2] [0, 1] rfl rfl (by decide) (by decide) hk1 hFc hP1 hD1
  have hK := hK.app hK1
  generalize H1 = H at hP hS ⊢
  have hP : va_P (dC, dI) vwCl [(h0, .inr (5, [.ref q_1, .ref q_3, .ref q_5, .ref q_7, .int 0, .int 0, .int 0, .int 0, .int 0, .int 0, .int 0])), (q_1, .inl (cy_2, 40, .inr (.inr (.inr (.inr g_144))))), (q_146, .inr (9, [.int 0, .int 0, .int 0, .int 0, .int 0, .int 0, .int 0, .int 0]))] H := hP
  have hD : va_D A [(h0, .inr (5, [.ref q_1, .ref q_3, .ref q_5, .ref q_7, .int 0, .int 0, .int 0, .int 0, .int 0, .int 0, .int 0])), (q_1, .inl (cy_2, 40, .inr (.inr (.inr (.inr g_144))))), (q_146, .inr (9, [.int 0, .int 0, .int 0, .int 0, .int 0, .int 0, .int 0, .int 0]))] := hD
  have hK : va_K (dC, dI) vwCl [(cy_2, .object RX9), (cy_4, .int), (cy_8, .int)] s := hK
  refine W.widen (k := 39) (n := 528) (Nat.le_of_ble_eq_true rfl) (Nat.le_of_ble_eq_true rfl) ?_
  refine va_astq (D := (dC, dI)) (i := 34) hx hb hK hP hD hS 1 0 2 9 (r := (RX9, TX9, 8)) rfl rfl rfl rfl (show ¬ ((34 : Int32) < 0 ∨ 40 ≤ (34 : Int32).toNatClampNeg) by decide +kernel) dX5_init_60 (fun H locs hP hD hS => ?_)
  have hP : va_P (dC, dI) vwCl [(h0, .inr (5, [.ref q_1, .ref q_3, .ref q_5, .ref q_7, .int 0, .int 0, .int 0, .int 0, .int 0, .int 0, .int 0])), (q_1, .inl (cy_2, 40, .inr (.inr (.inr (.inr (va_up (g_144) (34 : Int32).toNatClampNeg (some q_146))))))), (q_146, .inr (9, [.int 0, .int 0, .int 0, .int 0, .int 0, .int 0, .int 0, .int 0]))] H := hP
  have hD : va_D A [(h0, .inr (5, [.ref q_1, .ref q_3, .ref q_5, .ref q_7, .int 0, .int 0, .int 0, .int 0, .int 0, .int 0, .int 0])), (q_1, .inl (cy_2, 40, .inr (.inr (.inr (.inr (va_up (g_144) (34 : Int32).toNatClampNeg (some q_146))))))), (q_146, .inr (9, [.int 0, .int 0, .int 0, .int 0, .int 0, .int 0, .int 0, .int 0]))] := hD
  generalize va_up (g_144) (34 : Int32).toNatClampNeg (some q_146) = g_148 at hP hD
  refine lv_iinc (v := 35) (lv' := [(1, .int 35), (0, .ref h0)]) hx hb dX5_init_61 hl (k := 0) rfl (by decide +kernel) (by decide) rfl (fun ls hl => ?_)
  refine lv_goto (tgt := 42) hx hb dX5_init_64 (by decide) ?_
  have hP := hP.sub (ws' := [(h0, .inr (5, [.ref q_1, .ref q_3, .ref q_5, .ref q_7, .int 0, .int 0, .int 0, .int 0, .int 0, .int 0, .int 0])), (q_1, .inl (cy_2, 40, .inr (.inr (.inr (.inr g_148)))))]) [0, 1] rfl
  have hD := hD.sub (ws' := [(h0, .inr (5, [.ref q_1, .ref q_3, .ref q_5, .ref q_7, .int 0, .int 0, .int 0, .int 0, .int 0, .int 0, .int 0])), (q_1, .inl (cy_2, 40, .inr (.inr (.inr (.inr g_148)))))]) [0, 1] (by decide) rfl
  refine lv_iload_n hx hb dX5_init_42 rfl (lv_at hl 0 rfl) ?_
  refine lv_bipush (v := 40) hx hb dX5_init_43 (by decide +kernel) ?_
  refine lv_icmp_ge (tgt := 67) hx hb dX5_init_45 (by decide) (fun c_149 => absurd c_149 (by decide +kernel)) (fun c_149 => ?_)
  refine lv_aload_n hx hb dX5_init_48 rfl (lv_at hl 1 rfl) ?_
  refine va_get (D := (dC, dI)) (ci := 5) (v := .ref q_1) (C := RX5) (T := TX5) (N := 11) hx hb hts in_c_X5_init_X5 hown hK hP 0 rfl rfl 0 (by decide) (hts (.fieldLink RX5 11 "LawnAhead$History" "states" "[LLawnAhead$State;") (List.mem_of_getElem? (i := 5) rfl)) (fun _ h9 => h9) rfl dX5_init_49 ?_
  refine lv_iload_n hx hb dX5_init_52 rfl (lv_at hl 0 rfl) ?_
  refine va_new (ci := 9) (fs := [.int 0, .int 0, .int 0, .int 0, .int 0, .int 0, .int 0, .int 0]) (C := RX9) (T := TX9) (N := 8) hx hb hts in_c_X5_init_X9 tyX9 tyX9_ok hown (hts (.classLink RX5 9 RX9) (List.mem_of_getElem? (i := 4) rfl)) (hts (.instantiable RX9 8) (List.mem_of_getElem? (i := 8) rfl)) (hts (.initialized RX9) (List.mem_of_getElem? (i := 9) rfl)) hK hP hD hS hA rfl (by decide +kernel) (Nat.le_of_ble_eq_true rfl) (Nat.le_of_ble_eq_true rfl) dX5_init_53 (fun q_150 H hP hD hS => ?_)
  have hP : va_P (dC, dI) vwCl [(h0, .inr (5, [.ref q_1, .ref q_3, .ref q_5, .ref q_7, .int 0, .int 0, .int 0, .int 0, .int 0, .int 0, .int 0])), (q_1, .inl (cy_2, 40, .inr (.inr (.inr (.inr g_148))))), (q_150, .inr (9, [.int 0, .int 0, .int 0, .int 0, .int 0, .int 0, .int 0, .int 0]))] H := hP
  have hD : va_D A [(h0, .inr (5, [.ref q_1, .ref q_3, .ref q_5, .ref q_7, .int 0, .int 0, .int 0, .int 0, .int 0, .int 0, .int 0])), (q_1, .inl (cy_2, 40, .inr (.inr (.inr (.inr g_148))))), (q_150, .inr (9, [.int 0, .int 0, .int 0, .int 0, .int 0, .int 0, .int 0, .int 0]))] := hD
  refine W.widen (k := 40) (n := 536) (Nat.le_of_ble_eq_true rfl) (Nat.le_of_ble_eq_true rfl) ?_
  refine lv_dup hx hb dX5_init_56 rfl ?_
  have hPc := hP.sub (ws' := [(q_150, .inr (9, [.int 0, .int 0, .int 0, .int 0, .int 0, .int 0, .int 0, .int 0]))]) [2] rfl
  have hDc := hD.sub (ws' := [(q_150, .inr (9, [.int 0, .int 0, .int 0, .int 0, .int 0, .int 0, .int 0, .int 0]))]) [2] (by decide) rfl
  have hKc := hK.sub (tys' := []) [] rfl
  have hFc := va_free (wc := [(q_150, .inr (9, [.int 0, .int 0, .int 0, .int 0, .int 0, .int 0, .int 0, .int 0]))]) hD hS hA [2] rfl
  refine va_callv (va_runIN (As := []) (rest := [.ref q_150, .int 35, .ref q_1]) ⟨hx, hb, hml, hown, hts⟩ (c_X9_init l dC dI q_150 H.size) ⟨va_cnB 0 hts g_c_X5_init_57_c_X9_init rfl rfl rfl hNX5_X9 (hts (.initialized RX9) (List.mem_of_getElem? (i := 9) rfl)) (by decide +kernel) ⟨Nat.le_of_ble_eq_true rfl, Nat.le_of_ble_eq_true rfl⟩, rfl, (hts (.instanceMethod yX9_init) (List.mem_of_getElem? (i := 12) rfl))⟩ ⟨fun a U g mk q => by obtain ⟨q0, q1, qP, qK, qD⟩ := q; exact ⟨q0, q1, qP, va_K.moved (u := U) (U := U.calling g mk a) (Vm.Alike.refl U.vm) qK, qD⟩, fun U hU hW => ⟨rfl, by rw [hU], by rw [hU]; exact hPc, va_K.moved hW.alike hKc, hDc.weaken (fun _ _ _ _ => trivial)⟩⟩ rfl rfl hl.1 rfl (lv_room (Nat.le_of_ble_eq_true rfl)) dX5_init_57 ⟨Nat.le_of_ble_eq_true rfl, Nat.le_of_ble_eq_true rfl⟩) hS (fun q _ h => hFc q h) hFc (fun u t H1 locs ht hvm hw hB hz1 hk1 hS => ?_)
  obtain ⟨hP1, hK1, hD1⟩ := hB
  rw [ht] at hP1
  have hK1 := va_K.moved hvm.symm hK1
  try dsimp only at hw
  obtain ⟨hP, hD⟩ := va_join (wr := [(h0, .inr (5, [.ref q_1, .ref q_3, .ref q_5, .ref q_7, .int 0, .int 0, .int 0, .int 0, .int 0, .int 0, .int 0])), (q_1, .inl (cy_2, 40, .inr (.inr (.inr (.inr g_148)))))]) (w1 := [(q_150, .inr (9, [.int 0, .int 0, .int 0, .int 0, .int 0, .int 0, .int 0, .int 0]))]) hP hD [2] [0, 1] rfl rfl (by decide) (by decide) hk1 hFc hP1 hD1
  have hK := hK.app hK1
  generalize H1 = H at hP hS ⊢
  have hP : va_P (dC, dI) vwCl [(h0, .inr (5, [.ref q_1, .ref q_3, .ref q_5, .ref q_7, .int 0, .int 0, .int 0, .int 0, .int 0, .int 0, .int 0])), (q_1, .inl (cy_2, 40, .inr (.inr (.inr (.inr g_148))))), (q_150, .inr (9, [.int 0, .int 0, .int 0, .int 0, .int 0, .int 0, .int 0, .int 0]))] H := hP
  have hD : va_D A [(h0, .inr (5, [.ref q_1, .ref q_3, .ref q_5, .ref q_7, .int 0, .int 0, .int 0, .int 0, .int 0, .int 0, .int 0])), (q_1, .inl (cy_2, 40, .inr (.inr (.inr (.inr g_148))))), (q_150, .inr (9, [.int 0, .int 0, .int 0, .int 0, .int 0, .int 0, .int 0, .int 0]))] := hD
  have hK : va_K (dC, dI) vwCl [(cy_2, .object RX9), (cy_4, .int), (cy_8, .int)] s := hK
  refine W.widen (k := 40) (n := 536) (Nat.le_of_ble_eq_true rfl) (Nat.le_of_ble_eq_true rfl) ?_
  refine va_astq (D := (dC, dI)) (i := 35) hx hb hK hP hD hS 1 0 2 9 (r := (RX9, TX9, 8)) rfl rfl rfl rfl (show ¬ ((35 : Int32) < 0 ∨ 40 ≤ (35 : Int32).toNatClampNeg) by decide +kernel) dX5_init_60 (fun H locs hP hD hS => ?_)
  have hP : va_P (dC, dI) vwCl [(h0, .inr (5, [.ref q_1, .ref q_3, .ref q_5, .ref q_7, .int 0, .int 0, .int 0, .int 0, .int 0, .int 0, .int 0])), (q_1, .inl (cy_2, 40, .inr (.inr (.inr (.inr (va_up (g_148) (35 : Int32).toNatClampNeg (some q_150))))))), (q_150, .inr (9, [.int 0, .int 0, .int 0, .int 0, .int 0, .int 0, .int 0, .int 0]))] H := hP
  have hD : va_D A [(h0, .inr (5, [.ref q_1, .ref q_3, .ref q_5, .ref q_7, .int 0, .int 0, .int 0, .int 0, .int 0, .int 0, .int 0])), (q_1, .inl (cy_2, 40, .inr (.inr (.inr (.inr (va_up (g_148) (35 : Int32).toNatClampNeg (some q_150))))))), (q_150, .inr (9, [.int 0, .int 0, .int 0, .int 0, .int 0, .int 0, .int 0, .int 0]))] := hD
  generalize va_up (g_148) (35 : Int32).toNatClampNeg (some q_150) = g_152 at hP hD
  refine lv_iinc (v := 36) (lv' := [(1, .int 36), (0, .ref h0)]) hx hb dX5_init_61 hl (k := 0) rfl (by decide +kernel) (by decide) rfl (fun ls hl => ?_)
  refine lv_goto (tgt := 42) hx hb dX5_init_64 (by decide) ?_
  have hP := hP.sub (ws' := [(h0, .inr (5, [.ref q_1, .ref q_3, .ref q_5, .ref q_7, .int 0, .int 0, .int 0, .int 0, .int 0, .int 0, .int 0])), (q_1, .inl (cy_2, 40, .inr (.inr (.inr (.inr g_152)))))]) [0, 1] rfl
  have hD := hD.sub (ws' := [(h0, .inr (5, [.ref q_1, .ref q_3, .ref q_5, .ref q_7, .int 0, .int 0, .int 0, .int 0, .int 0, .int 0, .int 0])), (q_1, .inl (cy_2, 40, .inr (.inr (.inr (.inr g_152)))))]) [0, 1] (by decide) rfl
  refine lv_iload_n hx hb dX5_init_42 rfl (lv_at hl 0 rfl) ?_
  refine lv_bipush (v := 40) hx hb dX5_init_43 (by decide +kernel) ?_
  refine lv_icmp_ge (tgt := 67) hx hb dX5_init_45 (by decide) (fun c_153 => absurd c_153 (by decide +kernel)) (fun c_153 => ?_)
  refine lv_aload_n hx hb dX5_init_48 rfl (lv_at hl 1 rfl) ?_
  refine va_get (D := (dC, dI)) (ci := 5) (v := .ref q_1) (C := RX5) (T := TX5) (N := 11) hx hb hts in_c_X5_init_X5 hown hK hP 0 rfl rfl 0 (by decide) (hts (.fieldLink RX5 11 "LawnAhead$History" "states" "[LLawnAhead$State;") (List.mem_of_getElem? (i := 5) rfl)) (fun _ h9 => h9) rfl dX5_init_49 ?_
  refine lv_iload_n hx hb dX5_init_52 rfl (lv_at hl 0 rfl) ?_
  refine va_new (ci := 9) (fs := [.int 0, .int 0, .int 0, .int 0, .int 0, .int 0, .int 0, .int 0]) (C := RX9) (T := TX9) (N := 8) hx hb hts in_c_X5_init_X9 tyX9 tyX9_ok hown (hts (.classLink RX5 9 RX9) (List.mem_of_getElem? (i := 4) rfl)) (hts (.instantiable RX9 8) (List.mem_of_getElem? (i := 8) rfl)) (hts (.initialized RX9) (List.mem_of_getElem? (i := 9) rfl)) hK hP hD hS hA rfl (by decide +kernel) (Nat.le_of_ble_eq_true rfl) (Nat.le_of_ble_eq_true rfl) dX5_init_53 (fun q_154 H hP hD hS => ?_)
  have hP : va_P (dC, dI) vwCl [(h0, .inr (5, [.ref q_1, .ref q_3, .ref q_5, .ref q_7, .int 0, .int 0, .int 0, .int 0, .int 0, .int 0, .int 0])), (q_1, .inl (cy_2, 40, .inr (.inr (.inr (.inr g_152))))), (q_154, .inr (9, [.int 0, .int 0, .int 0, .int 0, .int 0, .int 0, .int 0, .int 0]))] H := hP
  have hD : va_D A [(h0, .inr (5, [.ref q_1, .ref q_3, .ref q_5, .ref q_7, .int 0, .int 0, .int 0, .int 0, .int 0, .int 0, .int 0])), (q_1, .inl (cy_2, 40, .inr (.inr (.inr (.inr g_152))))), (q_154, .inr (9, [.int 0, .int 0, .int 0, .int 0, .int 0, .int 0, .int 0, .int 0]))] := hD
  refine W.widen (k := 41) (n := 544) (Nat.le_of_ble_eq_true rfl) (Nat.le_of_ble_eq_true rfl) ?_
  refine lv_dup hx hb dX5_init_56 rfl ?_
  have hPc := hP.sub (ws' := [(q_154, .inr (9, [.int 0, .int 0, .int 0, .int 0, .int 0, .int 0, .int 0, .int 0]))]) [2] rfl
  have hDc := hD.sub (ws' := [(q_154, .inr (9, [.int 0, .int 0, .int 0, .int 0, .int 0, .int 0, .int 0, .int 0]))]) [2] (by decide) rfl
  have hKc := hK.sub (tys' := []) [] rfl
  have hFc := va_free (wc := [(q_154, .inr (9, [.int 0, .int 0, .int 0, .int 0, .int 0, .int 0, .int 0, .int 0]))]) hD hS hA [2] rfl
  refine va_callv (va_runIN (As := []) (rest := [.ref q_154, .int 36, .ref q_1]) ⟨hx, hb, hml, hown, hts⟩ (c_X9_init l dC dI q_154 H.size) ⟨va_cnB 0 hts g_c_X5_init_57_c_X9_init rfl rfl rfl hNX5_X9 (hts (.initialized RX9) (List.mem_of_getElem? (i := 9) rfl)) (by decide +kernel) ⟨Nat.le_of_ble_eq_true rfl, Nat.le_of_ble_eq_true rfl⟩, rfl, (hts (.instanceMethod yX9_init) (List.mem_of_getElem? (i := 12) rfl))⟩ ⟨fun a U g mk q => by obtain ⟨q0, q1, qP, qK, qD⟩ := q; exact ⟨q0, q1, qP, va_K.moved (u := U) (U := U.calling g mk a) (Vm.Alike.refl U.vm) qK, qD⟩, fun U hU hW => ⟨rfl, by rw [hU], by rw [hU]; exact hPc, va_K.moved hW.alike hKc, hDc.weaken (fun _ _ _ _ => trivial)⟩⟩ rfl rfl hl.1 rfl (lv_room (Nat.le_of_ble_eq_true rfl)) dX5_init_57 ⟨Nat.le_of_ble_eq_true rfl, Nat.le_of_ble_eq_true rfl⟩) hS (fun q _ h => hFc q h) hFc (fun u t H1 locs ht hvm hw hB hz1 hk1 hS => ?_)
  obtain ⟨hP1, hK1, hD1⟩ := hB
  rw [ht] at hP1
  have hK1 := va_K.moved hvm.symm hK1
  try dsimp only at hw
  obtain ⟨hP, hD⟩ := va_join (wr := [(h0, .inr (5, [.ref q_1, .ref q_3, .ref q_5, .ref q_7, .int 0, .int 0, .int 0, .int 0, .int 0, .int 0, .int 0])), (q_1, .inl (cy_2, 40, .inr (.inr (.inr (.inr g_152)))))]) (w1 := [(q_154, .inr (9, [.int 0, .int 0, .int 0, .int 0, .int 0, .int 0, .int 0, .int 0]))]) hP hD [2] [0, 1] rfl rfl (by decide) (by decide) hk1 hFc hP1 hD1
  have hK := hK.app hK1
  generalize H1 = H at hP hS ⊢
  have hP : va_P (dC, dI) vwCl [(h0, .inr (5, [.ref q_1, .ref q_3, .ref q_5, .ref q_7, .int 0, .int 0, .int 0, .int 0, .int 0, .int 0, .int 0])), (q_1, .inl (cy_2, 40, .inr (.inr (.inr (.inr g_152))))), (q_154, .inr (9, [.int 0, .int 0, .int 0, .int 0, .int 0, .int 0, .int 0, .int 0]))] H := hP
  have hD : va_D A [(h0, .inr (5, [.ref q_1, .ref q_3, .ref q_5, .ref q_7, .int 0, .int 0, .int 0, .int 0, .int 0, .int 0, .int 0])), (q_1, .inl (cy_2, 40, .inr (.inr (.inr (.inr g_152))))), (q_154, .inr (9, [.int 0, .int 0, .int 0, .int 0, .int 0, .int 0, .int 0, .int 0]))] := hD
  have hK : va_K (dC, dI) vwCl [(cy_2, .object RX9), (cy_4, .int), (cy_8, .int)] s := hK
  refine W.widen (k := 41) (n := 544) (Nat.le_of_ble_eq_true rfl) (Nat.le_of_ble_eq_true rfl) ?_
  refine va_astq (D := (dC, dI)) (i := 36) hx hb hK hP hD hS 1 0 2 9 (r := (RX9, TX9, 8)) rfl rfl rfl rfl (show ¬ ((36 : Int32) < 0 ∨ 40 ≤ (36 : Int32).toNatClampNeg) by decide +kernel) dX5_init_60 (fun H locs hP hD hS => ?_)
  have hP : va_P (dC, dI) vwCl [(h0, .inr (5, [.ref q_1, .ref q_3, .ref q_5, .ref q_7, .int 0, .int 0, .int 0, .int 0, .int 0, .int 0, .int 0])), (q_1, .inl (cy_2, 40, .inr (.inr (.inr (.inr (va_up (g_152) (36 : Int32).toNatClampNeg (some q_154))))))), (q_154, .inr (9, [.int 0, .int 0, .int 0, .int 0, .int 0, .int 0, .int 0, .int 0]))] H := hP
  have hD : va_D A [(h0, .inr (5, [.ref q_1, .ref q_3, .ref q_5, .ref q_7, .int 0, .int 0, .int 0, .int 0, .int 0, .int 0, .int 0])), (q_1, .inl (cy_2, 40, .inr (.inr (.inr (.inr (va_up (g_152) (36 : Int32).toNatClampNeg (some q_154))))))), (q_154, .inr (9, [.int 0, .int 0, .int 0, .int 0, .int 0, .int 0, .int 0, .int 0]))] := hD
  generalize va_up (g_152) (36 : Int32).toNatClampNeg (some q_154) = g_156 at hP hD
  refine lv_iinc (v := 37) (lv' := [(1, .int 37), (0, .ref h0)]) hx hb dX5_init_61 hl (k := 0) rfl (by decide +kernel) (by decide) rfl (fun ls hl => ?_)
  refine lv_goto (tgt := 42) hx hb dX5_init_64 (by decide) ?_
  have hP := hP.sub (ws' := [(h0, .inr (5, [.ref q_1, .ref q_3, .ref q_5, .ref q_7, .int 0, .int 0, .int 0, .int 0, .int 0, .int 0, .int 0])), (q_1, .inl (cy_2, 40, .inr (.inr (.inr (.inr g_156)))))]) [0, 1] rfl
  have hD := hD.sub (ws' := [(h0, .inr (5, [.ref q_1, .ref q_3, .ref q_5, .ref q_7, .int 0, .int 0, .int 0, .int 0, .int 0, .int 0, .int 0])), (q_1, .inl (cy_2, 40, .inr (.inr (.inr (.inr g_156)))))]) [0, 1] (by decide) rfl
  refine lv_iload_n hx hb dX5_init_42 rfl (lv_at hl 0 rfl) ?_
  refine lv_bipush (v := 40) hx hb dX5_init_43 (by decide +kernel) ?_
  refine lv_icmp_ge (tgt := 67) hx hb dX5_init_45 (by decide) (fun c_157 => absurd c_157 (by decide +kernel)) (fun c_157 => ?_)
  refine lv_aload_n hx hb dX5_init_48 rfl (lv_at hl 1 rfl) ?_
  refine va_get (D := (dC, dI)) (ci := 5) (v := .ref q_1) (C := RX5) (T := TX5) (N := 11) hx hb hts in_c_X5_init_X5 hown hK hP 0 rfl rfl 0 (by decide) (hts (.fieldLink RX5 11 "LawnAhead$History" "states" "[LLawnAhead$State;") (List.mem_of_getElem? (i := 5) rfl)) (fun _ h9 => h9) rfl dX5_init_49 ?_
  refine lv_iload_n hx hb dX5_init_52 rfl (lv_at hl 0 rfl) ?_
  refine va_new (ci := 9) (fs := [.int 0, .int 0, .int 0, .int 0, .int 0, .int 0, .int 0, .int 0]) (C := RX9) (T := TX9) (N := 8) hx hb hts in_c_X5_init_X9 tyX9 tyX9_ok hown (hts (.classLink RX5 9 RX9) (List.mem_of_getElem? (i := 4) rfl)) (hts (.instantiable RX9 8) (List.mem_of_getElem? (i := 8) rfl)) (hts (.initialized RX9) (List.mem_of_getElem? (i := 9) rfl)) hK hP hD hS hA rfl (by decide +kernel) (Nat.le_of_ble_eq_true rfl) (Nat.le_of_ble_eq_true rfl) dX5_init_53 (fun q_158 H hP hD hS => ?_)
  have hP : va_P (dC, dI) vwCl [(h0, .inr (5, [.ref q_1, .ref q_3, .ref q_5, .ref q_7, .int 0, .int 0, .int 0, .int 0, .int 0, .int 0, .int 0])), (q_1, .inl (cy_2, 40, .inr (.inr (.inr (.inr g_156))))), (q_158, .inr (9, [.int 0, .int 0, .int 0, .int 0, .int 0, .int 0, .int 0, .int 0]))] H := hP
  have hD : va_D A [(h0, .inr (5, [.ref q_1, .ref q_3, .ref q_5, .ref q_7, .int 0, .int 0, .int 0, .int 0, .int 0, .int 0, .int 0])), (q_1, .inl (cy_2, 40, .inr (.inr (.inr (.inr g_156))))), (q_158, .inr (9, [.int 0, .int 0, .int 0, .int 0, .int 0, .int 0, .int 0, .int 0]))] := hD
  refine W.widen (k := 42) (n := 552) (Nat.le_of_ble_eq_true rfl) (Nat.le_of_ble_eq_true rfl) ?_
  refine lv_dup hx hb dX5_init_56 rfl ?_
  have hPc := hP.sub (ws' := [(q_158, .inr (9, [.int 0, .int 0, .int 0, .int 0, .int 0, .int 0, .int 0, .int 0]))]) [2] rfl
  have hDc := hD.sub (ws' := [(q_158, .inr (9, [.int 0, .int 0, .int 0, .int 0, .int 0, .int 0, .int 0, .int 0]))]) [2] (by decide) rfl
  have hKc := hK.sub (tys' := []) [] rfl
  have hFc := va_free (wc := [(q_158, .inr (9, [.int 0, .int 0, .int 0, .int 0, .int 0, .int 0, .int 0, .int 0]))]) hD hS hA [2] rfl
  refine va_callv (va_runIN (As := []) (rest := [.ref q_158, .int 37, .ref q_1]) ⟨hx, hb, hml, hown, hts⟩ (c_X9_init l dC dI q_158 H.size) ⟨va_cnB 0 hts g_c_X5_init_57_c_X9_init rfl rfl rfl hNX5_X9 (hts (.initialized RX9) (List.mem_of_getElem? (i := 9) rfl)) (by decide +kernel) ⟨Nat.le_of_ble_eq_true rfl, Nat.le_of_ble_eq_true rfl⟩, rfl, (hts (.instanceMethod yX9_init) (List.mem_of_getElem? (i := 12) rfl))⟩ ⟨fun a U g mk q => by obtain ⟨q0, q1, qP, qK, qD⟩ := q; exact ⟨q0, q1, qP, va_K.moved (u := U) (U := U.calling g mk a) (Vm.Alike.refl U.vm) qK, qD⟩, fun U hU hW => ⟨rfl, by rw [hU], by rw [hU]; exact hPc, va_K.moved hW.alike hKc, hDc.weaken (fun _ _ _ _ => trivial)⟩⟩ rfl rfl hl.1 rfl (lv_room (Nat.le_of_ble_eq_true rfl)) dX5_init_57 ⟨Nat.le_of_ble_eq_true rfl, Nat.le_of_ble_eq_true rfl⟩) hS (fun q _ h => hFc q h) hFc (fun u t H1 locs ht hvm hw hB hz1 hk1 hS => ?_)
  obtain ⟨hP1, hK1, hD1⟩ := hB
  rw [ht] at hP1
  have hK1 := va_K.moved hvm.symm hK1
  try dsimp only at hw
  obtain ⟨hP, hD⟩ := va_join (wr := [(h0, .inr (5, [.ref q_1, .ref q_3, .ref q_5, .ref q_7, .int 0, .int 0, .int 0, .int 0, .int 0, .int 0, .int 0])), (q_1, .inl (cy_2, 40, .inr (.inr (.inr (.inr g_156)))))]) (w1 := [(q_158, .inr (9, [.int 0, .int 0, .int 0, .int 0, .int 0, .int 0, .int 0, .int 0]))]) hP hD [2] [0, 1] rfl rfl (by decide) (by decide) hk1 hFc hP1 hD1
  have hK := hK.app hK1
  generalize H1 = H at hP hS ⊢
  have hP : va_P (dC, dI) vwCl [(h0, .inr (5, [.ref q_1, .ref q_3, .ref q_5, .ref q_7, .int 0, .int 0, .int 0, .int 0, .int 0, .int 0, .int 0])), (q_1, .inl (cy_2, 40, .inr (.inr (.inr (.inr g_156))))), (q_158, .inr (9, [.int 0, .int 0, .int 0, .int 0, .int 0, .int 0, .int 0, .int 0]))] H := hP
  have hD : va_D A [(h0, .inr (5, [.ref q_1, .ref q_3, .ref q_5, .ref q_7, .int 0, .int 0, .int 0, .int 0, .int 0, .int 0, .int 0])), (q_1, .inl (cy_2, 40, .inr (.inr (.inr (.inr g_156))))), (q_158, .inr (9, [.int 0, .int 0, .int 0, .int 0, .int 0, .int 0, .int 0, .int 0]))] := hD
  have hK : va_K (dC, dI) vwCl [(cy_2, .object RX9), (cy_4, .int), (cy_8, .int)] s := hK
  refine W.widen (k := 42) (n := 552) (Nat.le_of_ble_eq_true rfl) (Nat.le_of_ble_eq_true rfl) ?_
  refine va_astq (D := (dC, dI)) (i := 37) hx hb hK hP hD hS 1 0 2 9 (r := (RX9, TX9, 8)) rfl rfl rfl rfl (show ¬ ((37 : Int32) < 0 ∨ 40 ≤ (37 : Int32).toNatClampNeg) by decide +kernel) dX5_init_60 (fun H locs hP hD hS => ?_)
  have hP : va_P (dC, dI) vwCl [(h0, .inr (5, [.ref q_1, .ref q_3, .ref q_5, .ref q_7, .int 0, .int 0, .int 0, .int 0, .int 0, .int 0, .int 0])), (q_1, .inl (cy_2, 40, .inr (.inr (.inr (.inr (va_up (g_156) (37 : Int32).toNatClampNeg (some q_158))))))), (q_158, .inr (9, [.int 0, .int 0, .int 0, .int 0, .int 0, .int 0, .int 0, .int 0]))] H := hP
  have hD : va_D A [(h0, .inr (5, [.ref q_1, .ref q_3, .ref q_5, .ref q_7, .int 0, .int 0, .int 0, .int 0, .int 0, .int 0, .int 0])), (q_1, .inl (cy_2, 40, .inr (.inr (.inr (.inr (va_up (g_156) (37 : Int32).toNatClampNeg (some q_158))))))), (q_158, .inr (9, [.int 0, .int 0, .int 0, .int 0, .int 0, .int 0, .int 0, .int 0]))] := hD
  generalize va_up (g_156) (37 : Int32).toNatClampNeg (some q_158) = g_160 at hP hD
  refine lv_iinc (v := 38) (lv' := [(1, .int 38), (0, .ref h0)]) hx hb dX5_init_61 hl (k := 0) rfl (by decide +kernel) (by decide) rfl (fun ls hl => ?_)
  refine lv_goto (tgt := 42) hx hb dX5_init_64 (by decide) ?_
  have hP := hP.sub (ws' := [(h0, .inr (5, [.ref q_1, .ref q_3, .ref q_5, .ref q_7, .int 0, .int 0, .int 0, .int 0, .int 0, .int 0, .int 0])), (q_1, .inl (cy_2, 40, .inr (.inr (.inr (.inr g_160)))))]) [0, 1] rfl
  have hD := hD.sub (ws' := [(h0, .inr (5, [.ref q_1, .ref q_3, .ref q_5, .ref q_7, .int 0, .int 0, .int 0, .int 0, .int 0, .int 0, .int 0])), (q_1, .inl (cy_2, 40, .inr (.inr (.inr (.inr g_160)))))]) [0, 1] (by decide) rfl
  refine lv_iload_n hx hb dX5_init_42 rfl (lv_at hl 0 rfl) ?_
  refine lv_bipush (v := 40) hx hb dX5_init_43 (by decide +kernel) ?_
  refine lv_icmp_ge (tgt := 67) hx hb dX5_init_45 (by decide) (fun c_161 => absurd c_161 (by decide +kernel)) (fun c_161 => ?_)
  refine lv_aload_n hx hb dX5_init_48 rfl (lv_at hl 1 rfl) ?_
  refine va_get (D := (dC, dI)) (ci := 5) (v := .ref q_1) (C := RX5) (T := TX5) (N := 11) hx hb hts in_c_X5_init_X5 hown hK hP 0 rfl rfl 0 (by decide) (hts (.fieldLink RX5 11 "LawnAhead$History" "states" "[LLawnAhead$State;") (List.mem_of_getElem? (i := 5) rfl)) (fun _ h9 => h9) rfl dX5_init_49 ?_
  refine lv_iload_n hx hb dX5_init_52 rfl (lv_at hl 0 rfl) ?_
  refine va_new (ci := 9) (fs := [.int 0, .int 0, .int 0, .int 0, .int 0, .int 0, .int 0, .int 0]) (C := RX9) (T := TX9) (N := 8) hx hb hts in_c_X5_init_X9 tyX9 tyX9_ok hown (hts (.classLink RX5 9 RX9) (List.mem_of_getElem? (i := 4) rfl)) (hts (.instantiable RX9 8) (List.mem_of_getElem? (i := 8) rfl)) (hts (.initialized RX9) (List.mem_of_getElem? (i := 9) rfl)) hK hP hD hS hA rfl (by decide +kernel) (Nat.le_of_ble_eq_true rfl) (Nat.le_of_ble_eq_true rfl) dX5_init_53 (fun q_162 H hP hD hS => ?_)
  have hP : va_P (dC, dI) vwCl [(h0, .inr (5, [.ref q_1, .ref q_3, .ref q_5, .ref q_7, .int 0, .int 0, .int 0, .int 0, .int 0, .int 0, .int 0])), (q_1, .inl (cy_2, 40, .inr (.inr (.inr (.inr g_160))))), (q_162, .inr (9, [.int 0, .int 0, .int 0, .int 0, .int 0, .int 0, .int 0, .int 0]))] H := hP
  have hD : va_D A [(h0, .inr (5, [.ref q_1, .ref q_3, .ref q_5, .ref q_7, .int 0, .int 0, .int 0, .int 0, .int 0, .int 0, .int 0])), (q_1, .inl (cy_2, 40, .inr (.inr (.inr (.inr g_160))))), (q_162, .inr (9, [.int 0, .int 0, .int 0, .int 0, .int 0, .int 0, .int 0, .int 0]))] := hD
  refine W.widen (k := 43) (n := 560) (Nat.le_of_ble_eq_true rfl) (Nat.le_of_ble_eq_true rfl) ?_
  refine lv_dup hx hb dX5_init_56 rfl ?_
  have hPc := hP.sub (ws' := [(q_162, .inr (9, [.int 0, .int 0, .int 0, .int 0, .int 0, .int 0, .int 0, .int 0]))]) [2] rfl
  have hDc := hD.sub (ws' := [(q_162, .inr (9, [.int 0, .int 0, .int 0, .int 0, .int 0, .int 0, .int 0, .int 0]))]) [2] (by decide) rfl
  have hKc := hK.sub (tys' := []) [] rfl
  have hFc := va_free (wc := [(q_162, .inr (9, [.int 0, .int 0, .int 0, .int 0, .int 0, .int 0, .int 0, .int 0]))]) hD hS hA [2] rfl
  refine va_callv (va_runIN (As := []) (rest := [.ref q_162, .int 38, .ref q_1]) ⟨hx, hb, hml, hown, hts⟩ (c_X9_init l dC dI q_162 H.size) ⟨va_cnB 0 hts g_c_X5_init_57_c_X9_init rfl rfl rfl hNX5_X9 (hts (.initialized RX9) (List.mem_of_getElem? (i := 9) rfl)) (by decide +kernel) ⟨Nat.le_of_ble_eq_true rfl, Nat.le_of_ble_eq_true rfl⟩, rfl, (hts (.instanceMethod yX9_init) (List.mem_of_getElem? (i := 12) rfl))⟩ ⟨fun a U g mk q => by obtain ⟨q0, q1, qP, qK, qD⟩ := q; exact ⟨q0, q1, qP, va_K.moved (u := U) (U := U.calling g mk a) (Vm.Alike.refl U.vm) qK, qD⟩, fun U hU hW => ⟨rfl, by rw [hU], by rw [hU]; exact hPc, va_K.moved hW.alike hKc, hDc.weaken (fun _ _ _ _ => trivial)⟩⟩ rfl rfl hl.1 rfl (lv_room (Nat.le_of_ble_eq_true rfl)) dX5_init_57 ⟨Nat.le_of_ble_eq_true rfl, Nat.le_of_ble_eq_true rfl⟩) hS (fun q _ h => hFc q h) hFc (fun u t H1 locs ht hvm hw hB hz1 hk1 hS => ?_)
  obtain ⟨hP1, hK1, hD1⟩ := hB
  rw [ht] at hP1
  have hK1 := va_K.moved hvm.symm hK1
  try dsimp only at hw
  obtain ⟨hP, hD⟩ := va_join (wr := [(h0, .inr (5, [.ref q_1, .ref q_3, .ref q_5, .ref q_7, .int 0, .int 0, .int 0, .int 0, .int 0, .int 0, .int 0])), (q_1, .inl (cy_2, 40, .inr (.inr (.inr (.inr g_160)))))]) (w1 := [(q_162, .inr (9, [.int 0, .int 0, .int 0, .int 0, .int 0, .int 0, .int 0, .int 0]))]) hP hD [2] [0, 1] rfl rfl (by decide) (by decide) hk1 hFc hP1 hD1
  have hK := hK.app hK1
  generalize H1 = H at hP hS ⊢
  have hP : va_P (dC, dI) vwCl [(h0, .inr (5, [.ref q_1, .ref q_3, .ref q_5, .ref q_7, .int 0, .int 0, .int 0, .int 0, .int 0, .int 0, .int 0])), (q_1, .inl (cy_2, 40, .inr (.inr (.inr (.inr g_160))))), (q_162, .inr (9, [.int 0, .int 0, .int 0, .int 0, .int 0, .int 0, .int 0, .int 0]))] H := hP
  have hD : va_D A [(h0, .inr (5, [.ref q_1, .ref q_3, .ref q_5, .ref q_7, .int 0, .int 0, .int 0, .int 0, .int 0, .int 0, .int 0])), (q_1, .inl (cy_2, 40, .inr (.inr (.inr (.inr g_160))))), (q_162, .inr (9, [.int 0, .int 0, .int 0, .int 0, .int 0, .int 0, .int 0, .int 0]))] := hD
  have hK : va_K (dC, dI) vwCl [(cy_2, .object RX9), (cy_4, .int), (cy_8, .int)] s := hK
  refine W.widen (k := 43) (n := 560) (Nat.le_of_ble_eq_true rfl) (Nat.le_of_ble_eq_true rfl) ?_
  refine va_astq (D := (dC, dI)) (i := 38) hx hb hK hP hD hS 1 0 2 9 (r := (RX9, TX9, 8)) rfl rfl rfl rfl (show ¬ ((38 : Int32) < 0 ∨ 40 ≤ (38 : Int32).toNatClampNeg) by decide +kernel) dX5_init_60 (fun H locs hP hD hS => ?_)
  have hP : va_P (dC, dI) vwCl [(h0, .inr (5, [.ref q_1, .ref q_3, .ref q_5, .ref q_7, .int 0, .int 0, .int 0, .int 0, .int 0, .int 0, .int 0])), (q_1, .inl (cy_2, 40, .inr (.inr (.inr (.inr (va_up (g_160) (38 : Int32).toNatClampNeg (some q_162))))))), (q_162, .inr (9, [.int 0, .int 0, .int 0, .int 0, .int 0, .int 0, .int 0, .int 0]))] H := hP
  have hD : va_D A [(h0, .inr (5, [.ref q_1, .ref q_3, .ref q_5, .ref q_7, .int 0, .int 0, .int 0, .int 0, .int 0, .int 0, .int 0])), (q_1, .inl (cy_2, 40, .inr (.inr (.inr (.inr (va_up (g_160) (38 : Int32).toNatClampNeg (some q_162))))))), (q_162, .inr (9, [.int 0, .int 0, .int 0, .int 0, .int 0, .int 0, .int 0, .int 0]))] := hD
  generalize va_up (g_160) (38 : Int32).toNatClampNeg (some q_162) = g_164 at hP hD
  refine lv_iinc (v := 39) (lv' := [(1, .int 39), (0, .ref h0)]) hx hb dX5_init_61 hl (k := 0) rfl (by decide +kernel) (by decide) rfl (fun ls hl => ?_)
  refine lv_goto (tgt := 42) hx hb dX5_init_64 (by decide) ?_
  have hP := hP.sub (ws' := [(h0, .inr (5, [.ref q_1, .ref q_3, .ref q_5, .ref q_7, .int 0, .int 0, .int 0, .int 0, .int 0, .int 0, .int 0])), (q_1, .inl (cy_2, 40, .inr (.inr (.inr (.inr g_164)))))]) [0, 1] rfl
  have hD := hD.sub (ws' := [(h0, .inr (5, [.ref q_1, .ref q_3, .ref q_5, .ref q_7, .int 0, .int 0, .int 0, .int 0, .int 0, .int 0, .int 0])), (q_1, .inl (cy_2, 40, .inr (.inr (.inr (.inr g_164)))))]) [0, 1] (by decide) rfl
  refine lv_iload_n hx hb dX5_init_42 rfl (lv_at hl 0 rfl) ?_
  refine lv_bipush (v := 40) hx hb dX5_init_43 (by decide +kernel) ?_
  refine lv_icmp_ge (tgt := 67) hx hb dX5_init_45 (by decide) (fun c_165 => absurd c_165 (by decide +kernel)) (fun c_165 => ?_)
  refine lv_aload_n hx hb dX5_init_48 rfl (lv_at hl 1 rfl) ?_
  refine va_get (D := (dC, dI)) (ci := 5) (v := .ref q_1) (C := RX5) (T := TX5) (N := 11) hx hb hts in_c_X5_init_X5 hown hK hP 0 rfl rfl 0 (by decide) (hts (.fieldLink RX5 11 "LawnAhead$History" "states" "[LLawnAhead$State;") (List.mem_of_getElem? (i := 5) rfl)) (fun _ h9 => h9) rfl dX5_init_49 ?_
  refine lv_iload_n hx hb dX5_init_52 rfl (lv_at hl 0 rfl) ?_
  refine va_new (ci := 9) (fs := [.int 0, .int 0, .int 0, .int 0, .int 0, .int 0, .int 0, .int 0]) (C := RX9) (T := TX9) (N := 8) hx hb hts in_c_X5_init_X9 tyX9 tyX9_ok hown (hts (.classLink RX5 9 RX9) (List.mem_of_getElem? (i := 4) rfl)) (hts (.instantiable RX9 8) (List.mem_of_getElem? (i := 8) rfl)) (hts (.initialized RX9) (List.mem_of_getElem? (i := 9) rfl)) hK hP hD hS hA rfl (by decide +kernel) (Nat.le_of_ble_eq_true rfl) (Nat.le_of_ble_eq_true rfl) dX5_init_53 (fun q_166 H hP hD hS => ?_)
  have hP : va_P (dC, dI) vwCl [(h0, .inr (5, [.ref q_1, .ref q_3, .ref q_5, .ref q_7, .int 0, .int 0, .int 0, .int 0, .int 0, .int 0, .int 0])), (q_1, .inl (cy_2, 40, .inr (.inr (.inr (.inr g_164))))), (q_166, .inr (9, [.int 0, .int 0, .int 0, .int 0, .int 0, .int 0, .int 0, .int 0]))] H := hP
  have hD : va_D A [(h0, .inr (5, [.ref q_1, .ref q_3, .ref q_5, .ref q_7, .int 0, .int 0, .int 0, .int 0, .int 0, .int 0, .int 0])), (q_1, .inl (cy_2, 40, .inr (.inr (.inr (.inr g_164))))), (q_166, .inr (9, [.int 0, .int 0, .int 0, .int 0, .int 0, .int 0, .int 0, .int 0]))] := hD
  refine W.widen (k := 44) (n := 568) (Nat.le_of_ble_eq_true rfl) (Nat.le_of_ble_eq_true rfl) ?_
  refine lv_dup hx hb dX5_init_56 rfl ?_
  have hPc := hP.sub (ws' := [(q_166, .inr (9, [.int 0, .int 0, .int 0, .int 0, .int 0, .int 0, .int 0, .int 0]))]) [2] rfl
  have hDc := hD.sub (ws' := [(q_166, .inr (9, [.int 0, .int 0, .int 0, .int 0, .int 0, .int 0, .int 0, .int 0]))]) [2] (by decide) rfl
  have hKc := hK.sub (tys' := []) [] rfl
  have hFc := va_free (wc := [(q_166, .inr (9, [.int 0, .int 0, .int 0, .int 0, .int 0, .int 0, .int 0, .int 0]))]) hD hS hA [2] rfl
  refine va_callv (va_runIN (As := []) (rest := [.ref q_166, .int 39, .ref q_1]) ⟨hx, hb, hml, hown, hts⟩ (c_X9_init l dC dI q_166 H.size) ⟨va_cnB 0 hts g_c_X5_init_57_c_X9_init rfl rfl rfl hNX5_X9 (hts (.initialized RX9) (List.mem_of_getElem? (i := 9) rfl)) (by decide +kernel) ⟨Nat.le_of_ble_eq_true rfl, Nat.le_of_ble_eq_true rfl⟩, rfl, (hts (.instanceMethod yX9_init) (List.mem_of_getElem? (i := 12) rfl))⟩ ⟨fun a U g mk q => by obtain ⟨q0, q1, qP, qK, qD⟩ := q; exact ⟨q0, q1, qP, va_K.moved (u := U) (U := U.calling g mk a) (Vm.Alike.refl U.vm) qK, qD⟩, fun U hU hW => ⟨rfl, by rw [hU], by rw [hU]; exact hPc, va_K.moved hW.alike hKc, hDc.weaken (fun _ _ _ _ => trivial)⟩⟩ rfl rfl hl.1 rfl (lv_room (Nat.le_of_ble_eq_true rfl)) dX5_init_57 ⟨Nat.le_of_ble_eq_true rfl, Nat.le_of_ble_eq_true rfl⟩) hS (fun q _ h => hFc q h) hFc (fun u t H1 locs ht hvm hw hB hz1 hk1 hS => ?_)
  obtain ⟨hP1, hK1, hD1⟩ := hB
  rw [ht] at hP1
  have hK1 := va_K.moved hvm.symm hK1
  try dsimp only at hw
  obtain ⟨hP, hD⟩ := va_join (wr := [(h0, .inr (5, [.ref q_1, .ref q_3, .ref q_5, .ref q_7, .int 0, .int 0, .int 0, .int 0, .int 0, .int 0, .int 0])), (q_1, .inl (cy_2, 40, .inr (.inr (.inr (.inr g_164)))))]) (w1 := [(q_166, .inr (9, [.int 0, .int 0, .int 0, .int 0, .int 0, .int 0, .int 0, .int 0]))]) hP hD [2] [0, 1] rfl rfl (by decide) (by decide) hk1 hFc hP1 hD1
  have hK := hK.app hK1
  generalize H1 = H at hP hS ⊢
  have hP : va_P (dC, dI) vwCl [(h0, .inr (5, [.ref q_1, .ref q_3, .ref q_5, .ref q_7, .int 0, .int 0, .int 0, .int 0, .int 0, .int 0, .int 0])), (q_1, .inl (cy_2, 40, .inr (.inr (.inr (.inr g_164))))), (q_166, .inr (9, [.int 0, .int 0, .int 0, .int 0, .int 0, .int 0, .int 0, .int 0]))] H := hP
  have hD : va_D A [(h0, .inr (5, [.ref q_1, .ref q_3, .ref q_5, .ref q_7, .int 0, .int 0, .int 0, .int 0, .int 0, .int 0, .int 0])), (q_1, .inl (cy_2, 40, .inr (.inr (.inr (.inr g_164))))), (q_166, .inr (9, [.int 0, .int 0, .int 0, .int 0, .int 0, .int 0, .int 0, .int 0]))] := hD
  have hK : va_K (dC, dI) vwCl [(cy_2, .object RX9), (cy_4, .int), (cy_8, .int)] s := hK
  refine W.widen (k := 44) (n := 568) (Nat.le_of_ble_eq_true rfl) (Nat.le_of_ble_eq_true rfl) ?_
  refine va_astq (D := (dC, dI)) (i := 39) hx hb hK hP hD hS 1 0 2 9 (r := (RX9, TX9, 8)) rfl rfl rfl rfl (show ¬ ((39 : Int32) < 0 ∨ 40 ≤ (39 : Int32).toNatClampNeg) by decide +kernel) dX5_init_60 (fun H locs hP hD hS => ?_)
  have hP : va_P (dC, dI) vwCl [(h0, .inr (5, [.ref q_1, .ref q_3, .ref q_5, .ref q_7, .int 0, .int 0, .int 0, .int 0, .int 0, .int 0, .int 0])), (q_1, .inl (cy_2, 40, .inr (.inr (.inr (.inr (va_up (g_164) (39 : Int32).toNatClampNeg (some q_166))))))), (q_166, .inr (9, [.int 0, .int 0, .int 0, .int 0, .int 0, .int 0, .int 0, .int 0]))] H := hP
  have hD : va_D A [(h0, .inr (5, [.ref q_1, .ref q_3, .ref q_5, .ref q_7, .int 0, .int 0, .int 0, .int 0, .int 0, .int 0, .int 0])), (q_1, .inl (cy_2, 40, .inr (.inr (.inr (.inr (va_up (g_164) (39 : Int32).toNatClampNeg (some q_166))))))), (q_166, .inr (9, [.int 0, .int 0, .int 0, .int 0, .int 0, .int 0, .int 0, .int 0]))] := hD
  generalize va_up (g_164) (39 : Int32).toNatClampNeg (some q_166) = g_168 at hP hD
  refine lv_iinc (v := 40) (lv' := [(1, .int 40), (0, .ref h0)]) hx hb dX5_init_61 hl (k := 0) rfl (by decide +kernel) (by decide) rfl (fun ls hl => ?_)
  refine lv_goto (tgt := 42) hx hb dX5_init_64 (by decide) ?_
  have hP := hP.sub (ws' := [(h0, .inr (5, [.ref q_1, .ref q_3, .ref q_5, .ref q_7, .int 0, .int 0, .int 0, .int 0, .int 0, .int 0, .int 0])), (q_1, .inl (cy_2, 40, .inr (.inr (.inr (.inr g_168)))))]) [0, 1] rfl
  have hD := hD.sub (ws' := [(h0, .inr (5, [.ref q_1, .ref q_3, .ref q_5, .ref q_7, .int 0, .int 0, .int 0, .int 0, .int 0, .int 0, .int 0])), (q_1, .inl (cy_2, 40, .inr (.inr (.inr (.inr g_168)))))]) [0, 1] (by decide) rfl
  refine lv_iload_n hx hb dX5_init_42 rfl (lv_at hl 0 rfl) ?_
  refine lv_bipush (v := 40) hx hb dX5_init_43 (by decide +kernel) ?_
  refine lv_icmp_ge (tgt := 67) hx hb dX5_init_45 (by decide) (fun c_169 => ?_) (fun c_169 => absurd (by decide +kernel) c_169)
  refine W.widen (k := 44) (n := 568) (Nat.le_of_ble_eq_true rfl) (Nat.le_of_ble_eq_true rfl) ?_
  have hP9 := hP.sub (ws' := [(h0, .inr (5, [.ref q_1, .ref q_3, .ref q_5, .ref q_7, .int 0, .int 0, .int 0, .int 0, .int 0, .int 0, .int 0]))]) [0] rfl
  have hD9 := hD.sub (ws' := [(h0, .inr (5, [.ref q_1, .ref q_3, .ref q_5, .ref q_7, .int 0, .int 0, .int 0, .int 0, .int 0, .int 0, .int 0]))]) [0] (by decide) rfl
  have hK9 := hK.sub (tys' := []) [] rfl
  exact W.vret hx hb hr (fun t ht hW => ⟨⟨(), rfl, trivial, q_1, q_3, q_5, q_7, by rw [ht]; exact hP9, va_K.moved hW.alike hK9, hD9⟩, hS.F ht⟩) hS.2.2 dX5_init_67

def w_c_X7_init : List Cond := .code yX7_init cX7_init 3 none :: ([.methodLink RX7 3 objectInit, .instanceMethod objectInit, .code objectInit ⟨#[0xb1]⟩ 1 none, .classLink RX7 11 RX9, .fieldLink RX7 13 "LawnAhead$Play" "levels" "[LLawnAhead$State;", .arrayClass .int, .fieldLink RX7 19 "LawnAhead$Play" "taken" "[I", .fieldLink RX7 23 "LawnAhead$Play" "grown" "[I", .classLink RX7 17 RX3, .instantiable RX3 3, .initialized RX3, .methodLink RX3 3 objectInit, .fieldLink RX3 11 "LawnAhead$Game" "moves" "[I", .code yX3_init cX3_init 1 none, .instanceMethod yX3_init, .fieldLink RX7 27 "LawnAhead$Play" "game" "LLawnAhead$Game;", .fieldLink RX7 31 "LawnAhead$Play" "sight" "LLawnAhead$Sight;", .instantiable RX9 8, .initialized RX9, .methodLink RX9 1 objectInit, .code yX9_init cX9_init 1 none, .instanceMethod yX9_init] ++ (wsX70 ++ (wsX30 ++ (wsX90 ++ []))))
theorem in_c_X7_init_X7 : ∀ w ∈ wsX70, w ∈ w_c_X7_init := fun w h => List.mem_cons_of_mem _ (List.mem_append_right _ (List.mem_append_left _ h))
theorem in_c_X7_init_X3 : ∀ w ∈ wsX30, w ∈ w_c_X7_init := fun w h => List.mem_cons_of_mem _ (List.mem_append_right _ (List.mem_append_right _ (List.mem_append_left _ h)))
theorem in_c_X7_init_X9 : ∀ w ∈ wsX90, w ∈ w_c_X7_init := fun w h => List.mem_cons_of_mem _ (List.mem_append_right _ (List.mem_append_right _ (List.mem_append_right _ (List.mem_append_left _ h))))
set_option maxRecDepth 100000 in
theorem g_c_X7_init_33_c_X3_init : GoodIn w_c_X7_init (w_c_X3_init) := goodIn_r _ [14, 12, 2, 3, 6, 13, 32, 33, 34] rfl (by decide +kernel)
set_option maxRecDepth 100000 in
theorem g_c_X7_init_60_c_X9_init : GoodIn w_c_X7_init (w_c_X9_init) := goodIn_r _ [21, 20, 2, 3] rfl (by decide +kernel)
set_option maxHeartbeats 8000000 in
set_option maxRecDepth 100000 in
theorem c_X7_init (l : Launch) (dC : Nat → ClassId) (dI : Nat → Nat → Nat) (h0 : Nat) (p1 : Nat) (sz : Nat) : Met l yX7_init w_c_X7_init ({ frames := 2, cells := 9, slots := 89, locals := 32 }) (va_Pc [.ref h0, .ref p1] (fun U => U.heap.size = sz ∧ va_P (dC, dI) vwCl [(h0, .inr (7, [.null, .null, .null, .null, .null, .int 0, .int 0, .int 0, .int 0]))] U.heap ∧ va_K (dC, dI) vwCl [] U ∧ va_D (fun _ => True) [(h0, .inr (7, [.null, .null, .null, .null, .null, .int 0, .int 0, .int 0, .int 0]))] ∧ va_Nw (.methodLinkNest RX7 26 yX3_init RX11) U ∧ va_Nw (.methodLinkNest RX7 35 yX9_init RX11) U ∧ va_AO RX9 U)) (va_Qv (fun (_ : Unit) => True) (fun _ t => ∃ (q_1 : Nat) (q_3 : Nat) (q_5 : Nat) (q_7 : Nat), va_P (dC, dI) vwCl [(h0, .inr (7, [.ref p1, .ref q_1, .ref q_3, .ref q_5, .ref q_7, .int 0, .int 0, .int 0, .int 0]))] t.heap ∧ va_K (dC, dI) vwCl [] t ∧ va_D (va_A [(h0, .inr (7, [.null, .null, .null, .null, .null, .int 0, .int 0, .int 0, .int 0]))] sz) [(h0, .inr (7, [.ref p1, .ref q_1, .ref q_3, .ref q_5, .ref q_7, .int 0, .int 0, .int 0, .int 0]))]) (va_A [(h0, .inr (7, [.null, .null, .null, .null, .null, .int 0, .int 0, .int 0, .int 0]))] sz)) 9 89 (va_A [(h0, .inr (7, [.null, .null, .null, .null, .null, .int 0, .int 0, .int 0, .int 0]))] sz) := by
  refine Met.ofW (cc := cX7_init) (maxL := 3) (ret := none) (by decide) rfl ?_
  intro p e s m args below meth c s₁ B hml hv
  obtain ⟨rfl, hsz, hP, hK, hD0, hNX7_X3, hNX7_X9, hAOX9⟩ := hv
  have hx := B.exec
  have hb := B.bytes
  have hr := B.returns
  have hts := atoms_spec (ws := w_c_X7_init) B.pre
  have hown : s.vm.findClass RX7 = some m.cls := findClass_of_methodNamed B.named
  have hlocks := B.notSynchronized
  have hin : meth.name = "<init>" := (name_of_methodNamed B.named B.method).1
  subst hsz
  have hD := hD0.self (sz := s.heap.size)
  generalize hAe : va_A [(h0, .inr (7, [.null, .null, .null, .null, .null, .int 0, .int 0, .int 0, .int 0]))] s.heap.size = A at hD ⊢
  have hA : ∀ q : Nat, s.heap.size ≤ q → A q := fun q h => by rw [← hAe]; exact Or.inr h
  have hS : va_S A s.heap s.heap [] := va_S.rf
  have hP : va_P (dC, dI) vwCl [(h0, .inr (7, [.null, .null, .null, .null, .null, .int 0, .int 0, .int 0, .int 0]))] s.heap := hP
  have hl := lv_entry ([.ref h0, .ref p1]) (n := 3) (Nat.le_of_ble_eq_true rfl)
  rw [lg_entry_eq]
  generalize (lg_sl ([.ref h0, .ref p1]) ++ List.replicate (3 - (lg_sl ([.ref h0, .ref p1])).length) Slot.unset).toArray = ls at hl ⊢
  have hl : lv_has ls 3 [(0, .ref h0), (1, .ref p1)] := hl
  refine lv_aload_n hx hb dX7_init_0 rfl (lv_at hl 0 rfl) ?_
  refine W.objInit hx hb hown (hts (.methodLink RX7 3 objectInit) (List.mem_of_getElem? (i := 1) rfl)) (hts (.instanceMethod objectInit) (List.mem_of_getElem? (i := 2) rfl)) (hts (.code objectInit ⟨#[0xb1]⟩ 1 none) (List.mem_of_getElem? (i := 3) rfl)) rfl (by rw [hml]; exact hl.1) rfl dX7_init_1 (Nat.le_of_ble_eq_true rfl) (Nat.le_of_ble_eq_true rfl) ?_
  refine W.eq (g2 := F0 m 4 ls []) rfl ?_
  refine lv_aload_n hx hb dX7_init_4 rfl (lv_at hl 0 rfl) ?_
  refine lv_iconst (v := 4) hx hb dX7_init_5 (by decide +kernel) ?_
  refine va_newq hx hb hown (hts (.classLink RX7 11 RX9) (List.mem_of_getElem? (i := 4) rfl)) hAOX9 hK hP hD hS hA (N' := 4) (by decide +kernel) rfl (Nat.le_of_ble_eq_true rfl) (Nat.le_of_ble_eq_true rfl) (Nat.le_of_ble_eq_true rfl) dX7_init_6 (fun q_1 cy_2 H hK hP hD hS => ?_)
  have hK : va_K (dC, dI) vwCl [(cy_2, .object RX9)] s := hK
  have hP : va_P (dC, dI) vwCl [(h0, .inr (7, [.null, .null, .null, .null, .null, .int 0, .int 0, .int 0, .int 0])), (q_1, .inl (cy_2, 4, .inr (.inr (.inr (.inr (fun _ => none))))))] H := hP
  have hD : va_D A [(h0, .inr (7, [.null, .null, .null, .null, .null, .int 0, .int 0, .int 0, .int 0])), (q_1, .inl (cy_2, 4, .inr (.inr (.inr (.inr (fun _ => none))))))] := hD
  refine W.widen (k := 1) (n := 4) (Nat.le_of_ble_eq_true rfl) (Nat.le_of_ble_eq_true rfl) ?_
  refine va_putF (D := (dC, dI)) (ci := 7) (v := .ref q_1) (ty := (tyX7 1)) (C := RX7) (T := TX7) (N := 9) hx hb hts in_c_X7_init_X7 tyX7 tyX7_ok nmX7 hown hK hP hD hS 0 rfl rfl 1 (by decide) (hts (.fieldLink RX7 13 "LawnAhead$Play" "levels" "[LLawnAhead$State;") (List.mem_of_getElem? (i := 5) rfl)) (fun _ h9 => h9) rfl hin rfl (by decide +kernel) rfl rfl (Nat.le_of_ble_eq_true rfl) dX7_init_9 (fun H locs hP hD hS => ?_)
  have hP : va_P (dC, dI) vwCl [(h0, .inr (7, [.null, .ref q_1, .null, .null, .null, .int 0, .int 0, .int 0, .int 0])), (q_1, .inl (cy_2, 4, .inr (.inr (.inr (.inr (fun _ => none))))))] H := hP
  have hD : va_D A [(h0, .inr (7, [.null, .ref q_1, .null, .null, .null, .int 0, .int 0, .int 0, .int 0])), (q_1, .inl (cy_2, 4, .inr (.inr (.inr (.inr (fun _ => none))))))] := hD
  refine lv_aload_n hx hb dX7_init_12 rfl (lv_at hl 0 rfl) ?_
  refine lv_bipush (v := 17) hx hb dX7_init_13 (by decide +kernel) ?_
  refine va_newa (atype := .int) (ty := .int) (a0 := (17, .inl (fun _ => 0))) hx hb (hts (.arrayClass .int) (List.mem_of_getElem? (i := 6) rfl)) rfl hK hP hD hS hA (N' := 17) (fun _ => rfl) (by decide +kernel) rfl (Nat.le_of_ble_eq_true rfl) (Nat.le_of_ble_eq_true rfl) (Nat.le_of_ble_eq_true rfl) dX7_init_15 (fun q_3 cy_4 H hK hP hD hS => ?_)
  have hK : va_K (dC, dI) vwCl [(cy_2, .object RX9), (cy_4, .int)] s := hK
  have hP : va_P (dC, dI) vwCl [(h0, .inr (7, [.null, .ref q_1, .null, .null, .null, .int 0, .int 0, .int 0, .int 0])), (q_1, .inl (cy_2, 4, .inr (.inr (.inr (.inr (fun _ => none)))))), (q_3, .inl (cy_4, 17, .inl (fun _ => 0)))] H := hP
  have hD : va_D A [(h0, .inr (7, [.null, .ref q_1, .null, .null, .null, .int 0, .int 0, .int 0, .int 0])), (q_1, .inl (cy_2, 4, .inr (.inr (.inr (.inr (fun _ => none)))))), (q_3, .inl (cy_4, 17, .inl (fun _ => 0)))] := hD
  refine W.widen (k := 2) (n := 21) (Nat.le_of_ble_eq_true rfl) (Nat.le_of_ble_eq_true rfl) ?_
  refine va_putF (D := (dC, dI)) (ci := 7) (v := .ref q_3) (ty := (tyX7 2)) (C := RX7) (T := TX7) (N := 9) hx hb hts in_c_X7_init_X7 tyX7 tyX7_ok nmX7 hown hK hP hD hS 0 rfl rfl 2 (by decide) (hts (.fieldLink RX7 19 "LawnAhead$Play" "taken" "[I") (List.mem_of_getElem? (i := 7) rfl)) (fun _ h9 => h9) rfl hin rfl (by decide +kernel) rfl rfl (Nat.le_of_ble_eq_true rfl) dX7_init_17 (fun H locs hP hD hS => ?_)
  have hP : va_P (dC, dI) vwCl [(h0, .inr (7, [.null, .ref q_1, .ref q_3, .null, .null, .int 0, .int 0, .int 0, .int 0])), (q_1, .inl (cy_2, 4, .inr (.inr (.inr (.inr (fun _ => none)))))), (q_3, .inl (cy_4, 17, .inl (fun _ => 0)))] H := hP
  have hD : va_D A [(h0, .inr (7, [.null, .ref q_1, .ref q_3, .null, .null, .int 0, .int 0, .int 0, .int 0])), (q_1, .inl (cy_2, 4, .inr (.inr (.inr (.inr (fun _ => none)))))), (q_3, .inl (cy_4, 17, .inl (fun _ => 0)))] := hD
  refine lv_aload_n hx hb dX7_init_20 rfl (lv_at hl 0 rfl) ?_
  refine lv_bipush (v := 17) hx hb dX7_init_21 (by decide +kernel) ?_
  refine va_newa (atype := .int) (ty := .int) (a0 := (17, .inl (fun _ => 0))) hx hb (hts (.arrayClass .int) (List.mem_of_getElem? (i := 6) rfl)) rfl hK hP hD hS hA (N' := 17) (fun _ => rfl) (by decide +kernel) rfl (Nat.le_of_ble_eq_true rfl) (Nat.le_of_ble_eq_true rfl) (Nat.le_of_ble_eq_true rfl) dX7_init_23 (fun q_5 cy_6 H hK hP hD hS => ?_)
  have hK : va_K (dC, dI) vwCl [(cy_2, .object RX9), (cy_4, .int), (cy_6, .int)] s := hK
  have hP : va_P (dC, dI) vwCl [(h0, .inr (7, [.null, .ref q_1, .ref q_3, .null, .null, .int 0, .int 0, .int 0, .int 0])), (q_1, .inl (cy_2, 4, .inr (.inr (.inr (.inr (fun _ => none)))))), (q_3, .inl (cy_4, 17, .inl (fun _ => 0))), (q_5, .inl (cy_6, 17, .inl (fun _ => 0)))] H := hP
  have hD : va_D A [(h0, .inr (7, [.null, .ref q_1, .ref q_3, .null, .null, .int 0, .int 0, .int 0, .int 0])), (q_1, .inl (cy_2, 4, .inr (.inr (.inr (.inr (fun _ => none)))))), (q_3, .inl (cy_4, 17, .inl (fun _ => 0))), (q_5, .inl (cy_6, 17, .inl (fun _ => 0)))] := hD
  refine W.widen (k := 3) (n := 38) (Nat.le_of_ble_eq_true rfl) (Nat.le_of_ble_eq_true rfl) ?_
  refine va_putF (D := (dC, dI)) (ci := 7) (v := .ref q_5) (ty := (tyX7 3)) (C := RX7) (T := TX7) (N := 9) hx hb hts in_c_X7_init_X7 tyX7 tyX7_ok nmX7 hown hK hP hD hS 0 rfl rfl 3 (by decide) (hts (.fieldLink RX7 23 "LawnAhead$Play" "grown" "[I") (List.mem_of_getElem? (i := 8) rfl)) (fun _ h9 => h9) rfl hin rfl (by decide +kernel) rfl rfl (Nat.le_of_ble_eq_true rfl) dX7_init_25 (fun H locs hP hD hS => ?_)
  have hP : va_P (dC, dI) vwCl [(h0, .inr (7, [.null, .ref q_1, .ref q_3, .ref q_5, .null, .int 0, .int 0, .int 0, .int 0])), (q_1, .inl (cy_2, 4, .inr (.inr (.inr (.inr (fun _ => none)))))), (q_3, .inl (cy_4, 17, .inl (fun _ => 0))), (q_5, .inl (cy_6, 17, .inl (fun _ => 0)))] H := hP
  have hD : va_D A [(h0, .inr (7, [.null, .ref q_1, .ref q_3, .ref q_5, .null, .int 0, .int 0, .int 0, .int 0])), (q_1, .inl (cy_2, 4, .inr (.inr (.inr (.inr (fun _ => none)))))), (q_3, .inl (cy_4, 17, .inl (fun _ => 0))), (q_5, .inl (cy_6, 17, .inl (fun _ => 0)))] := hD
  refine lv_aload_n hx hb dX7_init_28 rfl (lv_at hl 0 rfl) ?_
  refine va_new (ci := 3) (fs := [.null, .int 0, .int 0]) (C := RX3) (T := TX3) (N := 3) hx hb hts in_c_X7_init_X3 tyX3 tyX3_ok hown (hts (.classLink RX7 17 RX3) (List.mem_of_getElem? (i := 9) rfl)) (hts (.instantiable RX3 3) (List.mem_of_getElem? (i := 10) rfl)) (hts (.initialized RX3) (List.mem_of_getElem? (i := 11) rfl)) hK hP hD hS hA rfl (by decide +kernel) (Nat.le_of_ble_eq_true rfl) (Nat.le_of_ble_eq_true rfl) dX7_init_29 (fun q_7 H hP hD hS => ?_)
  have hP : va_P (dC, dI) vwCl [(h0, .inr (7, [.null, .ref q_1, .ref q_3, .ref q_5, .null, .int 0, .int 0, .int 0, .int 0])), (q_1, .inl (cy_2, 4, .inr (.inr (.inr (.inr (fun _ => none)))))), (q_3, .inl (cy_4, 17, .inl (fun _ => 0))), (q_5, .inl (cy_6, 17, .inl (fun _ => 0))), (q_7, .inr (3, [.null, .int 0, .int 0]))] H := hP
  have hD : va_D A [(h0, .inr (7, [.null, .ref q_1, .ref q_3, .ref q_5, .null, .int 0, .int 0, .int 0, .int 0])), (q_1, .inl (cy_2, 4, .inr (.inr (.inr (.inr (fun _ => none)))))), (q_3, .inl (cy_4, 17, .inl (fun _ => 0))), (q_5, .inl (cy_6, 17, .inl (fun _ => 0))), (q_7, .inr (3, [.null, .int 0, .int 0]))] := hD
  refine W.widen (k := 4) (n := 41) (Nat.le_of_ble_eq_true rfl) (Nat.le_of_ble_eq_true rfl) ?_
  refine lv_dup hx hb dX7_init_32 rfl ?_
  have hPc := hP.sub (ws' := [(q_7, .inr (3, [.null, .int 0, .int 0]))]) [4] rfl
  have hDc := hD.sub (ws' := [(q_7, .inr (3, [.null, .int 0, .int 0]))]) [4] (by decide) rfl
  have hKc := hK.sub (tys' := []) [] rfl
  have hFc := va_free (wc := [(q_7, .inr (3, [.null, .int 0, .int 0]))]) hD hS hA [4] rfl
  refine va_callv (va_runIN (As := []) (rest := [.ref q_7, .ref h0]) ⟨hx, hb, hml, hown, hts⟩ (c_X3_init l dC dI q_7 H.size) ⟨va_cnB 0 hts g_c_X7_init_33_c_X3_init rfl rfl rfl hNX7_X3 (hts (.initialized RX3) (List.mem_of_getElem? (i := 11) rfl)) (by decide +kernel) ⟨Nat.le_of_ble_eq_true rfl, Nat.le_of_ble_eq_true rfl⟩, rfl, (hts (.instanceMethod yX3_init) (List.mem_of_getElem? (i := 15) rfl))⟩ ⟨fun a U g mk q => by obtain ⟨q0, q1, qP, qK, qD⟩ := q; exact ⟨q0, q1, qP, va_K.moved (u := U) (U := U.calling g mk a) (Vm.Alike.refl U.vm) qK, qD⟩, fun U hU hW => ⟨rfl, by rw [hU], by rw [hU]; exact hPc, va_K.moved hW.alike hKc, hDc.weaken (fun _ _ _ _ => trivial)⟩⟩ rfl rfl hl.1 rfl (lv_room (Nat.le_of_ble_eq_true rfl)) dX7_init_33 ⟨Nat.le_of_ble_eq_true rfl, Nat.le_of_ble_eq_true rfl⟩) hS (fun q _ h => hFc q h) hFc (fun u t H1 locs ht hvm hw hB hz1 hk1 hS => ?_)
  obtain ⟨q_9, hP1, hK1, hD1⟩ := hB
  rw [ht] at hP1
  have hK1 := va_K.moved hvm.symm hK1
  try dsimp only at hw
  obtain ⟨hP, hD⟩ := va_join (wr := [(h0, .inr (7, [.null, .ref q_1, .ref q_3, .ref q_5, .null, .int 0, .int 0, .int 0, .int 0])), (q_1, .inl (cy_2, 4, .inr (.inr (.inr (.inr (fun _ => none)))))), (q_3, .inl (cy_4, 17, .inl (fun _ => 0))), (q_5, .inl (cy_6, 17, .inl (fun _ => 0)))]) (w1 := [(q_7, .inr (3, [.ref q_9, .int 0, .int 0]))]) hP hD [4] [0, 1, 2, 3] rfl rfl (by decide) (by decide) hk1 hFc hP1 hD1
  have hK := hK.app hK1
  generalize H1 = H at hP hS ⊢
  have hP : va_P (dC, dI) vwCl [(h0, .inr (7, [.null, .ref q_1, .ref q_3, .ref q_5, .null, .int 0, .int 0, .int 0, .int 0])), (q_1, .inl (cy_2, 4, .inr (.inr (.inr (.inr (fun _ => none)))))), (q_3, .inl (cy_4, 17, .inl (fun _ => 0))), (q_5, .inl (cy_6, 17, .inl (fun _ => 0))), (q_7, .inr (3, [.ref q_9, .int 0, .int 0]))] H := hP
  have hD : va_D A [(h0, .inr (7, [.null, .ref q_1, .ref q_3, .ref q_5, .null, .int 0, .int 0, .int 0, .int 0])), (q_1, .inl (cy_2, 4, .inr (.inr (.inr (.inr (fun _ => none)))))), (q_3, .inl (cy_4, 17, .inl (fun _ => 0))), (q_5, .inl (cy_6, 17, .inl (fun _ => 0))), (q_7, .inr (3, [.ref q_9, .int 0, .int 0]))] := hD
  have hK : va_K (dC, dI) vwCl [(cy_2, .object RX9), (cy_4, .int), (cy_6, .int)] s := hK
  refine W.widen (k := 5) (n := 57) (Nat.le_of_ble_eq_true rfl) (Nat.le_of_ble_eq_true rfl) ?_
  refine va_put (D := (dC, dI)) (ci := 7) (v := .ref q_7) (ty := (tyX7 4)) (C := RX7) (T := TX7) (N := 9) hx hb hts in_c_X7_init_X7 tyX7 tyX7_ok nmX7 hown hK hP hD hS 0 rfl rfl 4 (by decide) (hts (.fieldLink RX7 27 "LawnAhead$Play" "game" "LLawnAhead$Game;") (List.mem_of_getElem? (i := 16) rfl)) (fun _ h9 => h9) rfl (by decide +kernel) rfl rfl (Nat.le_of_ble_eq_true rfl) dX7_init_36 (fun H locs hP hD hS => ?_)
  have hP : va_P (dC, dI) vwCl [(h0, .inr (7, [.null, .ref q_1, .ref q_3, .ref q_5, .ref q_7, .int 0, .int 0, .int 0, .int 0])), (q_1, .inl (cy_2, 4, .inr (.inr (.inr (.inr (fun _ => none)))))), (q_3, .inl (cy_4, 17, .inl (fun _ => 0))), (q_5, .inl (cy_6, 17, .inl (fun _ => 0))), (q_7, .inr (3, [.ref q_9, .int 0, .int 0]))] H := hP
  have hD : va_D A [(h0, .inr (7, [.null, .ref q_1, .ref q_3, .ref q_5, .ref q_7, .int 0, .int 0, .int 0, .int 0])), (q_1, .inl (cy_2, 4, .inr (.inr (.inr (.inr (fun _ => none)))))), (q_3, .inl (cy_4, 17, .inl (fun _ => 0))), (q_5, .inl (cy_6, 17, .inl (fun _ => 0))), (q_7, .inr (3, [.ref q_9, .int 0, .int 0]))] := hD
  refine lv_aload_n hx hb dX7_init_39 rfl (lv_at hl 0 rfl) ?_
  refine lv_aload_n hx hb dX7_init_40 rfl (lv_at hl 1 rfl) ?_
  refine va_putF (D := (dC, dI)) (ci := 7) (v := .ref p1) (ty := (tyX7 0)) (C := RX7) (T := TX7) (N := 9) hx hb hts in_c_X7_init_X7 tyX7 tyX7_ok nmX7 hown hK hP hD hS 0 rfl rfl 0 (by decide) (hts (.fieldLink RX7 31 "LawnAhead$Play" "sight" "LLawnAhead$Sight;") (List.mem_of_getElem? (i := 17) rfl)) (fun _ h9 => h9) rfl hin rfl (by decide +kernel) rfl rfl (Nat.le_of_ble_eq_true rfl) dX7_init_41 (fun H locs hP hD hS => ?_)
  have hP : va_P (dC, dI) vwCl [(h0, .inr (7, [.ref p1, .ref q_1, .ref q_3, .ref q_5, .ref q_7, .int 0, .int 0, .int 0, .int 0])), (q_1, .inl (cy_2, 4, .inr (.inr (.inr (.inr (fun _ => none)))))), (q_3, .inl (cy_4, 17, .inl (fun _ => 0))), (q_5, .inl (cy_6, 17, .inl (fun _ => 0))), (q_7, .inr (3, [.ref q_9, .int 0, .int 0]))] H := hP
  have hD : va_D A [(h0, .inr (7, [.ref p1, .ref q_1, .ref q_3, .ref q_5, .ref q_7, .int 0, .int 0, .int 0, .int 0])), (q_1, .inl (cy_2, 4, .inr (.inr (.inr (.inr (fun _ => none)))))), (q_3, .inl (cy_4, 17, .inl (fun _ => 0))), (q_5, .inl (cy_6, 17, .inl (fun _ => 0))), (q_7, .inr (3, [.ref q_9, .int 0, .int 0]))] := hD
  refine lv_iconst (v := 0) hx hb dX7_init_44 (by decide +kernel) ?_
  refine lv_istore_n (lv' := [(2, .int 0), (0, .ref h0), (1, .ref p1)]) hx hb dX7_init_45 rfl hl (by decide) rfl (fun ls hl => ?_)
  have hP := hP.sub (ws' := [(h0, .inr (7, [.ref p1, .ref q_1, .ref q_3, .ref q_5, .ref q_7, .int 0, .int 0, .int 0, .int 0])), (q_1, .inl (cy_2, 4, .inr (.inr (.inr (.inr (fun _ => none))))))]) [0, 1] rfl
  have hD := hD.sub (ws' := [(h0, .inr (7, [.ref p1, .ref q_1, .ref q_3, .ref q_5, .ref q_7, .int 0, .int 0, .int 0, .int 0])), (q_1, .inl (cy_2, 4, .inr (.inr (.inr (.inr (fun _ => none))))))]) [0, 1] (by decide) rfl
  refine lv_iload_n hx hb dX7_init_46 rfl (lv_at hl 0 rfl) ?_
  refine lv_iconst (v := 3) hx hb dX7_init_47 (by decide +kernel) ?_
  refine lv_icmp_gt (tgt := 70) hx hb dX7_init_48 (by decide) (fun c_10 => absurd c_10 (by decide +kernel)) (fun c_10 => ?_)
  refine lv_aload_n hx hb dX7_init_51 rfl (lv_at hl 1 rfl) ?_
  refine va_get (D := (dC, dI)) (ci := 7) (v := .ref q_1) (C := RX7) (T := TX7) (N := 9) hx hb hts in_c_X7_init_X7 hown hK hP 0 rfl rfl 1 (by decide) (hts (.fieldLink RX7 13 "LawnAhead$Play" "levels" "[LLawnAhead$State;") (List.mem_of_getElem? (i := 5) rfl)) (fun _ h9 => h9) rfl dX7_init_52 ?_
  refine lv_iload_n hx hb dX7_init_55 rfl (lv_at hl 0 rfl) ?_
  refine va_new (ci := 9) (fs := [.int 0, .int 0, .int 0, .int 0, .int 0, .int 0, .int 0, .int 0]) (C := RX9) (T := TX9) (N := 8) hx hb hts in_c_X7_init_X9 tyX9 tyX9_ok hown (hts (.classLink RX7 11 RX9) (List.mem_of_getElem? (i := 4) rfl)) (hts (.instantiable RX9 8) (List.mem_of_getElem? (i := 18) rfl)) (hts (.initialized RX9) (List.mem_of_getElem? (i := 19) rfl)) hK hP hD hS hA rfl (by decide +kernel) (Nat.le_of_ble_eq_true rfl) (Nat.le_of_ble_eq_true rfl) dX7_init_56 (fun q_11 H hP hD hS => ?_)
  have hP : va_P (dC, dI) vwCl [(h0, .inr (7, [.ref p1, .ref q_1, .ref q_3, .ref q_5, .ref q_7, .int 0, .int 0, .int 0, .int 0])), (q_1, .inl (cy_2, 4, .inr (.inr (.inr (.inr (fun _ => none)))))), (q_11, .inr (9, [.int 0, .int 0, .int 0, .int 0, .int 0, .int 0, .int 0, .int 0]))] H := hP
  have hD : va_D A [(h0, .inr (7, [.ref p1, .ref q_1, .ref q_3, .ref q_5, .ref q_7, .int 0, .int 0, .int 0, .int 0])), (q_1, .inl (cy_2, 4, .inr (.inr (.inr (.inr (fun _ => none)))))), (q_11, .inr (9, [.int 0, .int 0, .int 0, .int 0, .int 0, .int 0, .int 0, .int 0]))] := hD
  refine W.widen (k := 6) (n := 65) (Nat.le_of_ble_eq_true rfl) (Nat.le_of_ble_eq_true rfl) ?_
  refine lv_dup hx hb dX7_init_59 rfl ?_
  have hPc := hP.sub (ws' := [(q_11, .inr (9, [.int 0, .int 0, .int 0, .int 0, .int 0, .int 0, .int 0, .int 0]))]) [2] rfl
  have hDc := hD.sub (ws' := [(q_11, .inr (9, [.int 0, .int 0, .int 0, .int 0, .int 0, .int 0, .int 0, .int 0]))]) [2] (by decide) rfl
  have hKc := hK.sub (tys' := []) [] rfl
  have hFc := va_free (wc := [(q_11, .inr (9, [.int 0, .int 0, .int 0, .int 0, .int 0, .int 0, .int 0, .int 0]))]) hD hS hA [2] rfl
  refine va_callv (va_runIN (As := []) (rest := [.ref q_11, .int 0, .ref q_1]) ⟨hx, hb, hml, hown, hts⟩ (c_X9_init l dC dI q_11 H.size) ⟨va_cnB 0 hts g_c_X7_init_60_c_X9_init rfl rfl rfl hNX7_X9 (hts (.initialized RX9) (List.mem_of_getElem? (i := 19) rfl)) (by decide +kernel) ⟨Nat.le_of_ble_eq_true rfl, Nat.le_of_ble_eq_true rfl⟩, rfl, (hts (.instanceMethod yX9_init) (List.mem_of_getElem? (i := 22) rfl))⟩ ⟨fun a U g mk q => by obtain ⟨q0, q1, qP, qK, qD⟩ := q; exact ⟨q0, q1, qP, va_K.moved (u := U) (U := U.calling g mk a) (Vm.Alike.refl U.vm) qK, qD⟩, fun U hU hW => ⟨rfl, by rw [hU], by rw [hU]; exact hPc, va_K.moved hW.alike hKc, hDc.weaken (fun _ _ _ _ => trivial)⟩⟩ rfl rfl hl.1 rfl (lv_room (Nat.le_of_ble_eq_true rfl)) dX7_init_60 ⟨Nat.le_of_ble_eq_true rfl, Nat.le_of_ble_eq_true rfl⟩) hS (fun q _ h => hFc q h) hFc (fun u t H1 locs ht hvm hw hB hz1 hk1 hS => ?_)
  obtain ⟨hP1, hK1, hD1⟩ := hB
  rw [ht] at hP1
  have hK1 := va_K.moved hvm.symm hK1
  try dsimp only at hw
  obtain ⟨hP, hD⟩ := va_join (wr := [(h0, .inr (7, [.ref p1, .ref q_1, .ref q_3, .ref q_5, .ref q_7, .int 0, .int 0, .int 0, .int 0])), (q_1, .inl (cy_2, 4, .inr (.inr (.inr (.inr (fun _ => none))))))]) (w1 := [(q_11, .inr (9, [.int 0, .int 0, .int 0, .int 0, .int 0, .int 0, .int 0, .int 0]))]) hP hD [2] [0, 1] rfl rfl (by decide) (by decide) hk1 hFc hP1 hD1
  have hK := hK.app hK1
  generalize H1 = H at hP hS ⊢
  have hP : va_P (dC, dI) vwCl [(h0, .inr (7, [.ref p1, .ref q_1, .ref q_3, .ref q_5, .ref q_7, .int 0, .int 0, .int 0, .int 0])), (q_1, .inl (cy_2, 4, .inr (.inr (.inr (.inr (fun _ => none)))))), (q_11, .inr (9, [.int 0, .int 0, .int 0, .int 0, .int 0, .int 0, .int 0, .int 0]))] H := hP
  have hD : va_D A [(h0, .inr (7, [.ref p1, .ref q_1, .ref q_3, .ref q_5, .ref q_7, .int 0, .int 0, .int 0, .int 0])), (q_1, .inl (cy_2, 4, .inr (.inr (.inr (.inr (fun _ => none)))))), (q_11, .inr (9, [.int 0, .int 0, .int 0, .int 0, .int 0, .int 0, .int 0, .int 0]))] := hD
  have hK : va_K (dC, dI) vwCl [(cy_2, .object RX9), (cy_4, .int), (cy_6, .int)] s := hK
  refine W.widen (k := 6) (n := 65) (Nat.le_of_ble_eq_true rfl) (Nat.le_of_ble_eq_true rfl) ?_
  refine va_astq (D := (dC, dI)) (i := 0) hx hb hK hP hD hS 1 0 2 9 (r := (RX9, TX9, 8)) rfl rfl rfl rfl (show ¬ ((0 : Int32) < 0 ∨ 4 ≤ (0 : Int32).toNatClampNeg) by decide +kernel) dX7_init_63 (fun H locs hP hD hS => ?_)
  have hP : va_P (dC, dI) vwCl [(h0, .inr (7, [.ref p1, .ref q_1, .ref q_3, .ref q_5, .ref q_7, .int 0, .int 0, .int 0, .int 0])), (q_1, .inl (cy_2, 4, .inr (.inr (.inr (.inr (va_up (fun _ => none) (0 : Int32).toNatClampNeg (some q_11))))))), (q_11, .inr (9, [.int 0, .int 0, .int 0, .int 0, .int 0, .int 0, .int 0, .int 0]))] H := hP
  have hD : va_D A [(h0, .inr (7, [.ref p1, .ref q_1, .ref q_3, .ref q_5, .ref q_7, .int 0, .int 0, .int 0, .int 0])), (q_1, .inl (cy_2, 4, .inr (.inr (.inr (.inr (va_up (fun _ => none) (0 : Int32).toNatClampNeg (some q_11))))))), (q_11, .inr (9, [.int 0, .int 0, .int 0, .int 0, .int 0, .int 0, .int 0, .int 0]))] := hD
  generalize va_up (fun _ => none) (0 : Int32).toNatClampNeg (some q_11) = g_13 at hP hD
  refine lv_iinc (v := 1) (lv' := [(2, .int 1), (0, .ref h0), (1, .ref p1)]) hx hb dX7_init_64 hl (k := 0) rfl (by decide +kernel) (by decide) rfl (fun ls hl => ?_)
  refine lv_goto (tgt := 46) hx hb dX7_init_67 (by decide) ?_
  have hP := hP.sub (ws' := [(h0, .inr (7, [.ref p1, .ref q_1, .ref q_3, .ref q_5, .ref q_7, .int 0, .int 0, .int 0, .int 0])), (q_1, .inl (cy_2, 4, .inr (.inr (.inr (.inr g_13)))))]) [0, 1] rfl
  have hD := hD.sub (ws' := [(h0, .inr (7, [.ref p1, .ref q_1, .ref q_3, .ref q_5, .ref q_7, .int 0, .int 0, .int 0, .int 0])), (q_1, .inl (cy_2, 4, .inr (.inr (.inr (.inr g_13)))))]) [0, 1] (by decide) rfl
  refine lv_iload_n hx hb dX7_init_46 rfl (lv_at hl 0 rfl) ?_
  refine lv_iconst (v := 3) hx hb dX7_init_47 (by decide +kernel) ?_
  refine lv_icmp_gt (tgt := 70) hx hb dX7_init_48 (by decide) (fun c_14 => absurd c_14 (by decide +kernel)) (fun c_14 => ?_)
  refine lv_aload_n hx hb dX7_init_51 rfl (lv_at hl 1 rfl) ?_
  refine va_get (D := (dC, dI)) (ci := 7) (v := .ref q_1) (C := RX7) (T := TX7) (N := 9) hx hb hts in_c_X7_init_X7 hown hK hP 0 rfl rfl 1 (by decide) (hts (.fieldLink RX7 13 "LawnAhead$Play" "levels" "[LLawnAhead$State;") (List.mem_of_getElem? (i := 5) rfl)) (fun _ h9 => h9) rfl dX7_init_52 ?_
  refine lv_iload_n hx hb dX7_init_55 rfl (lv_at hl 0 rfl) ?_
  refine va_new (ci := 9) (fs := [.int 0, .int 0, .int 0, .int 0, .int 0, .int 0, .int 0, .int 0]) (C := RX9) (T := TX9) (N := 8) hx hb hts in_c_X7_init_X9 tyX9 tyX9_ok hown (hts (.classLink RX7 11 RX9) (List.mem_of_getElem? (i := 4) rfl)) (hts (.instantiable RX9 8) (List.mem_of_getElem? (i := 18) rfl)) (hts (.initialized RX9) (List.mem_of_getElem? (i := 19) rfl)) hK hP hD hS hA rfl (by decide +kernel) (Nat.le_of_ble_eq_true rfl) (Nat.le_of_ble_eq_true rfl) dX7_init_56 (fun q_15 H hP hD hS => ?_)
  have hP : va_P (dC, dI) vwCl [(h0, .inr (7, [.ref p1, .ref q_1, .ref q_3, .ref q_5, .ref q_7, .int 0, .int 0, .int 0, .int 0])), (q_1, .inl (cy_2, 4, .inr (.inr (.inr (.inr g_13))))), (q_15, .inr (9, [.int 0, .int 0, .int 0, .int 0, .int 0, .int 0, .int 0, .int 0]))] H := hP
  have hD : va_D A [(h0, .inr (7, [.ref p1, .ref q_1, .ref q_3, .ref q_5, .ref q_7, .int 0, .int 0, .int 0, .int 0])), (q_1, .inl (cy_2, 4, .inr (.inr (.inr (.inr g_13))))), (q_15, .inr (9, [.int 0, .int 0, .int 0, .int 0, .int 0, .int 0, .int 0, .int 0]))] := hD
  refine W.widen (k := 7) (n := 73) (Nat.le_of_ble_eq_true rfl) (Nat.le_of_ble_eq_true rfl) ?_
  refine lv_dup hx hb dX7_init_59 rfl ?_
  have hPc := hP.sub (ws' := [(q_15, .inr (9, [.int 0, .int 0, .int 0, .int 0, .int 0, .int 0, .int 0, .int 0]))]) [2] rfl
  have hDc := hD.sub (ws' := [(q_15, .inr (9, [.int 0, .int 0, .int 0, .int 0, .int 0, .int 0, .int 0, .int 0]))]) [2] (by decide) rfl
  have hKc := hK.sub (tys' := []) [] rfl
  have hFc := va_free (wc := [(q_15, .inr (9, [.int 0, .int 0, .int 0, .int 0, .int 0, .int 0, .int 0, .int 0]))]) hD hS hA [2] rfl
  refine va_callv (va_runIN (As := []) (rest := [.ref q_15, .int 1, .ref q_1]) ⟨hx, hb, hml, hown, hts⟩ (c_X9_init l dC dI q_15 H.size) ⟨va_cnB 0 hts g_c_X7_init_60_c_X9_init rfl rfl rfl hNX7_X9 (hts (.initialized RX9) (List.mem_of_getElem? (i := 19) rfl)) (by decide +kernel) ⟨Nat.le_of_ble_eq_true rfl, Nat.le_of_ble_eq_true rfl⟩, rfl, (hts (.instanceMethod yX9_init) (List.mem_of_getElem? (i := 22) rfl))⟩ ⟨fun a U g mk q => by obtain ⟨q0, q1, qP, qK, qD⟩ := q; exact ⟨q0, q1, qP, va_K.moved (u := U) (U := U.calling g mk a) (Vm.Alike.refl U.vm) qK, qD⟩, fun U hU hW => ⟨rfl, by rw [hU], by rw [hU]; exact hPc, va_K.moved hW.alike hKc, hDc.weaken (fun _ _ _ _ => trivial)⟩⟩ rfl rfl hl.1 rfl (lv_room (Nat.le_of_ble_eq_true rfl)) dX7_init_60 ⟨Nat.le_of_ble_eq_true rfl, Nat.le_of_ble_eq_true rfl⟩) hS (fun q _ h => hFc q h) hFc (fun u t H1 locs ht hvm hw hB hz1 hk1 hS => ?_)
  obtain ⟨hP1, hK1, hD1⟩ := hB
  rw [ht] at hP1
  have hK1 := va_K.moved hvm.symm hK1
  try dsimp only at hw
  obtain ⟨hP, hD⟩ := va_join (wr := [(h0, .inr (7, [.ref p1, .ref q_1, .ref q_3, .ref q_5, .ref q_7, .int 0, .int 0, .int 0, .int 0])), (q_1, .inl (cy_2, 4, .inr (.inr (.inr (.inr g_13)))))]) (w1 := [(q_15, .inr (9, [.int 0, .int 0, .int 0, .int 0, .int 0, .int 0, .int 0, .int 0]))]) hP hD [2] [0, 1] rfl rfl (by decide) (by decide) hk1 hFc hP1 hD1
  have hK := hK.app hK1
  generalize H1 = H at hP hS ⊢
  have hP : va_P (dC, dI) vwCl [(h0, .inr (7, [.ref p1, .ref q_1, .ref q_3, .ref q_5, .ref q_7, .int 0, .int 0, .int 0, .int 0])), (q_1, .inl (cy_2, 4, .inr (.inr (.inr (.inr g_13))))), (q_15, .inr (9, [.int 0, .int 0, .int 0, .int 0, .int 0, .int 0, .int 0, .int 0]))] H := hP
  have hD : va_D A [(h0, .inr (7, [.ref p1, .ref q_1, .ref q_3, .ref q_5, .ref q_7, .int 0, .int 0, .int 0, .int 0])), (q_1, .inl (cy_2, 4, .inr (.inr (.inr (.inr g_13))))), (q_15, .inr (9, [.int 0, .int 0, .int 0, .int 0, .int 0, .int 0, .int 0, .int 0]))] := hD
  have hK : va_K (dC, dI) vwCl [(cy_2, .object RX9), (cy_4, .int), (cy_6, .int)] s := hK
  refine W.widen (k := 7) (n := 73) (Nat.le_of_ble_eq_true rfl) (Nat.le_of_ble_eq_true rfl) ?_
  refine va_astq (D := (dC, dI)) (i := 1) hx hb hK hP hD hS 1 0 2 9 (r := (RX9, TX9, 8)) rfl rfl rfl rfl (show ¬ ((1 : Int32) < 0 ∨ 4 ≤ (1 : Int32).toNatClampNeg) by decide +kernel) dX7_init_63 (fun H locs hP hD hS => ?_)
  have hP : va_P (dC, dI) vwCl [(h0, .inr (7, [.ref p1, .ref q_1, .ref q_3, .ref q_5, .ref q_7, .int 0, .int 0, .int 0, .int 0])), (q_1, .inl (cy_2, 4, .inr (.inr (.inr (.inr (va_up (g_13) (1 : Int32).toNatClampNeg (some q_15))))))), (q_15, .inr (9, [.int 0, .int 0, .int 0, .int 0, .int 0, .int 0, .int 0, .int 0]))] H := hP
  have hD : va_D A [(h0, .inr (7, [.ref p1, .ref q_1, .ref q_3, .ref q_5, .ref q_7, .int 0, .int 0, .int 0, .int 0])), (q_1, .inl (cy_2, 4, .inr (.inr (.inr (.inr (va_up (g_13) (1 : Int32).toNatClampNeg (some q_15))))))), (q_15, .inr (9, [.int 0, .int 0, .int 0, .int 0, .int 0, .int 0, .int 0, .int 0]))] := hD
  generalize va_up (g_13) (1 : Int32).toNatClampNeg (some q_15) = g_17 at hP hD
  refine lv_iinc (v := 2) (lv' := [(2, .int 2), (0, .ref h0), (1, .ref p1)]) hx hb dX7_init_64 hl (k := 0) rfl (by decide +kernel) (by decide) rfl (fun ls hl => ?_)
  refine lv_goto (tgt := 46) hx hb dX7_init_67 (by decide) ?_
  have hP := hP.sub (ws' := [(h0, .inr (7, [.ref p1, .ref q_1, .ref q_3, .ref q_5, .ref q_7, .int 0, .int 0, .int 0, .int 0])), (q_1, .inl (cy_2, 4, .inr (.inr (.inr (.inr g_17)))))]) [0, 1] rfl
  have hD := hD.sub (ws' := [(h0, .inr (7, [.ref p1, .ref q_1, .ref q_3, .ref q_5, .ref q_7, .int 0, .int 0, .int 0, .int 0])), (q_1, .inl (cy_2, 4, .inr (.inr (.inr (.inr g_17)))))]) [0, 1] (by decide) rfl
  refine lv_iload_n hx hb dX7_init_46 rfl (lv_at hl 0 rfl) ?_
  refine lv_iconst (v := 3) hx hb dX7_init_47 (by decide +kernel) ?_
  refine lv_icmp_gt (tgt := 70) hx hb dX7_init_48 (by decide) (fun c_18 => absurd c_18 (by decide +kernel)) (fun c_18 => ?_)
  refine lv_aload_n hx hb dX7_init_51 rfl (lv_at hl 1 rfl) ?_
  refine va_get (D := (dC, dI)) (ci := 7) (v := .ref q_1) (C := RX7) (T := TX7) (N := 9) hx hb hts in_c_X7_init_X7 hown hK hP 0 rfl rfl 1 (by decide) (hts (.fieldLink RX7 13 "LawnAhead$Play" "levels" "[LLawnAhead$State;") (List.mem_of_getElem? (i := 5) rfl)) (fun _ h9 => h9) rfl dX7_init_52 ?_
  refine lv_iload_n hx hb dX7_init_55 rfl (lv_at hl 0 rfl) ?_
  refine va_new (ci := 9) (fs := [.int 0, .int 0, .int 0, .int 0, .int 0, .int 0, .int 0, .int 0]) (C := RX9) (T := TX9) (N := 8) hx hb hts in_c_X7_init_X9 tyX9 tyX9_ok hown (hts (.classLink RX7 11 RX9) (List.mem_of_getElem? (i := 4) rfl)) (hts (.instantiable RX9 8) (List.mem_of_getElem? (i := 18) rfl)) (hts (.initialized RX9) (List.mem_of_getElem? (i := 19) rfl)) hK hP hD hS hA rfl (by decide +kernel) (Nat.le_of_ble_eq_true rfl) (Nat.le_of_ble_eq_true rfl) dX7_init_56 (fun q_19 H hP hD hS => ?_)
  have hP : va_P (dC, dI) vwCl [(h0, .inr (7, [.ref p1, .ref q_1, .ref q_3, .ref q_5, .ref q_7, .int 0, .int 0, .int 0, .int 0])), (q_1, .inl (cy_2, 4, .inr (.inr (.inr (.inr g_17))))), (q_19, .inr (9, [.int 0, .int 0, .int 0, .int 0, .int 0, .int 0, .int 0, .int 0]))] H := hP
  have hD : va_D A [(h0, .inr (7, [.ref p1, .ref q_1, .ref q_3, .ref q_5, .ref q_7, .int 0, .int 0, .int 0, .int 0])), (q_1, .inl (cy_2, 4, .inr (.inr (.inr (.inr g_17))))), (q_19, .inr (9, [.int 0, .int 0, .int 0, .int 0, .int 0, .int 0, .int 0, .int 0]))] := hD
  refine W.widen (k := 8) (n := 81) (Nat.le_of_ble_eq_true rfl) (Nat.le_of_ble_eq_true rfl) ?_
  refine lv_dup hx hb dX7_init_59 rfl ?_
  have hPc := hP.sub (ws' := [(q_19, .inr (9, [.int 0, .int 0, .int 0, .int 0, .int 0, .int 0, .int 0, .int 0]))]) [2] rfl
  have hDc := hD.sub (ws' := [(q_19, .inr (9, [.int 0, .int 0, .int 0, .int 0, .int 0, .int 0, .int 0, .int 0]))]) [2] (by decide) rfl
  have hKc := hK.sub (tys' := []) [] rfl
  have hFc := va_free (wc := [(q_19, .inr (9, [.int 0, .int 0, .int 0, .int 0, .int 0, .int 0, .int 0, .int 0]))]) hD hS hA [2] rfl
  refine va_callv (va_runIN (As := []) (rest := [.ref q_19, .int 2, .ref q_1]) ⟨hx, hb, hml, hown, hts⟩ (c_X9_init l dC dI q_19 H.size) ⟨va_cnB 0 hts g_c_X7_init_60_c_X9_init rfl rfl rfl hNX7_X9 (hts (.initialized RX9) (List.mem_of_getElem? (i := 19) rfl)) (by decide +kernel) ⟨Nat.le_of_ble_eq_true rfl, Nat.le_of_ble_eq_true rfl⟩, rfl, (hts (.instanceMethod yX9_init) (List.mem_of_getElem? (i := 22) rfl))⟩ ⟨fun a U g mk q => by obtain ⟨q0, q1, qP, qK, qD⟩ := q; exact ⟨q0, q1, qP, va_K.moved (u := U) (U := U.calling g mk a) (Vm.Alike.refl U.vm) qK, qD⟩, fun U hU hW => ⟨rfl, by rw [hU], by rw [hU]; exact hPc, va_K.moved hW.alike hKc, hDc.weaken (fun _ _ _ _ => trivial)⟩⟩ rfl rfl hl.1 rfl (lv_room (Nat.le_of_ble_eq_true rfl)) dX7_init_60 ⟨Nat.le_of_ble_eq_true rfl, Nat.le_of_ble_eq_true rfl⟩) hS (fun q _ h => hFc q h) hFc (fun u t H1 locs ht hvm hw hB hz1 hk1 hS => ?_)
  obtain ⟨hP1, hK1, hD1⟩ := hB
  rw [ht] at hP1
  have hK1 := va_K.moved hvm.symm hK1
  try dsimp only at hw
  obtain ⟨hP, hD⟩ := va_join (wr := [(h0, .inr (7, [.ref p1, .ref q_1, .ref q_3, .ref q_5, .ref q_7, .int 0, .int 0, .int 0, .int 0])), (q_1, .inl (cy_2, 4, .inr (.inr (.inr (.inr g_17)))))]) (w1 := [(q_19, .inr (9, [.int 0, .int 0, .int 0, .int 0, .int 0, .int 0, .int 0, .int 0]))]) hP hD [2] [0, 1] rfl rfl (by decide) (by decide) hk1 hFc hP1 hD1
  have hK := hK.app hK1
  generalize H1 = H at hP hS ⊢
  have hP : va_P (dC, dI) vwCl [(h0, .inr (7, [.ref p1, .ref q_1, .ref q_3, .ref q_5, .ref q_7, .int 0, .int 0, .int 0, .int 0])), (q_1, .inl (cy_2, 4, .inr (.inr (.inr (.inr g_17))))), (q_19, .inr (9, [.int 0, .int 0, .int 0, .int 0, .int 0, .int 0, .int 0, .int 0]))] H := hP
  have hD : va_D A [(h0, .inr (7, [.ref p1, .ref q_1, .ref q_3, .ref q_5, .ref q_7, .int 0, .int 0, .int 0, .int 0])), (q_1, .inl (cy_2, 4, .inr (.inr (.inr (.inr g_17))))), (q_19, .inr (9, [.int 0, .int 0, .int 0, .int 0, .int 0, .int 0, .int 0, .int 0]))] := hD
  have hK : va_K (dC, dI) vwCl [(cy_2, .object RX9), (cy_4, .int), (cy_6, .int)] s := hK
  refine W.widen (k := 8) (n := 81) (Nat.le_of_ble_eq_true rfl) (Nat.le_of_ble_eq_true rfl) ?_
  refine va_astq (D := (dC, dI)) (i := 2) hx hb hK hP hD hS 1 0 2 9 (r := (RX9, TX9, 8)) rfl rfl rfl rfl (show ¬ ((2 : Int32) < 0 ∨ 4 ≤ (2 : Int32).toNatClampNeg) by decide +kernel) dX7_init_63 (fun H locs hP hD hS => ?_)
  have hP : va_P (dC, dI) vwCl [(h0, .inr (7, [.ref p1, .ref q_1, .ref q_3, .ref q_5, .ref q_7, .int 0, .int 0, .int 0, .int 0])), (q_1, .inl (cy_2, 4, .inr (.inr (.inr (.inr (va_up (g_17) (2 : Int32).toNatClampNeg (some q_19))))))), (q_19, .inr (9, [.int 0, .int 0, .int 0, .int 0, .int 0, .int 0, .int 0, .int 0]))] H := hP
  have hD : va_D A [(h0, .inr (7, [.ref p1, .ref q_1, .ref q_3, .ref q_5, .ref q_7, .int 0, .int 0, .int 0, .int 0])), (q_1, .inl (cy_2, 4, .inr (.inr (.inr (.inr (va_up (g_17) (2 : Int32).toNatClampNeg (some q_19))))))), (q_19, .inr (9, [.int 0, .int 0, .int 0, .int 0, .int 0, .int 0, .int 0, .int 0]))] := hD
  generalize va_up (g_17) (2 : Int32).toNatClampNeg (some q_19) = g_21 at hP hD
  refine lv_iinc (v := 3) (lv' := [(2, .int 3), (0, .ref h0), (1, .ref p1)]) hx hb dX7_init_64 hl (k := 0) rfl (by decide +kernel) (by decide) rfl (fun ls hl => ?_)
  refine lv_goto (tgt := 46) hx hb dX7_init_67 (by decide) ?_
  have hP := hP.sub (ws' := [(h0, .inr (7, [.ref p1, .ref q_1, .ref q_3, .ref q_5, .ref q_7, .int 0, .int 0, .int 0, .int 0])), (q_1, .inl (cy_2, 4, .inr (.inr (.inr (.inr g_21)))))]) [0, 1] rfl
  have hD := hD.sub (ws' := [(h0, .inr (7, [.ref p1, .ref q_1, .ref q_3, .ref q_5, .ref q_7, .int 0, .int 0, .int 0, .int 0])), (q_1, .inl (cy_2, 4, .inr (.inr (.inr (.inr g_21)))))]) [0, 1] (by decide) rfl
  refine lv_iload_n hx hb dX7_init_46 rfl (lv_at hl 0 rfl) ?_
  refine lv_iconst (v := 3) hx hb dX7_init_47 (by decide +kernel) ?_
  refine lv_icmp_gt (tgt := 70) hx hb dX7_init_48 (by decide) (fun c_22 => absurd c_22 (by decide +kernel)) (fun c_22 => ?_)
  refine lv_aload_n hx hb dX7_init_51 rfl (lv_at hl 1 rfl) ?_
  refine va_get (D := (dC, dI)) (ci := 7) (v := .ref q_1) (C := RX7) (T := TX7) (N := 9) hx hb hts in_c_X7_init_X7 hown hK hP 0 rfl rfl 1 (by decide) (hts (.fieldLink RX7 13 "LawnAhead$Play" "levels" "[LLawnAhead$State;") (List.mem_of_getElem? (i := 5) rfl)) (fun _ h9 => h9) rfl dX7_init_52 ?_
  refine lv_iload_n hx hb dX7_init_55 rfl (lv_at hl 0 rfl) ?_
  refine va_new (ci := 9) (fs := [.int 0, .int 0, .int 0, .int 0, .int 0, .int 0, .int 0, .int 0]) (C := RX9) (T := TX9) (N := 8) hx hb hts in_c_X7_init_X9 tyX9 tyX9_ok hown (hts (.classLink RX7 11 RX9) (List.mem_of_getElem? (i := 4) rfl)) (hts (.instantiable RX9 8) (List.mem_of_getElem? (i := 18) rfl)) (hts (.initialized RX9) (List.mem_of_getElem? (i := 19) rfl)) hK hP hD hS hA rfl (by decide +kernel) (Nat.le_of_ble_eq_true rfl) (Nat.le_of_ble_eq_true rfl) dX7_init_56 (fun q_23 H hP hD hS => ?_)
  have hP : va_P (dC, dI) vwCl [(h0, .inr (7, [.ref p1, .ref q_1, .ref q_3, .ref q_5, .ref q_7, .int 0, .int 0, .int 0, .int 0])), (q_1, .inl (cy_2, 4, .inr (.inr (.inr (.inr g_21))))), (q_23, .inr (9, [.int 0, .int 0, .int 0, .int 0, .int 0, .int 0, .int 0, .int 0]))] H := hP
  have hD : va_D A [(h0, .inr (7, [.ref p1, .ref q_1, .ref q_3, .ref q_5, .ref q_7, .int 0, .int 0, .int 0, .int 0])), (q_1, .inl (cy_2, 4, .inr (.inr (.inr (.inr g_21))))), (q_23, .inr (9, [.int 0, .int 0, .int 0, .int 0, .int 0, .int 0, .int 0, .int 0]))] := hD
  refine W.widen (k := 9) (n := 89) (Nat.le_of_ble_eq_true rfl) (Nat.le_of_ble_eq_true rfl) ?_
  refine lv_dup hx hb dX7_init_59 rfl ?_
  have hPc := hP.sub (ws' := [(q_23, .inr (9, [.int 0, .int 0, .int 0, .int 0, .int 0, .int 0, .int 0, .int 0]))]) [2] rfl
  have hDc := hD.sub (ws' := [(q_23, .inr (9, [.int 0, .int 0, .int 0, .int 0, .int 0, .int 0, .int 0, .int 0]))]) [2] (by decide) rfl
  have hKc := hK.sub (tys' := []) [] rfl
  have hFc := va_free (wc := [(q_23, .inr (9, [.int 0, .int 0, .int 0, .int 0, .int 0, .int 0, .int 0, .int 0]))]) hD hS hA [2] rfl
  refine va_callv (va_runIN (As := []) (rest := [.ref q_23, .int 3, .ref q_1]) ⟨hx, hb, hml, hown, hts⟩ (c_X9_init l dC dI q_23 H.size) ⟨va_cnB 0 hts g_c_X7_init_60_c_X9_init rfl rfl rfl hNX7_X9 (hts (.initialized RX9) (List.mem_of_getElem? (i := 19) rfl)) (by decide +kernel) ⟨Nat.le_of_ble_eq_true rfl, Nat.le_of_ble_eq_true rfl⟩, rfl, (hts (.instanceMethod yX9_init) (List.mem_of_getElem? (i := 22) rfl))⟩ ⟨fun a U g mk q => by obtain ⟨q0, q1, qP, qK, qD⟩ := q; exact ⟨q0, q1, qP, va_K.moved (u := U) (U := U.calling g mk a) (Vm.Alike.refl U.vm) qK, qD⟩, fun U hU hW => ⟨rfl, by rw [hU], by rw [hU]; exact hPc, va_K.moved hW.alike hKc, hDc.weaken (fun _ _ _ _ => trivial)⟩⟩ rfl rfl hl.1 rfl (lv_room (Nat.le_of_ble_eq_true rfl)) dX7_init_60 ⟨Nat.le_of_ble_eq_true rfl, Nat.le_of_ble_eq_true rfl⟩) hS (fun q _ h => hFc q h) hFc (fun u t H1 locs ht hvm hw hB hz1 hk1 hS => ?_)
  obtain ⟨hP1, hK1, hD1⟩ := hB
  rw [ht] at hP1
  have hK1 := va_K.moved hvm.symm hK1
  try dsimp only at hw
  obtain ⟨hP, hD⟩ := va_join (wr := [(h0, .inr (7, [.ref p1, .ref q_1, .ref q_3, .ref q_5, .ref q_7, .int 0, .int 0, .int 0, .int 0])), (q_1, .inl (cy_2, 4, .inr (.inr (.inr (.inr g_21)))))]) (w1 := [(q_23, .inr (9, [.int 0, .int 0, .int 0, .int 0, .int 0, .int 0, .int 0, .int 0]))]) hP hD [2] [0, 1] rfl rfl (by decide) (by decide) hk1 hFc hP1 hD1
  have hK := hK.app hK1
  generalize H1 = H at hP hS ⊢
  have hP : va_P (dC, dI) vwCl [(h0, .inr (7, [.ref p1, .ref q_1, .ref q_3, .ref q_5, .ref q_7, .int 0, .int 0, .int 0, .int 0])), (q_1, .inl (cy_2, 4, .inr (.inr (.inr (.inr g_21))))), (q_23, .inr (9, [.int 0, .int 0, .int 0, .int 0, .int 0, .int 0, .int 0, .int 0]))] H := hP
  have hD : va_D A [(h0, .inr (7, [.ref p1, .ref q_1, .ref q_3, .ref q_5, .ref q_7, .int 0, .int 0, .int 0, .int 0])), (q_1, .inl (cy_2, 4, .inr (.inr (.inr (.inr g_21))))), (q_23, .inr (9, [.int 0, .int 0, .int 0, .int 0, .int 0, .int 0, .int 0, .int 0]))] := hD
  have hK : va_K (dC, dI) vwCl [(cy_2, .object RX9), (cy_4, .int), (cy_6, .int)] s := hK
  refine W.widen (k := 9) (n := 89) (Nat.le_of_ble_eq_true rfl) (Nat.le_of_ble_eq_true rfl) ?_
  refine va_astq (D := (dC, dI)) (i := 3) hx hb hK hP hD hS 1 0 2 9 (r := (RX9, TX9, 8)) rfl rfl rfl rfl (show ¬ ((3 : Int32) < 0 ∨ 4 ≤ (3 : Int32).toNatClampNeg) by decide +kernel) dX7_init_63 (fun H locs hP hD hS => ?_)
  have hP : va_P (dC, dI) vwCl [(h0, .inr (7, [.ref p1, .ref q_1, .ref q_3, .ref q_5, .ref q_7, .int 0, .int 0, .int 0, .int 0])), (q_1, .inl (cy_2, 4, .inr (.inr (.inr (.inr (va_up (g_21) (3 : Int32).toNatClampNeg (some q_23))))))), (q_23, .inr (9, [.int 0, .int 0, .int 0, .int 0, .int 0, .int 0, .int 0, .int 0]))] H := hP
  have hD : va_D A [(h0, .inr (7, [.ref p1, .ref q_1, .ref q_3, .ref q_5, .ref q_7, .int 0, .int 0, .int 0, .int 0])), (q_1, .inl (cy_2, 4, .inr (.inr (.inr (.inr (va_up (g_21) (3 : Int32).toNatClampNeg (some q_23))))))), (q_23, .inr (9, [.int 0, .int 0, .int 0, .int 0, .int 0, .int 0, .int 0, .int 0]))] := hD
  generalize va_up (g_21) (3 : Int32).toNatClampNeg (some q_23) = g_25 at hP hD
  refine lv_iinc (v := 4) (lv' := [(2, .int 4), (0, .ref h0), (1, .ref p1)]) hx hb dX7_init_64 hl (k := 0) rfl (by decide +kernel) (by decide) rfl (fun ls hl => ?_)
  refine lv_goto (tgt := 46) hx hb dX7_init_67 (by decide) ?_
  have hP := hP.sub (ws' := [(h0, .inr (7, [.ref p1, .ref q_1, .ref q_3, .ref q_5, .ref q_7, .int 0, .int 0, .int 0, .int 0])), (q_1, .inl (cy_2, 4, .inr (.inr (.inr (.inr g_25)))))]) [0, 1] rfl
  have hD := hD.sub (ws' := [(h0, .inr (7, [.ref p1, .ref q_1, .ref q_3, .ref q_5, .ref q_7, .int 0, .int 0, .int 0, .int 0])), (q_1, .inl (cy_2, 4, .inr (.inr (.inr (.inr g_25)))))]) [0, 1] (by decide) rfl
  refine lv_iload_n hx hb dX7_init_46 rfl (lv_at hl 0 rfl) ?_
  refine lv_iconst (v := 3) hx hb dX7_init_47 (by decide +kernel) ?_
  refine lv_icmp_gt (tgt := 70) hx hb dX7_init_48 (by decide) (fun c_26 => ?_) (fun c_26 => absurd (by decide +kernel) c_26)
  refine W.widen (k := 9) (n := 89) (Nat.le_of_ble_eq_true rfl) (Nat.le_of_ble_eq_true rfl) ?_
  have hP9 := hP.sub (ws' := [(h0, .inr (7, [.ref p1, .ref q_1, .ref q_3, .ref q_5, .ref q_7, .int 0, .int 0, .int 0, .int 0]))]) [0] rfl
  have hD9 := hD.sub (ws' := [(h0, .inr (7, [.ref p1, .ref q_1, .ref q_3, .ref q_5, .ref q_7, .int 0, .int 0, .int 0, .int 0]))]) [0] (by decide) rfl
  have hK9 := hK.sub (tys' := []) [] rfl
  exact W.vret hx hb hr (fun t ht hW => ⟨⟨(), rfl, trivial, q_1, q_3, q_5, q_7, by rw [ht]; exact hP9, va_K.moved hW.alike hK9, hD9⟩, hS.F ht⟩) hS.2.2 dX7_init_70
