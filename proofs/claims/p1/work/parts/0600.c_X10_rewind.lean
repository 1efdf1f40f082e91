def w_c_X10_rewind : List Cond := .code yX10_rewind cX10_rewind 1 none :: ([.fieldLink RX10 19 "LawnAhead$Tape" "wrongAt" "I", .fieldLink RX10 22 "LawnAhead$Tape" "at" "I", .fieldLink RX10 15 "LawnAhead$Tape" "length" "I"] ++ (wsX100 ++ []))
theorem in_c_X10_rewind_X10 : ∀ w ∈ wsX100, w ∈ w_c_X10_rewind := fun w h => List.mem_cons_of_mem _ (List.mem_append_right _ (List.mem_append_left _ h))
set_option maxHeartbeats 8000000 in
set_option maxRecDepth 100000 in
theorem c_X10_rewind (l : Launch) (dC : Nat → ClassId) (dI : Nat → Nat → Nat) (h0 : Nat) (q1 : Nat) (sz : Nat) : Met l yX10_rewind w_c_X10_rewind ({ frames := 0, cells := 0, slots := 0, locals := 0 }) (va_Pc [.ref h0] (fun U => U.heap.size = sz ∧ va_P (dC, dI) vwCl [(h0, .inr (10, [.ref q1, .int 0, .int 0, .int 0]))] U.heap ∧ va_K (dC, dI) vwCl [] U ∧ va_D (fun _ => True) [(h0, .inr (10, [.ref q1, .int 0, .int 0, .int 0]))])) (va_Qv (fun (_ : Unit) => True) (fun _ t => va_P (dC, dI) vwCl [(h0, .inr (10, [.ref q1, .int 0, .int 0, .int (-1)]))] t.heap ∧ va_K (dC, dI) vwCl [] t ∧ va_D (va_A [(h0, .inr (10, [.ref q1, .int 0, .int 0, .int 0]))] sz) [(h0, .inr (10, [.ref q1, .int 0, .int 0, .int (-1)]))]) (va_A [(h0, .inr (10, [.ref q1, .int 0, .int 0, .int 0]))] sz)) 0 0 (va_A [(h0, .inr (10, [.ref q1, .int 0, .int 0, .int 0]))] sz) := by
  refine Met.ofW (cc := cX10_rewind) (maxL := 1) (ret := none) (by decide) rfl ?_
  intro p e s m args below meth c s₁ B hml hv
  obtain ⟨rfl, hsz, hP, hK, hD0⟩ := hv
  have hx := B.exec
  have hb := B.bytes
  have hr := B.returns
  have hts := atoms_spec (ws := w_c_X10_rewind) B.pre
  have hown : s.vm.findClass RX10 = some m.cls := findClass_of_methodNamed B.named
  have hlocks := B.notSynchronized
  subst hsz
  have hD := hD0.self (sz := s.heap.size)
  generalize hAe : va_A [(h0, .inr (10, [.ref q1, .int 0, .int 0, .int 0]))] s.heap.size = A at hD ⊢
  have hA : ∀ q : Nat, s.heap.size ≤ q → A q := fun q h => by rw [← hAe]; exact Or.inr h
  have hS : va_S A s.heap s.heap [] := va_S.rf
  have hP : va_P (dC, dI) vwCl [(h0, .inr (10, [.ref q1, .int 0, .int 0, .int 0]))] s.heap := hP
  have hl := lv_entry ([.ref h0]) (n := 1) (Nat.le_of_ble_eq_true rfl)
  rw [lg_entry_eq]
  generalize (lg_sl ([.ref h0]) ++ List.replicate (1 - (lg_sl ([.ref h0])).length) Slot.unset).toArray = ls at hl ⊢
  have hl : lv_has ls 1 [(0, .ref h0)] := hl
  refine lv_aload_n hx hb dX10_rewind_0 rfl (lv_at hl 0 rfl) ?_
  refine lv_iconst (v := -1) hx hb dX10_rewind_1 (by decide +kernel) ?_
  refine va_put (D := (dC, dI)) (ci := 10) (v := .int (-1)) (ty := .int) (C := RX10) (T := TX10) (N := 4) hx hb hts in_c_X10_rewind_X10 tyX10 tyX10_ok nmX10 hown hK hP hD hS 0 rfl rfl 3 (by decide) (hts (.fieldLink RX10 19 "LawnAhead$Tape" "wrongAt" "I") (List.mem_of_getElem? (i := 1) rfl)) (fun _ h9 => h9) rfl (by decide +kernel) rfl rfl (Nat.le_of_ble_eq_true rfl) dX10_rewind_2 (fun H locs hP hD hS => ?_)
  have hP : va_P (dC, dI) vwCl [(h0, .inr (10, [.ref q1, .int 0, .int 0, .int (-1)]))] H := hP
  have hD : va_D A [(h0, .inr (10, [.ref q1, .int 0, .int 0, .int (-1)]))] := hD
  refine lv_aload_n hx hb dX10_rewind_5 rfl (lv_at hl 0 rfl) ?_
  refine lv_iconst (v := 0) hx hb dX10_rewind_6 (by decide +kernel) ?_
  refine va_put (D := (dC, dI)) (ci := 10) (v := .int 0) (ty := .int) (C := RX10) (T := TX10) (N := 4) hx hb hts in_c_X10_rewind_X10 tyX10 tyX10_ok nmX10 hown hK hP hD hS 0 rfl rfl 2 (by decide) (hts (.fieldLink RX10 22 "LawnAhead$Tape" "at" "I") (List.mem_of_getElem? (i := 2) rfl)) (fun _ h9 => h9) rfl (by decide +kernel) rfl rfl (Nat.le_of_ble_eq_true rfl) dX10_rewind_7 (fun H locs hP hD hS => ?_)
  have hP : va_P (dC, dI) vwCl [(h0, .inr (10, [.ref q1, .int 0, .int 0, .int (-1)]))] H := hP
  have hD : va_D A [(h0, .inr (10, [.ref q1, .int 0, .int 0, .int (-1)]))] := hD
  refine lv_aload_n hx hb dX10_rewind_10 rfl (lv_at hl 0 rfl) ?_
  refine va_get (D := (dC, dI)) (ci := 10) (v := .int 0) (C := RX10) (T := TX10) (N := 4) hx hb hts in_c_X10_rewind_X10 hown hK hP 0 rfl rfl 2 (by decide) (hts (.fieldLink RX10 22 "LawnAhead$Tape" "at" "I") (List.mem_of_getElem? (i := 2) rfl)) (fun _ h9 => h9) rfl dX10_rewind_11 ?_
  refine lv_aload_n hx hb dX10_rewind_14 rfl (lv_at hl 0 rfl) ?_
  refine va_get (D := (dC, dI)) (ci := 10) (v := .int 0) (C := RX10) (T := TX10) (N := 4) hx hb hts in_c_X10_rewind_X10 hown hK hP 0 rfl rfl 1 (by decide) (hts (.fieldLink RX10 15 "LawnAhead$Tape" "length" "I") (List.mem_of_getElem? (i := 3) rfl)) (fun _ h9 => h9) rfl dX10_rewind_15 ?_
  refine lv_icmp_ge (tgt := 48) hx hb dX10_rewind_18 (by decide) (fun c_1 => ?_) (fun c_1 => absurd (by decide +kernel) c_1)
  refine W.widen (k := 0) (n := 0) (Nat.le_of_ble_eq_true rfl) (Nat.le_of_ble_eq_true rfl) ?_
  have hP9 := hP.sub (ws' := [(h0, .inr (10, [.ref q1, .int 0, .int 0, .int (-1)]))]) [0] rfl
  have hD9 := hD.sub (ws' := [(h0, .inr (10, [.ref q1, .int 0, .int 0, .int (-1)]))]) [0] (by decide) rfl
  have hK9 := hK.sub (tys' := []) [] rfl
  exact W.vret hx hb hr (fun t ht hW => ⟨⟨(), rfl, trivial, by rw [ht]; exact hP9, va_K.moved hW.alike hK9, hD9⟩, hS.F ht⟩) hS.2.2 dX10_rewind_48

def w_c_X10_sign : List Cond := .code yX10_sign cX10_sign 1 (some .int) :: ([.fieldLink RX10 22 "LawnAhead$Tape" "at" "I", .fieldLink RX10 15 "LawnAhead$Tape" "length" "I"] ++ (wsX100 ++ []))
theorem in_c_X10_sign_X10 : ∀ w ∈ wsX100, w ∈ w_c_X10_sign := fun w h => List.mem_cons_of_mem _ (List.mem_append_right _ (List.mem_append_left _ h))
set_option maxHeartbeats 8000000 in
set_option maxRecDepth 100000 in
theorem c_X10_sign (l : Launch) (dC : Nat → ClassId) (dI : Nat → Nat → Nat) (h0 : Nat) (q1 : Nat) (sz : Nat) : Met l yX10_sign w_c_X10_sign ({ frames := 0, cells := 0, slots := 0, locals := 0 }) (va_Pc [.ref h0] (fun U => U.heap.size = sz ∧ va_P (dC, dI) vwCl [(h0, .inr (10, [.ref q1, .int 0, .int 0, .int (-1)]))] U.heap ∧ va_K (dC, dI) vwCl [] U ∧ va_D (fun _ => True) [(h0, .inr (10, [.ref q1, .int 0, .int 0, .int (-1)]))])) (va_Qi (fun (r : Int32) (_ : Unit) => r = 0) (fun _ t => va_P (dC, dI) vwCl [(h0, .inr (10, [.ref q1, .int 0, .int 0, .int (-1)]))] t.heap ∧ va_K (dC, dI) vwCl [] t ∧ va_D (va_A [(h0, .inr (10, [.ref q1, .int 0, .int 0, .int (-1)]))] sz) [(h0, .inr (10, [.ref q1, .int 0, .int 0, .int (-1)]))]) (va_A [(h0, .inr (10, [.ref q1, .int 0, .int 0, .int (-1)]))] sz)) 0 0 (va_A [(h0, .inr (10, [.ref q1, .int 0, .int 0, .int (-1)]))] sz) := by
  refine Met.ofW (cc := cX10_sign) (maxL := 1) (ret := (some .int)) (by decide) rfl ?_
  intro p e s m args below meth c s₁ B hml hv
  obtain ⟨rfl, hsz, hP, hK, hD0⟩ := hv
  have hx := B.exec
  have hb := B.bytes
  have hr := B.returns
  have hts := atoms_spec (ws := w_c_X10_sign) B.pre
  have hown : s.vm.findClass RX10 = some m.cls := findClass_of_methodNamed B.named
  have hlocks := B.notSynchronized
  subst hsz
  have hD := hD0.self (sz := s.heap.size)
  generalize hAe : va_A [(h0, .inr (10, [.ref q1, .int 0, .int 0, .int (-1)]))] s.heap.size = A at hD ⊢
  have hA : ∀ q : Nat, s.heap.size ≤ q → A q := fun q h => by rw [← hAe]; exact Or.inr h
  have hS : va_S A s.heap s.heap [] := va_S.rf
  have hP : va_P (dC, dI) vwCl [(h0, .inr (10, [.ref q1, .int 0, .int 0, .int (-1)]))] s.heap := hP
  have hl := lv_entry ([.ref h0]) (n := 1) (Nat.le_of_ble_eq_true rfl)
  rw [lg_entry_eq]
  generalize (lg_sl ([.ref h0]) ++ List.replicate (1 - (lg_sl ([.ref h0])).length) Slot.unset).toArray = ls at hl ⊢
  have hl : lv_has ls 1 [(0, .ref h0)] := hl
  refine lv_aload_n hx hb dX10_sign_0 rfl (lv_at hl 0 rfl) ?_
  refine va_get (D := (dC, dI)) (ci := 10) (v := .int 0) (C := RX10) (T := TX10) (N := 4) hx hb hts in_c_X10_sign_X10 hown hK hP 0 rfl rfl 2 (by decide) (hts (.fieldLink RX10 22 "LawnAhead$Tape" "at" "I") (List.mem_of_getElem? (i := 1) rfl)) (fun _ h9 => h9) rfl dX10_sign_1 ?_
  refine lv_aload_n hx hb dX10_sign_4 rfl (lv_at hl 0 rfl) ?_
  refine va_get (D := (dC, dI)) (ci := 10) (v := .int 0) (C := RX10) (T := TX10) (N := 4) hx hb hts in_c_X10_sign_X10 hown hK hP 0 rfl rfl 1 (by decide) (hts (.fieldLink RX10 15 "LawnAhead$Tape" "length" "I") (List.mem_of_getElem? (i := 2) rfl)) (fun _ h9 => h9) rfl dX10_sign_5 ?_
  refine lv_icmp_ge (tgt := 23) hx hb dX10_sign_8 (by decide) (fun c_1 => ?_) (fun c_1 => absurd (by decide +kernel) c_1)
  refine lv_iconst (v := 0) hx hb dX10_sign_23 (by decide +kernel) ?_
  refine W.widen (k := 0) (n := 0) (Nat.le_of_ble_eq_true rfl) (Nat.le_of_ble_eq_true rfl) ?_
  have hP9 := hP.sub (ws' := [(h0, .inr (10, [.ref q1, .int 0, .int 0, .int (-1)]))]) [0] rfl
  have hD9 := hD.sub (ws' := [(h0, .inr (10, [.ref q1, .int 0, .int 0, .int (-1)]))]) [0] (by decide) rfl
  have hK9 := hK.sub (tys' := []) [] rfl
  exact W.iret (v := 0) hx hb hr (fun t ht hW => ⟨⟨0, (), rfl, rfl, by rw [ht]; exact hP9, va_K.moved hW.alike hK9, hD9⟩, hS.F ht⟩) hS.2.2 dX10_sign_24

def w_c_X10_wrong : List Cond := .code yX10_wrong cX10_wrong 1 (some .boolean) :: ([.fieldLink RX10 22 "LawnAhead$Tape" "at" "I", .fieldLink RX10 19 "LawnAhead$Tape" "wrongAt" "I"] ++ (wsX100 ++ []))
theorem in_c_X10_wrong_X10 : ∀ w ∈ wsX100, w ∈ w_c_X10_wrong := fun w h => List.mem_cons_of_mem _ (List.mem_append_right _ (List.mem_append_left _ h))
set_option maxHeartbeats 8000000 in
set_option maxRecDepth 100000 in
theorem c_X10_wrong (l : Launch) (dC : Nat → ClassId) (dI : Nat → Nat → Nat) (h0 : Nat) (q1 : Nat) (sz : Nat) : Met l yX10_wrong w_c_X10_wrong ({ frames := 0, cells := 0, slots := 0, locals := 0 }) (va_Pc [.ref h0] (fun U => U.heap.size = sz ∧ va_P (dC, dI) vwCl [(h0, .inr (10, [.ref q1, .int 0, .int 0, .int (-1)]))] U.heap ∧ va_K (dC, dI) vwCl [] U ∧ va_D (fun _ => True) [(h0, .inr (10, [.ref q1, .int 0, .int 0, .int (-1)]))])) (va_Qi (fun (r : Int32) (_ : Unit) => r = 0) (fun _ t => va_P (dC, dI) vwCl [(h0, .inr (10, [.ref q1, .int 0, .int 0, .int 0]))] t.heap ∧ va_K (dC, dI) vwCl [] t ∧ va_D (va_A [(h0, .inr (10, [.ref q1, .int 0, .int 0, .int (-1)]))] sz) [(h0, .inr (10, [.ref q1, .int 0, .int 0, .int 0]))]) (va_A [(h0, .inr (10, [.ref q1, .int 0, .int 0, .int (-1)]))] sz)) 0 0 (va_A [(h0, .inr (10, [.ref q1, .int 0, .int 0, .int (-1)]))] sz) := by
  refine Met.ofW (cc := cX10_wrong) (maxL := 1) (ret := (some .boolean)) (by decide) rfl ?_
  intro p e s m args below meth c s₁ B hml hv
  obtain ⟨rfl, hsz, hP, hK, hD0⟩ := hv
  have hx := B.exec
  have hb := B.bytes
  have hr := B.returns
  have hts := atoms_spec (ws := w_c_X10_wrong) B.pre
  have hown : s.vm.findClass RX10 = some m.cls := findClass_of_methodNamed B.named
  have hlocks := B.notSynchronized
  subst hsz
  have hD := hD0.self (sz := s.heap.size)
  generalize hAe : va_A [(h0, .inr (10, [.ref q1, .int 0, .int 0, .int (-1)]))] s.heap.size = A at hD ⊢
  have hA : ∀ q : Nat, s.heap.size ≤ q → A q := fun q h => by rw [← hAe]; exact Or.inr h
  have hS : va_S A s.heap s.heap [] := va_S.rf
  have hP : va_P (dC, dI) vwCl [(h0, .inr (10, [.ref q1, .int 0, .int 0, .int (-1)]))] s.heap := hP
  have hl := lv_entry ([.ref h0]) (n := 1) (Nat.le_of_ble_eq_true rfl)
  rw [lg_entry_eq]
  generalize (lg_sl ([.ref h0]) ++ List.replicate (1 - (lg_sl ([.ref h0])).length) Slot.unset).toArray = ls at hl ⊢
  have hl : lv_has ls 1 [(0, .ref h0)] := hl
  refine lv_aload_n hx hb dX10_wrong_0 rfl (lv_at hl 0 rfl) ?_
  refine lv_aload_n hx hb dX10_wrong_1 rfl (lv_at hl 0 rfl) ?_
  refine va_get (D := (dC, dI)) (ci := 10) (v := .int 0) (C := RX10) (T := TX10) (N := 4) hx hb hts in_c_X10_wrong_X10 hown hK hP 0 rfl rfl 2 (by decide) (hts (.fieldLink RX10 22 "LawnAhead$Tape" "at" "I") (List.mem_of_getElem? (i := 1) rfl)) (fun _ h9 => h9) rfl dX10_wrong_2 ?_
  refine va_put (D := (dC, dI)) (ci := 10) (v := .int 0) (ty := .int) (C := RX10) (T := TX10) (N := 4) hx hb hts in_c_X10_wrong_X10 tyX10 tyX10_ok nmX10 hown hK hP hD hS 0 rfl rfl 3 (by decide) (hts (.fieldLink RX10 19 "LawnAhead$Tape" "wrongAt" "I") (List.mem_of_getElem? (i := 2) rfl)) (fun _ h9 => h9) rfl (by decide +kernel) rfl rfl (Nat.le_of_ble_eq_true rfl) dX10_wrong_5 (fun H locs hP hD hS => ?_)
  have hP : va_P (dC, dI) vwCl [(h0, .inr (10, [.ref q1, .int 0, .int 0, .int 0]))] H := hP
  have hD : va_D A [(h0, .inr (10, [.ref q1, .int 0, .int 0, .int 0]))] := hD
  refine lv_iconst (v := 0) hx hb dX10_wrong_8 (by decide +kernel) ?_
  refine W.widen (k := 0) (n := 0) (Nat.le_of_ble_eq_true rfl) (Nat.le_of_ble_eq_true rfl) ?_
  have hP9 := hP.sub (ws' := [(h0, .inr (10, [.ref q1, .int 0, .int 0, .int 0]))]) [0] rfl
  have hD9 := hD.sub (ws' := [(h0, .inr (10, [.ref q1, .int 0, .int 0, .int 0]))]) [0] (by decide) rfl
  have hK9 := hK.sub (tys' := []) [] rfl
  exact W.zret (ty := .boolean) (v := 0) hx hb hr (by decide +kernel) (fun t ht hW => ⟨⟨0, (), rfl, rfl, by rw [ht]; exact hP9, va_K.moved hW.alike hK9, hD9⟩, hS.F ht⟩) hS.2.2 dX10_wrong_9

def w_c_X10_demand : List Cond := .code yX10_demand cX10_demand 2 (some .boolean) :: ([.fieldLink RX10 22 "LawnAhead$Tape" "at" "I", .fieldLink RX10 15 "LawnAhead$Tape" "length" "I", .code yX10_sign cX10_sign 1 (some .int), .methodLink RX10 31 yX10_sign, .instanceMethod yX10_sign, .selects RX10 yX10_sign yX10_sign, .initialized RX10, .fieldLink RX10 19 "LawnAhead$Tape" "wrongAt" "I", .code yX10_wrong cX10_wrong 1 (some .boolean), .methodLink RX10 35 yX10_wrong, .instanceMethod yX10_wrong, .selects RX10 yX10_wrong yX10_wrong] ++ (wsX100 ++ []))
theorem in_c_X10_demand_X10 : ∀ w ∈ wsX100, w ∈ w_c_X10_demand := fun w h => List.mem_cons_of_mem _ (List.mem_append_right _ (List.mem_append_left _ h))
set_option maxRecDepth 100000 in
theorem g_c_X10_demand_1_c_X10_sign : GoodIn w_c_X10_demand (([.methodLink RX10 31 yX10_sign, .instanceMethod yX10_sign, .selects RX10 yX10_sign yX10_sign, .initialized RX10] : List Cond) ++ w_c_X10_sign) := goodIn_r _ [4, 5, 6, 7, 3, 1, 2, 13, 14, 15, 16] rfl (by decide +kernel)
set_option maxRecDepth 100000 in
theorem g_c_X10_demand_9_c_X10_wrong : GoodIn w_c_X10_demand (([.methodLink RX10 35 yX10_wrong, .instanceMethod yX10_wrong, .selects RX10 yX10_wrong yX10_wrong, .initialized RX10] : List Cond) ++ w_c_X10_wrong) := goodIn_r _ [10, 11, 12, 7, 9, 1, 8, 13, 14, 15, 16] rfl (by decide +kernel)
set_option maxHeartbeats 8000000 in
set_option maxRecDepth 100000 in
theorem c_X10_demand (l : Launch) (dC : Nat → ClassId) (dI : Nat → Nat → Nat) (h0 : Nat) (q1 : Nat) (sz : Nat) : Met l yX10_demand w_c_X10_demand ({ frames := 1, cells := 0, slots := 0, locals := 20 }) (va_Pc [.ref h0, .int 121] (fun U => U.heap.size = sz ∧ va_P (dC, dI) vwCl [(h0, .inr (10, [.ref q1, .int 0, .int 0, .int (-1)]))] U.heap ∧ va_K (dC, dI) vwCl [] U ∧ va_D (fun _ => True) [(h0, .inr (10, [.ref q1, .int 0, .int 0, .int (-1)]))])) (va_Qi (fun (r : Int32) (_ : Unit) => r = 0) (fun _ t => va_P (dC, dI) vwCl [(h0, .inr (10, [.ref q1, .int 0, .int 0, .int 0]))] t.heap ∧ va_K (dC, dI) vwCl [] t ∧ va_D (va_A [(h0, .inr (10, [.ref q1, .int 0, .int 0, .int (-1)]))] sz) [(h0, .inr (10, [.ref q1, .int 0, .int 0, .int 0]))]) (va_A [(h0, .inr (10, [.ref q1, .int 0, .int 0, .int (-1)]))] sz)) 0 0 (va_A [(h0, .inr (10, [.ref q1, .int 0, .int 0, .int (-1)]))] sz) := by
  refine Met.ofW (cc := cX10_demand) (maxL := 2) (ret := (some .boolean)) (by decide) rfl ?_
  intro p e s m args below meth c s₁ B hml hv
  obtain ⟨rfl, hsz, hP, hK, hD0⟩ := hv
  have hx := B.exec
  have hb := B.bytes
  have hr := B.returns
  have hts := atoms_spec (ws := w_c_X10_demand) B.pre
  have hown : s.vm.findClass RX10 = some m.cls := findClass_of_methodNamed B.named
  have hlocks := B.notSynchronized
  subst hsz
  have hD := hD0.self (sz := s.heap.size)
  generalize hAe : va_A [(h0, .inr (10, [.ref q1, .int 0, .int 0, .int (-1)]))] s.heap.size = A at hD ⊢
  have hA : ∀ q : Nat, s.heap.size ≤ q → A q := fun q h => by rw [← hAe]; exact Or.inr h
  have hS : va_S A s.heap s.heap [] := va_S.rf
  have hP : va_P (dC, dI) vwCl [(h0, .inr (10, [.ref q1, .int 0, .int 0, .int (-1)]))] s.heap := hP
  have hl := lv_entry ([.ref h0, .int 121]) (n := 2) (Nat.le_of_ble_eq_true rfl)
  rw [lg_entry_eq]
  generalize (lg_sl ([.ref h0, .int 121]) ++ List.replicate (2 - (lg_sl ([.ref h0, .int 121])).length) Slot.unset).toArray = ls at hl ⊢
  have hl : lv_has ls 2 [(0, .ref h0), (1, .int 121)] := hl
  refine lv_aload_n hx hb dX10_demand_0 rfl (lv_at hl 0 rfl) ?_
  have hPc := hP.sub (ws' := [(h0, .inr (10, [.ref q1, .int 0, .int 0, .int (-1)]))]) [0] rfl
  have hDc := hD.sub (ws' := [(h0, .inr (10, [.ref q1, .int 0, .int 0, .int (-1)]))]) [0] (by decide) rfl
  have hKc := hK.sub (tys' := []) [] rfl
  have hFc := va_free (wc := [(h0, .inr (10, [.ref q1, .int 0, .int 0, .int (-1)]))]) hD hS hA [0] rfl
  refine va_calli (va_runV (As := []) (rest := []) ⟨hx, hb, hml, hown, hts⟩ (c_X10_sign l dC dI h0 q1 s.heap.size) (cwV 0 hts g_c_X10_demand_1_c_X10_sign rfl rfl rfl (by decide +kernel) ⟨Nat.le_of_ble_eq_true rfl, Nat.le_of_ble_eq_true rfl⟩) ⟨fun a U g mk q => by obtain ⟨q0, q1, qP, qK, qD⟩ := q; exact ⟨q0, q1, qP, va_K.moved (u := U) (U := U.calling g mk a) (Vm.Alike.refl U.vm) qK, qD⟩, va_recv hK hP (ci := 10) (q0 := 0) rfl rfl, fun U hU hW => ⟨rfl, by rw [hU], by rw [hU]; exact hPc, va_K.moved hW.alike hKc, hDc.weaken (fun _ _ _ _ => trivial)⟩⟩ rfl rfl hl.1 rfl (lv_room (Nat.le_of_ble_eq_true rfl)) dX10_demand_1 ⟨Nat.le_of_ble_eq_true rfl, Nat.le_of_ble_eq_true rfl⟩) hS (fun q _ h => hFc q h) hFc (fun r_1 u t H1 locs ht hvm hw hB hz1 hk1 hS => ?_)
  obtain ⟨hP1, hK1, hD1⟩ := hB
  rw [ht] at hP1
  have hK1 := va_K.moved hvm.symm hK1
  try dsimp only at hw
  obtain ⟨hP, hD⟩ := va_join (wr := []) (w1 := [(h0, .inr (10, [.ref q1, .int 0, .int 0, .int (-1)]))]) hP hD [0] [] rfl rfl (by decide) (by decide) hk1 hFc hP1 hD1
  have hK := hK.app hK1
  generalize H1 = H at hP hS ⊢
  have hP : va_P (dC, dI) vwCl [(h0, .inr (10, [.ref q1, .int 0, .int 0, .int (-1)]))] H := hP
  have hD : va_D A [(h0, .inr (10, [.ref q1, .int 0, .int 0, .int (-1)]))] := hD
  have hK : va_K (dC, dI) vwCl [] s := hK
  refine W.widen (k := 0) (n := 0) (Nat.le_of_ble_eq_true rfl) (Nat.le_of_ble_eq_true rfl) ?_
  obtain rfl : r_1 = 0 := hw
  refine lv_iload_n hx hb dX10_demand_4 rfl (lv_at hl 1 rfl) ?_
  refine lv_icmp_eq (tgt := 13) hx hb dX10_demand_5 (by decide) (fun c_2 => absurd c_2 (by decide +kernel)) (fun c_2 => ?_)
  refine lv_aload_n hx hb dX10_demand_8 rfl (lv_at hl 0 rfl) ?_
  have hPc := hP.sub (ws' := [(h0, .inr (10, [.ref q1, .int 0, .int 0, .int (-1)]))]) [0] rfl
  have hDc := hD.sub (ws' := [(h0, .inr (10, [.ref q1, .int 0, .int 0, .int (-1)]))]) [0] (by decide) rfl
  have hKc := hK.sub (tys' := []) [] rfl
  have hFc := va_free (wc := [(h0, .inr (10, [.ref q1, .int 0, .int 0, .int (-1)]))]) hD hS hA [0] rfl
  refine va_calli (va_runV (As := []) (rest := []) ⟨hx, hb, hml, hown, hts⟩ (c_X10_wrong l dC dI h0 q1 H.size) (cwV 0 hts g_c_X10_demand_9_c_X10_wrong rfl rfl rfl (by decide +kernel) ⟨Nat.le_of_ble_eq_true rfl, Nat.le_of_ble_eq_true rfl⟩) ⟨fun a U g mk q => by obtain ⟨q0, q1, qP, qK, qD⟩ := q; exact ⟨q0, q1, qP, va_K.moved (u := U) (U := U.calling g mk a) (Vm.Alike.refl U.vm) qK, qD⟩, va_recv hK hP (ci := 10) (q0 := 0) rfl rfl, fun U hU hW => ⟨rfl, by rw [hU], by rw [hU]; exact hPc, va_K.moved hW.alike hKc, hDc.weaken (fun _ _ _ _ => trivial)⟩⟩ rfl rfl hl.1 rfl (lv_room (Nat.le_of_ble_eq_true rfl)) dX10_demand_9 ⟨Nat.le_of_ble_eq_true rfl, Nat.le_of_ble_eq_true rfl⟩) hS (fun q _ h => hFc q h) hFc (fun r_3 u t H1 locs ht hvm hw hB hz1 hk1 hS => ?_)
  obtain ⟨hP1, hK1, hD1⟩ := hB
  rw [ht] at hP1
  have hK1 := va_K.moved hvm.symm hK1
  try dsimp only at hw
  obtain ⟨hP, hD⟩ := va_join (wr := []) (w1 := [(h0, .inr (10, [.ref q1, .int 0, .int 0, .int 0]))]) hP hD [0] [] rfl rfl (by decide) (by decide) hk1 hFc hP1 hD1
  have hK := hK.app hK1
  generalize H1 = H at hP hS ⊢
  have hP : va_P (dC, dI) vwCl [(h0, .inr (10, [.ref q1, .int 0, .int 0, .int 0]))] H := hP
  have hD : va_D A [(h0, .inr (10, [.ref q1, .int 0, .int 0, .int 0]))] := hD
  have hK : va_K (dC, dI) vwCl [] s := hK
  refine W.widen (k := 0) (n := 0) (Nat.le_of_ble_eq_true rfl) (Nat.le_of_ble_eq_true rfl) ?_
  obtain rfl : r_3 = 0 := hw
  refine W.widen (k := 0) (n := 0) (Nat.le_of_ble_eq_true rfl) (Nat.le_of_ble_eq_true rfl) ?_
  have hP9 := hP.sub (ws' := [(h0, .inr (10, [.ref q1, .int 0, .int 0, .int 0]))]) [0] rfl
  have hD9 := hD.sub (ws' := [(h0, .inr (10, [.ref q1, .int 0, .int 0, .int 0]))]) [0] (by decide) rfl
  have hK9 := hK.sub (tys' := []) [] rfl
  exact W.zret (ty := .boolean) (v := 0) hx hb hr (by decide +kernel) (fun t ht hW => ⟨⟨0, (), rfl, rfl, by rw [ht]; exact hP9, va_K.moved hW.alike hK9, hD9⟩, hS.F ht⟩) hS.2.2 dX10_demand_12

def w_c_X6_readClause : List Cond := .code yX6_readClause cX6_readClause 4 (some .boolean) :: ([.fieldLink RX10 22 "LawnAhead$Tape" "at" "I", .fieldLink RX10 15 "LawnAhead$Tape" "length" "I", .code yX10_sign cX10_sign 1 (some .int), .methodLink RX10 31 yX10_sign, .instanceMethod yX10_sign, .selects RX10 yX10_sign yX10_sign, .initialized RX10, .fieldLink RX10 19 "LawnAhead$Tape" "wrongAt" "I", .code yX10_wrong cX10_wrong 1 (some .boolean), .methodLink RX10 35 yX10_wrong, .instanceMethod yX10_wrong, .selects RX10 yX10_wrong yX10_wrong, .code yX10_demand cX10_demand 2 (some .boolean), .methodLink RX6 55 yX10_demand, .instanceMethod yX10_demand, .selects RX10 yX10_demand yX10_demand] ++ (wsX100 ++ []))
theorem in_c_X6_readClause_X10 : ∀ w ∈ wsX100, w ∈ w_c_X6_readClause := fun w h => List.mem_cons_of_mem _ (List.mem_append_right _ (List.mem_append_left _ h))
set_option maxRecDepth 100000 in
theorem g_c_X6_readClause_3_c_X10_demand : GoodIn w_c_X6_readClause (([.methodLink RX6 55 yX10_demand, .instanceMethod yX10_demand, .selects RX10 yX10_demand yX10_demand, .initialized RX10] : List Cond) ++ w_c_X10_demand) := goodIn_r _ [14, 15, 16, 7, 13, 1, 2, 3, 4, 5, 6, 7, 8, 9, 10, 11, 12, 17, 18, 19, 20] rfl (by decide +kernel)
set_option maxHeartbeats 8000000 in
set_option maxRecDepth 100000 in
theorem c_X6_readClause (l : Launch) (dC : Nat → ClassId) (dI : Nat → Nat → Nat) (h0 : Nat) (p1 : Nat) (q1 : Nat) (sz : Nat) : Met l yX6_readClause w_c_X6_readClause ({ frames := 2, cells := 0, slots := 0, locals := 41 }) (va_Pc [.ref h0, .ref p1, .int 0] (fun U => U.heap.size = sz ∧ va_P (dC, dI) vwCl [(p1, .inr (10, [.ref q1, .int 0, .int 0, .int (-1)]))] U.heap ∧ va_K (dC, dI) vwCl [] U ∧ va_D (fun _ => True) [(p1, .inr (10, [.ref q1, .int 0, .int 0, .int (-1)]))])) (va_Qi (fun (r : Int32) (_ : Unit) => r = 0) (fun _ t => va_P (dC, dI) vwCl [(p1, .inr (10, [.ref q1, .int 0, .int 0, .int 0]))] t.heap ∧ va_K (dC, dI) vwCl [] t ∧ va_D (va_A [(p1, .inr (10, [.ref q1, .int 0, .int 0, .int (-1)]))] sz) [(p1, .inr (10, [.ref q1, .int 0, .int 0, .int 0]))]) (va_A [(p1, .inr (10, [.ref q1, .int 0, .int 0, .int (-1)]))] sz)) 0 0 (va_A [(p1, .inr (10, [.ref q1, .int 0, .int 0, .int (-1)]))] sz) := by
  refine Met.ofW (cc := cX6_readClause) (maxL := 4) (ret := (some .boolean)) (by decide) rfl ?_
  intro p e s m args below meth c s₁ B hml hv
  obtain ⟨rfl, hsz, hP, hK, hD0⟩ := hv
  have hx := B.exec
  have hb := B.bytes
  have hr := B.returns
  have hts := atoms_spec (ws := w_c_X6_readClause) B.pre
  have hown : s.vm.findClass RX6 = some m.cls := findClass_of_methodNamed B.named
  have hlocks := B.notSynchronized
  subst hsz
  have hD := hD0.self (sz := s.heap.size)
  generalize hAe : va_A [(p1, .inr (10, [.ref q1, .int 0, .int 0, .int (-1)]))] s.heap.size = A at hD ⊢
  have hA : ∀ q : Nat, s.heap.size ≤ q → A q := fun q h => by rw [← hAe]; exact Or.inr h
  have hS : va_S A s.heap s.heap [] := va_S.rf
  have hP : va_P (dC, dI) vwCl [(p1, .inr (10, [.ref q1, .int 0, .int 0, .int (-1)]))] s.heap := hP
  have hl := lv_entry ([.ref h0, .ref p1, .int 0]) (n := 4) (Nat.le_of_ble_eq_true rfl)
  rw [lg_entry_eq]
  generalize (lg_sl ([.ref h0, .ref p1, .int 0]) ++ List.replicate (4 - (lg_sl ([.ref h0, .ref p1, .int 0])).length) Slot.unset).toArray = ls at hl ⊢
  have hl : lv_has ls 4 [(0, .ref h0), (1, .ref p1), (2, .int 0)] := hl
  refine lv_aload_n hx hb dX6_readClause_0 rfl (lv_at hl 1 rfl) ?_
  refine lv_bipush (v := 121) hx hb dX6_readClause_1 (by decide +kernel) ?_
  have hPc := hP.sub (ws' := [(p1, .inr (10, [.ref q1, .int 0, .int 0, .int (-1)]))]) [0] rfl
  have hDc := hD.sub (ws' := [(p1, .inr (10, [.ref q1, .int 0, .int 0, .int (-1)]))]) [0] (by decide) rfl
  have hKc := hK.sub (tys' := []) [] rfl
  have hFc := va_free (wc := [(p1, .inr (10, [.ref q1, .int 0, .int 0, .int (-1)]))]) hD hS hA [0] rfl
  refine va_calli (va_runV (As := [.int 121]) (rest := []) ⟨hx, hb, hml, hown, hts⟩ (c_X10_demand l dC dI p1 q1 s.heap.size) (cwV 1 hts g_c_X6_readClause_3_c_X10_demand rfl rfl rfl (by decide +kernel) ⟨Nat.le_of_ble_eq_true rfl, Nat.le_of_ble_eq_true rfl⟩) ⟨fun a U g mk q => by obtain ⟨q0, q1, qP, qK, qD⟩ := q; exact ⟨q0, q1, qP, va_K.moved (u := U) (U := U.calling g mk a) (Vm.Alike.refl U.vm) qK, qD⟩, va_recv hK hP (ci := 10) (q0 := 0) rfl rfl, fun U hU hW => ⟨rfl, by rw [hU], by rw [hU]; exact hPc, va_K.moved hW.alike hKc, hDc.weaken (fun _ _ _ _ => trivial)⟩⟩ rfl rfl hl.1 rfl (lv_room (Nat.le_of_ble_eq_true rfl)) dX6_readClause_3 ⟨Nat.le_of_ble_eq_true rfl, Nat.le_of_ble_eq_true rfl⟩) hS (fun q _ h => hFc q h) hFc (fun r_1 u t H1 locs ht hvm hw hB hz1 hk1 hS => ?_)
  obtain ⟨hP1, hK1, hD1⟩ := hB
  rw [ht] at hP1
  have hK1 := va_K.moved hvm.symm hK1
  try dsimp only at hw
  obtain ⟨hP, hD⟩ := va_join (wr := []) (w1 := [(p1, .inr (10, [.ref q1, .int 0, .int 0, .int 0]))]) hP hD [0] [] rfl rfl (by decide) (by decide) hk1 hFc hP1 hD1
  have hK := hK.app hK1
  generalize H1 = H at hP hS ⊢
  have hP : va_P (dC, dI) vwCl [(p1, .inr (10, [.ref q1, .int 0, .int 0, .int 0]))] H := hP
  have hD : va_D A [(p1, .inr (10, [.ref q1, .int 0, .int 0, .int 0]))] := hD
  have hK : va_K (dC, dI) vwCl [] s := hK
  refine W.widen (k := 0) (n := 0) (Nat.le_of_ble_eq_true rfl) (Nat.le_of_ble_eq_true rfl) ?_
  obtain rfl : r_1 = 0 := hw
  refine lv_if_eq (tgt := 18) hx hb dX6_readClause_6 (by decide) (fun c_2 => ?_) (fun c_2 => absurd (by decide +kernel) c_2)
  refine lv_iconst (v := 0) hx hb dX6_readClause_18 (by decide +kernel) ?_
  refine W.widen (k := 0) (n := 0) (Nat.le_of_ble_eq_true rfl) (Nat.le_of_ble_eq_true rfl) ?_
  have hP9 := hP.sub (ws' := [(p1, .inr (10, [.ref q1, .int 0, .int 0, .int 0]))]) [0] rfl
  have hD9 := hD.sub (ws' := [(p1, .inr (10, [.ref q1, .int 0, .int 0, .int 0]))]) [0] (by decide) rfl
  have hK9 := hK.sub (tys' := []) [] rfl
  exact W.zret (ty := .boolean) (v := 0) hx hb hr (by decide +kernel) (fun t ht hW => ⟨⟨0, (), rfl, rfl, by rw [ht]; exact hP9, va_K.moved hW.alike hK9, hD9⟩, hS.F ht⟩) hS.2.2 dX6_readClause_19

def w_c_X6_read : List Cond := .code yX6_read cX6_read 3 (some .boolean) :: ([.fieldLink RX10 19 "LawnAhead$Tape" "wrongAt" "I", .fieldLink RX10 22 "LawnAhead$Tape" "at" "I", .fieldLink RX10 15 "LawnAhead$Tape" "length" "I", .code yX10_rewind cX10_rewind 1 none, .methodLink RX6 26 yX10_rewind, .instanceMethod yX10_rewind, .selects RX10 yX10_rewind yX10_rewind, .initialized RX10, .fieldLink RX6 29 "LawnAhead$Law" "size" "I", .fieldLink RX6 33 "LawnAhead$Law" "usesDay" "Z", .fieldLink RX6 37 "LawnAhead$Law" "clauses" "I", .fieldLink RX6 20 "LawnAhead$Law" "conditions" "[I", .code yX10_sign cX10_sign 1 (some .int), .methodLink RX10 31 yX10_sign, .instanceMethod yX10_sign, .selects RX10 yX10_sign yX10_sign, .code yX10_wrong cX10_wrong 1 (some .boolean), .methodLink RX10 35 yX10_wrong, .instanceMethod yX10_wrong, .selects RX10 yX10_wrong yX10_wrong, .code yX10_demand cX10_demand 2 (some .boolean), .methodLink RX6 55 yX10_demand, .instanceMethod yX10_demand, .selects RX10 yX10_demand yX10_demand, .code yX6_readClause cX6_readClause 4 (some .boolean), .methodLink RX6 40 yX6_readClause, .instanceMethod yX6_readClause, .selects RX6 yX6_readClause yX6_readClause, .initialized RX6] ++ (wsX100 ++ (wsX60 ++ [])))
theorem in_c_X6_read_X10 : ∀ w ∈ wsX100, w ∈ w_c_X6_read := fun w h => List.mem_cons_of_mem _ (List.mem_append_right _ (List.mem_append_left _ h))
theorem in_c_X6_read_X6 : ∀ w ∈ wsX60, w ∈ w_c_X6_read := fun w h => List.mem_cons_of_mem _ (List.mem_append_right _ (List.mem_append_right _ (List.mem_append_left _ h)))
set_option maxRecDepth 100000 in
theorem g_c_X6_read_1_c_X10_rewind : GoodIn w_c_X6_read (([.methodLink RX6 26 yX10_rewind, .instanceMethod yX10_rewind, .selects RX10 yX10_rewind yX10_rewind, .initialized RX10] : List Cond) ++ w_c_X10_rewind) := goodIn_r _ [5, 6, 7, 8, 4, 1, 2, 3, 30, 31, 32, 33] rfl (by decide +kernel)
set_option maxRecDepth 100000 in
theorem g_c_X6_read_40_c_X6_readClause : GoodIn w_c_X6_read (([.methodLink RX6 40 yX6_readClause, .instanceMethod yX6_readClause, .selects RX6 yX6_readClause yX6_readClause, .initialized RX6] : List Cond) ++ w_c_X6_readClause) := goodIn_r _ [26, 27, 28, 29, 25, 2, 3, 13, 14, 15, 16, 8, 1, 17, 18, 19, 20, 21, 22, 23, 24, 30, 31, 32, 33] rfl (by decide +kernel)
set_option maxHeartbeats 8000000 in
set_option maxRecDepth 100000 in
theorem c_X6_read (l : Launch) (dC : Nat → ClassId) (dI : Nat → Nat → Nat) (h0 : Nat) (p1 : Nat) (q_12 : Nat) (q_13 : Nat) (q_14 : Nat) (q_15 : Nat) (cy_16 : ClassId) (q1 : Nat) (sz : Nat) : Met l yX6_read w_c_X6_read ({ frames := 3, cells := 0, slots := 0, locals := 64 }) (va_Pc [.ref h0, .ref p1] (fun U => U.heap.size = sz ∧ va_P (dC, dI) vwCl [(h0, .inr (6, [.ref q_12, .ref q_13, .ref q_14, .ref q_15, .int 0, .int 0, .int 0])), (q_14, .inl (cy_16, 65, .inl (fun _ => 0))), (p1, .inr (10, [.ref q1, .int 0, .int 0, .int 0]))] U.heap ∧ va_K (dC, dI) vwCl [(cy_16, .int)] U ∧ va_D (fun _ => True) [(h0, .inr (6, [.ref q_12, .ref q_13, .ref q_14, .ref q_15, .int 0, .int 0, .int 0])), (q_14, .inl (cy_16, 65, .inl (fun _ => 0))), (p1, .inr (10, [.ref q1, .int 0, .int 0, .int 0]))])) (va_Qi (fun (r : Int32) (_ : Unit) => r = 0) (fun _ t => va_P (dC, dI) vwCl [(p1, .inr (10, [.ref q1, .int 0, .int 0, .int 0]))] t.heap ∧ va_K (dC, dI) vwCl [] t ∧ va_D (va_A [(h0, .inr (6, [.ref q_12, .ref q_13, .ref q_14, .ref q_15, .int 0, .int 0, .int 0])), (q_14, .inl (cy_16, 65, .inl (fun _ => 0))), (p1, .inr (10, [.ref q1, .int 0, .int 0, .int 0]))] sz) [(p1, .inr (10, [.ref q1, .int 0, .int 0, .int 0]))]) (va_A [(h0, .inr (6, [.ref q_12, .ref q_13, .ref q_14, .ref q_15, .int 0, .int 0, .int 0])), (q_14, .inl (cy_16, 65, .inl (fun _ => 0))), (p1, .inr (10, [.ref q1, .int 0, .int 0, .int 0]))] sz)) 0 0 (va_A [(h0, .inr (6, [.ref q_12, .ref q_13, .ref q_14, .ref q_15, .int 0, .int 0, .int 0])), (q_14, .inl (cy_16, 65, .inl (fun _ => 0))), (p1, .inr (10, [.ref q1, .int 0, .int 0, .int 0]))] sz) := by
  refine Met.ofW (cc := cX6_read) (maxL := 3) (ret := (some .boolean)) (by decide) rfl ?_
  intro p e s m args below meth c s₁ B hml hv
  obtain ⟨rfl, hsz, hP, hK, hD0⟩ := hv
  have hx := B.exec
  have hb := B.bytes
  have hr := B.returns
  have hts := atoms_spec (ws := w_c_X6_read) B.pre
  have hown : s.vm.findClass RX6 = some m.cls := findClass_of_methodNamed B.named
  have hlocks := B.notSynchronized
  subst hsz
  have hD := hD0.self (sz := s.heap.size)
  generalize hAe : va_A [(h0, .inr (6, [.ref q_12, .ref q_13, .ref q_14, .ref q_15, .int 0, .int 0, .int 0])), (q_14, .inl (cy_16, 65, .inl (fun _ => 0))), (p1, .inr (10, [.ref q1, .int 0, .int 0, .int 0]))] s.heap.size = A at hD ⊢
  have hA : ∀ q : Nat, s.heap.size ≤ q → A q := fun q h => by rw [← hAe]; exact Or.inr h
  have hS : va_S A s.heap s.heap [] := va_S.rf
  have hP : va_P (dC, dI) vwCl [(h0, .inr (6, [.ref q_12, .ref q_13, .ref q_14, .ref q_15, .int 0, .int 0, .int 0])), (q_14, .inl (cy_16, 65, .inl (fun _ => 0))), (p1, .inr (10, [.ref q1, .int 0, .int 0, .int 0]))] s.heap := hP
  have hl := lv_entry ([.ref h0, .ref p1]) (n := 3) (Nat.le_of_ble_eq_true rfl)
  rw [lg_entry_eq]
  generalize (lg_sl ([.ref h0, .ref p1]) ++ List.replicate (3 - (lg_sl ([.ref h0, .ref p1])).length) Slot.unset).toArray = ls at hl ⊢
  have hl : lv_has ls 3 [(0, .ref h0), (1, .ref p1)] := hl
  refine lv_aload_n hx hb dX6_read_0 rfl (lv_at hl 1 rfl) ?_
  have hPc := hP.sub (ws' := [(p1, .inr (10, [.ref q1, .int 0, .int 0, .int 0]))]) [2] rfl
  have hDc := hD.sub (ws' := [(p1, .inr (10, [.ref q1, .int 0, .int 0, .int 0]))]) [2] (by decide) rfl
  have hKc := hK.sub (tys' := []) [] rfl
  have hFc := va_free (wc := [(p1, .inr (10, [.ref q1, .int 0, .int 0, .int 0]))]) hD hS hA [2] rfl
  refine va_callv (va_runV (As := []) (rest := []) ⟨hx, hb, hml, hown, hts⟩ (c_X10_rewind l dC dI p1 q1 s.heap.size) (cwV 0 hts g_c_X6_read_1_c_X10_rewind rfl rfl rfl (by decide +kernel) ⟨Nat.le_of_ble_eq_true rfl, Nat.le_of_ble_eq_true rfl⟩) ⟨fun a U g mk q => by obtain ⟨q0, q1, qP, qK, qD⟩ := q; exact ⟨q0, q1, qP, va_K.moved (u := U) (U := U.calling g mk a) (Vm.Alike.refl U.vm) qK, qD⟩, va_recv hK hP (ci := 10) (q0 := 2) rfl rfl, fun U hU hW => ⟨rfl, by rw [hU], by rw [hU]; exact hPc, va_K.moved hW.alike hKc, hDc.weaken (fun _ _ _ _ => trivial)⟩⟩ rfl rfl hl.1 rfl (lv_room (Nat.le_of_ble_eq_true rfl)) dX6_read_1 ⟨Nat.le_of_ble_eq_true rfl, Nat.le_of_ble_eq_true rfl⟩) hS (fun q _ h => hFc q h) hFc (fun u t H1 locs ht hvm hw hB hz1 hk1 hS => ?_)
  obtain ⟨hP1, hK1, hD1⟩ := hB
  rw [ht] at hP1
  have hK1 := va_K.moved hvm.symm hK1
  try dsimp only at hw
  obtain ⟨hP, hD⟩ := va_join (wr := [(h0, .inr (6, [.ref q_12, .ref q_13, .ref q_14, .ref q_15, .int 0, .int 0, .int 0])), (q_14, .inl (cy_16, 65, .inl (fun _ => 0)))]) (w1 := [(p1, .inr (10, [.ref q1, .int 0, .int 0, .int (-1)]))]) hP hD [2] [0, 1] rfl rfl (by decide) (by decide) hk1 hFc hP1 hD1
  have hK := hK.app hK1
  generalize H1 = H at hP hS ⊢
  have hP : va_P (dC, dI) vwCl [(h0, .inr (6, [.ref q_12, .ref q_13, .ref q_14, .ref q_15, .int 0, .int 0, .int 0])), (q_14, .inl (cy_16, 65, .inl (fun _ => 0))), (p1, .inr (10, [.ref q1, .int 0, .int 0, .int (-1)]))] H := hP
  have hD : va_D A [(h0, .inr (6, [.ref q_12, .ref q_13, .ref q_14, .ref q_15, .int 0, .int 0, .int 0])), (q_14, .inl (cy_16, 65, .inl (fun _ => 0))), (p1, .inr (10, [.ref q1, .int 0, .int 0, .int (-1)]))] := hD
  have hK : va_K (dC, dI) vwCl [(cy_16, .int)] s := hK
  refine W.widen (k := 0) (n := 0) (Nat.le_of_ble_eq_true rfl) (Nat.le_of_ble_eq_true rfl) ?_
  refine lv_aload_n hx hb dX6_read_4 rfl (lv_at hl 0 rfl) ?_
  refine lv_iconst (v := 0) hx hb dX6_read_5 (by decide +kernel) ?_
  refine va_put (D := (dC, dI)) (ci := 6) (v := .int 0) (ty := .int) (C := RX6) (T := TX6) (N := 7) hx hb hts in_c_X6_read_X6 tyX6 tyX6_ok nmX6 hown hK hP hD hS 0 rfl rfl 4 (by decide) (hts (.fieldLink RX6 29 "LawnAhead$Law" "size" "I") (List.mem_of_getElem? (i := 9) rfl)) (fun _ h9 => h9) rfl (by decide +kernel) rfl rfl (Nat.le_of_ble_eq_true rfl) dX6_read_6 (fun H locs hP hD hS => ?_)
  have hP : va_P (dC, dI) vwCl [(h0, .inr (6, [.ref q_12, .ref q_13, .ref q_14, .ref q_15, .int 0, .int 0, .int 0])), (q_14, .inl (cy_16, 65, .inl (fun _ => 0))), (p1, .inr (10, [.ref q1, .int 0, .int 0, .int (-1)]))] H := hP
  have hD : va_D A [(h0, .inr (6, [.ref q_12, .ref q_13, .ref q_14, .ref q_15, .int 0, .int 0, .int 0])), (q_14, .inl (cy_16, 65, .inl (fun _ => 0))), (p1, .inr (10, [.ref q1, .int 0, .int 0, .int (-1)]))] := hD
  refine lv_aload_n hx hb dX6_read_9 rfl (lv_at hl 0 rfl) ?_
  refine lv_iconst (v := 0) hx hb dX6_read_10 (by decide +kernel) ?_
  refine va_put (D := (dC, dI)) (ci := 6) (v := .int 0) (ty := .boolean) (C := RX6) (T := TX6) (N := 7) hx hb hts in_c_X6_read_X6 tyX6 tyX6_ok nmX6 hown hK hP hD hS 0 rfl rfl 6 (by decide) (hts (.fieldLink RX6 33 "LawnAhead$Law" "usesDay" "Z") (List.mem_of_getElem? (i := 10) rfl)) (fun _ h9 => h9) rfl (by decide +kernel) rfl rfl (Nat.le_of_ble_eq_true rfl) dX6_read_11 (fun H locs hP hD hS => ?_)
  have hP : va_P (dC, dI) vwCl [(h0, .inr (6, [.ref q_12, .ref q_13, .ref q_14, .ref q_15, .int 0, .int 0, .int 0])), (q_14, .inl (cy_16, 65, .inl (fun _ => 0))), (p1, .inr (10, [.ref q1, .int 0, .int 0, .int (-1)]))] H := hP
  have hD : va_D A [(h0, .inr (6, [.ref q_12, .ref q_13, .ref q_14, .ref q_15, .int 0, .int 0, .int 0])), (q_14, .inl (cy_16, 65, .inl (fun _ => 0))), (p1, .inr (10, [.ref q1, .int 0, .int 0, .int (-1)]))] := hD
  refine lv_aload_n hx hb dX6_read_14 rfl (lv_at hl 0 rfl) ?_
  refine lv_iconst (v := 0) hx hb dX6_read_15 (by decide +kernel) ?_
  refine va_put (D := (dC, dI)) (ci := 6) (v := .int 0) (ty := .int) (C := RX6) (T := TX6) (N := 7) hx hb hts in_c_X6_read_X6 tyX6 tyX6_ok nmX6 hown hK hP hD hS 0 rfl rfl 5 (by decide) (hts (.fieldLink RX6 37 "LawnAhead$Law" "clauses" "I") (List.mem_of_getElem? (i := 11) rfl)) (fun _ h9 => h9) rfl (by decide +kernel) rfl rfl (Nat.le_of_ble_eq_true rfl) dX6_read_16 (fun H locs hP hD hS => ?_)
  have hP : va_P (dC, dI) vwCl [(h0, .inr (6, [.ref q_12, .ref q_13, .ref q_14, .ref q_15, .int 0, .int 0, .int 0])), (q_14, .inl (cy_16, 65, .inl (fun _ => 0))), (p1, .inr (10, [.ref q1, .int 0, .int 0, .int (-1)]))] H := hP
  have hD : va_D A [(h0, .inr (6, [.ref q_12, .ref q_13, .ref q_14, .ref q_15, .int 0, .int 0, .int 0])), (q_14, .inl (cy_16, 65, .inl (fun _ => 0))), (p1, .inr (10, [.ref q1, .int 0, .int 0, .int (-1)]))] := hD
  refine lv_iconst (v := 0) hx hb dX6_read_19 (by decide +kernel) ?_
  refine lv_istore_n (lv' := [(2, .int 0), (0, .ref h0), (1, .ref p1)]) hx hb dX6_read_20 rfl hl (by decide) rfl (fun ls hl => ?_)
  refine lv_iload_n hx hb dX6_read_21 rfl (lv_at hl 0 rfl) ?_
  refine lv_bipush (v := 64) hx hb dX6_read_22 (by decide +kernel) ?_
  refine lv_icmp_ge (tgt := 77) hx hb dX6_read_24 (by decide) (fun c_2 => absurd c_2 (by decide +kernel)) (fun c_2 => ?_)
  refine lv_aload_n hx hb dX6_read_27 rfl (lv_at hl 1 rfl) ?_
  refine va_get (D := (dC, dI)) (ci := 6) (v := .ref q_14) (C := RX6) (T := TX6) (N := 7) hx hb hts in_c_X6_read_X6 hown hK hP 0 rfl rfl 2 (by decide) (hts (.fieldLink RX6 20 "LawnAhead$Law" "conditions" "[I") (List.mem_of_getElem? (i := 12) rfl)) (fun _ h9 => h9) rfl dX6_read_28 ?_
  refine lv_iload_n hx hb dX6_read_31 rfl (lv_at hl 0 rfl) ?_
  refine lv_aload_n hx hb dX6_read_32 rfl (lv_at hl 1 rfl) ?_
  refine va_get (D := (dC, dI)) (ci := 6) (v := .int 0) (C := RX6) (T := TX6) (N := 7) hx hb hts in_c_X6_read_X6 hown hK hP 0 rfl rfl 4 (by decide) (hts (.fieldLink RX6 29 "LawnAhead$Law" "size" "I") (List.mem_of_getElem? (i := 9) rfl)) (fun _ h9 => h9) rfl dX6_read_33 ?_
  refine va_iast (D := (dC, dI)) (i := 0) (x := 0) hx hb hK hP hD hS 1 0 rfl rfl (show ¬ ((0 : Int32) < 0 ∨ 65 ≤ (0 : Int32).toNatClampNeg) by decide +kernel) dX6_read_36 (fun H locs hP hD hS => ?_)
  have hP : va_P (dC, dI) vwCl [(h0, .inr (6, [.ref q_12, .ref q_13, .ref q_14, .ref q_15, .int 0, .int 0, .int 0])), (q_14, .inl (cy_16, 65, .inl ((upd (fun _ => 0) (0 : Int32).toNatClampNeg 0)))), (p1, .inr (10, [.ref q1, .int 0, .int 0, .int (-1)]))] H := hP
  have hD : va_D A [(h0, .inr (6, [.ref q_12, .ref q_13, .ref q_14, .ref q_15, .int 0, .int 0, .int 0])), (q_14, .inl (cy_16, 65, .inl ((upd (fun _ => 0) (0 : Int32).toNatClampNeg 0)))), (p1, .inr (10, [.ref q1, .int 0, .int 0, .int (-1)]))] := hD
  generalize (upd (fun _ => 0) (0 : Int32).toNatClampNeg 0) = g_3 at hP hD
  refine lv_aload_n hx hb dX6_read_37 rfl (lv_at hl 1 rfl) ?_
  refine lv_aload_n hx hb dX6_read_38 rfl (lv_at hl 2 rfl) ?_
  refine lv_iload_n hx hb dX6_read_39 rfl (lv_at hl 0 rfl) ?_
  have hPc := hP.sub (ws' := [(p1, .inr (10, [.ref q1, .int 0, .int 0, .int (-1)]))]) [2] rfl
  have hDc := hD.sub (ws' := [(p1, .inr (10, [.ref q1, .int 0, .int 0, .int (-1)]))]) [2] (by decide) rfl
  have hKc := hK.sub (tys' := []) [] rfl
  have hFc := va_free (wc := [(p1, .inr (10, [.ref q1, .int 0, .int 0, .int (-1)]))]) hD hS hA [2] rfl
  refine va_calli (va_runV (As := [.ref p1, .int 0]) (rest := []) ⟨hx, hb, hml, hown, hts⟩ (c_X6_readClause l dC dI h0 p1 q1 H.size) (cwV 2 hts g_c_X6_read_40_c_X6_readClause rfl rfl rfl (by decide +kernel) ⟨Nat.le_of_ble_eq_true rfl, Nat.le_of_ble_eq_true rfl⟩) ⟨fun a U g mk q => by obtain ⟨q0, q1, qP, qK, qD⟩ := q; exact ⟨q0, q1, qP, va_K.moved (u := U) (U := U.calling g mk a) (Vm.Alike.refl U.vm) qK, qD⟩, va_recv hK hP (ci := 6) (q0 := 0) rfl rfl, fun U hU hW => ⟨rfl, by rw [hU], by rw [hU]; exact hPc, va_K.moved hW.alike hKc, hDc.weaken (fun _ _ _ _ => trivial)⟩⟩ rfl rfl hl.1 rfl (lv_room (Nat.le_of_ble_eq_true rfl)) dX6_read_40 ⟨Nat.le_of_ble_eq_true rfl, Nat.le_of_ble_eq_true rfl⟩) hS (fun q _ h => hFc q h) hFc (fun r_4 u t H1 locs ht hvm hw hB hz1 hk1 hS => ?_)
  obtain ⟨hP1, hK1, hD1⟩ := hB
  rw [ht] at hP1
  have hK1 := va_K.moved hvm.symm hK1
  try dsimp only at hw
  obtain ⟨hP, hD⟩ := va_join (wr := [(h0, .inr (6, [.ref q_12, .ref q_13, .ref q_14, .ref q_15, .int 0, .int 0, .int 0])), (q_14, .inl (cy_16, 65, .inl g_3))]) (w1 := [(p1, .inr (10, [.ref q1, .int 0, .int 0, .int 0]))]) hP hD [2] [0, 1] rfl rfl (by decide) (by decide) hk1 hFc hP1 hD1
  have hK := hK.app hK1
  generalize H1 = H at hP hS ⊢
  have hP : va_P (dC, dI) vwCl [(h0, .inr (6, [.ref q_12, .ref q_13, .ref q_14, .ref q_15, .int 0, .int 0, .int 0])), (q_14, .inl (cy_16, 65, .inl g_3)), (p1, .inr (10, [.ref q1, .int 0, .int 0, .int 0]))] H := hP
  have hD : va_D A [(h0, .inr (6, [.ref q_12, .ref q_13, .ref q_14, .ref q_15, .int 0, .int 0, .int 0])), (q_14, .inl (cy_16, 65, .inl g_3)), (p1, .inr (10, [.ref q1, .int 0, .int 0, .int 0]))] := hD
  have hK : va_K (dC, dI) vwCl [(cy_16, .int)] s := hK
  refine W.widen (k := 0) (n := 0) (Nat.le_of_ble_eq_true rfl) (Nat.le_of_ble_eq_true rfl) ?_
  obtain rfl : r_4 = 0 := hw
  refine lv_if_ne (tgt := 48) hx hb dX6_read_43 (by decide) (fun c_5 => absurd (by decide +kernel) c_5) (fun c_5 => ?_)
  refine lv_iconst (v := 0) hx hb dX6_read_46 (by decide +kernel) ?_
  refine W.widen (k := 0) (n := 0) (Nat.le_of_ble_eq_true rfl) (Nat.le_of_ble_eq_true rfl) ?_
  have hP9 := hP.sub (ws' := [(p1, .inr (10, [.ref q1, .int 0, .int 0, .int 0]))]) [2] rfl
  have hD9 := hD.sub (ws' := [(p1, .inr (10, [.ref q1, .int 0, .int 0, .int 0]))]) [2] (by decide) rfl
  have hK9 := hK.sub (tys' := []) [] rfl
  exact W.zret (ty := .boolean) (v := 0) hx hb hr (by decide +kernel) (fun t ht hW => ⟨⟨0, (), rfl, rfl, by rw [ht]; exact hP9, va_K.moved hW.alike hK9, hD9⟩, hS.F ht⟩) hS.2.2 dX6_read_47
