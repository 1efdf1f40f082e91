def w_t_X12_image : List Cond := .code yX12_image cX12_image 1 (some .int) :: ([.fieldLink RX12 94 "LawnAheadModel" "thrown" "I", .fieldLink RX12 302 "LawnAheadModel" "cells" "I"] ++ (wsX120 ++ []))
theorem in_t_X12_image_X12 : ∀ w ∈ wsX120, w ∈ w_t_X12_image := fun w h => List.mem_cons_of_mem _ (List.mem_append_right _ (List.mem_append_left _ h))
set_option maxHeartbeats 8000000 in
set_option maxRecDepth 100000 in
theorem t_X12_image (l : Launch) (dC : Nat → ClassId) (dI : Nat → Nat → Nat) (h0 : Nat) (q_1 : Nat) (q_3 : Nat) (q_5 : Nat) (q_7 : Nat) (aY : Nat) (aT : Nat) (q_9 : Nat) (q_11 : Nat) (q_13 : Nat) (q_15 : Nat) (q_17 : Nat) (q_19 : Nat) (q_21 : Nat) (q_23 : Nat) (q_25 : Nat) (q_27 : Nat) (q_29 : Nat) (q_31 : Nat) (q_33 : Nat) (q_35 : Nat) (q_37 : Nat) (q_39 : Nat) (q_41 : Nat) (sz : Nat) : Met l yX12_image w_t_X12_image ({ frames := 0, cells := 0, slots := 0, locals := 0 }) (va_Pc [.ref h0] (fun U => U.heap.size = sz ∧ va_P (dC, dI) vwCl [(h0, .inr (12, [.int 0, .ref q_1, .ref q_3, .ref q_5, .ref q_7, .ref q_1, .int 0, .int 0, .int 0, .int 0, .int 0, .int 0, .int 0, .int 0, .int 0, .ref aY, .ref aT, .int 0, .ref q_9, .ref q_11, .ref q_13, .ref q_15, .ref q_17, .int 0, .int 0, .int 0, .int 0, .int 0, .int 0, .int 0, .int 0, .int 0, .ref q_19, .ref q_21, .int (-1), .int 0, .ref q_23, .ref q_25, .ref q_27, .int 0, .long 0, .ref q_29, .int 0, .int 0, .ref q_31, .ref q_33, .ref q_35, .int 0, .ref q_37, .ref q_39, .int 0, .ref q_41, .int 0]))] U.heap ∧ va_K (dC, dI) vwCl [] U ∧ va_D (fun _ => True) [(h0, .inr (12, [.int 0, .ref q_1, .ref q_3, .ref q_5, .ref q_7, .ref q_1, .int 0, .int 0, .int 0, .int 0, .int 0, .int 0, .int 0, .int 0, .int 0, .ref aY, .ref aT, .int 0, .ref q_9, .ref q_11, .ref q_13, .ref q_15, .ref q_17, .int 0, .int 0, .int 0, .int 0, .int 0, .int 0, .int 0, .int 0, .int 0, .ref q_19, .ref q_21, .int (-1), .int 0, .ref q_23, .ref q_25, .ref q_27, .int 0, .long 0, .ref q_29, .int 0, .int 0, .ref q_31, .ref q_33, .ref q_35, .int 0, .ref q_37, .ref q_39, .int 0, .ref q_41, .int 0]))])) (va_Qi (fun (r : Int32) (_ : Unit) => r = (-1)) (fun _ _ => True) (va_A [(h0, .inr (12, [.int 0, .ref q_1, .ref q_3, .ref q_5, .ref q_7, .ref q_1, .int 0, .int 0, .int 0, .int 0, .int 0, .int 0, .int 0, .int 0, .int 0, .ref aY, .ref aT, .int 0, .ref q_9, .ref q_11, .ref q_13, .ref q_15, .ref q_17, .int 0, .int 0, .int 0, .int 0, .int 0, .int 0, .int 0, .int 0, .int 0, .ref q_19, .ref q_21, .int (-1), .int 0, .ref q_23, .ref q_25, .ref q_27, .int 0, .long 0, .ref q_29, .int 0, .int 0, .ref q_31, .ref q_33, .ref q_35, .int 0, .ref q_37, .ref q_39, .int 0, .ref q_41, .int 0]))] sz)) 0 0 (va_A [(h0, .inr (12, [.int 0, .ref q_1, .ref q_3, .ref q_5, .ref q_7, .ref q_1, .int 0, .int 0, .int 0, .int 0, .int 0, .int 0, .int 0, .int 0, .int 0, .ref aY, .ref aT, .int 0, .ref q_9, .ref q_11, .ref q_13, .ref q_15, .ref q_17, .int 0, .int 0, .int 0, .int 0, .int 0, .int 0, .int 0, .int 0, .int 0, .ref q_19, .ref q_21, .int (-1), .int 0, .ref q_23, .ref q_25, .ref q_27, .int 0, .long 0, .ref q_29, .int 0, .int 0, .ref q_31, .ref q_33, .ref q_35, .int 0, .ref q_37, .ref q_39, .int 0, .ref q_41, .int 0]))] sz) := by
  refine Met.ofW (cc := cX12_image) (maxL := 1) (ret := (some .int)) (by decide) rfl ?_
  intro p e s m args below meth c s₁ B hml hv
  obtain ⟨rfl, hsz, hP, hK, hD0⟩ := hv
  have hx := B.exec
  have hb := B.bytes
  have hr := B.returns
  have hts := atoms_spec (ws := w_t_X12_image) B.pre
  have hown : s.vm.findClass RX12 = some m.cls := findClass_of_methodNamed B.named
  have hlocks := B.notSynchronized
  subst hsz
  have hD := hD0.self (sz := s.heap.size)
  generalize hAe : va_A [(h0, .inr (12, [.int 0, .ref q_1, .ref q_3, .ref q_5, .ref q_7, .ref q_1, .int 0, .int 0, .int 0, .int 0, .int 0, .int 0, .int 0, .int 0, .int 0, .ref aY, .ref aT, .int 0, .ref q_9, .ref q_11, .ref q_13, .ref q_15, .ref q_17, .int 0, .int 0, .int 0, .int 0, .int 0, .int 0, .int 0, .int 0, .int 0, .ref q_19, .ref q_21, .int (-1), .int 0, .ref q_23, .ref q_25, .ref q_27, .int 0, .long 0, .ref q_29, .int 0, .int 0, .ref q_31, .ref q_33, .ref q_35, .int 0, .ref q_37, .ref q_39, .int 0, .ref q_41, .int 0]))] s.heap.size = A at hD ⊢
  have hA : ∀ q : Nat, s.heap.size ≤ q → A q := fun q h => by rw [← hAe]; exact Or.inr h
  have hS : va_S A s.heap s.heap [] := va_S.rf
  have hP : va_P (dC, dI) vwCl [(h0, .inr (12, [.int 0, .ref q_1, .ref q_3, .ref q_5, .ref q_7, .ref q_1, .int 0, .int 0, .int 0, .int 0, .int 0, .int 0, .int 0, .int 0, .int 0, .ref aY, .ref aT, .int 0, .ref q_9, .ref q_11, .ref q_13, .ref q_15, .ref q_17, .int 0, .int 0, .int 0, .int 0, .int 0, .int 0, .int 0, .int 0, .int 0, .ref q_19, .ref q_21, .int (-1), .int 0, .ref q_23, .ref q_25, .ref q_27, .int 0, .long 0, .ref q_29, .int 0, .int 0, .ref q_31, .ref q_33, .ref q_35, .int 0, .ref q_37, .ref q_39, .int 0, .ref q_41, .int 0]))] s.heap := hP
  have hl := lv_entry ([.ref h0]) (n := 1) (Nat.le_of_ble_eq_true rfl)
  rw [lg_entry_eq]
  generalize (lg_sl ([.ref h0]) ++ List.replicate (1 - (lg_sl ([.ref h0])).length) Slot.unset).toArray = ls at hl ⊢
  have hl : lv_has ls 1 [(0, .ref h0)] := hl
  refine lv_aload_n hx hb dX12_image_0 rfl (lv_at hl 0 rfl) ?_
  refine lv_iconst (v := 0) hx hb dX12_image_1 (by decide +kernel) ?_
  refine va_put (D := (dC, dI)) (ci := 12) (v := .int 0) (ty := .int) (C := RX12) (T := TX12) (N := 53) hx hb hts in_t_X12_image_X12 tyX12 tyX12_ok nmX12 hown hK hP hD hS 0 rfl rfl 0 (by decide) (hts (.fieldLink RX12 94 "LawnAheadModel" "thrown" "I") (List.mem_of_getElem? (i := 1) rfl)) (fun _ h9 => h9) rfl (by decide +kernel) rfl rfl (Nat.le_of_ble_eq_true rfl) dX12_image_2 (fun H locs hP hD hS => ?_)
  have hP : va_P (dC, dI) vwCl [(h0, .inr (12, [.int 0, .ref q_1, .ref q_3, .ref q_5, .ref q_7, .ref q_1, .int 0, .int 0, .int 0, .int 0, .int 0, .int 0, .int 0, .int 0, .int 0, .ref aY, .ref aT, .int 0, .ref q_9, .ref q_11, .ref q_13, .ref q_15, .ref q_17, .int 0, .int 0, .int 0, .int 0, .int 0, .int 0, .int 0, .int 0, .int 0, .ref q_19, .ref q_21, .int (-1), .int 0, .ref q_23, .ref q_25, .ref q_27, .int 0, .long 0, .ref q_29, .int 0, .int 0, .ref q_31, .ref q_33, .ref q_35, .int 0, .ref q_37, .ref q_39, .int 0, .ref q_41, .int 0]))] H := hP
  have hD : va_D A [(h0, .inr (12, [.int 0, .ref q_1, .ref q_3, .ref q_5, .ref q_7, .ref q_1, .int 0, .int 0, .int 0, .int 0, .int 0, .int 0, .int 0, .int 0, .int 0, .ref aY, .ref aT, .int 0, .ref q_9, .ref q_11, .ref q_13, .ref q_15, .ref q_17, .int 0, .int 0, .int 0, .int 0, .int 0, .int 0, .int 0, .int 0, .int 0, .ref q_19, .ref q_21, .int (-1), .int 0, .ref q_23, .ref q_25, .ref q_27, .int 0, .long 0, .ref q_29, .int 0, .int 0, .ref q_31, .ref q_33, .ref q_35, .int 0, .ref q_37, .ref q_39, .int 0, .ref q_41, .int 0]))] := hD
  refine lv_aload_n hx hb dX12_image_5 rfl (lv_at hl 0 rfl) ?_
  refine va_get (D := (dC, dI)) (ci := 12) (v := .int 0) (C := RX12) (T := TX12) (N := 53) hx hb hts in_t_X12_image_X12 hown hK hP 0 rfl rfl 23 (by decide) (hts (.fieldLink RX12 302 "LawnAheadModel" "cells" "I") (List.mem_of_getElem? (i := 2) rfl)) (fun _ h9 => h9) rfl dX12_image_6 ?_
  refine lv_if_ne (tgt := 14) hx hb dX12_image_9 (by decide) (fun c_1 => absurd (by decide +kernel) c_1) (fun c_1 => ?_)
  refine lv_iconst (v := -1) hx hb dX12_image_12 (by decide +kernel) ?_
  refine W.widen (k := 0) (n := 0) (Nat.le_of_ble_eq_true rfl) (Nat.le_of_ble_eq_true rfl) ?_
  exact W.iret (v := (-1)) hx hb hr (fun t ht hW => ⟨⟨(-1), (), rfl, rfl, trivial⟩, hS.F ht⟩) hS.2.2 dX12_image_13

def w_t_X12_book : List Cond := .code yX12_book cX12_book 3 (some .int) :: ([.fieldLink RX12 94 "LawnAheadModel" "thrown" "I", .fieldLink RX12 302 "LawnAheadModel" "cells" "I", .code yX12_isCell cX12_isCell 2 (some .boolean), .methodLink RX12 355 yX12_isCell, .instanceMethod yX12_isCell, .selects RX12 yX12_isCell yX12_isCell, .initialized RX12, .code yX12_isGrass cX12_isGrass 2 (some .boolean), .methodLink RX12 516 yX12_isGrass, .instanceMethod yX12_isGrass, .selects RX12 yX12_isGrass yX12_isGrass] ++ (wsX120 ++ []))
theorem in_t_X12_book_X12 : ∀ w ∈ wsX120, w ∈ w_t_X12_book := fun w h => List.mem_cons_of_mem _ (List.mem_append_right _ (List.mem_append_left _ h))
set_option maxRecDepth 100000 in
theorem g_t_X12_book_7_m_isGrass : GoodIn w_t_X12_book (([.methodLink RX12 516 yX12_isGrass, .instanceMethod yX12_isGrass, .selects RX12 yX12_isGrass yX12_isGrass, .initialized RX12] : List Cond) ++ w_m_isGrass) := goodIn_r _ [9, 10, 11, 7, 8, 2, 3, 4, 5, 6, 7, 12, 13, 14, 15, 16, 17, 18, 19, 20, 21, 22, 23, 24, 25, 26, 27, 28, 29, 30, 31, 32, 33, 34, 35, 36, 37, 38, 39, 40, 41, 42, 43, 44, 45, 46, 47, 48, 49, 50, 51, 52, 53, 54, 55, 56, 57, 58, 59, 60, 61, 62, 63, 64] rfl (by decide +kernel)
set_option maxHeartbeats 8000000 in
set_option maxRecDepth 100000 in
theorem t_X12_book (l : Launch) (dC : Nat → ClassId) (dI : Nat → Nat → Nat) (h0 : Nat) (p1 : Int32) (p2 : Int32) (q_1 : Nat) (q_3 : Nat) (q_5 : Nat) (q_7 : Nat) (aY : Nat) (aT : Nat) (q_9 : Nat) (q_11 : Nat) (q_13 : Nat) (q_15 : Nat) (q_17 : Nat) (q_19 : Nat) (q_21 : Nat) (q_23 : Nat) (q_25 : Nat) (q_27 : Nat) (q_29 : Nat) (q_31 : Nat) (q_33 : Nat) (q_35 : Nat) (q_37 : Nat) (q_39 : Nat) (q_41 : Nat) (sz : Nat) : Met l yX12_book w_t_X12_book ({ frames := 2, cells := 0, slots := 0, locals := 42 }) (va_Pc [.ref h0, .int p1, .int p2] (fun U => U.heap.size = sz ∧ va_P (dC, dI) vwCl [(h0, .inr (12, [.int 0, .ref q_1, .ref q_3, .ref q_5, .ref q_7, .ref q_1, .int 0, .int 0, .int 0, .int 0, .int 0, .int 0, .int 0, .int 0, .int 0, .ref aY, .ref aT, .int 0, .ref q_9, .ref q_11, .ref q_13, .ref q_15, .ref q_17, .int 0, .int 0, .int 0, .int 0, .int 0, .int 0, .int 0, .int 0, .int 0, .ref q_19, .ref q_21, .int (-1), .int 0, .ref q_23, .ref q_25, .ref q_27, .int 0, .long 0, .ref q_29, .int 0, .int 0, .ref q_31, .ref q_33, .ref q_35, .int 0, .ref q_37, .ref q_39, .int 0, .ref q_41, .int 0]))] U.heap ∧ va_K (dC, dI) vwCl [] U ∧ va_D (fun _ => True) [(h0, .inr (12, [.int 0, .ref q_1, .ref q_3, .ref q_5, .ref q_7, .ref q_1, .int 0, .int 0, .int 0, .int 0, .int 0, .int 0, .int 0, .int 0, .int 0, .ref aY, .ref aT, .int 0, .ref q_9, .ref q_11, .ref q_13, .ref q_15, .ref q_17, .int 0, .int 0, .int 0, .int 0, .int 0, .int 0, .int 0, .int 0, .int 0, .ref q_19, .ref q_21, .int (-1), .int 0, .ref q_23, .ref q_25, .ref q_27, .int 0, .long 0, .ref q_29, .int 0, .int 0, .ref q_31, .ref q_33, .ref q_35, .int 0, .ref q_37, .ref q_39, .int 0, .ref q_41, .int 0]))])) (va_Qi (fun (r : Int32) (_ : Unit) => r = (-1)) (fun _ _ => True) (va_A [(h0, .inr (12, [.int 0, .ref q_1, .ref q_3, .ref q_5, .ref q_7, .ref q_1, .int 0, .int 0, .int 0, .int 0, .int 0, .int 0, .int 0, .int 0, .int 0, .ref aY, .ref aT, .int 0, .ref q_9, .ref q_11, .ref q_13, .ref q_15, .ref q_17, .int 0, .int 0, .int 0, .int 0, .int 0, .int 0, .int 0, .int 0, .int 0, .ref q_19, .ref q_21, .int (-1), .int 0, .ref q_23, .ref q_25, .ref q_27, .int 0, .long 0, .ref q_29, .int 0, .int 0, .ref q_31, .ref q_33, .ref q_35, .int 0, .ref q_37, .ref q_39, .int 0, .ref q_41, .int 0]))] sz)) 0 0 (va_A [(h0, .inr (12, [.int 0, .ref q_1, .ref q_3, .ref q_5, .ref q_7, .ref q_1, .int 0, .int 0, .int 0, .int 0, .int 0, .int 0, .int 0, .int 0, .int 0, .ref aY, .ref aT, .int 0, .ref q_9, .ref q_11, .ref q_13, .ref q_15, .ref q_17, .int 0, .int 0, .int 0, .int 0, .int 0, .int 0, .int 0, .int 0, .int 0, .ref q_19, .ref q_21, .int (-1), .int 0, .ref q_23, .ref q_25, .ref q_27, .int 0, .long 0, .ref q_29, .int 0, .int 0, .ref q_31, .ref q_33, .ref q_35, .int 0, .ref q_37, .ref q_39, .int 0, .ref q_41, .int 0]))] sz) := by
  refine Met.ofW (cc := cX12_book) (maxL := 3) (ret := (some .int)) (by decide) rfl ?_
  intro p e s m args below meth c s₁ B hml hv
  obtain ⟨rfl, hsz, hP, hK, hD0⟩ := hv
  have hx := B.exec
  have hb := B.bytes
  have hr := B.returns
  have hts := atoms_spec (ws := w_t_X12_book) B.pre
  have hown : s.vm.findClass RX12 = some m.cls := findClass_of_methodNamed B.named
  have hlocks := B.notSynchronized
  subst hsz
  have hD := hD0.self (sz := s.heap.size)
  generalize hAe : va_A [(h0, .inr (12, [.int 0, .ref q_1, .ref q_3, .ref q_5, .ref q_7, .ref q_1, .int 0, .int 0, .int 0, .int 0, .int 0, .int 0, .int 0, .int 0, .int 0, .ref aY, .ref aT, .int 0, .ref q_9, .ref q_11, .ref q_13, .ref q_15, .ref q_17, .int 0, .int 0, .int 0, .int 0, .int 0, .int 0, .int 0, .int 0, .int 0, .ref q_19, .ref q_21, .int (-1), .int 0, .ref q_23, .ref q_25, .ref q_27, .int 0, .long 0, .ref q_29, .int 0, .int 0, .ref q_31, .ref q_33, .ref q_35, .int 0, .ref q_37, .ref q_39, .int 0, .ref q_41, .int 0]))] s.heap.size = A at hD ⊢
  have hA : ∀ q : Nat, s.heap.size ≤ q → A q := fun q h => by rw [← hAe]; exact Or.inr h
  have hS : va_S A s.heap s.heap [] := va_S.rf
  have hP : va_P (dC, dI) vwCl [(h0, .inr (12, [.int 0, .ref q_1, .ref q_3, .ref q_5, .ref q_7, .ref q_1, .int 0, .int 0, .int 0, .int 0, .int 0, .int 0, .int 0, .int 0, .int 0, .ref aY, .ref aT, .int 0, .ref q_9, .ref q_11, .ref q_13, .ref q_15, .ref q_17, .int 0, .int 0, .int 0, .int 0, .int 0, .int 0, .int 0, .int 0, .int 0, .ref q_19, .ref q_21, .int (-1), .int 0, .ref q_23, .ref q_25, .ref q_27, .int 0, .long 0, .ref q_29, .int 0, .int 0, .ref q_31, .ref q_33, .ref q_35, .int 0, .ref q_37, .ref q_39, .int 0, .ref q_41, .int 0]))] s.heap := hP
  have hl := lv_entry ([.ref h0, .int p1, .int p2]) (n := 3) (Nat.le_of_ble_eq_true rfl)
  rw [lg_entry_eq]
  generalize (lg_sl ([.ref h0, .int p1, .int p2]) ++ List.replicate (3 - (lg_sl ([.ref h0, .int p1, .int p2])).length) Slot.unset).toArray = ls at hl ⊢
  have hl : lv_has ls 3 [(0, .ref h0), (1, .int p1), (2, .int p2)] := hl
  refine lv_aload_n hx hb dX12_book_0 rfl (lv_at hl 0 rfl) ?_
  refine lv_iconst (v := 0) hx hb dX12_book_1 (by decide +kernel) ?_
  refine va_put (D := (dC, dI)) (ci := 12) (v := .int 0) (ty := .int) (C := RX12) (T := TX12) (N := 53) hx hb hts in_t_X12_book_X12 tyX12 tyX12_ok nmX12 hown hK hP hD hS 0 rfl rfl 0 (by decide) (hts (.fieldLink RX12 94 "LawnAheadModel" "thrown" "I") (List.mem_of_getElem? (i := 1) rfl)) (fun _ h9 => h9) rfl (by decide +kernel) rfl rfl (Nat.le_of_ble_eq_true rfl) dX12_book_2 (fun H locs hP hD hS => ?_)
  have hP : va_P (dC, dI) vwCl [(h0, .inr (12, [.int 0, .ref q_1, .ref q_3, .ref q_5, .ref q_7, .ref q_1, .int 0, .int 0, .int 0, .int 0, .int 0, .int 0, .int 0, .int 0, .int 0, .ref aY, .ref aT, .int 0, .ref q_9, .ref q_11, .ref q_13, .ref q_15, .ref q_17, .int 0, .int 0, .int 0, .int 0, .int 0, .int 0, .int 0, .int 0, .int 0, .ref q_19, .ref q_21, .int (-1), .int 0, .ref q_23, .ref q_25, .ref q_27, .int 0, .long 0, .ref q_29, .int 0, .int 0, .ref q_31, .ref q_33, .ref q_35, .int 0, .ref q_37, .ref q_39, .int 0, .ref q_41, .int 0]))] H := hP
  have hD : va_D A [(h0, .inr (12, [.int 0, .ref q_1, .ref q_3, .ref q_5, .ref q_7, .ref q_1, .int 0, .int 0, .int 0, .int 0, .int 0, .int 0, .int 0, .int 0, .int 0, .ref aY, .ref aT, .int 0, .ref q_9, .ref q_11, .ref q_13, .ref q_15, .ref q_17, .int 0, .int 0, .int 0, .int 0, .int 0, .int 0, .int 0, .int 0, .int 0, .ref q_19, .ref q_21, .int (-1), .int 0, .ref q_23, .ref q_25, .ref q_27, .int 0, .long 0, .ref q_29, .int 0, .int 0, .ref q_31, .ref q_33, .ref q_35, .int 0, .ref q_37, .ref q_39, .int 0, .ref q_41, .int 0]))] := hD
  refine lv_aload_n hx hb dX12_book_5 rfl (lv_at hl 0 rfl) ?_
  refine lv_iload_n hx hb dX12_book_6 rfl (lv_at hl 1 rfl) ?_
  have hPc := hP.sub (ws' := [(h0, .inr (12, [.int 0, .ref q_1, .ref q_3, .ref q_5, .ref q_7, .ref q_1, .int 0, .int 0, .int 0, .int 0, .int 0, .int 0, .int 0, .int 0, .int 0, .ref aY, .ref aT, .int 0, .ref q_9, .ref q_11, .ref q_13, .ref q_15, .ref q_17, .int 0, .int 0, .int 0, .int 0, .int 0, .int 0, .int 0, .int 0, .int 0, .ref q_19, .ref q_21, .int (-1), .int 0, .ref q_23, .ref q_25, .ref q_27, .int 0, .long 0, .ref q_29, .int 0, .int 0, .ref q_31, .ref q_33, .ref q_35, .int 0, .ref q_37, .ref q_39, .int 0, .ref q_41, .int 0]))]) [0] rfl
  have hDc := hD.sub (ws' := [(h0, .inr (12, [.int 0, .ref q_1, .ref q_3, .ref q_5, .ref q_7, .ref q_1, .int 0, .int 0, .int 0, .int 0, .int 0, .int 0, .int 0, .int 0, .int 0, .ref aY, .ref aT, .int 0, .ref q_9, .ref q_11, .ref q_13, .ref q_15, .ref q_17, .int 0, .int 0, .int 0, .int 0, .int 0, .int 0, .int 0, .int 0, .int 0, .ref q_19, .ref q_21, .int (-1), .int 0, .ref q_23, .ref q_25, .ref q_27, .int 0, .long 0, .ref q_29, .int 0, .int 0, .ref q_31, .ref q_33, .ref q_35, .int 0, .ref q_37, .ref q_39, .int 0, .ref q_41, .int 0]))]) [0] (by decide) rfl
  have hKc := hK.sub (tys' := []) [] rfl
  have hFc := va_free (wc := [(h0, .inr (12, [.int 0, .ref q_1, .ref q_3, .ref q_5, .ref q_7, .ref q_1, .int 0, .int 0, .int 0, .int 0, .int 0, .int 0, .int 0, .int 0, .int 0, .ref aY, .ref aT, .int 0, .ref q_9, .ref q_11, .ref q_13, .ref q_15, .ref q_17, .int 0, .int 0, .int 0, .int 0, .int 0, .int 0, .int 0, .int 0, .int 0, .ref q_19, .ref q_21, .int (-1), .int 0, .ref q_23, .ref q_25, .ref q_27, .int 0, .long 0, .ref q_29, .int 0, .int 0, .ref q_31, .ref q_33, .ref q_35, .int 0, .ref q_37, .ref q_39, .int 0, .ref q_41, .int 0]))]) hD hS hA [0] rfl
  refine va_calli (va_runV (As := [.int p1]) (rest := []) ⟨hx, hb, hml, hown, hts⟩ (m_isGrass l dC dI h0 p1 q_1 q_3 q_5 q_7 aY aT q_9 q_11 q_13 q_15 q_17 q_19 q_21 q_23 q_25 q_27 q_29 q_31 q_33 q_35 q_37 q_39 q_41 H.size) (cwV 1 hts g_t_X12_book_7_m_isGrass rfl rfl rfl (by decide +kernel) ⟨Nat.le_of_ble_eq_true rfl, Nat.le_of_ble_eq_true rfl⟩) ⟨fun a U g mk q => by obtain ⟨q0, q1, qP, qK, qD⟩ := q; exact ⟨q0, q1, qP, va_K.moved (u := U) (U := U.calling g mk a) (Vm.Alike.refl U.vm) qK, qD⟩, va_recv hK hP (ci := 12) (q0 := 0) rfl rfl, fun U hU hW => ⟨rfl, by rw [hU], by rw [hU]; exact hPc, va_K.moved hW.alike hKc, hDc.weaken (fun _ _ _ _ => trivial)⟩⟩ rfl rfl hl.1 rfl (lv_room (Nat.le_of_ble_eq_true rfl)) dX12_book_7 ⟨Nat.le_of_ble_eq_true rfl, Nat.le_of_ble_eq_true rfl⟩) hS (fun q _ h => hFc q h) hFc (fun r_1 u t H1 locs ht hvm hw hB hz1 hk1 hS => ?_)
  obtain ⟨hP1, hK1, hD1⟩ := hB
  rw [ht] at hP1
  have hK1 := va_K.moved hvm.symm hK1
  try dsimp only at hw
  obtain ⟨hP, hD⟩ := va_join (wr := []) (w1 := [(h0, .inr (12, [.int 0, .ref q_1, .ref q_3, .ref q_5, .ref q_7, .ref q_1, .int 0, .int 0, .int 0, .int 0, .int 0, .int 0, .int 0, .int 0, .int 0, .ref aY, .ref aT, .int 0, .ref q_9, .ref q_11, .ref q_13, .ref q_15, .ref q_17, .int 0, .int 0, .int 0, .int 0, .int 0, .int 0, .int 0, .int 0, .int 0, .ref q_19, .ref q_21, .int (-1), .int 0, .ref q_23, .ref q_25, .ref q_27, .int 0, .long 0, .ref q_29, .int 0, .int 0, .ref q_31, .ref q_33, .ref q_35, .int 0, .ref q_37, .ref q_39, .int 0, .ref q_41, .int 0]))]) hP hD [0] [] rfl rfl (by decide) (by decide) hk1 hFc hP1 hD1
  have hK := hK.app hK1
  generalize H1 = H at hP hS ⊢
  have hP : va_P (dC, dI) vwCl [(h0, .inr (12, [.int 0, .ref q_1, .ref q_3, .ref q_5, .ref q_7, .ref q_1, .int 0, .int 0, .int 0, .int 0, .int 0, .int 0, .int 0, .int 0, .int 0, .ref aY, .ref aT, .int 0, .ref q_9, .ref q_11, .ref q_13, .ref q_15, .ref q_17, .int 0, .int 0, .int 0, .int 0, .int 0, .int 0, .int 0, .int 0, .int 0, .ref q_19, .ref q_21, .int (-1), .int 0, .ref q_23, .ref q_25, .ref q_27, .int 0, .long 0, .ref q_29, .int 0, .int 0, .ref q_31, .ref q_33, .ref q_35, .int 0, .ref q_37, .ref q_39, .int 0, .ref q_41, .int 0]))] H := hP
  have hD : va_D A [(h0, .inr (12, [.int 0, .ref q_1, .ref q_3, .ref q_5, .ref q_7, .ref q_1, .int 0, .int 0, .int 0, .int 0, .int 0, .int 0, .int 0, .int 0, .int 0, .ref aY, .ref aT, .int 0, .ref q_9, .ref q_11, .ref q_13, .ref q_15, .ref q_17, .int 0, .int 0, .int 0, .int 0, .int 0, .int 0, .int 0, .int 0, .int 0, .ref q_19, .ref q_21, .int (-1), .int 0, .ref q_23, .ref q_25, .ref q_27, .int 0, .long 0, .ref q_29, .int 0, .int 0, .ref q_31, .ref q_33, .ref q_35, .int 0, .ref q_37, .ref q_39, .int 0, .ref q_41, .int 0]))] := hD
  have hK : va_K (dC, dI) vwCl [] s := hK
  refine W.widen (k := 0) (n := 0) (Nat.le_of_ble_eq_true rfl) (Nat.le_of_ble_eq_true rfl) ?_
  obtain rfl : r_1 = 0 := hw
  refine lv_if_eq (tgt := 22) hx hb dX12_book_10 (by decide) (fun c_2 => ?_) (fun c_2 => absurd (by decide +kernel) c_2)
  refine lv_iconst (v := -1) hx hb dX12_book_22 (by decide +kernel) ?_
  refine W.widen (k := 0) (n := 0) (Nat.le_of_ble_eq_true rfl) (Nat.le_of_ble_eq_true rfl) ?_
  exact W.iret (v := (-1)) hx hb hr (fun t ht hW => ⟨⟨(-1), (), rfl, rfl, trivial⟩, hS.F ht⟩) hS.2.2 dX12_book_23

def w_t_X12_back : List Cond := .code yX12_back cX12_back 1 (some .int) :: ([.fieldLink RX12 94 "LawnAheadModel" "thrown" "I", .fieldLink RX12 314 "LawnAheadModel" "hasImage" "Z"] ++ (wsX120 ++ []))
theorem in_t_X12_back_X12 : ∀ w ∈ wsX120, w ∈ w_t_X12_back := fun w h => List.mem_cons_of_mem _ (List.mem_append_right _ (List.mem_append_left _ h))
set_option maxHeartbeats 8000000 in
set_option maxRecDepth 100000 in
theorem t_X12_back (l : Launch) (dC : Nat → ClassId) (dI : Nat → Nat → Nat) (h0 : Nat) (q_1 : Nat) (q_3 : Nat) (q_5 : Nat) (q_7 : Nat) (aY : Nat) (aT : Nat) (q_9 : Nat) (q_11 : Nat) (q_13 : Nat) (q_15 : Nat) (q_17 : Nat) (q_19 : Nat) (q_21 : Nat) (q_23 : Nat) (q_25 : Nat) (q_27 : Nat) (q_29 : Nat) (q_31 : Nat) (q_33 : Nat) (q_35 : Nat) (q_37 : Nat) (q_39 : Nat) (q_41 : Nat) (sz : Nat) : Met l yX12_back w_t_X12_back ({ frames := 0, cells := 0, slots := 0, locals := 0 }) (va_Pc [.ref h0] (fun U => U.heap.size = sz ∧ va_P (dC, dI) vwCl [(h0, .inr (12, [.int 0, .ref q_1, .ref q_3, .ref q_5, .ref q_7, .ref q_1, .int 0, .int 0, .int 0, .int 0, .int 0, .int 0, .int 0, .int 0, .int 0, .ref aY, .ref aT, .int 0, .ref q_9, .ref q_11, .ref q_13, .ref q_15, .ref q_17, .int 0, .int 0, .int 0, .int 0, .int 0, .int 0, .int 0, .int 0, .int 0, .ref q_19, .ref q_21, .int (-1), .int 0, .ref q_23, .ref q_25, .ref q_27, .int 0, .long 0, .ref q_29, .int 0, .int 0, .ref q_31, .ref q_33, .ref q_35, .int 0, .ref q_37, .ref q_39, .int 0, .ref q_41, .int 0]))] U.heap ∧ va_K (dC, dI) vwCl [] U ∧ va_D (fun _ => True) [(h0, .inr (12, [.int 0, .ref q_1, .ref q_3, .ref q_5, .ref q_7, .ref q_1, .int 0, .int 0, .int 0, .int 0, .int 0, .int 0, .int 0, .int 0, .int 0, .ref aY, .ref aT, .int 0, .ref q_9, .ref q_11, .ref q_13, .ref q_15, .ref q_17, .int 0, .int 0, .int 0, .int 0, .int 0, .int 0, .int 0, .int 0, .int 0, .ref q_19, .ref q_21, .int (-1), .int 0, .ref q_23, .ref q_25, .ref q_27, .int 0, .long 0, .ref q_29, .int 0, .int 0, .ref q_31, .ref q_33, .ref q_35, .int 0, .ref q_37, .ref q_39, .int 0, .ref q_41, .int 0]))])) (va_Qi (fun (r : Int32) (_ : Unit) => r = (-1)) (fun _ _ => True) (va_A [(h0, .inr (12, [.int 0, .ref q_1, .ref q_3, .ref q_5, .ref q_7, .ref q_1, .int 0, .int 0, .int 0, .int 0, .int 0, .int 0, .int 0, .int 0, .int 0, .ref aY, .ref aT, .int 0, .ref q_9, .ref q_11, .ref q_13, .ref q_15, .ref q_17, .int 0, .int 0, .int 0, .int 0, .int 0, .int 0, .int 0, .int 0, .int 0, .ref q_19, .ref q_21, .int (-1), .int 0, .ref q_23, .ref q_25, .ref q_27, .int 0, .long 0, .ref q_29, .int 0, .int 0, .ref q_31, .ref q_33, .ref q_35, .int 0, .ref q_37, .ref q_39, .int 0, .ref q_41, .int 0]))] sz)) 0 0 (va_A [(h0, .inr (12, [.int 0, .ref q_1, .ref q_3, .ref q_5, .ref q_7, .ref q_1, .int 0, .int 0, .int 0, .int 0, .int 0, .int 0, .int 0, .int 0, .int 0, .ref aY, .ref aT, .int 0, .ref q_9, .ref q_11, .ref q_13, .ref q_15, .ref q_17, .int 0, .int 0, .int 0, .int 0, .int 0, .int 0, .int 0, .int 0, .int 0, .ref q_19, .ref q_21, .int (-1), .int 0, .ref q_23, .ref q_25, .ref q_27, .int 0, .long 0, .ref q_29, .int 0, .int 0, .ref q_31, .ref q_33, .ref q_35, .int 0, .ref q_37, .ref q_39, .int 0, .ref q_41, .int 0]))] sz) := by
  refine Met.ofW (cc := cX12_back) (maxL := 1) (ret := (some .int)) (by decide) rfl ?_
  intro p e s m args below meth c s₁ B hml hv
  obtain ⟨rfl, hsz, hP, hK, hD0⟩ := hv
  have hx := B.exec
  have hb := B.bytes
  have hr := B.returns
  have hts := atoms_spec (ws := w_t_X12_back) B.pre
  have hown : s.vm.findClass RX12 = some m.cls := findClass_of_methodNamed B.named
  have hlocks := B.notSynchronized
  subst hsz
  have hD := hD0.self (sz := s.heap.size)
  generalize hAe : va_A [(h0, .inr (12, [.int 0, .ref q_1, .ref q_3, .ref q_5, .ref q_7, .ref q_1, .int 0, .int 0, .int 0, .int 0, .int 0, .int 0, .int 0, .int 0, .int 0, .ref aY, .ref aT, .int 0, .ref q_9, .ref q_11, .ref q_13, .ref q_15, .ref q_17, .int 0, .int 0, .int 0, .int 0, .int 0, .int 0, .int 0, .int 0, .int 0, .ref q_19, .ref q_21, .int (-1), .int 0, .ref q_23, .ref q_25, .ref q_27, .int 0, .long 0, .ref q_29, .int 0, .int 0, .ref q_31, .ref q_33, .ref q_35, .int 0, .ref q_37, .ref q_39, .int 0, .ref q_41, .int 0]))] s.heap.size = A at hD ⊢
  have hA : ∀ q : Nat, s.heap.size ≤ q → A q := fun q h => by rw [← hAe]; exact Or.inr h
  have hS : va_S A s.heap s.heap [] := va_S.rf
  have hP : va_P (dC, dI) vwCl [(h0, .inr (12, [.int 0, .ref q_1, .ref q_3, .ref q_5, .ref q_7, .ref q_1, .int 0, .int 0, .int 0, .int 0, .int 0, .int 0, .int 0, .int 0, .int 0, .ref aY, .ref aT, .int 0, .ref q_9, .ref q_11, .ref q_13, .ref q_15, .ref q_17, .int 0, .int 0, .int 0, .int 0, .int 0, .int 0, .int 0, .int 0, .int 0, .ref q_19, .ref q_21, .int (-1), .int 0, .ref q_23, .ref q_25, .ref q_27, .int 0, .long 0, .ref q_29, .int 0, .int 0, .ref q_31, .ref q_33, .ref q_35, .int 0, .ref q_37, .ref q_39, .int 0, .ref q_41, .int 0]))] s.heap := hP
  have hl := lv_entry ([.ref h0]) (n := 1) (Nat.le_of_ble_eq_true rfl)
  rw [lg_entry_eq]
  generalize (lg_sl ([.ref h0]) ++ List.replicate (1 - (lg_sl ([.ref h0])).length) Slot.unset).toArray = ls at hl ⊢
  have hl : lv_has ls 1 [(0, .ref h0)] := hl
  refine lv_aload_n hx hb dX12_back_0 rfl (lv_at hl 0 rfl) ?_
  refine lv_iconst (v := 0) hx hb dX12_back_1 (by decide +kernel) ?_
  refine va_put (D := (dC, dI)) (ci := 12) (v := .int 0) (ty := .int) (C := RX12) (T := TX12) (N := 53) hx hb hts in_t_X12_back_X12 tyX12 tyX12_ok nmX12 hown hK hP hD hS 0 rfl rfl 0 (by decide) (hts (.fieldLink RX12 94 "LawnAheadModel" "thrown" "I") (List.mem_of_getElem? (i := 1) rfl)) (fun _ h9 => h9) rfl (by decide +kernel) rfl rfl (Nat.le_of_ble_eq_true rfl) dX12_back_2 (fun H locs hP hD hS => ?_)
  have hP : va_P (dC, dI) vwCl [(h0, .inr (12, [.int 0, .ref q_1, .ref q_3, .ref q_5, .ref q_7, .ref q_1, .int 0, .int 0, .int 0, .int 0, .int 0, .int 0, .int 0, .int 0, .int 0, .ref aY, .ref aT, .int 0, .ref q_9, .ref q_11, .ref q_13, .ref q_15, .ref q_17, .int 0, .int 0, .int 0, .int 0, .int 0, .int 0, .int 0, .int 0, .int 0, .ref q_19, .ref q_21, .int (-1), .int 0, .ref q_23, .ref q_25, .ref q_27, .int 0, .long 0, .ref q_29, .int 0, .int 0, .ref q_31, .ref q_33, .ref q_35, .int 0, .ref q_37, .ref q_39, .int 0, .ref q_41, .int 0]))] H := hP
  have hD : va_D A [(h0, .inr (12, [.int 0, .ref q_1, .ref q_3, .ref q_5, .ref q_7, .ref q_1, .int 0, .int 0, .int 0, .int 0, .int 0, .int 0, .int 0, .int 0, .int 0, .ref aY, .ref aT, .int 0, .ref q_9, .ref q_11, .ref q_13, .ref q_15, .ref q_17, .int 0, .int 0, .int 0, .int 0, .int 0, .int 0, .int 0, .int 0, .int 0, .ref q_19, .ref q_21, .int (-1), .int 0, .ref q_23, .ref q_25, .ref q_27, .int 0, .long 0, .ref q_29, .int 0, .int 0, .ref q_31, .ref q_33, .ref q_35, .int 0, .ref q_37, .ref q_39, .int 0, .ref q_41, .int 0]))] := hD
  refine lv_aload_n hx hb dX12_back_5 rfl (lv_at hl 0 rfl) ?_
  refine va_get (D := (dC, dI)) (ci := 12) (v := .int 0) (C := RX12) (T := TX12) (N := 53) hx hb hts in_t_X12_back_X12 hown hK hP 0 rfl rfl 52 (by decide) (hts (.fieldLink RX12 314 "LawnAheadModel" "hasImage" "Z") (List.mem_of_getElem? (i := 2) rfl)) (fun _ h9 => h9) rfl dX12_back_6 ?_
  refine lv_if_ne (tgt := 14) hx hb dX12_back_9 (by decide) (fun c_1 => absurd (by decide +kernel) c_1) (fun c_1 => ?_)
  refine lv_iconst (v := -1) hx hb dX12_back_12 (by decide +kernel) ?_
  refine W.widen (k := 0) (n := 0) (Nat.le_of_ble_eq_true rfl) (Nat.le_of_ble_eq_true rfl) ?_
  exact W.iret (v := (-1)) hx hb hr (fun t ht hW => ⟨⟨(-1), (), rfl, rfl, trivial⟩, hS.F ht⟩) hS.2.2 dX12_back_13

def w_t_X12_log : List Cond := .code yX12_log cX12_log 3 (some .int) :: ([.fieldLink RX12 94 "LawnAheadModel" "thrown" "I", .fieldLink RX12 52 "LawnAheadModel" "now" "[I", .code yX12_isIn cX12_isIn 6 (some .boolean), .methodLink RX12 215 yX12_isIn, .static yX12_isIn, .initialized RX12, .constant RX12 439 (-1000000)] ++ (wsX120 ++ []))
theorem in_t_X12_log_X12 : ∀ w ∈ wsX120, w ∈ w_t_X12_log := fun w h => List.mem_cons_of_mem _ (List.mem_append_right _ (List.mem_append_left _ h))
set_option maxRecDepth 100000 in
theorem g_t_X12_log_18_m_isInN : GoodIn w_t_X12_log (([.methodLink RX12 215 yX12_isIn, .static yX12_isIn, .initialized RX12] : List Cond) ++ w_m_isInN) := goodIn_r _ [4, 5, 6, 3] rfl (by decide +kernel)
set_option maxHeartbeats 8000000 in
set_option maxRecDepth 100000 in
theorem t_X12_log (l : Launch) (dC : Nat → ClassId) (dI : Nat → Nat → Nat) (h0 : Nat) (p1 : Int32) (p2 : Int32) (q_1 : Nat) (q_3 : Nat) (q_5 : Nat) (q_7 : Nat) (aY : Nat) (aT : Nat) (q_9 : Nat) (q_11 : Nat) (q_13 : Nat) (q_15 : Nat) (q_17 : Nat) (q_19 : Nat) (q_21 : Nat) (q_23 : Nat) (q_25 : Nat) (q_27 : Nat) (q_29 : Nat) (q_31 : Nat) (q_33 : Nat) (q_35 : Nat) (q_37 : Nat) (q_39 : Nat) (q_41 : Nat) (cy_20 : ClassId) (sz : Nat) : Met l yX12_log w_t_X12_log ({ frames := 1, cells := 0, slots := 0, locals := 25 }) (va_Pc [.ref h0, .int p1, .int p2] (fun U => U.heap.size = sz ∧ va_P (dC, dI) vwCl [(h0, .inr (12, [.int 0, .ref q_1, .ref q_3, .ref q_5, .ref q_7, .ref q_1, .int 0, .int 0, .int 0, .int 0, .int 0, .int 0, .int 0, .int 0, .int 0, .ref aY, .ref aT, .int 0, .ref q_9, .ref q_11, .ref q_13, .ref q_15, .ref q_17, .int 0, .int 0, .int 0, .int 0, .int 0, .int 0, .int 0, .int 0, .int 0, .ref q_19, .ref q_21, .int (-1), .int 0, .ref q_23, .ref q_25, .ref q_27, .int 0, .long 0, .ref q_29, .int 0, .int 0, .ref q_31, .ref q_33, .ref q_35, .int 0, .ref q_37, .ref q_39, .int 0, .ref q_41, .int 0])), (q_19, .inl (cy_20, 249, .inl (fun _ => 0)))] U.heap ∧ va_K (dC, dI) vwCl [(cy_20, .int)] U ∧ va_D (fun _ => True) [(h0, .inr (12, [.int 0, .ref q_1, .ref q_3, .ref q_5, .ref q_7, .ref q_1, .int 0, .int 0, .int 0, .int 0, .int 0, .int 0, .int 0, .int 0, .int 0, .ref aY, .ref aT, .int 0, .ref q_9, .ref q_11, .ref q_13, .ref q_15, .ref q_17, .int 0, .int 0, .int 0, .int 0, .int 0, .int 0, .int 0, .int 0, .int 0, .ref q_19, .ref q_21, .int (-1), .int 0, .ref q_23, .ref q_25, .ref q_27, .int 0, .long 0, .ref q_29, .int 0, .int 0, .ref q_31, .ref q_33, .ref q_35, .int 0, .ref q_37, .ref q_39, .int 0, .ref q_41, .int 0])), (q_19, .inl (cy_20, 249, .inl (fun _ => 0)))])) (va_Qi (fun (r : Int32) (_ : Unit) => r = (-1000000)) (fun _ _ => True) (va_A [(h0, .inr (12, [.int 0, .ref q_1, .ref q_3, .ref q_5, .ref q_7, .ref q_1, .int 0, .int 0, .int 0, .int 0, .int 0, .int 0, .int 0, .int 0, .int 0, .ref aY, .ref aT, .int 0, .ref q_9, .ref q_11, .ref q_13, .ref q_15, .ref q_17, .int 0, .int 0, .int 0, .int 0, .int 0, .int 0, .int 0, .int 0, .int 0, .ref q_19, .ref q_21, .int (-1), .int 0, .ref q_23, .ref q_25, .ref q_27, .int 0, .long 0, .ref q_29, .int 0, .int 0, .ref q_31, .ref q_33, .ref q_35, .int 0, .ref q_37, .ref q_39, .int 0, .ref q_41, .int 0])), (q_19, .inl (cy_20, 249, .inl (fun _ => 0)))] sz)) 0 0 (va_A [(h0, .inr (12, [.int 0, .ref q_1, .ref q_3, .ref q_5, .ref q_7, .ref q_1, .int 0, .int 0, .int 0, .int 0, .int 0, .int 0, .int 0, .int 0, .int 0, .ref aY, .ref aT, .int 0, .ref q_9, .ref q_11, .ref q_13, .ref q_15, .ref q_17, .int 0, .int 0, .int 0, .int 0, .int 0, .int 0, .int 0, .int 0, .int 0, .ref q_19, .ref q_21, .int (-1), .int 0, .ref q_23, .ref q_25, .ref q_27, .int 0, .long 0, .ref q_29, .int 0, .int 0, .ref q_31, .ref q_33, .ref q_35, .int 0, .ref q_37, .ref q_39, .int 0, .ref q_41, .int 0])), (q_19, .inl (cy_20, 249, .inl (fun _ => 0)))] sz) := by
  refine Met.ofW (cc := cX12_log) (maxL := 3) (ret := (some .int)) (by decide) rfl ?_
  intro p e s m args below meth c s₁ B hml hv
  obtain ⟨rfl, hsz, hP, hK, hD0⟩ := hv
  have hx := B.exec
  have hb := B.bytes
  have hr := B.returns
  have hts := atoms_spec (ws := w_t_X12_log) B.pre
  have hown : s.vm.findClass RX12 = some m.cls := findClass_of_methodNamed B.named
  have hlocks := B.notSynchronized
  subst hsz
  have hD := hD0.self (sz := s.heap.size)
  generalize hAe : va_A [(h0, .inr (12, [.int 0, .ref q_1, .ref q_3, .ref q_5, .ref q_7, .ref q_1, .int 0, .int 0, .int 0, .int 0, .int 0, .int 0, .int 0, .int 0, .int 0, .ref aY, .ref aT, .int 0, .ref q_9, .ref q_11, .ref q_13, .ref q_15, .ref q_17, .int 0, .int 0, .int 0, .int 0, .int 0, .int 0, .int 0, .int 0, .int 0, .ref q_19, .ref q_21, .int (-1), .int 0, .ref q_23, .ref q_25, .ref q_27, .int 0, .long 0, .ref q_29, .int 0, .int 0, .ref q_31, .ref q_33, .ref q_35, .int 0, .ref q_37, .ref q_39, .int 0, .ref q_41, .int 0])), (q_19, .inl (cy_20, 249, .inl (fun _ => 0)))] s.heap.size = A at hD ⊢
  have hA : ∀ q : Nat, s.heap.size ≤ q → A q := fun q h => by rw [← hAe]; exact Or.inr h
  have hS : va_S A s.heap s.heap [] := va_S.rf
  have hP : va_P (dC, dI) vwCl [(h0, .inr (12, [.int 0, .ref q_1, .ref q_3, .ref q_5, .ref q_7, .ref q_1, .int 0, .int 0, .int 0, .int 0, .int 0, .int 0, .int 0, .int 0, .int 0, .ref aY, .ref aT, .int 0, .ref q_9, .ref q_11, .ref q_13, .ref q_15, .ref q_17, .int 0, .int 0, .int 0, .int 0, .int 0, .int 0, .int 0, .int 0, .int 0, .ref q_19, .ref q_21, .int (-1), .int 0, .ref q_23, .ref q_25, .ref q_27, .int 0, .long 0, .ref q_29, .int 0, .int 0, .ref q_31, .ref q_33, .ref q_35, .int 0, .ref q_37, .ref q_39, .int 0, .ref q_41, .int 0])), (q_19, .inl (cy_20, 249, .inl (fun _ => 0)))] s.heap := hP
  have hl := lv_entry ([.ref h0, .int p1, .int p2]) (n := 3) (Nat.le_of_ble_eq_true rfl)
  rw [lg_entry_eq]
  generalize (lg_sl ([.ref h0, .int p1, .int p2]) ++ List.replicate (3 - (lg_sl ([.ref h0, .int p1, .int p2])).length) Slot.unset).toArray = ls at hl ⊢
  have hl : lv_has ls 3 [(0, .ref h0), (1, .int p1), (2, .int p2)] := hl
  refine lv_aload_n hx hb dX12_log_0 rfl (lv_at hl 0 rfl) ?_
  refine lv_iconst (v := 0) hx hb dX12_log_1 (by decide +kernel) ?_
  refine va_put (D := (dC, dI)) (ci := 12) (v := .int 0) (ty := .int) (C := RX12) (T := TX12) (N := 53) hx hb hts in_t_X12_log_X12 tyX12 tyX12_ok nmX12 hown hK hP hD hS 0 rfl rfl 0 (by decide) (hts (.fieldLink RX12 94 "LawnAheadModel" "thrown" "I") (List.mem_of_getElem? (i := 1) rfl)) (fun _ h9 => h9) rfl (by decide +kernel) rfl rfl (Nat.le_of_ble_eq_true rfl) dX12_log_2 (fun H locs hP hD hS => ?_)
  have hP : va_P (dC, dI) vwCl [(h0, .inr (12, [.int 0, .ref q_1, .ref q_3, .ref q_5, .ref q_7, .ref q_1, .int 0, .int 0, .int 0, .int 0, .int 0, .int 0, .int 0, .int 0, .int 0, .ref aY, .ref aT, .int 0, .ref q_9, .ref q_11, .ref q_13, .ref q_15, .ref q_17, .int 0, .int 0, .int 0, .int 0, .int 0, .int 0, .int 0, .int 0, .int 0, .ref q_19, .ref q_21, .int (-1), .int 0, .ref q_23, .ref q_25, .ref q_27, .int 0, .long 0, .ref q_29, .int 0, .int 0, .ref q_31, .ref q_33, .ref q_35, .int 0, .ref q_37, .ref q_39, .int 0, .ref q_41, .int 0])), (q_19, .inl (cy_20, 249, .inl (fun _ => 0)))] H := hP
  have hD : va_D A [(h0, .inr (12, [.int 0, .ref q_1, .ref q_3, .ref q_5, .ref q_7, .ref q_1, .int 0, .int 0, .int 0, .int 0, .int 0, .int 0, .int 0, .int 0, .int 0, .ref aY, .ref aT, .int 0, .ref q_9, .ref q_11, .ref q_13, .ref q_15, .ref q_17, .int 0, .int 0, .int 0, .int 0, .int 0, .int 0, .int 0, .int 0, .int 0, .ref q_19, .ref q_21, .int (-1), .int 0, .ref q_23, .ref q_25, .ref q_27, .int 0, .long 0, .ref q_29, .int 0, .int 0, .ref q_31, .ref q_33, .ref q_35, .int 0, .ref q_37, .ref q_39, .int 0, .ref q_41, .int 0])), (q_19, .inl (cy_20, 249, .inl (fun _ => 0)))] := hD
  refine lv_iload_n hx hb dX12_log_5 rfl (lv_at hl 1 rfl) ?_
  refine lv_i2l (v := p1.toInt64) hx hb dX12_log_6 rfl ?_
  refine lv_lconst (v := 0) hx hb dX12_log_7 (by decide +kernel) ?_
  refine lv_aload_n hx hb dX12_log_8 rfl (lv_at hl 0 rfl) ?_
  refine va_get (D := (dC, dI)) (ci := 12) (v := .ref q_19) (C := RX12) (T := TX12) (N := 53) hx hb hts in_t_X12_log_X12 hown hK hP 0 rfl rfl 32 (by decide) (hts (.fieldLink RX12 52 "LawnAheadModel" "now" "[I") (List.mem_of_getElem? (i := 2) rfl)) (fun _ h9 => h9) rfl dX12_log_9 ?_
  refine lv_bipush (v := 8) hx hb dX12_log_12 (by decide +kernel) ?_
  refine va_iald (D := (dC, dI)) (i := 8) hx hb hK hP 1 0 rfl rfl (show ¬ ((8 : Int32) < 0 ∨ 249 ≤ (8 : Int32).toNatClampNeg) by decide +kernel) dX12_log_14 ?_
  refine W.eq (g2 := F0 m 15 ls [.int 0, .long 0, .long p1.toInt64]) rfl ?_
  refine lv_iconst (v := 1) hx hb dX12_log_15 (by decide +kernel) ?_
  refine lv_isub hx hb dX12_log_16 ?_
  refine lv_topi (fun f_1 ef_1 => ?_)
  obtain rfl : f_1 = (-1) := ef_1.trans (by decide +kernel)
  refine lv_i2l (v := (-1)) hx hb dX12_log_17 (by decide +kernel) ?_
  have hPc := hP.sub (ws' := []) [] rfl
  have hDc := hD.sub (ws' := []) [] (by decide) rfl
  have hKc := hK.sub (tys' := []) [] rfl
  have hFc := va_free (wc := []) hD hS hA [] rfl
  refine va_calli (va_runS (As := [.long p1.toInt64, .long 0, .long (-1)]) (rest := []) ⟨hx, hb, hml, hown, hts⟩ (m_isInN l dC dI p1 H.size) (va_cwS 3 hts g_t_X12_log_18_m_isInN rfl rfl rfl (by decide +kernel) ⟨Nat.le_of_ble_eq_true rfl, Nat.le_of_ble_eq_true rfl⟩) ⟨fun a U g mk q => by obtain ⟨q0, q1, qP, qK, qD⟩ := q; exact ⟨q0, q1, qP, va_K.moved (u := U) (U := U.calling g mk a) (Vm.Alike.refl U.vm) qK, qD⟩, fun U hU hW => ⟨rfl, by rw [hU], by rw [hU]; exact hPc, va_K.moved hW.alike hKc, hDc.weaken (fun _ _ _ _ => trivial)⟩⟩ rfl rfl hl.1 rfl (lv_room (Nat.le_of_ble_eq_true rfl)) dX12_log_18 ⟨Nat.le_of_ble_eq_true rfl, Nat.le_of_ble_eq_true rfl⟩) hS (fun q _ h => hFc q h) hFc (fun r_2 u t H1 locs ht hvm hw hB hz1 hk1 hS => ?_)
  obtain ⟨hP1, hK1, hD1⟩ := hB
  rw [ht] at hP1
  have hK1 := va_K.moved hvm.symm hK1
  try dsimp only at hw
  obtain ⟨hP, hD⟩ := va_join (wr := [(h0, .inr (12, [.int 0, .ref q_1, .ref q_3, .ref q_5, .ref q_7, .ref q_1, .int 0, .int 0, .int 0, .int 0, .int 0, .int 0, .int 0, .int 0, .int 0, .ref aY, .ref aT, .int 0, .ref q_9, .ref q_11, .ref q_13, .ref q_15, .ref q_17, .int 0, .int 0, .int 0, .int 0, .int 0, .int 0, .int 0, .int 0, .int 0, .ref q_19, .ref q_21, .int (-1), .int 0, .ref q_23, .ref q_25, .ref q_27, .int 0, .long 0, .ref q_29, .int 0, .int 0, .ref q_31, .ref q_33, .ref q_35, .int 0, .ref q_37, .ref q_39, .int 0, .ref q_41, .int 0])), (q_19, .inl (cy_20, 249, .inl (fun _ => 0)))]) (w1 := []) hP hD [] [0, 1] rfl rfl (by decide) (by decide) hk1 hFc hP1 hD1
  have hK := hK.app hK1
  generalize H1 = H at hP hS ⊢
  have hP : va_P (dC, dI) vwCl [(h0, .inr (12, [.int 0, .ref q_1, .ref q_3, .ref q_5, .ref q_7, .ref q_1, .int 0, .int 0, .int 0, .int 0, .int 0, .int 0, .int 0, .int 0, .int 0, .ref aY, .ref aT, .int 0, .ref q_9, .ref q_11, .ref q_13, .ref q_15, .ref q_17, .int 0, .int 0, .int 0, .int 0, .int 0, .int 0, .int 0, .int 0, .int 0, .ref q_19, .ref q_21, .int (-1), .int 0, .ref q_23, .ref q_25, .ref q_27, .int 0, .long 0, .ref q_29, .int 0, .int 0, .ref q_31, .ref q_33, .ref q_35, .int 0, .ref q_37, .ref q_39, .int 0, .ref q_41, .int 0])), (q_19, .inl (cy_20, 249, .inl (fun _ => 0)))] H := hP
  have hD : va_D A [(h0, .inr (12, [.int 0, .ref q_1, .ref q_3, .ref q_5, .ref q_7, .ref q_1, .int 0, .int 0, .int 0, .int 0, .int 0, .int 0, .int 0, .int 0, .int 0, .ref aY, .ref aT, .int 0, .ref q_9, .ref q_11, .ref q_13, .ref q_15, .ref q_17, .int 0, .int 0, .int 0, .int 0, .int 0, .int 0, .int 0, .int 0, .int 0, .ref q_19, .ref q_21, .int (-1), .int 0, .ref q_23, .ref q_25, .ref q_27, .int 0, .long 0, .ref q_29, .int 0, .int 0, .ref q_31, .ref q_33, .ref q_35, .int 0, .ref q_37, .ref q_39, .int 0, .ref q_41, .int 0])), (q_19, .inl (cy_20, 249, .inl (fun _ => 0)))] := hD
  have hK : va_K (dC, dI) vwCl [(cy_20, .int)] s := hK
  refine W.widen (k := 0) (n := 0) (Nat.le_of_ble_eq_true rfl) (Nat.le_of_ble_eq_true rfl) ?_
  obtain rfl : r_2 = 0 := hw
  refine lv_if_eq (tgt := 62) hx hb dX12_log_21 (by decide) (fun c_3 => ?_) (fun c_3 => absurd (by decide +kernel) c_3)
  refine lv_ldcw hx hb hown (hts (.constant RX12 439 (-1000000)) (List.mem_of_getElem? (i := 7) rfl)) dX12_log_62 ?_
  refine W.widen (k := 0) (n := 0) (Nat.le_of_ble_eq_true rfl) (Nat.le_of_ble_eq_true rfl) ?_
  exact W.iret (v := (-1000000)) hx hb hr (fun t ht hW => ⟨⟨(-1000000), (), rfl, rfl, trivial⟩, hS.F ht⟩) hS.2.2 dX12_log_65

def w_t_X12_move : List Cond := .code yX12_move cX12_move 4 (some .int) :: ([.fieldLink RX12 94 "LawnAheadModel" "thrown" "I", .fieldLink RX12 297 "LawnAheadModel" "games" "I", .code yX12_isGame cX12_isGame 2 (some .boolean), .methodLink RX12 440 yX12_isGame, .instanceMethod yX12_isGame, .selects RX12 yX12_isGame yX12_isGame, .initialized RX12, .constant RX12 439 (-1000000)] ++ (wsX120 ++ []))
theorem in_t_X12_move_X12 : ∀ w ∈ wsX120, w ∈ w_t_X12_move := fun w h => List.mem_cons_of_mem _ (List.mem_append_right _ (List.mem_append_left _ h))
set_option maxRecDepth 100000 in
theorem g_t_X12_move_7_m_isGame : GoodIn w_t_X12_move (([.methodLink RX12 440 yX12_isGame, .instanceMethod yX12_isGame, .selects RX12 yX12_isGame yX12_isGame, .initialized RX12] : List Cond) ++ w_m_isGame) := goodIn_r _ [4, 5, 6, 7, 3, 2, 9, 10, 11, 12, 13, 14, 15, 16, 17, 18, 19, 20, 21, 22, 23, 24, 25, 26, 27, 28, 29, 30, 31, 32, 33, 34, 35, 36, 37, 38, 39, 40, 41, 42, 43, 44, 45, 46, 47, 48, 49, 50, 51, 52, 53, 54, 55, 56, 57, 58, 59, 60, 61] rfl (by decide +kernel)
set_option maxHeartbeats 8000000 in
set_option maxRecDepth 100000 in
theorem t_X12_move (l : Launch) (dC : Nat → ClassId) (dI : Nat → Nat → Nat) (h0 : Nat) (p1 : Int32) (p2 : Int32) (p3 : Int32) (q_1 : Nat) (q_3 : Nat) (q_5 : Nat) (q_7 : Nat) (aY : Nat) (aT : Nat) (q_9 : Nat) (q_11 : Nat) (q_13 : Nat) (q_15 : Nat) (q_17 : Nat) (q_19 : Nat) (q_21 : Nat) (q_23 : Nat) (q_25 : Nat) (q_27 : Nat) (q_29 : Nat) (q_31 : Nat) (q_33 : Nat) (q_35 : Nat) (q_37 : Nat) (q_39 : Nat) (q_41 : Nat) (sz : Nat) : Met l yX12_move w_t_X12_move ({ frames := 1, cells := 0, slots := 0, locals := 21 }) (va_Pc [.ref h0, .int p1, .int p2, .int p3] (fun U => U.heap.size = sz ∧ va_P (dC, dI) vwCl [(h0, .inr (12, [.int 0, .ref q_1, .ref q_3, .ref q_5, .ref q_7, .ref q_1, .int 0, .int 0, .int 0, .int 0, .int 0, .int 0, .int 0, .int 0, .int 0, .ref aY, .ref aT, .int 0, .ref q_9, .ref q_11, .ref q_13, .ref q_15, .ref q_17, .int 0, .int 0, .int 0, .int 0, .int 0, .int 0, .int 0, .int 0, .int 0, .ref q_19, .ref q_21, .int (-1), .int 0, .ref q_23, .ref q_25, .ref q_27, .int 0, .long 0, .ref q_29, .int 0, .int 0, .ref q_31, .ref q_33, .ref q_35, .int 0, .ref q_37, .ref q_39, .int 0, .ref q_41, .int 0]))] U.heap ∧ va_K (dC, dI) vwCl [] U ∧ va_D (fun _ => True) [(h0, .inr (12, [.int 0, .ref q_1, .ref q_3, .ref q_5, .ref q_7, .ref q_1, .int 0, .int 0, .int 0, .int 0, .int 0, .int 0, .int 0, .int 0, .int 0, .ref aY, .ref aT, .int 0, .ref q_9, .ref q_11, .ref q_13, .ref q_15, .ref q_17, .int 0, .int 0, .int 0, .int 0, .int 0, .int 0, .int 0, .int 0, .int 0, .ref q_19, .ref q_21, .int (-1), .int 0, .ref q_23, .ref q_25, .ref q_27, .int 0, .long 0, .ref q_29, .int 0, .int 0, .ref q_31, .ref q_33, .ref q_35, .int 0, .ref q_37, .ref q_39, .int 0, .ref q_41, .int 0]))])) (va_Qi (fun (r : Int32) (_ : Unit) => r = (-1000000)) (fun _ _ => True) (va_A [(h0, .inr (12, [.int 0, .ref q_1, .ref q_3, .ref q_5, .ref q_7, .ref q_1, .int 0, .int 0, .int 0, .int 0, .int 0, .int 0, .int 0, .int 0, .int 0, .ref aY, .ref aT, .int 0, .ref q_9, .ref q_11, .ref q_13, .ref q_15, .ref q_17, .int 0, .int 0, .int 0, .int 0, .int 0, .int 0, .int 0, .int 0, .int 0, .ref q_19, .ref q_21, .int (-1), .int 0, .ref q_23, .ref q_25, .ref q_27, .int 0, .long 0, .ref q_29, .int 0, .int 0, .ref q_31, .ref q_33, .ref q_35, .int 0, .ref q_37, .ref q_39, .int 0, .ref q_41, .int 0]))] sz)) 0 0 (va_A [(h0, .inr (12, [.int 0, .ref q_1, .ref q_3, .ref q_5, .ref q_7, .ref q_1, .int 0, .int 0, .int 0, .int 0, .int 0, .int 0, .int 0, .int 0, .int 0, .ref aY, .ref aT, .int 0, .ref q_9, .ref q_11, .ref q_13, .ref q_15, .ref q_17, .int 0, .int 0, .int 0, .int 0, .int 0, .int 0, .int 0, .int 0, .int 0, .ref q_19, .ref q_21, .int (-1), .int 0, .ref q_23, .ref q_25, .ref q_27, .int 0, .long 0, .ref q_29, .int 0, .int 0, .ref q_31, .ref q_33, .ref q_35, .int 0, .ref q_37, .ref q_39, .int 0, .ref q_41, .int 0]))] sz) := by
  refine Met.ofW (cc := cX12_move) (maxL := 4) (ret := (some .int)) (by decide) rfl ?_
  intro p e s m args below meth c s₁ B hml hv
  obtain ⟨rfl, hsz, hP, hK, hD0⟩ := hv
  have hx := B.exec
  have hb := B.bytes
  have hr := B.returns
  have hts := atoms_spec (ws := w_t_X12_move) B.pre
  have hown : s.vm.findClass RX12 = some m.cls := findClass_of_methodNamed B.named
  have hlocks := B.notSynchronized
  subst hsz
  have hD := hD0.self (sz := s.heap.size)
  generalize hAe : va_A [(h0, .inr (12, [.int 0, .ref q_1, .ref q_3, .ref q_5, .ref q_7, .ref q_1, .int 0, .int 0, .int 0, .int 0, .int 0, .int 0, .int 0, .int 0, .int 0, .ref aY, .ref aT, .int 0, .ref q_9, .ref q_11, .ref q_13, .ref q_15, .ref q_17, .int 0, .int 0, .int 0, .int 0, .int 0, .int 0, .int 0, .int 0, .int 0, .ref q_19, .ref q_21, .int (-1), .int 0, .ref q_23, .ref q_25, .ref q_27, .int 0, .long 0, .ref q_29, .int 0, .int 0, .ref q_31, .ref q_33, .ref q_35, .int 0, .ref q_37, .ref q_39, .int 0, .ref q_41, .int 0]))] s.heap.size = A at hD ⊢
  have hA : ∀ q : Nat, s.heap.size ≤ q → A q := fun q h => by rw [← hAe]; exact Or.inr h
  have hS : va_S A s.heap s.heap [] := va_S.rf
  have hP : va_P (dC, dI) vwCl [(h0, .inr (12, [.int 0, .ref q_1, .ref q_3, .ref q_5, .ref q_7, .ref q_1, .int 0, .int 0, .int 0, .int 0, .int 0, .int 0, .int 0, .int 0, .int 0, .ref aY, .ref aT, .int 0, .ref q_9, .ref q_11, .ref q_13, .ref q_15, .ref q_17, .int 0, .int 0, .int 0, .int 0, .int 0, .int 0, .int 0, .int 0, .int 0, .ref q_19, .ref q_21, .int (-1), .int 0, .ref q_23, .ref q_25, .ref q_27, .int 0, .long 0, .ref q_29, .int 0, .int 0, .ref q_31, .ref q_33, .ref q_35, .int 0, .ref q_37, .ref q_39, .int 0, .ref q_41, .int 0]))] s.heap := hP
  have hl := lv_entry ([.ref h0, .int p1, .int p2, .int p3]) (n := 4) (Nat.le_of_ble_eq_true rfl)
  rw [lg_entry_eq]
  generalize (lg_sl ([.ref h0, .int p1, .int p2, .int p3]) ++ List.replicate (4 - (lg_sl ([.ref h0, .int p1, .int p2, .int p3])).length) Slot.unset).toArray = ls at hl ⊢
  have hl : lv_has ls 4 [(0, .ref h0), (1, .int p1), (2, .int p2), (3, .int p3)] := hl
  refine lv_aload_n hx hb dX12_move_0 rfl (lv_at hl 0 rfl) ?_
  refine lv_iconst (v := 0) hx hb dX12_move_1 (by decide +kernel) ?_
  refine va_put (D := (dC, dI)) (ci := 12) (v := .int 0) (ty := .int) (C := RX12) (T := TX12) (N := 53) hx hb hts in_t_X12_move_X12 tyX12 tyX12_ok nmX12 hown hK hP hD hS 0 rfl rfl 0 (by decide) (hts (.fieldLink RX12 94 "LawnAheadModel" "thrown" "I") (List.mem_of_getElem? (i := 1) rfl)) (fun _ h9 => h9) rfl (by decide +kernel) rfl rfl (Nat.le_of_ble_eq_true rfl) dX12_move_2 (fun H locs hP hD hS => ?_)
  have hP : va_P (dC, dI) vwCl [(h0, .inr (12, [.int 0, .ref q_1, .ref q_3, .ref q_5, .ref q_7, .ref q_1, .int 0, .int 0, .int 0, .int 0, .int 0, .int 0, .int 0, .int 0, .int 0, .ref aY, .ref aT, .int 0, .ref q_9, .ref q_11, .ref q_13, .ref q_15, .ref q_17, .int 0, .int 0, .int 0, .int 0, .int 0, .int 0, .int 0, .int 0, .int 0, .ref q_19, .ref q_21, .int (-1), .int 0, .ref q_23, .ref q_25, .ref q_27, .int 0, .long 0, .ref q_29, .int 0, .int 0, .ref q_31, .ref q_33, .ref q_35, .int 0, .ref q_37, .ref q_39, .int 0, .ref q_41, .int 0]))] H := hP
  have hD : va_D A [(h0, .inr (12, [.int 0, .ref q_1, .ref q_3, .ref q_5, .ref q_7, .ref q_1, .int 0, .int 0, .int 0, .int 0, .int 0, .int 0, .int 0, .int 0, .int 0, .ref aY, .ref aT, .int 0, .ref q_9, .ref q_11, .ref q_13, .ref q_15, .ref q_17, .int 0, .int 0, .int 0, .int 0, .int 0, .int 0, .int 0, .int 0, .int 0, .ref q_19, .ref q_21, .int (-1), .int 0, .ref q_23, .ref q_25, .ref q_27, .int 0, .long 0, .ref q_29, .int 0, .int 0, .ref q_31, .ref q_33, .ref q_35, .int 0, .ref q_37, .ref q_39, .int 0, .ref q_41, .int 0]))] := hD
  refine lv_aload_n hx hb dX12_move_5 rfl (lv_at hl 0 rfl) ?_
  refine lv_iload_n hx hb dX12_move_6 rfl (lv_at hl 1 rfl) ?_
  have hPc := hP.sub (ws' := [(h0, .inr (12, [.int 0, .ref q_1, .ref q_3, .ref q_5, .ref q_7, .ref q_1, .int 0, .int 0, .int 0, .int 0, .int 0, .int 0, .int 0, .int 0, .int 0, .ref aY, .ref aT, .int 0, .ref q_9, .ref q_11, .ref q_13, .ref q_15, .ref q_17, .int 0, .int 0, .int 0, .int 0, .int 0, .int 0, .int 0, .int 0, .int 0, .ref q_19, .ref q_21, .int (-1), .int 0, .ref q_23, .ref q_25, .ref q_27, .int 0, .long 0, .ref q_29, .int 0, .int 0, .ref q_31, .ref q_33, .ref q_35, .int 0, .ref q_37, .ref q_39, .int 0, .ref q_41, .int 0]))]) [0] rfl
  have hDc := hD.sub (ws' := [(h0, .inr (12, [.int 0, .ref q_1, .ref q_3, .ref q_5, .ref q_7, .ref q_1, .int 0, .int 0, .int 0, .int 0, .int 0, .int 0, .int 0, .int 0, .int 0, .ref aY, .ref aT, .int 0, .ref q_9, .ref q_11, .ref q_13, .ref q_15, .ref q_17, .int 0, .int 0, .int 0, .int 0, .int 0, .int 0, .int 0, .int 0, .int 0, .ref q_19, .ref q_21, .int (-1), .int 0, .ref q_23, .ref q_25, .ref q_27, .int 0, .long 0, .ref q_29, .int 0, .int 0, .ref q_31, .ref q_33, .ref q_35, .int 0, .ref q_37, .ref q_39, .int 0, .ref q_41, .int 0]))]) [0] (by decide) rfl
  have hKc := hK.sub (tys' := []) [] rfl
  have hFc := va_free (wc := [(h0, .inr (12, [.int 0, .ref q_1, .ref q_3, .ref q_5, .ref q_7, .ref q_1, .int 0, .int 0, .int 0, .int 0, .int 0, .int 0, .int 0, .int 0, .int 0, .ref aY, .ref aT, .int 0, .ref q_9, .ref q_11, .ref q_13, .ref q_15, .ref q_17, .int 0, .int 0, .int 0, .int 0, .int 0, .int 0, .int 0, .int 0, .int 0, .ref q_19, .ref q_21, .int (-1), .int 0, .ref q_23, .ref q_25, .ref q_27, .int 0, .long 0, .ref q_29, .int 0, .int 0, .ref q_31, .ref q_33, .ref q_35, .int 0, .ref q_37, .ref q_39, .int 0, .ref q_41, .int 0]))]) hD hS hA [0] rfl
  refine va_calli (va_runV (As := [.int p1]) (rest := []) ⟨hx, hb, hml, hown, hts⟩ (m_isGame l dC dI h0 p1 q_1 q_3 q_5 q_7 aY aT q_9 q_11 q_13 q_15 q_17 q_19 q_21 q_23 q_25 q_27 q_29 q_31 q_33 q_35 q_37 q_39 q_41 H.size) (cwV 1 hts g_t_X12_move_7_m_isGame rfl rfl rfl (by decide +kernel) ⟨Nat.le_of_ble_eq_true rfl, Nat.le_of_ble_eq_true rfl⟩) ⟨fun a U g mk q => by obtain ⟨q0, q1, qP, qK, qD⟩ := q; exact ⟨q0, q1, qP, va_K.moved (u := U) (U := U.calling g mk a) (Vm.Alike.refl U.vm) qK, qD⟩, va_recv hK hP (ci := 12) (q0 := 0) rfl rfl, fun U hU hW => ⟨rfl, by rw [hU], by rw [hU]; exact hPc, va_K.moved hW.alike hKc, hDc.weaken (fun _ _ _ _ => trivial)⟩⟩ rfl rfl hl.1 rfl (lv_room (Nat.le_of_ble_eq_true rfl)) dX12_move_7 ⟨Nat.le_of_ble_eq_true rfl, Nat.le_of_ble_eq_true rfl⟩) hS (fun q _ h => hFc q h) hFc (fun r_1 u t H1 locs ht hvm hw hB hz1 hk1 hS => ?_)
  obtain ⟨hP1, hK1, hD1⟩ := hB
  rw [ht] at hP1
  have hK1 := va_K.moved hvm.symm hK1
  try dsimp only at hw
  obtain ⟨hP, hD⟩ := va_join (wr := []) (w1 := [(h0, .inr (12, [.int 0, .ref q_1, .ref q_3, .ref q_5, .ref q_7, .ref q_1, .int 0, .int 0, .int 0, .int 0, .int 0, .int 0, .int 0, .int 0, .int 0, .ref aY, .ref aT, .int 0, .ref q_9, .ref q_11, .ref q_13, .ref q_15, .ref q_17, .int 0, .int 0, .int 0, .int 0, .int 0, .int 0, .int 0, .int 0, .int 0, .ref q_19, .ref q_21, .int (-1), .int 0, .ref q_23, .ref q_25, .ref q_27, .int 0, .long 0, .ref q_29, .int 0, .int 0, .ref q_31, .ref q_33, .ref q_35, .int 0, .ref q_37, .ref q_39, .int 0, .ref q_41, .int 0]))]) hP hD [0] [] rfl rfl (by decide) (by decide) hk1 hFc hP1 hD1
  have hK := hK.app hK1
  generalize H1 = H at hP hS ⊢
  have hP : va_P (dC, dI) vwCl [(h0, .inr (12, [.int 0, .ref q_1, .ref q_3, .ref q_5, .ref q_7, .ref q_1, .int 0, .int 0, .int 0, .int 0, .int 0, .int 0, .int 0, .int 0, .int 0, .ref aY, .ref aT, .int 0, .ref q_9, .ref q_11, .ref q_13, .ref q_15, .ref q_17, .int 0, .int 0, .int 0, .int 0, .int 0, .int 0, .int 0, .int 0, .int 0, .ref q_19, .ref q_21, .int (-1), .int 0, .ref q_23, .ref q_25, .ref q_27, .int 0, .long 0, .ref q_29, .int 0, .int 0, .ref q_31, .ref q_33, .ref q_35, .int 0, .ref q_37, .ref q_39, .int 0, .ref q_41, .int 0]))] H := hP
  have hD : va_D A [(h0, .inr (12, [.int 0, .ref q_1, .ref q_3, .ref q_5, .ref q_7, .ref q_1, .int 0, .int 0, .int 0, .int 0, .int 0, .int 0, .int 0, .int 0, .int 0, .ref aY, .ref aT, .int 0, .ref q_9, .ref q_11, .ref q_13, .ref q_15, .ref q_17, .int 0, .int 0, .int 0, .int 0, .int 0, .int 0, .int 0, .int 0, .int 0, .ref q_19, .ref q_21, .int (-1), .int 0, .ref q_23, .ref q_25, .ref q_27, .int 0, .long 0, .ref q_29, .int 0, .int 0, .ref q_31, .ref q_33, .ref q_35, .int 0, .ref q_37, .ref q_39, .int 0, .ref q_41, .int 0]))] := hD
  have hK : va_K (dC, dI) vwCl [] s := hK
  refine W.widen (k := 0) (n := 0) (Nat.le_of_ble_eq_true rfl) (Nat.le_of_ble_eq_true rfl) ?_
  obtain rfl : r_1 = 0 := hw
  refine lv_if_eq (tgt := 61) hx hb dX12_move_10 (by decide) (fun c_2 => ?_) (fun c_2 => absurd (by decide +kernel) c_2)
  refine lv_ldcw hx hb hown (hts (.constant RX12 439 (-1000000)) (List.mem_of_getElem? (i := 8) rfl)) dX12_move_61 ?_
  refine W.widen (k := 0) (n := 0) (Nat.le_of_ble_eq_true rfl) (Nat.le_of_ble_eq_true rfl) ?_
  exact W.iret (v := (-1000000)) hx hb hr (fun t ht hW => ⟨⟨(-1000000), (), rfl, rfl, trivial⟩, hS.F ht⟩) hS.2.2 dX12_move_64

def w_t_X12_run : List Cond := .code yX12_run cX12_run 5 (some .int) :: ([.fieldLink RX12 94 "LawnAheadModel" "thrown" "I", .fieldLink RX12 297 "LawnAheadModel" "games" "I", .code yX12_isGame cX12_isGame 2 (some .boolean), .methodLink RX12 440 yX12_isGame, .instanceMethod yX12_isGame, .selects RX12 yX12_isGame yX12_isGame, .initialized RX12, .constant RX12 439 (-1000000)] ++ (wsX120 ++ []))
theorem in_t_X12_run_X12 : ∀ w ∈ wsX120, w ∈ w_t_X12_run := fun w h => List.mem_cons_of_mem _ (List.mem_append_right _ (List.mem_append_left _ h))
set_option maxRecDepth 100000 in
theorem g_t_X12_run_7_m_isGame : GoodIn w_t_X12_run (([.methodLink RX12 440 yX12_isGame, .instanceMethod yX12_isGame, .selects RX12 yX12_isGame yX12_isGame, .initialized RX12] : List Cond) ++ w_m_isGame) := goodIn_r _ [4, 5, 6, 7, 3, 2, 9, 10, 11, 12, 13, 14, 15, 16, 17, 18, 19, 20, 21, 22, 23, 24, 25, 26, 27, 28, 29, 30, 31, 32, 33, 34, 35, 36, 37, 38, 39, 40, 41, 42, 43, 44, 45, 46, 47, 48, 49, 50, 51, 52, 53, 54, 55, 56, 57, 58, 59, 60, 61] rfl (by decide +kernel)
set_option maxHeartbeats 8000000 in
set_option maxRecDepth 100000 in
theorem t_X12_run (l : Launch) (dC : Nat → ClassId) (dI : Nat → Nat → Nat) (h0 : Nat) (p1 : Int32) (q_1 : Nat) (q_3 : Nat) (q_5 : Nat) (q_7 : Nat) (aY : Nat) (aT : Nat) (q_9 : Nat) (q_11 : Nat) (q_13 : Nat) (q_15 : Nat) (q_17 : Nat) (q_19 : Nat) (q_21 : Nat) (q_23 : Nat) (q_25 : Nat) (q_27 : Nat) (q_29 : Nat) (q_31 : Nat) (q_33 : Nat) (q_35 : Nat) (q_37 : Nat) (q_39 : Nat) (q_41 : Nat) (sz : Nat) : Met l yX12_run w_t_X12_run ({ frames := 1, cells := 0, slots := 0, locals := 21 }) (va_Pc [.ref h0, .int p1] (fun U => U.heap.size = sz ∧ va_P (dC, dI) vwCl [(h0, .inr (12, [.int 0, .ref q_1, .ref q_3, .ref q_5, .ref q_7, .ref q_1, .int 0, .int 0, .int 0, .int 0, .int 0, .int 0, .int 0, .int 0, .int 0, .ref aY, .ref aT, .int 0, .ref q_9, .ref q_11, .ref q_13, .ref q_15, .ref q_17, .int 0, .int 0, .int 0, .int 0, .int 0, .int 0, .int 0, .int 0, .int 0, .ref q_19, .ref q_21, .int (-1), .int 0, .ref q_23, .ref q_25, .ref q_27, .int 0, .long 0, .ref q_29, .int 0, .int 0, .ref q_31, .ref q_33, .ref q_35, .int 0, .ref q_37, .ref q_39, .int 0, .ref q_41, .int 0]))] U.heap ∧ va_K (dC, dI) vwCl [] U ∧ va_D (fun _ => True) [(h0, .inr (12, [.int 0, .ref q_1, .ref q_3, .ref q_5, .ref q_7, .ref q_1, .int 0, .int 0, .int 0, .int 0, .int 0, .int 0, .int 0, .int 0, .int 0, .ref aY, .ref aT, .int 0, .ref q_9, .ref q_11, .ref q_13, .ref q_15, .ref q_17, .int 0, .int 0, .int 0, .int 0, .int 0, .int 0, .int 0, .int 0, .int 0, .ref q_19, .ref q_21, .int (-1), .int 0, .ref q_23, .ref q_25, .ref q_27, .int 0, .long 0, .ref q_29, .int 0, .int 0, .ref q_31, .ref q_33, .ref q_35, .int 0, .ref q_37, .ref q_39, .int 0, .ref q_41, .int 0]))])) (va_Qi (fun (r : Int32) (_ : Unit) => r = (-1000000)) (fun _ _ => True) (va_A [(h0, .inr (12, [.int 0, .ref q_1, .ref q_3, .ref q_5, .ref q_7, .ref q_1, .int 0, .int 0, .int 0, .int 0, .int 0, .int 0, .int 0, .int 0, .int 0, .ref aY, .ref aT, .int 0, .ref q_9, .ref q_11, .ref q_13, .ref q_15, .ref q_17, .int 0, .int 0, .int 0, .int 0, .int 0, .int 0, .int 0, .int 0, .int 0, .ref q_19, .ref q_21, .int (-1), .int 0, .ref q_23, .ref q_25, .ref q_27, .int 0, .long 0, .ref q_29, .int 0, .int 0, .ref q_31, .ref q_33, .ref q_35, .int 0, .ref q_37, .ref q_39, .int 0, .ref q_41, .int 0]))] sz)) 0 0 (va_A [(h0, .inr (12, [.int 0, .ref q_1, .ref q_3, .ref q_5, .ref q_7, .ref q_1, .int 0, .int 0, .int 0, .int 0, .int 0, .int 0, .int 0, .int 0, .int 0, .ref aY, .ref aT, .int 0, .ref q_9, .ref q_11, .ref q_13, .ref q_15, .ref q_17, .int 0, .int 0, .int 0, .int 0, .int 0, .int 0, .int 0, .int 0, .int 0, .ref q_19, .ref q_21, .int (-1), .int 0, .ref q_23, .ref q_25, .ref q_27, .int 0, .long 0, .ref q_29, .int 0, .int 0, .ref q_31, .ref q_33, .ref q_35, .int 0, .ref q_37, .ref q_39, .int 0, .ref q_41, .int 0]))] sz) := by
  refine Met.ofW (cc := cX12_run) (maxL := 5) (ret := (some .int)) (by decide) rfl ?_
  intro p e s m args below meth c s₁ B hml hv
  obtain ⟨rfl, hsz, hP, hK, hD0⟩ := hv
  have hx := B.exec
  have hb := B.bytes
  have hr := B.returns
  have hts := atoms_spec (ws := w_t_X12_run) B.pre
  have hown : s.vm.findClass RX12 = some m.cls := findClass_of_methodNamed B.named
  have hlocks := B.notSynchronized
  subst hsz
  have hD := hD0.self (sz := s.heap.size)
  generalize hAe : va_A [(h0, .inr (12, [.int 0, .ref q_1, .ref q_3, .ref q_5, .ref q_7, .ref q_1, .int 0, .int 0, .int 0, .int 0, .int 0, .int 0, .int 0, .int 0, .int 0, .ref aY, .ref aT, .int 0, .ref q_9, .ref q_11, .ref q_13, .ref q_15, .ref q_17, .int 0, .int 0, .int 0, .int 0, .int 0, .int 0, .int 0, .int 0, .int 0, .ref q_19, .ref q_21, .int (-1), .int 0, .ref q_23, .ref q_25, .ref q_27, .int 0, .long 0, .ref q_29, .int 0, .int 0, .ref q_31, .ref q_33, .ref q_35, .int 0, .ref q_37, .ref q_39, .int 0, .ref q_41, .int 0]))] s.heap.size = A at hD ⊢
  have hA : ∀ q : Nat, s.heap.size ≤ q → A q := fun q h => by rw [← hAe]; exact Or.inr h
  have hS : va_S A s.heap s.heap [] := va_S.rf
  have hP : va_P (dC, dI) vwCl [(h0, .inr (12, [.int 0, .ref q_1, .ref q_3, .ref q_5, .ref q_7, .ref q_1, .int 0, .int 0, .int 0, .int 0, .int 0, .int 0, .int 0, .int 0, .int 0, .ref aY, .ref aT, .int 0, .ref q_9, .ref q_11, .ref q_13, .ref q_15, .ref q_17, .int 0, .int 0, .int 0, .int 0, .int 0, .int 0, .int 0, .int 0, .int 0, .ref q_19, .ref q_21, .int (-1), .int 0, .ref q_23, .ref q_25, .ref q_27, .int 0, .long 0, .ref q_29, .int 0, .int 0, .ref q_31, .ref q_33, .ref q_35, .int 0, .ref q_37, .ref q_39, .int 0, .ref q_41, .int 0]))] s.heap := hP
  have hl := lv_entry ([.ref h0, .int p1]) (n := 5) (Nat.le_of_ble_eq_true rfl)
  rw [lg_entry_eq]
  generalize (lg_sl ([.ref h0, .int p1]) ++ List.replicate (5 - (lg_sl ([.ref h0, .int p1])).length) Slot.unset).toArray = ls at hl ⊢
  have hl : lv_has ls 5 [(0, .ref h0), (1, .int p1)] := hl
  refine lv_aload_n hx hb dX12_run_0 rfl (lv_at hl 0 rfl) ?_
  refine lv_iconst (v := 0) hx hb dX12_run_1 (by decide +kernel) ?_
  refine va_put (D := (dC, dI)) (ci := 12) (v := .int 0) (ty := .int) (C := RX12) (T := TX12) (N := 53) hx hb hts in_t_X12_run_X12 tyX12 tyX12_ok nmX12 hown hK hP hD hS 0 rfl rfl 0 (by decide) (hts (.fieldLink RX12 94 "LawnAheadModel" "thrown" "I") (List.mem_of_getElem? (i := 1) rfl)) (fun _ h9 => h9) rfl (by decide +kernel) rfl rfl (Nat.le_of_ble_eq_true rfl) dX12_run_2 (fun H locs hP hD hS => ?_)
  have hP : va_P (dC, dI) vwCl [(h0, .inr (12, [.int 0, .ref q_1, .ref q_3, .ref q_5, .ref q_7, .ref q_1, .int 0, .int 0, .int 0, .int 0, .int 0, .int 0, .int 0, .int 0, .int 0, .ref aY, .ref aT, .int 0, .ref q_9, .ref q_11, .ref q_13, .ref q_15, .ref q_17, .int 0, .int 0, .int 0, .int 0, .int 0, .int 0, .int 0, .int 0, .int 0, .ref q_19, .ref q_21, .int (-1), .int 0, .ref q_23, .ref q_25, .ref q_27, .int 0, .long 0, .ref q_29, .int 0, .int 0, .ref q_31, .ref q_33, .ref q_35, .int 0, .ref q_37, .ref q_39, .int 0, .ref q_41, .int 0]))] H := hP
  have hD : va_D A [(h0, .inr (12, [.int 0, .ref q_1, .ref q_3, .ref q_5, .ref q_7, .ref q_1, .int 0, .int 0, .int 0, .int 0, .int 0, .int 0, .int 0, .int 0, .int 0, .ref aY, .ref aT, .int 0, .ref q_9, .ref q_11, .ref q_13, .ref q_15, .ref q_17, .int 0, .int 0, .int 0, .int 0, .int 0, .int 0, .int 0, .int 0, .int 0, .ref q_19, .ref q_21, .int (-1), .int 0, .ref q_23, .ref q_25, .ref q_27, .int 0, .long 0, .ref q_29, .int 0, .int 0, .ref q_31, .ref q_33, .ref q_35, .int 0, .ref q_37, .ref q_39, .int 0, .ref q_41, .int 0]))] := hD
  refine lv_aload_n hx hb dX12_run_5 rfl (lv_at hl 0 rfl) ?_
  refine lv_iload_n hx hb dX12_run_6 rfl (lv_at hl 1 rfl) ?_
  have hPc := hP.sub (ws' := [(h0, .inr (12, [.int 0, .ref q_1, .ref q_3, .ref q_5, .ref q_7, .ref q_1, .int 0, .int 0, .int 0, .int 0, .int 0, .int 0, .int 0, .int 0, .int 0, .ref aY, .ref aT, .int 0, .ref q_9, .ref q_11, .ref q_13, .ref q_15, .ref q_17, .int 0, .int 0, .int 0, .int 0, .int 0, .int 0, .int 0, .int 0, .int 0, .ref q_19, .ref q_21, .int (-1), .int 0, .ref q_23, .ref q_25, .ref q_27, .int 0, .long 0, .ref q_29, .int 0, .int 0, .ref q_31, .ref q_33, .ref q_35, .int 0, .ref q_37, .ref q_39, .int 0, .ref q_41, .int 0]))]) [0] rfl
  have hDc := hD.sub (ws' := [(h0, .inr (12, [.int 0, .ref q_1, .ref q_3, .ref q_5, .ref q_7, .ref q_1, .int 0, .int 0, .int 0, .int 0, .int 0, .int 0, .int 0, .int 0, .int 0, .ref aY, .ref aT, .int 0, .ref q_9, .ref q_11, .ref q_13, .ref q_15, .ref q_17, .int 0, .int 0, .int 0, .int 0, .int 0, .int 0, .int 0, .int 0, .int 0, .ref q_19, .ref q_21, .int (-1), .int 0, .ref q_23, .ref q_25, .ref q_27, .int 0, .long 0, .ref q_29, .int 0, .int 0, .ref q_31, .ref q_33, .ref q_35, .int 0, .ref q_37, .ref q_39, .int 0, .ref q_41, .int 0]))]) [0] (by decide) rfl
  have hKc := hK.sub (tys' := []) [] rfl
  have hFc := va_free (wc := [(h0, .inr (12, [.int 0, .ref q_1, .ref q_3, .ref q_5, .ref q_7, .ref q_1, .int 0, .int 0, .int 0, .int 0, .int 0, .int 0, .int 0, .int 0, .int 0, .ref aY, .ref aT, .int 0, .ref q_9, .ref q_11, .ref q_13, .ref q_15, .ref q_17, .int 0, .int 0, .int 0, .int 0, .int 0, .int 0, .int 0, .int 0, .int 0, .ref q_19, .ref q_21, .int (-1), .int 0, .ref q_23, .ref q_25, .ref q_27, .int 0, .long 0, .ref q_29, .int 0, .int 0, .ref q_31, .ref q_33, .ref q_35, .int 0, .ref q_37, .ref q_39, .int 0, .ref q_41, .int 0]))]) hD hS hA [0] rfl
  refine va_calli (va_runV (As := [.int p1]) (rest := []) ⟨hx, hb, hml, hown, hts⟩ (m_isGame l dC dI h0 p1 q_1 q_3 q_5 q_7 aY aT q_9 q_11 q_13 q_15 q_17 q_19 q_21 q_23 q_25 q_27 q_29 q_31 q_33 q_35 q_37 q_39 q_41 H.size) (cwV 1 hts g_t_X12_run_7_m_isGame rfl rfl rfl (by decide +kernel) ⟨Nat.le_of_ble_eq_true rfl, Nat.le_of_ble_eq_true rfl⟩) ⟨fun a U g mk q => by obtain ⟨q0, q1, qP, qK, qD⟩ := q; exact ⟨q0, q1, qP, va_K.moved (u := U) (U := U.calling g mk a) (Vm.Alike.refl U.vm) qK, qD⟩, va_recv hK hP (ci := 12) (q0 := 0) rfl rfl, fun U hU hW => ⟨rfl, by rw [hU], by rw [hU]; exact hPc, va_K.moved hW.alike hKc, hDc.weaken (fun _ _ _ _ => trivial)⟩⟩ rfl rfl hl.1 rfl (lv_room (Nat.le_of_ble_eq_true rfl)) dX12_run_7 ⟨Nat.le_of_ble_eq_true rfl, Nat.le_of_ble_eq_true rfl⟩) hS (fun q _ h => hFc q h) hFc (fun r_1 u t H1 locs ht hvm hw hB hz1 hk1 hS => ?_)
  obtain ⟨hP1, hK1, hD1⟩ := hB
  rw [ht] at hP1
  have hK1 := va_K.moved hvm.symm hK1
  try dsimp only at hw
  obtain ⟨hP, hD⟩ := va_join (wr := []) (w1 := [(h0, .inr (12, [.int 0, .ref q_1, .ref q_3, .ref q_5, .ref q_7, .ref q_1, .int 0, .int 0, .int 0, .int 0, .int 0, .int 0, .int 0, .int 0, .int 0, .ref aY, .ref aT, .int 0, .ref q_9, .ref q_11, .ref q_13, .ref q_15, .ref q_17, .int 0, .int 0, .int 0, .int 0, .int 0, .int 0, .int 0, .int 0, .int 0, .ref q_19, .ref q_21, .int (-1), .int 0, .ref q_23, .ref q_25, .ref q_27, .int 0, .long 0, .ref q_29, .int 0, .int 0, .ref q_31, .ref q_33, .ref q_35, .int 0, .ref q_37, .ref q_39, .int 0, .ref q_41, .int 0]))]) hP hD [0] [] rfl rfl (by decide) (by decide) hk1 hFc hP1 hD1
  have hK := hK.app hK1
  generalize H1 = H at hP hS ⊢
  have hP : va_P (dC, dI) vwCl [(h0, .inr (12, [.int 0, .ref q_1, .ref q_3, .ref q_5, .ref q_7, .ref q_1, .int 0, .int 0, .int 0, .int 0, .int 0, .int 0, .int 0, .int 0, .int 0, .ref aY, .ref aT, .int 0, .ref q_9, .ref q_11, .ref q_13, .ref q_15, .ref q_17, .int 0, .int 0, .int 0, .int 0, .int 0, .int 0, .int 0, .int 0, .int 0, .ref q_19, .ref q_21, .int (-1), .int 0, .ref q_23, .ref q_25, .ref q_27, .int 0, .long 0, .ref q_29, .int 0, .int 0, .ref q_31, .ref q_33, .ref q_35, .int 0, .ref q_37, .ref q_39, .int 0, .ref q_41, .int 0]))] H := hP
  have hD : va_D A [(h0, .inr (12, [.int 0, .ref q_1, .ref q_3, .ref q_5, .ref q_7, .ref q_1, .int 0, .int 0, .int 0, .int 0, .int 0, .int 0, .int 0, .int 0, .int 0, .ref aY, .ref aT, .int 0, .ref q_9, .ref q_11, .ref q_13, .ref q_15, .ref q_17, .int 0, .int 0, .int 0, .int 0, .int 0, .int 0, .int 0, .int 0, .int 0, .ref q_19, .ref q_21, .int (-1), .int 0, .ref q_23, .ref q_25, .ref q_27, .int 0, .long 0, .ref q_29, .int 0, .int 0, .ref q_31, .ref q_33, .ref q_35, .int 0, .ref q_37, .ref q_39, .int 0, .ref q_41, .int 0]))] := hD
  have hK : va_K (dC, dI) vwCl [] s := hK
  refine W.widen (k := 0) (n := 0) (Nat.le_of_ble_eq_true rfl) (Nat.le_of_ble_eq_true rfl) ?_
  obtain rfl : r_1 = 0 := hw
  refine lv_if_eq (tgt := 20) hx hb dX12_run_10 (by decide) (fun c_2 => ?_) (fun c_2 => absurd (by decide +kernel) c_2)
  refine lv_ldcw hx hb hown (hts (.constant RX12 439 (-1000000)) (List.mem_of_getElem? (i := 8) rfl)) dX12_run_20 ?_
  refine W.widen (k := 0) (n := 0) (Nat.le_of_ble_eq_true rfl) (Nat.le_of_ble_eq_true rfl) ?_
  exact W.iret (v := (-1000000)) hx hb hr (fun t ht hW => ⟨⟨(-1000000), (), rfl, rfl, trivial⟩, hS.F ht⟩) hS.2.2 dX12_run_23

def w_t_X12_sumOf : List Cond := .code yX12_sumOf cX12_sumOf 2 (some .int) :: ([.fieldLink RX12 94 "LawnAheadModel" "thrown" "I", .fieldLink RX12 302 "LawnAheadModel" "cells" "I", .constant RX12 439 (-1000000)] ++ (wsX120 ++ []))
theorem in_t_X12_sumOf_X12 : ∀ w ∈ wsX120, w ∈ w_t_X12_sumOf := fun w h => List.mem_cons_of_mem _ (List.mem_append_right _ (List.mem_append_left _ h))
set_option maxHeartbeats 8000000 in
set_option maxRecDepth 100000 in
theorem t_X12_sumOf (l : Launch) (dC : Nat → ClassId) (dI : Nat → Nat → Nat) (h0 : Nat) (p1 : Int32) (q_1 : Nat) (q_3 : Nat) (q_5 : Nat) (q_7 : Nat) (aY : Nat) (aT : Nat) (q_9 : Nat) (q_11 : Nat) (q_13 : Nat) (q_15 : Nat) (q_17 : Nat) (q_19 : Nat) (q_21 : Nat) (q_23 : Nat) (q_25 : Nat) (q_27 : Nat) (q_29 : Nat) (q_31 : Nat) (q_33 : Nat) (q_35 : Nat) (q_37 : Nat) (q_39 : Nat) (q_41 : Nat) (sz : Nat) : Met l yX12_sumOf w_t_X12_sumOf ({ frames := 0, cells := 0, slots := 0, locals := 0 }) (va_Pc [.ref h0, .int p1] (fun U => U.heap.size = sz ∧ va_P (dC, dI) vwCl [(h0, .inr (12, [.int 0, .ref q_1, .ref q_3, .ref q_5, .ref q_7, .ref q_1, .int 0, .int 0, .int 0, .int 0, .int 0, .int 0, .int 0, .int 0, .int 0, .ref aY, .ref aT, .int 0, .ref q_9, .ref q_11, .ref q_13, .ref q_15, .ref q_17, .int 0, .int 0, .int 0, .int 0, .int 0, .int 0, .int 0, .int 0, .int 0, .ref q_19, .ref q_21, .int (-1), .int 0, .ref q_23, .ref q_25, .ref q_27, .int 0, .long 0, .ref q_29, .int 0, .int 0, .ref q_31, .ref q_33, .ref q_35, .int 0, .ref q_37, .ref q_39, .int 0, .ref q_41, .int 0]))] U.heap ∧ va_K (dC, dI) vwCl [] U ∧ va_D (fun _ => True) [(h0, .inr (12, [.int 0, .ref q_1, .ref q_3, .ref q_5, .ref q_7, .ref q_1, .int 0, .int 0, .int 0, .int 0, .int 0, .int 0, .int 0, .int 0, .int 0, .ref aY, .ref aT, .int 0, .ref q_9, .ref q_11, .ref q_13, .ref q_15, .ref q_17, .int 0, .int 0, .int 0, .int 0, .int 0, .int 0, .int 0, .int 0, .int 0, .ref q_19, .ref q_21, .int (-1), .int 0, .ref q_23, .ref q_25, .ref q_27, .int 0, .long 0, .ref q_29, .int 0, .int 0, .ref q_31, .ref q_33, .ref q_35, .int 0, .ref q_37, .ref q_39, .int 0, .ref q_41, .int 0]))])) (va_Qi (fun (r : Int32) (_ : Unit) => r = (-1000000)) (fun _ _ => True) (va_A [(h0, .inr (12, [.int 0, .ref q_1, .ref q_3, .ref q_5, .ref q_7, .ref q_1, .int 0, .int 0, .int 0, .int 0, .int 0, .int 0, .int 0, .int 0, .int 0, .ref aY, .ref aT, .int 0, .ref q_9, .ref q_11, .ref q_13, .ref q_15, .ref q_17, .int 0, .int 0, .int 0, .int 0, .int 0, .int 0, .int 0, .int 0, .int 0, .ref q_19, .ref q_21, .int (-1), .int 0, .ref q_23, .ref q_25, .ref q_27, .int 0, .long 0, .ref q_29, .int 0, .int 0, .ref q_31, .ref q_33, .ref q_35, .int 0, .ref q_37, .ref q_39, .int 0, .ref q_41, .int 0]))] sz)) 0 0 (va_A [(h0, .inr (12, [.int 0, .ref q_1, .ref q_3, .ref q_5, .ref q_7, .ref q_1, .int 0, .int 0, .int 0, .int 0, .int 0, .int 0, .int 0, .int 0, .int 0, .ref aY, .ref aT, .int 0, .ref q_9, .ref q_11, .ref q_13, .ref q_15, .ref q_17, .int 0, .int 0, .int 0, .int 0, .int 0, .int 0, .int 0, .int 0, .int 0, .ref q_19, .ref q_21, .int (-1), .int 0, .ref q_23, .ref q_25, .ref q_27, .int 0, .long 0, .ref q_29, .int 0, .int 0, .ref q_31, .ref q_33, .ref q_35, .int 0, .ref q_37, .ref q_39, .int 0, .ref q_41, .int 0]))] sz) := by
  refine Met.ofW (cc := cX12_sumOf) (maxL := 2) (ret := (some .int)) (by decide) rfl ?_
  intro p e s m args below meth c s₁ B hml hv
  obtain ⟨rfl, hsz, hP, hK, hD0⟩ := hv
  have hx := B.exec
  have hb := B.bytes
  have hr := B.returns
  have hts := atoms_spec (ws := w_t_X12_sumOf) B.pre
  have hown : s.vm.findClass RX12 = some m.cls := findClass_of_methodNamed B.named
  have hlocks := B.notSynchronized
  subst hsz
  have hD := hD0.self (sz := s.heap.size)
  generalize hAe : va_A [(h0, .inr (12, [.int 0, .ref q_1, .ref q_3, .ref q_5, .ref q_7, .ref q_1, .int 0, .int 0, .int 0, .int 0, .int 0, .int 0, .int 0, .int 0, .int 0, .ref aY, .ref aT, .int 0, .ref q_9, .ref q_11, .ref q_13, .ref q_15, .ref q_17, .int 0, .int 0, .int 0, .int 0, .int 0, .int 0, .int 0, .int 0, .int 0, .ref q_19, .ref q_21, .int (-1), .int 0, .ref q_23, .ref q_25, .ref q_27, .int 0, .long 0, .ref q_29, .int 0, .int 0, .ref q_31, .ref q_33, .ref q_35, .int 0, .ref q_37, .ref q_39, .int 0, .ref q_41, .int 0]))] s.heap.size = A at hD ⊢
  have hA : ∀ q : Nat, s.heap.size ≤ q → A q := fun q h => by rw [← hAe]; exact Or.inr h
  have hS : va_S A s.heap s.heap [] := va_S.rf
  have hP : va_P (dC, dI) vwCl [(h0, .inr (12, [.int 0, .ref q_1, .ref q_3, .ref q_5, .ref q_7, .ref q_1, .int 0, .int 0, .int 0, .int 0, .int 0, .int 0, .int 0, .int 0, .int 0, .ref aY, .ref aT, .int 0, .ref q_9, .ref q_11, .ref q_13, .ref q_15, .ref q_17, .int 0, .int 0, .int 0, .int 0, .int 0, .int 0, .int 0, .int 0, .int 0, .ref q_19, .ref q_21, .int (-1), .int 0, .ref q_23, .ref q_25, .ref q_27, .int 0, .long 0, .ref q_29, .int 0, .int 0, .ref q_31, .ref q_33, .ref q_35, .int 0, .ref q_37, .ref q_39, .int 0, .ref q_41, .int 0]))] s.heap := hP
  have hl := lv_entry ([.ref h0, .int p1]) (n := 2) (Nat.le_of_ble_eq_true rfl)
  rw [lg_entry_eq]
  generalize (lg_sl ([.ref h0, .int p1]) ++ List.replicate (2 - (lg_sl ([.ref h0, .int p1])).length) Slot.unset).toArray = ls at hl ⊢
  have hl : lv_has ls 2 [(0, .ref h0), (1, .int p1)] := hl
  refine lv_aload_n hx hb dX12_sumOf_0 rfl (lv_at hl 0 rfl) ?_
  refine lv_iconst (v := 0) hx hb dX12_sumOf_1 (by decide +kernel) ?_
  refine va_put (D := (dC, dI)) (ci := 12) (v := .int 0) (ty := .int) (C := RX12) (T := TX12) (N := 53) hx hb hts in_t_X12_sumOf_X12 tyX12 tyX12_ok nmX12 hown hK hP hD hS 0 rfl rfl 0 (by decide) (hts (.fieldLink RX12 94 "LawnAheadModel" "thrown" "I") (List.mem_of_getElem? (i := 1) rfl)) (fun _ h9 => h9) rfl (by decide +kernel) rfl rfl (Nat.le_of_ble_eq_true rfl) dX12_sumOf_2 (fun H locs hP hD hS => ?_)
  have hP : va_P (dC, dI) vwCl [(h0, .inr (12, [.int 0, .ref q_1, .ref q_3, .ref q_5, .ref q_7, .ref q_1, .int 0, .int 0, .int 0, .int 0, .int 0, .int 0, .int 0, .int 0, .int 0, .ref aY, .ref aT, .int 0, .ref q_9, .ref q_11, .ref q_13, .ref q_15, .ref q_17, .int 0, .int 0, .int 0, .int 0, .int 0, .int 0, .int 0, .int 0, .int 0, .ref q_19, .ref q_21, .int (-1), .int 0, .ref q_23, .ref q_25, .ref q_27, .int 0, .long 0, .ref q_29, .int 0, .int 0, .ref q_31, .ref q_33, .ref q_35, .int 0, .ref q_37, .ref q_39, .int 0, .ref q_41, .int 0]))] H := hP
  have hD : va_D A [(h0, .inr (12, [.int 0, .ref q_1, .ref q_3, .ref q_5, .ref q_7, .ref q_1, .int 0, .int 0, .int 0, .int 0, .int 0, .int 0, .int 0, .int 0, .int 0, .ref aY, .ref aT, .int 0, .ref q_9, .ref q_11, .ref q_13, .ref q_15, .ref q_17, .int 0, .int 0, .int 0, .int 0, .int 0, .int 0, .int 0, .int 0, .int 0, .ref q_19, .ref q_21, .int (-1), .int 0, .ref q_23, .ref q_25, .ref q_27, .int 0, .long 0, .ref q_29, .int 0, .int 0, .ref q_31, .ref q_33, .ref q_35, .int 0, .ref q_37, .ref q_39, .int 0, .ref q_41, .int 0]))] := hD
  refine lv_aload_n hx hb dX12_sumOf_5 rfl (lv_at hl 0 rfl) ?_
  refine va_get (D := (dC, dI)) (ci := 12) (v := .int 0) (C := RX12) (T := TX12) (N := 53) hx hb hts in_t_X12_sumOf_X12 hown hK hP 0 rfl rfl 23 (by decide) (hts (.fieldLink RX12 302 "LawnAheadModel" "cells" "I") (List.mem_of_getElem? (i := 2) rfl)) (fun _ h9 => h9) rfl dX12_sumOf_6 ?_
  refine lv_if_eq (tgt := 38) hx hb dX12_sumOf_9 (by decide) (fun c_1 => ?_) (fun c_1 => absurd (by decide +kernel) c_1)
  refine lv_ldcw hx hb hown (hts (.constant RX12 439 (-1000000)) (List.mem_of_getElem? (i := 3) rfl)) dX12_sumOf_38 ?_
  refine W.widen (k := 0) (n := 0) (Nat.le_of_ble_eq_true rfl) (Nat.le_of_ble_eq_true rfl) ?_
  exact W.iret (v := (-1000000)) hx hb hr (fun t ht hW => ⟨⟨(-1000000), (), rfl, rfl, trivial⟩, hS.F ht⟩) hS.2.2 dX12_sumOf_41

def w_t_X12_count : List Cond := .code yX12_count cX12_count 2 (some .int) :: ([.fieldLink RX12 94 "LawnAheadModel" "thrown" "I", .fieldLink RX12 302 "LawnAheadModel" "cells" "I", .fieldLink RX12 52 "LawnAheadModel" "now" "[I", .constant RJ6 265 (1431655765), .constant RJ6 266 (858993459), .constant RJ6 267 (252645135), .code yJ6_bitCount_0f7a4 cJ6_bitCount_0f7a4 1 (some .int), .methodLink RX12 333 yJ6_bitCount_0f7a4, .static yJ6_bitCount_0f7a4, .initialized RJ6, .fieldLink RX12 294 "LawnAheadModel" "lawMany" "I", .fieldLink RX12 297 "LawnAheadModel" "games" "I", .fieldLink RX12 107 "LawnAheadModel" "length" "I", .fieldLink RX12 58 "LawnAheadModel" "law" "I", .fieldLink RX12 360 "LawnAheadModel" "drought" "I", .fieldLink RX12 308 "LawnAheadModel" "books" "I", .fieldLink RX12 311 "LawnAheadModel" "acts" "I", .constant RX12 439 (-1000000)] ++ (wsX120 ++ []))
theorem in_t_X12_count_X12 : ∀ w ∈ wsX120, w ∈ w_t_X12_count := fun w h => List.mem_cons_of_mem _ (List.mem_append_right _ (List.mem_append_left _ h))
set_option maxRecDepth 100000 in
theorem g_t_X12_count_95_c_bitCount : GoodIn w_t_X12_count (([.methodLink RX12 333 yJ6_bitCount_0f7a4, .static yJ6_bitCount_0f7a4, .initialized RJ6] : List Cond) ++ w_c_bitCount) := goodIn_r _ [8, 9, 10, 7, 4, 5, 6] rfl (by decide +kernel)
set_option maxHeartbeats 8000000 in
set_option maxRecDepth 100000 in
theorem t_X12_count (l : Launch) (dC : Nat → ClassId) (dI : Nat → Nat → Nat) (h0 : Nat) (p1 : Int32) (q_1 : Nat) (q_3 : Nat) (q_5 : Nat) (q_7 : Nat) (aY : Nat) (aT : Nat) (q_9 : Nat) (q_11 : Nat) (q_13 : Nat) (q_15 : Nat) (q_17 : Nat) (q_19 : Nat) (q_21 : Nat) (q_23 : Nat) (q_25 : Nat) (q_27 : Nat) (q_29 : Nat) (q_31 : Nat) (q_33 : Nat) (q_35 : Nat) (q_37 : Nat) (q_39 : Nat) (q_41 : Nat) (cy_20 : ClassId) (sz : Nat) : Met l yX12_count w_t_X12_count ({ frames := 1, cells := 0, slots := 0, locals := 20 }) (va_Pc [.ref h0, .int p1] (fun U => U.heap.size = sz ∧ va_P (dC, dI) vwCl [(h0, .inr (12, [.int 0, .ref q_1, .ref q_3, .ref q_5, .ref q_7, .ref q_1, .int 0, .int 0, .int 0, .int 0, .int 0, .int 0, .int 0, .int 0, .int 0, .ref aY, .ref aT, .int 0, .ref q_9, .ref q_11, .ref q_13, .ref q_15, .ref q_17, .int 0, .int 0, .int 0, .int 0, .int 0, .int 0, .int 0, .int 0, .int 0, .ref q_19, .ref q_21, .int (-1), .int 0, .ref q_23, .ref q_25, .ref q_27, .int 0, .long 0, .ref q_29, .int 0, .int 0, .ref q_31, .ref q_33, .ref q_35, .int 0, .ref q_37, .ref q_39, .int 0, .ref q_41, .int 0])), (q_19, .inl (cy_20, 249, .inl (fun _ => 0)))] U.heap ∧ va_K (dC, dI) vwCl [(cy_20, .int)] U ∧ va_D (fun _ => True) [(h0, .inr (12, [.int 0, .ref q_1, .ref q_3, .ref q_5, .ref q_7, .ref q_1, .int 0, .int 0, .int 0, .int 0, .int 0, .int 0, .int 0, .int 0, .int 0, .ref aY, .ref aT, .int 0, .ref q_9, .ref q_11, .ref q_13, .ref q_15, .ref q_17, .int 0, .int 0, .int 0, .int 0, .int 0, .int 0, .int 0, .int 0, .int 0, .ref q_19, .ref q_21, .int (-1), .int 0, .ref q_23, .ref q_25, .ref q_27, .int 0, .long 0, .ref q_29, .int 0, .int 0, .ref q_31, .ref q_33, .ref q_35, .int 0, .ref q_37, .ref q_39, .int 0, .ref q_41, .int 0])), (q_19, .inl (cy_20, 249, .inl (fun _ => 0)))])) (va_Qi (fun (r : Int32) (_ : Unit) => r = F_count p1) (fun _ _ => True) (va_A [(h0, .inr (12, [.int 0, .ref q_1, .ref q_3, .ref q_5, .ref q_7, .ref q_1, .int 0, .int 0, .int 0, .int 0, .int 0, .int 0, .int 0, .int 0, .int 0, .ref aY, .ref aT, .int 0, .ref q_9, .ref q_11, .ref q_13, .ref q_15, .ref q_17, .int 0, .int 0, .int 0, .int 0, .int 0, .int 0, .int 0, .int 0, .int 0, .ref q_19, .ref q_21, .int (-1), .int 0, .ref q_23, .ref q_25, .ref q_27, .int 0, .long 0, .ref q_29, .int 0, .int 0, .ref q_31, .ref q_33, .ref q_35, .int 0, .ref q_37, .ref q_39, .int 0, .ref q_41, .int 0])), (q_19, .inl (cy_20, 249, .inl (fun _ => 0)))] sz)) 0 0 (va_A [(h0, .inr (12, [.int 0, .ref q_1, .ref q_3, .ref q_5, .ref q_7, .ref q_1, .int 0, .int 0, .int 0, .int 0, .int 0, .int 0, .int 0, .int 0, .int 0, .ref aY, .ref aT, .int 0, .ref q_9, .ref q_11, .ref q_13, .ref q_15, .ref q_17, .int 0, .int 0, .int 0, .int 0, .int 0, .int 0, .int 0, .int 0, .int 0, .ref q_19, .ref q_21, .int (-1), .int 0, .ref q_23, .ref q_25, .ref q_27, .int 0, .long 0, .ref q_29, .int 0, .int 0, .ref q_31, .ref q_33, .ref q_35, .int 0, .ref q_37, .ref q_39, .int 0, .ref q_41, .int 0])), (q_19, .inl (cy_20, 249, .inl (fun _ => 0)))] sz) := by
  refine Met.ofW (cc := cX12_count) (maxL := 2) (ret := (some .int)) (by decide) rfl ?_
  intro p e s m args below meth c s₁ B hml hv
  obtain ⟨rfl, hsz, hP, hK, hD0⟩ := hv
  have hx := B.exec
  have hb := B.bytes
  have hr := B.returns
  have hts := atoms_spec (ws := w_t_X12_count) B.pre
  have hown : s.vm.findClass RX12 = some m.cls := findClass_of_methodNamed B.named
  have hlocks := B.notSynchronized
  subst hsz
  have hD := hD0.self (sz := s.heap.size)
  generalize hAe : va_A [(h0, .inr (12, [.int 0, .ref q_1, .ref q_3, .ref q_5, .ref q_7, .ref q_1, .int 0, .int 0, .int 0, .int 0, .int 0, .int 0, .int 0, .int 0, .int 0, .ref aY, .ref aT, .int 0, .ref q_9, .ref q_11, .ref q_13, .ref q_15, .ref q_17, .int 0, .int 0, .int 0, .int 0, .int 0, .int 0, .int 0, .int 0, .int 0, .ref q_19, .ref q_21, .int (-1), .int 0, .ref q_23, .ref q_25, .ref q_27, .int 0, .long 0, .ref q_29, .int 0, .int 0, .ref q_31, .ref q_33, .ref q_35, .int 0, .ref q_37, .ref q_39, .int 0, .ref q_41, .int 0])), (q_19, .inl (cy_20, 249, .inl (fun _ => 0)))] s.heap.size = A at hD ⊢
  have hA : ∀ q : Nat, s.heap.size ≤ q → A q := fun q h => by rw [← hAe]; exact Or.inr h
  have hS : va_S A s.heap s.heap [] := va_S.rf
  have hP : va_P (dC, dI) vwCl [(h0, .inr (12, [.int 0, .ref q_1, .ref q_3, .ref q_5, .ref q_7, .ref q_1, .int 0, .int 0, .int 0, .int 0, .int 0, .int 0, .int 0, .int 0, .int 0, .ref aY, .ref aT, .int 0, .ref q_9, .ref q_11, .ref q_13, .ref q_15, .ref q_17, .int 0, .int 0, .int 0, .int 0, .int 0, .int 0, .int 0, .int 0, .int 0, .ref q_19, .ref q_21, .int (-1), .int 0, .ref q_23, .ref q_25, .ref q_27, .int 0, .long 0, .ref q_29, .int 0, .int 0, .ref q_31, .ref q_33, .ref q_35, .int 0, .ref q_37, .ref q_39, .int 0, .ref q_41, .int 0])), (q_19, .inl (cy_20, 249, .inl (fun _ => 0)))] s.heap := hP
  have hl := lv_entry ([.ref h0, .int p1]) (n := 2) (Nat.le_of_ble_eq_true rfl)
  rw [lg_entry_eq]
  generalize (lg_sl ([.ref h0, .int p1]) ++ List.replicate (2 - (lg_sl ([.ref h0, .int p1])).length) Slot.unset).toArray = ls at hl ⊢
  have hl : lv_has ls 2 [(0, .ref h0), (1, .int p1)] := hl
  refine lv_aload_n hx hb dX12_count_0 rfl (lv_at hl 0 rfl) ?_
  refine lv_iconst (v := 0) hx hb dX12_count_1 (by decide +kernel) ?_
  refine va_put (D := (dC, dI)) (ci := 12) (v := .int 0) (ty := .int) (C := RX12) (T := TX12) (N := 53) hx hb hts in_t_X12_count_X12 tyX12 tyX12_ok nmX12 hown hK hP hD hS 0 rfl rfl 0 (by decide) (hts (.fieldLink RX12 94 "LawnAheadModel" "thrown" "I") (List.mem_of_getElem? (i := 1) rfl)) (fun _ h9 => h9) rfl (by decide +kernel) rfl rfl (Nat.le_of_ble_eq_true rfl) dX12_count_2 (fun H locs hP hD hS => ?_)
  have hP : va_P (dC, dI) vwCl [(h0, .inr (12, [.int 0, .ref q_1, .ref q_3, .ref q_5, .ref q_7, .ref q_1, .int 0, .int 0, .int 0, .int 0, .int 0, .int 0, .int 0, .int 0, .int 0, .ref aY, .ref aT, .int 0, .ref q_9, .ref q_11, .ref q_13, .ref q_15, .ref q_17, .int 0, .int 0, .int 0, .int 0, .int 0, .int 0, .int 0, .int 0, .int 0, .ref q_19, .ref q_21, .int (-1), .int 0, .ref q_23, .ref q_25, .ref q_27, .int 0, .long 0, .ref q_29, .int 0, .int 0, .ref q_31, .ref q_33, .ref q_35, .int 0, .ref q_37, .ref q_39, .int 0, .ref q_41, .int 0])), (q_19, .inl (cy_20, 249, .inl (fun _ => 0)))] H := hP
  have hD : va_D A [(h0, .inr (12, [.int 0, .ref q_1, .ref q_3, .ref q_5, .ref q_7, .ref q_1, .int 0, .int 0, .int 0, .int 0, .int 0, .int 0, .int 0, .int 0, .int 0, .ref aY, .ref aT, .int 0, .ref q_9, .ref q_11, .ref q_13, .ref q_15, .ref q_17, .int 0, .int 0, .int 0, .int 0, .int 0, .int 0, .int 0, .int 0, .int 0, .ref q_19, .ref q_21, .int (-1), .int 0, .ref q_23, .ref q_25, .ref q_27, .int 0, .long 0, .ref q_29, .int 0, .int 0, .ref q_31, .ref q_33, .ref q_35, .int 0, .ref q_37, .ref q_39, .int 0, .ref q_41, .int 0])), (q_19, .inl (cy_20, 249, .inl (fun _ => 0)))] := hD
  refine lv_iload_n hx hb dX12_count_5 rfl (lv_at hl 1 rfl) ?_
  by_cases e_1 : p1 = 0
  · subst e_1
    refine lv_tableIn (tgt := 84) (off := 78) hx hb dX12_count_6 (by decide +kernel) (by decide +kernel) rfl (by decide) ?_
    refine lv_aload_n hx hb dX12_count_84 rfl (lv_at hl 0 rfl) ?_
    refine va_get (D := (dC, dI)) (ci := 12) (v := .int 0) (C := RX12) (T := TX12) (N := 53) hx hb hts in_t_X12_count_X12 hown hK hP 0 rfl rfl 23 (by decide) (hts (.fieldLink RX12 302 "LawnAheadModel" "cells" "I") (List.mem_of_getElem? (i := 2) rfl)) (fun _ h9 => h9) rfl dX12_count_85 ?_
    refine W.widen (k := 0) (n := 0) (Nat.le_of_ble_eq_true rfl) (Nat.le_of_ble_eq_true rfl) ?_
    exact W.iret (v := 0) hx hb hr (fun t ht hW => ⟨⟨0, (), rfl, by decide +kernel, trivial⟩, hS.F ht⟩) hS.2.2 dX12_count_88
  by_cases e_2 : p1 = 1
  · subst e_2
    refine lv_tableIn (tgt := 89) (off := 83) hx hb dX12_count_6 (by decide +kernel) (by decide +kernel) rfl (by decide) ?_
    refine lv_aload_n hx hb dX12_count_89 rfl (lv_at hl 0 rfl) ?_
    refine va_get (D := (dC, dI)) (ci := 12) (v := .ref q_19) (C := RX12) (T := TX12) (N := 53) hx hb hts in_t_X12_count_X12 hown hK hP 0 rfl rfl 32 (by decide) (hts (.fieldLink RX12 52 "LawnAheadModel" "now" "[I") (List.mem_of_getElem? (i := 3) rfl)) (fun _ h9 => h9) rfl dX12_count_90 ?_
    refine lv_iconst (v := 0) hx hb dX12_count_93 (by decide +kernel) ?_
    refine va_iald (D := (dC, dI)) (i := 0) hx hb hK hP 1 0 rfl rfl (show ¬ ((0 : Int32) < 0 ∨ 249 ≤ (0 : Int32).toNatClampNeg) by decide +kernel) dX12_count_94 ?_
    refine W.eq (g2 := F0 m 95 ls [.int 0]) rfl ?_
    have hPc := hP.sub (ws' := []) [] rfl
    have hDc := hD.sub (ws' := []) [] (by decide) rfl
    have hKc := hK.sub (tys' := []) [] rfl
    have hFc := va_free (wc := []) hD hS hA [] rfl
    refine va_calli (va_runS (As := [.int 0]) (rest := []) ⟨hx, hb, hml, hown, hts⟩ (c_bitCount l dC dI  H.size) (va_cwS 1 hts g_t_X12_count_95_c_bitCount rfl rfl rfl (by decide +kernel) ⟨Nat.le_of_ble_eq_true rfl, Nat.le_of_ble_eq_true rfl⟩) ⟨fun a U g mk q => by obtain ⟨q0, q1, qP, qK, qD⟩ := q; exact ⟨q0, q1, qP, va_K.moved (u := U) (U := U.calling g mk a) (Vm.Alike.refl U.vm) qK, qD⟩, fun U hU hW => ⟨rfl, by rw [hU], by rw [hU]; exact hPc, va_K.moved hW.alike hKc, hDc.weaken (fun _ _ _ _ => trivial)⟩⟩ rfl rfl hl.1 rfl (lv_room (Nat.le_of_ble_eq_true rfl)) dX12_count_95 ⟨Nat.le_of_ble_eq_true rfl, Nat.le_of_ble_eq_true rfl⟩) hS (fun q _ h => hFc q h) hFc (fun r_3 u t H1 locs ht hvm hw hB hz1 hk1 hS => ?_)
    obtain ⟨hP1, hK1, hD1⟩ := hB
    rw [ht] at hP1
    have hK1 := va_K.moved hvm.symm hK1
    try dsimp only at hw
    obtain ⟨hP, hD⟩ := va_join (wr := [(h0, .inr (12, [.int 0, .ref q_1, .ref q_3, .ref q_5, .ref q_7, .ref q_1, .int 0, .int 0, .int 0, .int 0, .int 0, .int 0, .int 0, .int 0, .int 0, .ref aY, .ref aT, .int 0, .ref q_9, .ref q_11, .ref q_13, .ref q_15, .ref q_17, .int 0, .int 0, .int 0, .int 0, .int 0, .int 0, .int 0, .int 0, .int 0, .ref q_19, .ref q_21, .int (-1), .int 0, .ref q_23, .ref q_25, .ref q_27, .int 0, .long 0, .ref q_29, .int 0, .int 0, .ref q_31, .ref q_33, .ref q_35, .int 0, .ref q_37, .ref q_39, .int 0, .ref q_41, .int 0])), (q_19, .inl (cy_20, 249, .inl (fun _ => 0)))]) (w1 := []) hP hD [] [0, 1] rfl rfl (by decide) (by decide) hk1 hFc hP1 hD1
    have hK := hK.app hK1
    generalize H1 = H at hP hS ⊢
    have hP : va_P (dC, dI) vwCl [(h0, .inr (12, [.int 0, .ref q_1, .ref q_3, .ref q_5, .ref q_7, .ref q_1, .int 0, .int 0, .int 0, .int 0, .int 0, .int 0, .int 0, .int 0, .int 0, .ref aY, .ref aT, .int 0, .ref q_9, .ref q_11, .ref q_13, .ref q_15, .ref q_17, .int 0, .int 0, .int 0, .int 0, .int 0, .int 0, .int 0, .int 0, .int 0, .ref q_19, .ref q_21, .int (-1), .int 0, .ref q_23, .ref q_25, .ref q_27, .int 0, .long 0, .ref q_29, .int 0, .int 0, .ref q_31, .ref q_33, .ref q_35, .int 0, .ref q_37, .ref q_39, .int 0, .ref q_41, .int 0])), (q_19, .inl (cy_20, 249, .inl (fun _ => 0)))] H := hP
    have hD : va_D A [(h0, .inr (12, [.int 0, .ref q_1, .ref q_3, .ref q_5, .ref q_7, .ref q_1, .int 0, .int 0, .int 0, .int 0, .int 0, .int 0, .int 0, .int 0, .int 0, .ref aY, .ref aT, .int 0, .ref q_9, .ref q_11, .ref q_13, .ref q_15, .ref q_17, .int 0, .int 0, .int 0, .int 0, .int 0, .int 0, .int 0, .int 0, .int 0, .ref q_19, .ref q_21, .int (-1), .int 0, .ref q_23, .ref q_25, .ref q_27, .int 0, .long 0, .ref q_29, .int 0, .int 0, .ref q_31, .ref q_33, .ref q_35, .int 0, .ref q_37, .ref q_39, .int 0, .ref q_41, .int 0])), (q_19, .inl (cy_20, 249, .inl (fun _ => 0)))] := hD
    have hK : va_K (dC, dI) vwCl [(cy_20, .int)] s := hK
    refine W.widen (k := 0) (n := 0) (Nat.le_of_ble_eq_true rfl) (Nat.le_of_ble_eq_true rfl) ?_
    obtain rfl : r_3 = 0 := hw
    refine W.widen (k := 0) (n := 0) (Nat.le_of_ble_eq_true rfl) (Nat.le_of_ble_eq_true rfl) ?_
    exact W.iret (v := 0) hx hb hr (fun t ht hW => ⟨⟨0, (), rfl, by decide +kernel, trivial⟩, hS.F ht⟩) hS.2.2 dX12_count_98
  by_cases e_4 : p1 = 2
  · subst e_4
    refine lv_tableIn (tgt := 99) (off := 93) hx hb dX12_count_6 (by decide +kernel) (by decide +kernel) rfl (by decide) ?_
    refine lv_aload_n hx hb dX12_count_99 rfl (lv_at hl 0 rfl) ?_
    refine va_get (D := (dC, dI)) (ci := 12) (v := .int 0) (C := RX12) (T := TX12) (N := 53) hx hb hts in_t_X12_count_X12 hown hK hP 0 rfl rfl 7 (by decide) (hts (.fieldLink RX12 294 "LawnAheadModel" "lawMany" "I") (List.mem_of_getElem? (i := 11) rfl)) (fun _ h9 => h9) rfl dX12_count_100 ?_
    refine W.widen (k := 0) (n := 0) (Nat.le_of_ble_eq_true rfl) (Nat.le_of_ble_eq_true rfl) ?_
    exact W.iret (v := 0) hx hb hr (fun t ht hW => ⟨⟨0, (), rfl, by decide +kernel, trivial⟩, hS.F ht⟩) hS.2.2 dX12_count_103
  by_cases e_5 : p1 = 3
  · subst e_5
    refine lv_tableIn (tgt := 104) (off := 98) hx hb dX12_count_6 (by decide +kernel) (by decide +kernel) rfl (by decide) ?_
    refine lv_aload_n hx hb dX12_count_104 rfl (lv_at hl 0 rfl) ?_
    refine va_get (D := (dC, dI)) (ci := 12) (v := .int 0) (C := RX12) (T := TX12) (N := 53) hx hb hts in_t_X12_count_X12 hown hK hP 0 rfl rfl 29 (by decide) (hts (.fieldLink RX12 297 "LawnAheadModel" "games" "I") (List.mem_of_getElem? (i := 12) rfl)) (fun _ h9 => h9) rfl dX12_count_105 ?_
    refine W.widen (k := 0) (n := 0) (Nat.le_of_ble_eq_true rfl) (Nat.le_of_ble_eq_true rfl) ?_
    exact W.iret (v := 0) hx hb hr (fun t ht hW => ⟨⟨0, (), rfl, by decide +kernel, trivial⟩, hS.F ht⟩) hS.2.2 dX12_count_108
  by_cases e_6 : p1 = 4
  · subst e_6
    refine lv_tableIn (tgt := 109) (off := 103) hx hb dX12_count_6 (by decide +kernel) (by decide +kernel) rfl (by decide) ?_
    refine lv_aload_n hx hb dX12_count_109 rfl (lv_at hl 0 rfl) ?_
    refine va_get (D := (dC, dI)) (ci := 12) (v := .int 0) (C := RX12) (T := TX12) (N := 53) hx hb hts in_t_X12_count_X12 hown hK hP 0 rfl rfl 6 (by decide) (hts (.fieldLink RX12 107 "LawnAheadModel" "length" "I") (List.mem_of_getElem? (i := 13) rfl)) (fun _ h9 => h9) rfl dX12_count_110 ?_
    refine W.widen (k := 0) (n := 0) (Nat.le_of_ble_eq_true rfl) (Nat.le_of_ble_eq_true rfl) ?_
    exact W.iret (v := 0) hx hb hr (fun t ht hW => ⟨⟨0, (), rfl, by decide +kernel, trivial⟩, hS.F ht⟩) hS.2.2 dX12_count_113
  by_cases e_7 : p1 = 5
  · subst e_7
    refine lv_tableIn (tgt := 114) (off := 108) hx hb dX12_count_6 (by decide +kernel) (by decide +kernel) rfl (by decide) ?_
    refine lv_aload_n hx hb dX12_count_114 rfl (lv_at hl 0 rfl) ?_
    refine va_get (D := (dC, dI)) (ci := 12) (v := .int (-1)) (C := RX12) (T := TX12) (N := 53) hx hb hts in_t_X12_count_X12 hown hK hP 0 rfl rfl 34 (by decide) (hts (.fieldLink RX12 58 "LawnAheadModel" "law" "I") (List.mem_of_getElem? (i := 14) rfl)) (fun _ h9 => h9) rfl dX12_count_115 ?_
    refine W.widen (k := 0) (n := 0) (Nat.le_of_ble_eq_true rfl) (Nat.le_of_ble_eq_true rfl) ?_
    exact W.iret (v := (-1)) hx hb hr (fun t ht hW => ⟨⟨(-1), (), rfl, by decide +kernel, trivial⟩, hS.F ht⟩) hS.2.2 dX12_count_118
  by_cases e_8 : p1 = 6
  · subst e_8
    refine lv_tableIn (tgt := 119) (off := 113) hx hb dX12_count_6 (by decide +kernel) (by decide +kernel) rfl (by decide) ?_
    refine lv_aload_n hx hb dX12_count_119 rfl (lv_at hl 0 rfl) ?_
    refine va_get (D := (dC, dI)) (ci := 12) (v := .ref q_19) (C := RX12) (T := TX12) (N := 53) hx hb hts in_t_X12_count_X12 hown hK hP 0 rfl rfl 32 (by decide) (hts (.fieldLink RX12 52 "LawnAheadModel" "now" "[I") (List.mem_of_getElem? (i := 3) rfl)) (fun _ h9 => h9) rfl dX12_count_120 ?_
    refine lv_iconst (v := 4) hx hb dX12_count_123 (by decide +kernel) ?_
    refine va_iald (D := (dC, dI)) (i := 4) hx hb hK hP 1 0 rfl rfl (show ¬ ((4 : Int32) < 0 ∨ 249 ≤ (4 : Int32).toNatClampNeg) by decide +kernel) dX12_count_124 ?_
    refine W.eq (g2 := F0 m 125 ls [.int 0]) rfl ?_
    refine W.widen (k := 0) (n := 0) (Nat.le_of_ble_eq_true rfl) (Nat.le_of_ble_eq_true rfl) ?_
    exact W.iret (v := 0) hx hb hr (fun t ht hW => ⟨⟨0, (), rfl, by decide +kernel, trivial⟩, hS.F ht⟩) hS.2.2 dX12_count_125
  by_cases e_9 : p1 = 7
  · subst e_9
    refine lv_tableIn (tgt := 126) (off := 120) hx hb dX12_count_6 (by decide +kernel) (by decide +kernel) rfl (by decide) ?_
    refine lv_aload_n hx hb dX12_count_126 rfl (lv_at hl 0 rfl) ?_
    refine va_get (D := (dC, dI)) (ci := 12) (v := .ref q_19) (C := RX12) (T := TX12) (N := 53) hx hb hts in_t_X12_count_X12 hown hK hP 0 rfl rfl 32 (by decide) (hts (.fieldLink RX12 52 "LawnAheadModel" "now" "[I") (List.mem_of_getElem? (i := 3) rfl)) (fun _ h9 => h9) rfl dX12_count_127 ?_
    refine lv_iconst (v := 2) hx hb dX12_count_130 (by decide +kernel) ?_
    refine va_iald (D := (dC, dI)) (i := 2) hx hb hK hP 1 0 rfl rfl (show ¬ ((2 : Int32) < 0 ∨ 249 ≤ (2 : Int32).toNatClampNeg) by decide +kernel) dX12_count_131 ?_
    refine W.eq (g2 := F0 m 132 ls [.int 0]) rfl ?_
    refine W.widen (k := 0) (n := 0) (Nat.le_of_ble_eq_true rfl) (Nat.le_of_ble_eq_true rfl) ?_
    exact W.iret (v := 0) hx hb hr (fun t ht hW => ⟨⟨0, (), rfl, by decide +kernel, trivial⟩, hS.F ht⟩) hS.2.2 dX12_count_132
  by_cases e_10 : p1 = 8
  · subst e_10
    refine lv_tableIn (tgt := 133) (off := 127) hx hb dX12_count_6 (by decide +kernel) (by decide +kernel) rfl (by decide) ?_
    refine lv_aload_n hx hb dX12_count_133 rfl (lv_at hl 0 rfl) ?_
    refine va_get (D := (dC, dI)) (ci := 12) (v := .ref q_19) (C := RX12) (T := TX12) (N := 53) hx hb hts in_t_X12_count_X12 hown hK hP 0 rfl rfl 32 (by decide) (hts (.fieldLink RX12 52 "LawnAheadModel" "now" "[I") (List.mem_of_getElem? (i := 3) rfl)) (fun _ h9 => h9) rfl dX12_count_134 ?_
    refine lv_iconst (v := 3) hx hb dX12_count_137 (by decide +kernel) ?_
    refine va_iald (D := (dC, dI)) (i := 3) hx hb hK hP 1 0 rfl rfl (show ¬ ((3 : Int32) < 0 ∨ 249 ≤ (3 : Int32).toNatClampNeg) by decide +kernel) dX12_count_138 ?_
    refine W.eq (g2 := F0 m 139 ls [.int 0]) rfl ?_
    refine W.widen (k := 0) (n := 0) (Nat.le_of_ble_eq_true rfl) (Nat.le_of_ble_eq_true rfl) ?_
    exact W.iret (v := 0) hx hb hr (fun t ht hW => ⟨⟨0, (), rfl, by decide +kernel, trivial⟩, hS.F ht⟩) hS.2.2 dX12_count_139
  by_cases e_11 : p1 = 9
  · subst e_11
    refine lv_tableIn (tgt := 140) (off := 134) hx hb dX12_count_6 (by decide +kernel) (by decide +kernel) rfl (by decide) ?_
    refine lv_aload_n hx hb dX12_count_140 rfl (lv_at hl 0 rfl) ?_
    refine va_get (D := (dC, dI)) (ci := 12) (v := .ref q_19) (C := RX12) (T := TX12) (N := 53) hx hb hts in_t_X12_count_X12 hown hK hP 0 rfl rfl 32 (by decide) (hts (.fieldLink RX12 52 "LawnAheadModel" "now" "[I") (List.mem_of_getElem? (i := 3) rfl)) (fun _ h9 => h9) rfl dX12_count_141 ?_
    refine lv_iconst (v := 5) hx hb dX12_count_144 (by decide +kernel) ?_
    refine va_iald (D := (dC, dI)) (i := 5) hx hb hK hP 1 0 rfl rfl (show ¬ ((5 : Int32) < 0 ∨ 249 ≤ (5 : Int32).toNatClampNeg) by decide +kernel) dX12_count_145 ?_
    refine W.eq (g2 := F0 m 146 ls [.int 0]) rfl ?_
    refine W.widen (k := 0) (n := 0) (Nat.le_of_ble_eq_true rfl) (Nat.le_of_ble_eq_true rfl) ?_
    exact W.iret (v := 0) hx hb hr (fun t ht hW => ⟨⟨0, (), rfl, by decide +kernel, trivial⟩, hS.F ht⟩) hS.2.2 dX12_count_146
  by_cases e_12 : p1 = 10
  · subst e_12
    refine lv_tableIn (tgt := 147) (off := 141) hx hb dX12_count_6 (by decide +kernel) (by decide +kernel) rfl (by decide) ?_
    refine lv_aload_n hx hb dX12_count_147 rfl (lv_at hl 0 rfl) ?_
    refine va_get (D := (dC, dI)) (ci := 12) (v := .ref q_19) (C := RX12) (T := TX12) (N := 53) hx hb hts in_t_X12_count_X12 hown hK hP 0 rfl rfl 32 (by decide) (hts (.fieldLink RX12 52 "LawnAheadModel" "now" "[I") (List.mem_of_getElem? (i := 3) rfl)) (fun _ h9 => h9) rfl dX12_count_148 ?_
    refine lv_bipush (v := 6) hx hb dX12_count_151 (by decide +kernel) ?_
    refine va_iald (D := (dC, dI)) (i := 6) hx hb hK hP 1 0 rfl rfl (show ¬ ((6 : Int32) < 0 ∨ 249 ≤ (6 : Int32).toNatClampNeg) by decide +kernel) dX12_count_153 ?_
    refine W.eq (g2 := F0 m 154 ls [.int 0]) rfl ?_
    refine W.widen (k := 0) (n := 0) (Nat.le_of_ble_eq_true rfl) (Nat.le_of_ble_eq_true rfl) ?_
    exact W.iret (v := 0) hx hb hr (fun t ht hW => ⟨⟨0, (), rfl, by decide +kernel, trivial⟩, hS.F ht⟩) hS.2.2 dX12_count_154
  by_cases e_13 : p1 = 11
  · subst e_13
    refine lv_tableIn (tgt := 155) (off := 149) hx hb dX12_count_6 (by decide +kernel) (by decide +kernel) rfl (by decide) ?_
    refine lv_aload_n hx hb dX12_count_155 rfl (lv_at hl 0 rfl) ?_
    refine va_get (D := (dC, dI)) (ci := 12) (v := .int 0) (C := RX12) (T := TX12) (N := 53) hx hb hts in_t_X12_count_X12 hown hK hP 0 rfl rfl 35 (by decide) (hts (.fieldLink RX12 360 "LawnAheadModel" "drought" "I") (List.mem_of_getElem? (i := 15) rfl)) (fun _ h9 => h9) rfl dX12_count_156 ?_
    refine W.widen (k := 0) (n := 0) (Nat.le_of_ble_eq_true rfl) (Nat.le_of_ble_eq_true rfl) ?_
    exact W.iret (v := 0) hx hb hr (fun t ht hW => ⟨⟨0, (), rfl, by decide +kernel, trivial⟩, hS.F ht⟩) hS.2.2 dX12_count_159
  by_cases e_14 : p1 = 12
  · subst e_14
    refine lv_tableIn (tgt := 160) (off := 154) hx hb dX12_count_6 (by decide +kernel) (by decide +kernel) rfl (by decide) ?_
    refine lv_aload_n hx hb dX12_count_160 rfl (lv_at hl 0 rfl) ?_
    refine va_get (D := (dC, dI)) (ci := 12) (v := .int 0) (C := RX12) (T := TX12) (N := 53) hx hb hts in_t_X12_count_X12 hown hK hP 0 rfl rfl 50 (by decide) (hts (.fieldLink RX12 308 "LawnAheadModel" "books" "I") (List.mem_of_getElem? (i := 16) rfl)) (fun _ h9 => h9) rfl dX12_count_161 ?_
    refine W.widen (k := 0) (n := 0) (Nat.le_of_ble_eq_true rfl) (Nat.le_of_ble_eq_true rfl) ?_
    exact W.iret (v := 0) hx hb hr (fun t ht hW => ⟨⟨0, (), rfl, by decide +kernel, trivial⟩, hS.F ht⟩) hS.2.2 dX12_count_164
  by_cases e_15 : p1 = 13
  · subst e_15
    refine lv_tableIn (tgt := 165) (off := 159) hx hb dX12_count_6 (by decide +kernel) (by decide +kernel) rfl (by decide) ?_
    refine lv_aload_n hx hb dX12_count_165 rfl (lv_at hl 0 rfl) ?_
    refine va_get (D := (dC, dI)) (ci := 12) (v := .ref q_19) (C := RX12) (T := TX12) (N := 53) hx hb hts in_t_X12_count_X12 hown hK hP 0 rfl rfl 32 (by decide) (hts (.fieldLink RX12 52 "LawnAheadModel" "now" "[I") (List.mem_of_getElem? (i := 3) rfl)) (fun _ h9 => h9) rfl dX12_count_166 ?_
    refine lv_bipush (v := 8) hx hb dX12_count_169 (by decide +kernel) ?_
    refine va_iald (D := (dC, dI)) (i := 8) hx hb hK hP 1 0 rfl rfl (show ¬ ((8 : Int32) < 0 ∨ 249 ≤ (8 : Int32).toNatClampNeg) by decide +kernel) dX12_count_171 ?_
    refine W.eq (g2 := F0 m 172 ls [.int 0]) rfl ?_
    refine W.widen (k := 0) (n := 0) (Nat.le_of_ble_eq_true rfl) (Nat.le_of_ble_eq_true rfl) ?_
    exact W.iret (v := 0) hx hb hr (fun t ht hW => ⟨⟨0, (), rfl, by decide +kernel, trivial⟩, hS.F ht⟩) hS.2.2 dX12_count_172
  by_cases e_16 : p1 = 14
  · subst e_16
    refine lv_tableIn (tgt := 173) (off := 167) hx hb dX12_count_6 (by decide +kernel) (by decide +kernel) rfl (by decide) ?_
    refine lv_aload_n hx hb dX12_count_173 rfl (lv_at hl 0 rfl) ?_
    refine va_get (D := (dC, dI)) (ci := 12) (v := .int 0) (C := RX12) (T := TX12) (N := 53) hx hb hts in_t_X12_count_X12 hown hK hP 0 rfl rfl 39 (by decide) (hts (.fieldLink RX12 311 "LawnAheadModel" "acts" "I") (List.mem_of_getElem? (i := 17) rfl)) (fun _ h9 => h9) rfl dX12_count_174 ?_
    refine W.widen (k := 0) (n := 0) (Nat.le_of_ble_eq_true rfl) (Nat.le_of_ble_eq_true rfl) ?_
    exact W.iret (v := 0) hx hb hr (fun t ht hW => ⟨⟨0, (), rfl, by decide +kernel, trivial⟩, hS.F ht⟩) hS.2.2 dX12_count_177
  by_cases e_17 : p1 = 15
  · subst e_17
    refine lv_tableIn (tgt := 178) (off := 172) hx hb dX12_count_6 (by decide +kernel) (by decide +kernel) rfl (by decide) ?_
    refine lv_aload_n hx hb dX12_count_178 rfl (lv_at hl 0 rfl) ?_
    refine va_get (D := (dC, dI)) (ci := 12) (v := .ref q_19) (C := RX12) (T := TX12) (N := 53) hx hb hts in_t_X12_count_X12 hown hK hP 0 rfl rfl 32 (by decide) (hts (.fieldLink RX12 52 "LawnAheadModel" "now" "[I") (List.mem_of_getElem? (i := 3) rfl)) (fun _ h9 => h9) rfl dX12_count_179 ?_
    refine lv_iconst (v := 0) hx hb dX12_count_182 (by decide +kernel) ?_
    refine va_iald (D := (dC, dI)) (i := 0) hx hb hK hP 1 0 rfl rfl (show ¬ ((0 : Int32) < 0 ∨ 249 ≤ (0 : Int32).toNatClampNeg) by decide +kernel) dX12_count_183 ?_
    refine W.eq (g2 := F0 m 184 ls [.int 0]) rfl ?_
    refine W.widen (k := 0) (n := 0) (Nat.le_of_ble_eq_true rfl) (Nat.le_of_ble_eq_true rfl) ?_
    exact W.iret (v := 0) hx hb hr (fun t ht hW => ⟨⟨0, (), rfl, by decide +kernel, trivial⟩, hS.F ht⟩) hS.2.2 dX12_count_184
  refine lv_tableOut (tgt := 185) hx hb dX12_count_6 (sw_out 15 (by decide) (fun k hk => by rcases (show k = 0 ∨ k = 1 ∨ k = 2 ∨ k = 3 ∨ k = 4 ∨ k = 5 ∨ k = 6 ∨ k = 7 ∨ k = 8 ∨ k = 9 ∨ k = 10 ∨ k = 11 ∨ k = 12 ∨ k = 13 ∨ k = 14 ∨ k = 15 by omega) with rfl | rfl | rfl | rfl | rfl | rfl | rfl | rfl | rfl | rfl | rfl | rfl | rfl | rfl | rfl | rfl <;> first | exact e_1 | exact e_2 | exact e_4 | exact e_5 | exact e_6 | exact e_7 | exact e_8 | exact e_9 | exact e_10 | exact e_11 | exact e_12 | exact e_13 | exact e_14 | exact e_15 | exact e_16 | exact e_17)) (by decide) ?_
  refine lv_ldcw hx hb hown (hts (.constant RX12 439 (-1000000)) (List.mem_of_getElem? (i := 18) rfl)) dX12_count_185 ?_
  refine W.widen (k := 0) (n := 0) (Nat.le_of_ble_eq_true rfl) (Nat.le_of_ble_eq_true rfl) ?_
  exact W.iret (v := (-1000000)) hx hb hr (fun t ht hW => ⟨⟨(-1000000), (), rfl, (by unfold F_count; rw [if_neg e_1]; rw [if_neg e_2]; rw [if_neg e_4]; rw [if_neg e_5]; rw [if_neg e_6]; rw [if_neg e_7]; rw [if_neg e_8]; rw [if_neg e_9]; rw [if_neg e_10]; rw [if_neg e_11]; rw [if_neg e_12]; rw [if_neg e_13]; rw [if_neg e_14]; rw [if_neg e_15]; rw [if_neg e_16]; rw [if_neg e_17]), trivial⟩, hS.F ht⟩) hS.2.2 dX12_count_188
