def w_t_X11_count : List Cond := .code yX11_count cX11_count 2 (some .int) :: ([.fieldLink RX11 47 "LawnAhead" "ground" "LLawnAhead$Ground;", .fieldLink RX11 148 "LawnAhead$Ground" "cells" "I", .fieldLink RX11 33 "LawnAhead" "now" "LLawnAhead$State;", .fieldLink RX11 169 "LawnAhead$State" "tufts" "I", .constant RJ6 265 (1431655765), .constant RJ6 266 (858993459), .constant RJ6 267 (252645135), .code yJ6_bitCount_0f7a4 cJ6_bitCount_0f7a4 1 (some .int), .methodLink RX11 206 yJ6_bitCount_0f7a4, .static yJ6_bitCount_0f7a4, .initialized RJ6, .fieldLink RX11 115 "LawnAhead" "lawCount" "I", .fieldLink RX11 119 "LawnAhead" "gameCount" "I", .fieldLink RX11 10 "LawnAhead" "tape" "LLawnAhead$Tape;", .fieldLink RX11 101 "LawnAhead$Tape" "length" "I", .fieldLink RX11 93 "LawnAhead" "holding" "I", .fieldLink RX11 177 "LawnAhead$State" "day" "I", .fieldLink RX11 197 "LawnAhead$State" "turn" "I", .fieldLink RX11 193 "LawnAhead$State" "won" "Z", .fieldLink RX11 200 "LawnAhead$State" "lawnThistles" "I", .fieldLink RX11 203 "LawnAhead$State" "houseThistles" "I", .fieldLink RX11 187 "LawnAhead" "dryness" "I", .fieldLink RX11 89 "LawnAhead" "books" "LLawnAhead$Books;", .fieldLink RX11 411 "LawnAhead$Books" "count" "I", .fieldLink RX11 40 "LawnAhead" "history" "LLawnAhead$History;", .fieldLink RX5 31 "LawnAhead$History" "kept" "I", .methodLink RX5 38 Lib.Math.min.name, .static Lib.Math.min.name, .initialized "java/lang/Math", .code Lib.Math.min.name Lib.Math.min.code 2 (some .int), .code yX5_shown cX5_shown 1 (some .int), .methodLink RX11 268 yX5_shown, .instanceMethod yX5_shown, .selects RX5 yX5_shown yX5_shown, .initialized RX5, .fieldLink RX11 265 "LawnAhead$History" "undoable" "I", .constant RX11 271 (-1000000)] ++ (wsX110 ++ (wsX40 ++ (wsX90 ++ (wsX100 ++ (wsX10 ++ (wsX50 ++ [])))))))
theorem in_t_X11_count_X11 : ∀ w ∈ wsX110, w ∈ w_t_X11_count := fun w h => List.mem_cons_of_mem _ (List.mem_append_right _ (List.mem_append_left _ h))
theorem in_t_X11_count_X4 : ∀ w ∈ wsX40, w ∈ w_t_X11_count := fun w h => List.mem_cons_of_mem _ (List.mem_append_right _ (List.mem_append_right _ (List.mem_append_left _ h)))
theorem in_t_X11_count_X9 : ∀ w ∈ wsX90, w ∈ w_t_X11_count := fun w h => List.mem_cons_of_mem _ (List.mem_append_right _ (List.mem_append_right _ (List.mem_append_right _ (List.mem_append_left _ h))))
theorem in_t_X11_count_X10 : ∀ w ∈ wsX100, w ∈ w_t_X11_count := fun w h => List.mem_cons_of_mem _ (List.mem_append_right _ (List.mem_append_right _ (List.mem_append_right _ (List.mem_append_right _ (List.mem_append_left _ h)))))
theorem in_t_X11_count_X1 : ∀ w ∈ wsX10, w ∈ w_t_X11_count := fun w h => List.mem_cons_of_mem _ (List.mem_append_right _ (List.mem_append_right _ (List.mem_append_right _ (List.mem_append_right _ (List.mem_append_right _ (List.mem_append_left _ h))))))
theorem in_t_X11_count_X5 : ∀ w ∈ wsX50, w ∈ w_t_X11_count := fun w h => List.mem_cons_of_mem _ (List.mem_append_right _ (List.mem_append_right _ (List.mem_append_right _ (List.mem_append_right _ (List.mem_append_right _ (List.mem_append_right _ (List.mem_append_left _ h)))))))
set_option maxRecDepth 100000 in
theorem g_t_X11_count_95_c_bitCount : GoodIn w_t_X11_count (([.methodLink RX11 206 yJ6_bitCount_0f7a4, .static yJ6_bitCount_0f7a4, .initialized RJ6] : List Cond) ++ w_c_bitCount) := goodIn_r _ [9, 10, 11, 8, 5, 6, 7] rfl (by decide +kernel)
set_option maxRecDepth 100000 in
theorem g_t_X11_count_187_c_X5_shown : GoodIn w_t_X11_count (([.methodLink RX11 268 yX5_shown, .instanceMethod yX5_shown, .selects RX5 yX5_shown yX5_shown, .initialized RX5] : List Cond) ++ w_c_X5_shown) := goodIn_r _ [32, 33, 34, 35, 31, 26, 27, 28, 29, 30, 85, 86, 87, 88, 89, 90, 91, 92, 93, 94, 95] rfl (by decide +kernel)
set_option maxHeartbeats 8000000 in
set_option maxRecDepth 100000 in
theorem t_X11_count (l : Launch) (dC : Nat → ClassId) (dI : Nat → Nat → Nat) (h0 : Nat) (p1 : Int32) (q_1 : Nat) (q_5 : Nat) (q_7 : Nat) (q_65 : Nat) (q_67 : Nat) (q_89 : Nat) (q_100 : Nat) (q_106 : Nat) (q_108 : Nat) (q_113 : Nat) (q_73 : Nat) (q_81 : Nat) (q_75 : Nat) (q_76 : Nat) (q_77 : Nat) (q_78 : Nat) (q_79 : Nat) (q_3 : Nat) (q_115 : Nat) (q_116 : Nat) (q_69 : Nat) (q_70 : Nat) (q_71 : Nat) (q_72 : Nat) (sz : Nat) : Met l yX11_count w_t_X11_count ({ frames := 2, cells := 0, slots := 0, locals := 33 }) (va_Pc [.ref h0, .int p1] (fun U => U.heap.size = sz ∧ va_P (dC, dI) vwCl [(h0, .inr (11, [.ref q_1, .ref q_5, .ref q_7, .ref q_65, .ref q_67, .ref q_89, .ref q_100, .ref q_106, .ref q_108, .ref q_113, .ref q_73, .ref q_81, .int 0, .int 0, .int (-1), .int 0, .long 0])), (q_73, .inr (4, [.ref q_75, .ref q_76, .ref q_77, .ref q_78, .ref q_79, .int 0, .int 0, .int 0, .int 0, .int 0, .int 0, .int 0, .int 0, .int 0, .int 0])), (q_65, .inr (9, [.int 0, .int 0, .int 0, .int 0, .int 0, .int 0, .int 0, .int 0])), (q_1, .inr (10, [.ref q_3, .int 0, .int 0, .int 0])), (q_113, .inr (1, [.ref q_115, .ref q_116, .int 0])), (q_67, .inr (5, [.ref q_69, .ref q_70, .ref q_71, .ref q_72, .int 0, .int 0, .int 0, .int 0, .int 0, .int 0, .int 0]))] U.heap ∧ va_K (dC, dI) vwCl [] U ∧ va_D (fun _ => True) [(h0, .inr (11, [.ref q_1, .ref q_5, .ref q_7, .ref q_65, .ref q_67, .ref q_89, .ref q_100, .ref q_106, .ref q_108, .ref q_113, .ref q_73, .ref q_81, .int 0, .int 0, .int (-1), .int 0, .long 0])), (q_73, .inr (4, [.ref q_75, .ref q_76, .ref q_77, .ref q_78, .ref q_79, .int 0, .int 0, .int 0, .int 0, .int 0, .int 0, .int 0, .int 0, .int 0, .int 0])), (q_65, .inr (9, [.int 0, .int 0, .int 0, .int 0, .int 0, .int 0, .int 0, .int 0])), (q_1, .inr (10, [.ref q_3, .int 0, .int 0, .int 0])), (q_113, .inr (1, [.ref q_115, .ref q_116, .int 0])), (q_67, .inr (5, [.ref q_69, .ref q_70, .ref q_71, .ref q_72, .int 0, .int 0, .int 0, .int 0, .int 0, .int 0, .int 0]))])) (va_Qi (fun (r : Int32) (_ : Unit) => r = F_count p1) (fun _ _ => True) (va_A [(h0, .inr (11, [.ref q_1, .ref q_5, .ref q_7, .ref q_65, .ref q_67, .ref q_89, .ref q_100, .ref q_106, .ref q_108, .ref q_113, .ref q_73, .ref q_81, .int 0, .int 0, .int (-1), .int 0, .long 0])), (q_73, .inr (4, [.ref q_75, .ref q_76, .ref q_77, .ref q_78, .ref q_79, .int 0, .int 0, .int 0, .int 0, .int 0, .int 0, .int 0, .int 0, .int 0, .int 0])), (q_65, .inr (9, [.int 0, .int 0, .int 0, .int 0, .int 0, .int 0, .int 0, .int 0])), (q_1, .inr (10, [.ref q_3, .int 0, .int 0, .int 0])), (q_113, .inr (1, [.ref q_115, .ref q_116, .int 0])), (q_67, .inr (5, [.ref q_69, .ref q_70, .ref q_71, .ref q_72, .int 0, .int 0, .int 0, .int 0, .int 0, .int 0, .int 0]))] sz)) 0 0 (va_A [(h0, .inr (11, [.ref q_1, .ref q_5, .ref q_7, .ref q_65, .ref q_67, .ref q_89, .ref q_100, .ref q_106, .ref q_108, .ref q_113, .ref q_73, .ref q_81, .int 0, .int 0, .int (-1), .int 0, .long 0])), (q_73, .inr (4, [.ref q_75, .ref q_76, .ref q_77, .ref q_78, .ref q_79, .int 0, .int 0, .int 0, .int 0, .int 0, .int 0, .int 0, .int 0, .int 0, .int 0])), (q_65, .inr (9, [.int 0, .int 0, .int 0, .int 0, .int 0, .int 0, .int 0, .int 0])), (q_1, .inr (10, [.ref q_3, .int 0, .int 0, .int 0])), (q_113, .inr (1, [.ref q_115, .ref q_116, .int 0])), (q_67, .inr (5, [.ref q_69, .ref q_70, .ref q_71, .ref q_72, .int 0, .int 0, .int 0, .int 0, .int 0, .int 0, .int 0]))] sz) := by
  refine Met.ofW (cc := cX11_count) (maxL := 2) (ret := (some .int)) (by decide) rfl ?_
  intro p e s m args below meth c s₁ B hml hv
  obtain ⟨rfl, hsz, hP, hK, hD0⟩ := hv
  have hx := B.exec
  have hb := B.bytes
  have hr := B.returns
  have hts := atoms_spec (ws := w_t_X11_count) B.pre
  have hown : s.vm.findClass RX11 = some m.cls := findClass_of_methodNamed B.named
  have hlocks := B.notSynchronized
  subst hsz
  have hD := hD0.self (sz := s.heap.size)
  generalize hAe : va_A [(h0, .inr (11, [.ref q_1, .ref q_5, .ref q_7, .ref q_65, .ref q_67, .ref q_89, .ref q_100, .ref q_106, .ref q_108, .ref q_113, .ref q_73, .ref q_81, .int 0, .int 0, .int (-1), .int 0, .long 0])), (q_73, .inr (4, [.ref q_75, .ref q_76, .ref q_77, .ref q_78, .ref q_79, .int 0, .int 0, .int 0, .int 0, .int 0, .int 0, .int 0, .int 0, .int 0, .int 0])), (q_65, .inr (9, [.int 0, .int 0, .int 0, .int 0, .int 0, .int 0, .int 0, .int 0])), (q_1, .inr (10, [.ref q_3, .int 0, .int 0, .int 0])), (q_113, .inr (1, [.ref q_115, .ref q_116, .int 0])), (q_67, .inr (5, [.ref q_69, .ref q_70, .ref q_71, .ref q_72, .int 0, .int 0, .int 0, .int 0, .int 0, .int 0, .int 0]))] s.heap.size = A at hD ⊢
  have hA : ∀ q : Nat, s.heap.size ≤ q → A q := fun q h => by rw [← hAe]; exact Or.inr h
  have hS : va_S A s.heap s.heap [] := va_S.rf
  have hP : va_P (dC, dI) vwCl [(h0, .inr (11, [.ref q_1, .ref q_5, .ref q_7, .ref q_65, .ref q_67, .ref q_89, .ref q_100, .ref q_106, .ref q_108, .ref q_113, .ref q_73, .ref q_81, .int 0, .int 0, .int (-1), .int 0, .long 0])), (q_73, .inr (4, [.ref q_75, .ref q_76, .ref q_77, .ref q_78, .ref q_79, .int 0, .int 0, .int 0, .int 0, .int 0, .int 0, .int 0, .int 0, .int 0, .int 0])), (q_65, .inr (9, [.int 0, .int 0, .int 0, .int 0, .int 0, .int 0, .int 0, .int 0])), (q_1, .inr (10, [.ref q_3, .int 0, .int 0, .int 0])), (q_113, .inr (1, [.ref q_115, .ref q_116, .int 0])), (q_67, .inr (5, [.ref q_69, .ref q_70, .ref q_71, .ref q_72, .int 0, .int 0, .int 0, .int 0, .int 0, .int 0, .int 0]))] s.heap := hP
  have hl := lv_entry ([.ref h0, .int p1]) (n := 2) (Nat.le_of_ble_eq_true rfl)
  rw [lg_entry_eq]
  generalize (lg_sl ([.ref h0, .int p1]) ++ List.replicate (2 - (lg_sl ([.ref h0, .int p1])).length) Slot.unset).toArray = ls at hl ⊢
  have hl : lv_has ls 2 [(0, .ref h0), (1, .int p1)] := hl
  refine lv_iload_n hx hb dX11_count_0 rfl (lv_at hl 1 rfl) ?_
  by_cases e_1 : p1 = 0
  · subst e_1
    refine lv_tableIn (tgt := 80) (off := 79) hx hb dX11_count_1 (by decide +kernel) (by decide +kernel) rfl (by decide) ?_
    refine lv_aload_n hx hb dX11_count_80 rfl (lv_at hl 0 rfl) ?_
    refine va_get (D := (dC, dI)) (ci := 11) (v := .ref q_73) (C := RX11) (T := TX11) (N := 17) hx hb hts in_t_X11_count_X11 hown hK hP 0 rfl rfl 10 (by decide) (hts (.fieldLink RX11 47 "LawnAhead" "ground" "LLawnAhead$Ground;") (List.mem_of_getElem? (i := 1) rfl)) (fun _ h9 => h9) rfl dX11_count_81 ?_
    refine va_get (D := (dC, dI)) (ci := 4) (v := .int 0) (C := RX4) (T := TX4) (N := 15) hx hb hts in_t_X11_count_X4 hown hK hP 1 rfl rfl 5 (by decide) (hts (.fieldLink RX11 148 "LawnAhead$Ground" "cells" "I") (List.mem_of_getElem? (i := 2) rfl)) (fun _ h9 => h9) rfl dX11_count_84 ?_
    refine W.widen (k := 0) (n := 0) (Nat.le_of_ble_eq_true rfl) (Nat.le_of_ble_eq_true rfl) ?_
    exact W.iret (v := 0) hx hb hr (fun t ht hW => ⟨⟨0, (), rfl, by decide +kernel, trivial⟩, hS.F ht⟩) hS.2.2 dX11_count_87
  by_cases e_2 : p1 = 1
  · subst e_2
    refine lv_tableIn (tgt := 88) (off := 87) hx hb dX11_count_1 (by decide +kernel) (by decide +kernel) rfl (by decide) ?_
    refine lv_aload_n hx hb dX11_count_88 rfl (lv_at hl 0 rfl) ?_
    refine va_get (D := (dC, dI)) (ci := 11) (v := .ref q_65) (C := RX11) (T := TX11) (N := 17) hx hb hts in_t_X11_count_X11 hown hK hP 0 rfl rfl 3 (by decide) (hts (.fieldLink RX11 33 "LawnAhead" "now" "LLawnAhead$State;") (List.mem_of_getElem? (i := 3) rfl)) (fun _ h9 => h9) rfl dX11_count_89 ?_
    refine va_get (D := (dC, dI)) (ci := 9) (v := .int 0) (C := RX9) (T := TX9) (N := 8) hx hb hts in_t_X11_count_X9 hown hK hP 2 rfl rfl 0 (by decide) (hts (.fieldLink RX11 169 "LawnAhead$State" "tufts" "I") (List.mem_of_getElem? (i := 4) rfl)) (fun _ h9 => h9) rfl dX11_count_92 ?_
    have hPc := hP.sub (ws' := []) [] rfl
    have hDc := hD.sub (ws' := []) [] (by decide) rfl
    have hKc := hK.sub (tys' := []) [] rfl
    have hFc := va_free (wc := []) hD hS hA [] rfl
    refine va_calli (va_runS (As := [.int 0]) (rest := []) ⟨hx, hb, hml, hown, hts⟩ (c_bitCount l dC dI  s.heap.size) (va_cwS 1 hts g_t_X11_count_95_c_bitCount rfl rfl rfl (by decide +kernel) ⟨Nat.le_of_ble_eq_true rfl, Nat.le_of_ble_eq_true rfl⟩) ⟨fun a U g mk q => by obtain ⟨q0, q1, qP, qK, qD⟩ := q; exact ⟨q0, q1, qP, va_K.moved (u := U) (U := U.calling g mk a) (Vm.Alike.refl U.vm) qK, qD⟩, fun U hU hW => ⟨rfl, by rw [hU], by rw [hU]; exact hPc, va_K.moved hW.alike hKc, hDc.weaken (fun _ _ _ _ => trivial)⟩⟩ rfl rfl hl.1 rfl (lv_room (Nat.le_of_ble_eq_true rfl)) dX11_count_95 ⟨Nat.le_of_ble_eq_true rfl, Nat.le_of_ble_eq_true rfl⟩) hS (fun q _ h => hFc q h) hFc (fun r_3 u t H1 locs ht hvm hw hB hz1 hk1 hS => ?_)
    obtain ⟨hP1, hK1, hD1⟩ := hB
    rw [ht] at hP1
    have hK1 := va_K.moved hvm.symm hK1
    try dsimp only at hw
    obtain ⟨hP, hD⟩ := va_join (wr := [(h0, .inr (11, [.ref q_1, .ref q_5, .ref q_7, .ref q_65, .ref q_67, .ref q_89, .ref q_100, .ref q_106, .ref q_108, .ref q_113, .ref q_73, .ref q_81, .int 0, .int 0, .int (-1), .int 0, .long 0])), (q_73, .inr (4, [.ref q_75, .ref q_76, .ref q_77, .ref q_78, .ref q_79, .int 0, .int 0, .int 0, .int 0, .int 0, .int 0, .int 0, .int 0, .int 0, .int 0])), (q_65, .inr (9, [.int 0, .int 0, .int 0, .int 0, .int 0, .int 0, .int 0, .int 0])), (q_1, .inr (10, [.ref q_3, .int 0, .int 0, .int 0])), (q_113, .inr (1, [.ref q_115, .ref q_116, .int 0])), (q_67, .inr (5, [.ref q_69, .ref q_70, .ref q_71, .ref q_72, .int 0, .int 0, .int 0, .int 0, .int 0, .int 0, .int 0]))]) (w1 := []) hP hD [] [0, 1, 2, 3, 4, 5] rfl rfl (by decide) (by decide) hk1 hFc hP1 hD1
    have hK := hK.app hK1
    generalize H1 = H at hP hS ⊢
    have hP : va_P (dC, dI) vwCl [(h0, .inr (11, [.ref q_1, .ref q_5, .ref q_7, .ref q_65, .ref q_67, .ref q_89, .ref q_100, .ref q_106, .ref q_108, .ref q_113, .ref q_73, .ref q_81, .int 0, .int 0, .int (-1), .int 0, .long 0])), (q_73, .inr (4, [.ref q_75, .ref q_76, .ref q_77, .ref q_78, .ref q_79, .int 0, .int 0, .int 0, .int 0, .int 0, .int 0, .int 0, .int 0, .int 0, .int 0])), (q_65, .inr (9, [.int 0, .int 0, .int 0, .int 0, .int 0, .int 0, .int 0, .int 0])), (q_1, .inr (10, [.ref q_3, .int 0, .int 0, .int 0])), (q_113, .inr (1, [.ref q_115, .ref q_116, .int 0])), (q_67, .inr (5, [.ref q_69, .ref q_70, .ref q_71, .ref q_72, .int 0, .int 0, .int 0, .int 0, .int 0, .int 0, .int 0]))] H := hP
    have hD : va_D A [(h0, .inr (11, [.ref q_1, .ref q_5, .ref q_7, .ref q_65, .ref q_67, .ref q_89, .ref q_100, .ref q_106, .ref q_108, .ref q_113, .ref q_73, .ref q_81, .int 0, .int 0, .int (-1), .int 0, .long 0])), (q_73, .inr (4, [.ref q_75, .ref q_76, .ref q_77, .ref q_78, .ref q_79, .int 0, .int 0, .int 0, .int 0, .int 0, .int 0, .int 0, .int 0, .int 0, .int 0])), (q_65, .inr (9, [.int 0, .int 0, .int 0, .int 0, .int 0, .int 0, .int 0, .int 0])), (q_1, .inr (10, [.ref q_3, .int 0, .int 0, .int 0])), (q_113, .inr (1, [.ref q_115, .ref q_116, .int 0])), (q_67, .inr (5, [.ref q_69, .ref q_70, .ref q_71, .ref q_72, .int 0, .int 0, .int 0, .int 0, .int 0, .int 0, .int 0]))] := hD
    have hK : va_K (dC, dI) vwCl [] s := hK
    refine W.widen (k := 0) (n := 0) (Nat.le_of_ble_eq_true rfl) (Nat.le_of_ble_eq_true rfl) ?_
    obtain rfl : r_3 = 0 := hw
    refine W.widen (k := 0) (n := 0) (Nat.le_of_ble_eq_true rfl) (Nat.le_of_ble_eq_true rfl) ?_
    exact W.iret (v := 0) hx hb hr (fun t ht hW => ⟨⟨0, (), rfl, by decide +kernel, trivial⟩, hS.F ht⟩) hS.2.2 dX11_count_98
  by_cases e_4 : p1 = 2
  · subst e_4
    refine lv_tableIn (tgt := 99) (off := 98) hx hb dX11_count_1 (by decide +kernel) (by decide +kernel) rfl (by decide) ?_
    refine lv_aload_n hx hb dX11_count_99 rfl (lv_at hl 0 rfl) ?_
    refine va_get (D := (dC, dI)) (ci := 11) (v := .int 0) (C := RX11) (T := TX11) (N := 17) hx hb hts in_t_X11_count_X11 hown hK hP 0 rfl rfl 12 (by decide) (hts (.fieldLink RX11 115 "LawnAhead" "lawCount" "I") (List.mem_of_getElem? (i := 12) rfl)) (fun _ h9 => h9) rfl dX11_count_100 ?_
    refine W.widen (k := 0) (n := 0) (Nat.le_of_ble_eq_true rfl) (Nat.le_of_ble_eq_true rfl) ?_
    exact W.iret (v := 0) hx hb hr (fun t ht hW => ⟨⟨0, (), rfl, by decide +kernel, trivial⟩, hS.F ht⟩) hS.2.2 dX11_count_103
  by_cases e_5 : p1 = 3
  · subst e_5
    refine lv_tableIn (tgt := 104) (off := 103) hx hb dX11_count_1 (by decide +kernel) (by decide +kernel) rfl (by decide) ?_
    refine lv_aload_n hx hb dX11_count_104 rfl (lv_at hl 0 rfl) ?_
    refine va_get (D := (dC, dI)) (ci := 11) (v := .int 0) (C := RX11) (T := TX11) (N := 17) hx hb hts in_t_X11_count_X11 hown hK hP 0 rfl rfl 13 (by decide) (hts (.fieldLink RX11 119 "LawnAhead" "gameCount" "I") (List.mem_of_getElem? (i := 13) rfl)) (fun _ h9 => h9) rfl dX11_count_105 ?_
    refine W.widen (k := 0) (n := 0) (Nat.le_of_ble_eq_true rfl) (Nat.le_of_ble_eq_true rfl) ?_
    exact W.iret (v := 0) hx hb hr (fun t ht hW => ⟨⟨0, (), rfl, by decide +kernel, trivial⟩, hS.F ht⟩) hS.2.2 dX11_count_108
  by_cases e_6 : p1 = 4
  · subst e_6
    refine lv_tableIn (tgt := 109) (off := 108) hx hb dX11_count_1 (by decide +kernel) (by decide +kernel) rfl (by decide) ?_
    refine lv_aload_n hx hb dX11_count_109 rfl (lv_at hl 0 rfl) ?_
    refine va_get (D := (dC, dI)) (ci := 11) (v := .ref q_1) (C := RX11) (T := TX11) (N := 17) hx hb hts in_t_X11_count_X11 hown hK hP 0 rfl rfl 0 (by decide) (hts (.fieldLink RX11 10 "LawnAhead" "tape" "LLawnAhead$Tape;") (List.mem_of_getElem? (i := 14) rfl)) (fun _ h9 => h9) rfl dX11_count_110 ?_
    refine va_get (D := (dC, dI)) (ci := 10) (v := .int 0) (C := RX10) (T := TX10) (N := 4) hx hb hts in_t_X11_count_X10 hown hK hP 3 rfl rfl 1 (by decide) (hts (.fieldLink RX11 101 "LawnAhead$Tape" "length" "I") (List.mem_of_getElem? (i := 15) rfl)) (fun _ h9 => h9) rfl dX11_count_113 ?_
    refine W.widen (k := 0) (n := 0) (Nat.le_of_ble_eq_true rfl) (Nat.le_of_ble_eq_true rfl) ?_
    exact W.iret (v := 0) hx hb hr (fun t ht hW => ⟨⟨0, (), rfl, by decide +kernel, trivial⟩, hS.F ht⟩) hS.2.2 dX11_count_116
  by_cases e_7 : p1 = 5
  · subst e_7
    refine lv_tableIn (tgt := 117) (off := 116) hx hb dX11_count_1 (by decide +kernel) (by decide +kernel) rfl (by decide) ?_
    refine lv_aload_n hx hb dX11_count_117 rfl (lv_at hl 0 rfl) ?_
    refine va_get (D := (dC, dI)) (ci := 11) (v := .int (-1)) (C := RX11) (T := TX11) (N := 17) hx hb hts in_t_X11_count_X11 hown hK hP 0 rfl rfl 14 (by decide) (hts (.fieldLink RX11 93 "LawnAhead" "holding" "I") (List.mem_of_getElem? (i := 16) rfl)) (fun _ h9 => h9) rfl dX11_count_118 ?_
    refine W.widen (k := 0) (n := 0) (Nat.le_of_ble_eq_true rfl) (Nat.le_of_ble_eq_true rfl) ?_
    exact W.iret (v := (-1)) hx hb hr (fun t ht hW => ⟨⟨(-1), (), rfl, by decide +kernel, trivial⟩, hS.F ht⟩) hS.2.2 dX11_count_121
  by_cases e_8 : p1 = 6
  · subst e_8
    refine lv_tableIn (tgt := 122) (off := 121) hx hb dX11_count_1 (by decide +kernel) (by decide +kernel) rfl (by decide) ?_
    refine lv_aload_n hx hb dX11_count_122 rfl (lv_at hl 0 rfl) ?_
    refine va_get (D := (dC, dI)) (ci := 11) (v := .ref q_65) (C := RX11) (T := TX11) (N := 17) hx hb hts in_t_X11_count_X11 hown hK hP 0 rfl rfl 3 (by decide) (hts (.fieldLink RX11 33 "LawnAhead" "now" "LLawnAhead$State;") (List.mem_of_getElem? (i := 3) rfl)) (fun _ h9 => h9) rfl dX11_count_123 ?_
    refine va_get (D := (dC, dI)) (ci := 9) (v := .int 0) (C := RX9) (T := TX9) (N := 8) hx hb hts in_t_X11_count_X9 hown hK hP 2 rfl rfl 3 (by decide) (hts (.fieldLink RX11 177 "LawnAhead$State" "day" "I") (List.mem_of_getElem? (i := 17) rfl)) (fun _ h9 => h9) rfl dX11_count_126 ?_
    refine W.widen (k := 0) (n := 0) (Nat.le_of_ble_eq_true rfl) (Nat.le_of_ble_eq_true rfl) ?_
    exact W.iret (v := 0) hx hb hr (fun t ht hW => ⟨⟨0, (), rfl, by decide +kernel, trivial⟩, hS.F ht⟩) hS.2.2 dX11_count_129
  by_cases e_9 : p1 = 7
  · subst e_9
    refine lv_tableIn (tgt := 130) (off := 129) hx hb dX11_count_1 (by decide +kernel) (by decide +kernel) rfl (by decide) ?_
    refine lv_aload_n hx hb dX11_count_130 rfl (lv_at hl 0 rfl) ?_
    refine va_get (D := (dC, dI)) (ci := 11) (v := .ref q_65) (C := RX11) (T := TX11) (N := 17) hx hb hts in_t_X11_count_X11 hown hK hP 0 rfl rfl 3 (by decide) (hts (.fieldLink RX11 33 "LawnAhead" "now" "LLawnAhead$State;") (List.mem_of_getElem? (i := 3) rfl)) (fun _ h9 => h9) rfl dX11_count_131 ?_
    refine va_get (D := (dC, dI)) (ci := 9) (v := .int 0) (C := RX9) (T := TX9) (N := 8) hx hb hts in_t_X11_count_X9 hown hK hP 2 rfl rfl 2 (by decide) (hts (.fieldLink RX11 197 "LawnAhead$State" "turn" "I") (List.mem_of_getElem? (i := 18) rfl)) (fun _ h9 => h9) rfl dX11_count_134 ?_
    refine W.widen (k := 0) (n := 0) (Nat.le_of_ble_eq_true rfl) (Nat.le_of_ble_eq_true rfl) ?_
    exact W.iret (v := 0) hx hb hr (fun t ht hW => ⟨⟨0, (), rfl, by decide +kernel, trivial⟩, hS.F ht⟩) hS.2.2 dX11_count_137
  by_cases e_10 : p1 = 8
  · subst e_10
    refine lv_tableIn (tgt := 138) (off := 137) hx hb dX11_count_1 (by decide +kernel) (by decide +kernel) rfl (by decide) ?_
    refine lv_aload_n hx hb dX11_count_138 rfl (lv_at hl 0 rfl) ?_
    refine va_get (D := (dC, dI)) (ci := 11) (v := .ref q_65) (C := RX11) (T := TX11) (N := 17) hx hb hts in_t_X11_count_X11 hown hK hP 0 rfl rfl 3 (by decide) (hts (.fieldLink RX11 33 "LawnAhead" "now" "LLawnAhead$State;") (List.mem_of_getElem? (i := 3) rfl)) (fun _ h9 => h9) rfl dX11_count_139 ?_
    refine va_get (D := (dC, dI)) (ci := 9) (v := .int 0) (C := RX9) (T := TX9) (N := 8) hx hb hts in_t_X11_count_X9 hown hK hP 2 rfl rfl 7 (by decide) (hts (.fieldLink RX11 193 "LawnAhead$State" "won" "Z") (List.mem_of_getElem? (i := 19) rfl)) (fun _ h9 => h9) rfl dX11_count_142 ?_
    refine lv_if_eq (tgt := 152) hx hb dX11_count_145 (by decide) (fun c_11 => ?_) (fun c_11 => absurd (by decide +kernel) c_11)
    refine lv_iconst (v := 0) hx hb dX11_count_152 (by decide +kernel) ?_
    refine W.widen (k := 0) (n := 0) (Nat.le_of_ble_eq_true rfl) (Nat.le_of_ble_eq_true rfl) ?_
    exact W.iret (v := 0) hx hb hr (fun t ht hW => ⟨⟨0, (), rfl, by decide +kernel, trivial⟩, hS.F ht⟩) hS.2.2 dX11_count_153
  by_cases e_12 : p1 = 9
  · subst e_12
    refine lv_tableIn (tgt := 154) (off := 153) hx hb dX11_count_1 (by decide +kernel) (by decide +kernel) rfl (by decide) ?_
    refine lv_aload_n hx hb dX11_count_154 rfl (lv_at hl 0 rfl) ?_
    refine va_get (D := (dC, dI)) (ci := 11) (v := .ref q_65) (C := RX11) (T := TX11) (N := 17) hx hb hts in_t_X11_count_X11 hown hK hP 0 rfl rfl 3 (by decide) (hts (.fieldLink RX11 33 "LawnAhead" "now" "LLawnAhead$State;") (List.mem_of_getElem? (i := 3) rfl)) (fun _ h9 => h9) rfl dX11_count_155 ?_
    refine va_get (D := (dC, dI)) (ci := 9) (v := .int 0) (C := RX9) (T := TX9) (N := 8) hx hb hts in_t_X11_count_X9 hown hK hP 2 rfl rfl 4 (by decide) (hts (.fieldLink RX11 200 "LawnAhead$State" "lawnThistles" "I") (List.mem_of_getElem? (i := 20) rfl)) (fun _ h9 => h9) rfl dX11_count_158 ?_
    refine W.widen (k := 0) (n := 0) (Nat.le_of_ble_eq_true rfl) (Nat.le_of_ble_eq_true rfl) ?_
    exact W.iret (v := 0) hx hb hr (fun t ht hW => ⟨⟨0, (), rfl, by decide +kernel, trivial⟩, hS.F ht⟩) hS.2.2 dX11_count_161
  by_cases e_13 : p1 = 10
  · subst e_13
    refine lv_tableIn (tgt := 162) (off := 161) hx hb dX11_count_1 (by decide +kernel) (by decide +kernel) rfl (by decide) ?_
    refine lv_aload_n hx hb dX11_count_162 rfl (lv_at hl 0 rfl) ?_
    refine va_get (D := (dC, dI)) (ci := 11) (v := .ref q_65) (C := RX11) (T := TX11) (N := 17) hx hb hts in_t_X11_count_X11 hown hK hP 0 rfl rfl 3 (by decide) (hts (.fieldLink RX11 33 "LawnAhead" "now" "LLawnAhead$State;") (List.mem_of_getElem? (i := 3) rfl)) (fun _ h9 => h9) rfl dX11_count_163 ?_
    refine va_get (D := (dC, dI)) (ci := 9) (v := .int 0) (C := RX9) (T := TX9) (N := 8) hx hb hts in_t_X11_count_X9 hown hK hP 2 rfl rfl 5 (by decide) (hts (.fieldLink RX11 203 "LawnAhead$State" "houseThistles" "I") (List.mem_of_getElem? (i := 21) rfl)) (fun _ h9 => h9) rfl dX11_count_166 ?_
    refine W.widen (k := 0) (n := 0) (Nat.le_of_ble_eq_true rfl) (Nat.le_of_ble_eq_true rfl) ?_
    exact W.iret (v := 0) hx hb hr (fun t ht hW => ⟨⟨0, (), rfl, by decide +kernel, trivial⟩, hS.F ht⟩) hS.2.2 dX11_count_169
  by_cases e_14 : p1 = 11
  · subst e_14
    refine lv_tableIn (tgt := 170) (off := 169) hx hb dX11_count_1 (by decide +kernel) (by decide +kernel) rfl (by decide) ?_
    refine lv_aload_n hx hb dX11_count_170 rfl (lv_at hl 0 rfl) ?_
    refine va_get (D := (dC, dI)) (ci := 11) (v := .int 0) (C := RX11) (T := TX11) (N := 17) hx hb hts in_t_X11_count_X11 hown hK hP 0 rfl rfl 15 (by decide) (hts (.fieldLink RX11 187 "LawnAhead" "dryness" "I") (List.mem_of_getElem? (i := 22) rfl)) (fun _ h9 => h9) rfl dX11_count_171 ?_
    refine W.widen (k := 0) (n := 0) (Nat.le_of_ble_eq_true rfl) (Nat.le_of_ble_eq_true rfl) ?_
    exact W.iret (v := 0) hx hb hr (fun t ht hW => ⟨⟨0, (), rfl, by decide +kernel, trivial⟩, hS.F ht⟩) hS.2.2 dX11_count_174
  by_cases e_15 : p1 = 12
  · subst e_15
    refine lv_tableIn (tgt := 175) (off := 174) hx hb dX11_count_1 (by decide +kernel) (by decide +kernel) rfl (by decide) ?_
    refine lv_aload_n hx hb dX11_count_175 rfl (lv_at hl 0 rfl) ?_
    refine va_get (D := (dC, dI)) (ci := 11) (v := .ref q_113) (C := RX11) (T := TX11) (N := 17) hx hb hts in_t_X11_count_X11 hown hK hP 0 rfl rfl 9 (by decide) (hts (.fieldLink RX11 89 "LawnAhead" "books" "LLawnAhead$Books;") (List.mem_of_getElem? (i := 23) rfl)) (fun _ h9 => h9) rfl dX11_count_176 ?_
    refine va_get (D := (dC, dI)) (ci := 1) (v := .int 0) (C := RX1) (T := TX1) (N := 3) hx hb hts in_t_X11_count_X1 hown hK hP 4 rfl rfl 2 (by decide) (hts (.fieldLink RX11 411 "LawnAhead$Books" "count" "I") (List.mem_of_getElem? (i := 24) rfl)) (fun _ h9 => h9) rfl dX11_count_179 ?_
    refine W.widen (k := 0) (n := 0) (Nat.le_of_ble_eq_true rfl) (Nat.le_of_ble_eq_true rfl) ?_
    exact W.iret (v := 0) hx hb hr (fun t ht hW => ⟨⟨0, (), rfl, by decide +kernel, trivial⟩, hS.F ht⟩) hS.2.2 dX11_count_182
  by_cases e_16 : p1 = 13
  · subst e_16
    refine lv_tableIn (tgt := 183) (off := 182) hx hb dX11_count_1 (by decide +kernel) (by decide +kernel) rfl (by decide) ?_
    refine lv_aload_n hx hb dX11_count_183 rfl (lv_at hl 0 rfl) ?_
    refine va_get (D := (dC, dI)) (ci := 11) (v := .ref q_67) (C := RX11) (T := TX11) (N := 17) hx hb hts in_t_X11_count_X11 hown hK hP 0 rfl rfl 4 (by decide) (hts (.fieldLink RX11 40 "LawnAhead" "history" "LLawnAhead$History;") (List.mem_of_getElem? (i := 25) rfl)) (fun _ h9 => h9) rfl dX11_count_184 ?_
    have hPc := hP.sub (ws' := [(q_67, .inr (5, [.ref q_69, .ref q_70, .ref q_71, .ref q_72, .int 0, .int 0, .int 0, .int 0, .int 0, .int 0, .int 0]))]) [5] rfl
    have hDc := hD.sub (ws' := [(q_67, .inr (5, [.ref q_69, .ref q_70, .ref q_71, .ref q_72, .int 0, .int 0, .int 0, .int 0, .int 0, .int 0, .int 0]))]) [5] (by decide) rfl
    have hKc := hK.sub (tys' := []) [] rfl
    have hFc := va_free (wc := [(q_67, .inr (5, [.ref q_69, .ref q_70, .ref q_71, .ref q_72, .int 0, .int 0, .int 0, .int 0, .int 0, .int 0, .int 0]))]) hD hS hA [5] rfl
    refine va_calli (va_runV (As := []) (rest := []) ⟨hx, hb, hml, hown, hts⟩ (c_X5_shown l dC dI q_67 q_69 q_70 q_71 q_72 s.heap.size) (cwV 0 hts g_t_X11_count_187_c_X5_shown rfl rfl rfl (by decide +kernel) ⟨Nat.le_of_ble_eq_true rfl, Nat.le_of_ble_eq_true rfl⟩) ⟨fun a U g mk q => by obtain ⟨q0, q1, qP, qK, qD⟩ := q; exact ⟨q0, q1, qP, va_K.moved (u := U) (U := U.calling g mk a) (Vm.Alike.refl U.vm) qK, qD⟩, va_recv hK hP (ci := 5) (q0 := 5) rfl rfl, fun U hU hW => ⟨rfl, by rw [hU], by rw [hU]; exact hPc, va_K.moved hW.alike hKc, hDc.weaken (fun _ _ _ _ => trivial)⟩⟩ rfl rfl hl.1 rfl (lv_room (Nat.le_of_ble_eq_true rfl)) dX11_count_187 ⟨Nat.le_of_ble_eq_true rfl, Nat.le_of_ble_eq_true rfl⟩) hS (fun q _ h => hFc q h) hFc (fun r_17 u t H1 locs ht hvm hw hB hz1 hk1 hS => ?_)
    obtain ⟨hP1, hK1, hD1⟩ := hB
    rw [ht] at hP1
    have hK1 := va_K.moved hvm.symm hK1
    try dsimp only at hw
    obtain ⟨hP, hD⟩ := va_join (wr := [(h0, .inr (11, [.ref q_1, .ref q_5, .ref q_7, .ref q_65, .ref q_67, .ref q_89, .ref q_100, .ref q_106, .ref q_108, .ref q_113, .ref q_73, .ref q_81, .int 0, .int 0, .int (-1), .int 0, .long 0])), (q_73, .inr (4, [.ref q_75, .ref q_76, .ref q_77, .ref q_78, .ref q_79, .int 0, .int 0, .int 0, .int 0, .int 0, .int 0, .int 0, .int 0, .int 0, .int 0])), (q_65, .inr (9, [.int 0, .int 0, .int 0, .int 0, .int 0, .int 0, .int 0, .int 0])), (q_1, .inr (10, [.ref q_3, .int 0, .int 0, .int 0])), (q_113, .inr (1, [.ref q_115, .ref q_116, .int 0]))]) (w1 := [(q_67, .inr (5, [.ref q_69, .ref q_70, .ref q_71, .ref q_72, .int 0, .int 0, .int 0, .int 0, .int 0, .int 0, .int 0]))]) hP hD [5] [0, 1, 2, 3, 4] rfl rfl (by decide) (by decide) hk1 hFc hP1 hD1
    have hK := hK.app hK1
    generalize H1 = H at hP hS ⊢
    have hP : va_P (dC, dI) vwCl [(h0, .inr (11, [.ref q_1, .ref q_5, .ref q_7, .ref q_65, .ref q_67, .ref q_89, .ref q_100, .ref q_106, .ref q_108, .ref q_113, .ref q_73, .ref q_81, .int 0, .int 0, .int (-1), .int 0, .long 0])), (q_73, .inr (4, [.ref q_75, .ref q_76, .ref q_77, .ref q_78, .ref q_79, .int 0, .int 0, .int 0, .int 0, .int 0, .int 0, .int 0, .int 0, .int 0, .int 0])), (q_65, .inr (9, [.int 0, .int 0, .int 0, .int 0, .int 0, .int 0, .int 0, .int 0])), (q_1, .inr (10, [.ref q_3, .int 0, .int 0, .int 0])), (q_113, .inr (1, [.ref q_115, .ref q_116, .int 0])), (q_67, .inr (5, [.ref q_69, .ref q_70, .ref q_71, .ref q_72, .int 0, .int 0, .int 0, .int 0, .int 0, .int 0, .int 0]))] H := hP
    have hD : va_D A [(h0, .inr (11, [.ref q_1, .ref q_5, .ref q_7, .ref q_65, .ref q_67, .ref q_89, .ref q_100, .ref q_106, .ref q_108, .ref q_113, .ref q_73, .ref q_81, .int 0, .int 0, .int (-1), .int 0, .long 0])), (q_73, .inr (4, [.ref q_75, .ref q_76, .ref q_77, .ref q_78, .ref q_79, .int 0, .int 0, .int 0, .int 0, .int 0, .int 0, .int 0, .int 0, .int 0, .int 0])), (q_65, .inr (9, [.int 0, .int 0, .int 0, .int 0, .int 0, .int 0, .int 0, .int 0])), (q_1, .inr (10, [.ref q_3, .int 0, .int 0, .int 0])), (q_113, .inr (1, [.ref q_115, .ref q_116, .int 0])), (q_67, .inr (5, [.ref q_69, .ref q_70, .ref q_71, .ref q_72, .int 0, .int 0, .int 0, .int 0, .int 0, .int 0, .int 0]))] := hD
    have hK : va_K (dC, dI) vwCl [] s := hK
    refine W.widen (k := 0) (n := 0) (Nat.le_of_ble_eq_true rfl) (Nat.le_of_ble_eq_true rfl) ?_
    obtain rfl : r_17 = 0 := hw
    refine W.widen (k := 0) (n := 0) (Nat.le_of_ble_eq_true rfl) (Nat.le_of_ble_eq_true rfl) ?_
    exact W.iret (v := 0) hx hb hr (fun t ht hW => ⟨⟨0, (), rfl, by decide +kernel, trivial⟩, hS.F ht⟩) hS.2.2 dX11_count_190
  by_cases e_18 : p1 = 14
  · subst e_18
    refine lv_tableIn (tgt := 191) (off := 190) hx hb dX11_count_1 (by decide +kernel) (by decide +kernel) rfl (by decide) ?_
    refine lv_aload_n hx hb dX11_count_191 rfl (lv_at hl 0 rfl) ?_
    refine va_get (D := (dC, dI)) (ci := 11) (v := .ref q_67) (C := RX11) (T := TX11) (N := 17) hx hb hts in_t_X11_count_X11 hown hK hP 0 rfl rfl 4 (by decide) (hts (.fieldLink RX11 40 "LawnAhead" "history" "LLawnAhead$History;") (List.mem_of_getElem? (i := 25) rfl)) (fun _ h9 => h9) rfl dX11_count_192 ?_
    refine va_get (D := (dC, dI)) (ci := 5) (v := .int 0) (C := RX5) (T := TX5) (N := 11) hx hb hts in_t_X11_count_X5 hown hK hP 5 rfl rfl 4 (by decide) (hts (.fieldLink RX11 265 "LawnAhead$History" "undoable" "I") (List.mem_of_getElem? (i := 36) rfl)) (fun _ h9 => h9) rfl dX11_count_195 ?_
    refine W.widen (k := 0) (n := 0) (Nat.le_of_ble_eq_true rfl) (Nat.le_of_ble_eq_true rfl) ?_
    exact W.iret (v := 0) hx hb hr (fun t ht hW => ⟨⟨0, (), rfl, by decide +kernel, trivial⟩, hS.F ht⟩) hS.2.2 dX11_count_198
  by_cases e_19 : p1 = 15
  · subst e_19
    refine lv_tableIn (tgt := 199) (off := 198) hx hb dX11_count_1 (by decide +kernel) (by decide +kernel) rfl (by decide) ?_
    refine lv_aload_n hx hb dX11_count_199 rfl (lv_at hl 0 rfl) ?_
    refine va_get (D := (dC, dI)) (ci := 11) (v := .ref q_65) (C := RX11) (T := TX11) (N := 17) hx hb hts in_t_X11_count_X11 hown hK hP 0 rfl rfl 3 (by decide) (hts (.fieldLink RX11 33 "LawnAhead" "now" "LLawnAhead$State;") (List.mem_of_getElem? (i := 3) rfl)) (fun _ h9 => h9) rfl dX11_count_200 ?_
    refine va_get (D := (dC, dI)) (ci := 9) (v := .int 0) (C := RX9) (T := TX9) (N := 8) hx hb hts in_t_X11_count_X9 hown hK hP 2 rfl rfl 0 (by decide) (hts (.fieldLink RX11 169 "LawnAhead$State" "tufts" "I") (List.mem_of_getElem? (i := 4) rfl)) (fun _ h9 => h9) rfl dX11_count_203 ?_
    refine W.widen (k := 0) (n := 0) (Nat.le_of_ble_eq_true rfl) (Nat.le_of_ble_eq_true rfl) ?_
    exact W.iret (v := 0) hx hb hr (fun t ht hW => ⟨⟨0, (), rfl, by decide +kernel, trivial⟩, hS.F ht⟩) hS.2.2 dX11_count_206
  refine lv_tableOut (tgt := 207) hx hb dX11_count_1 (sw_out 15 (by decide) (fun k hk => by rcases (show k = 0 ∨ k = 1 ∨ k = 2 ∨ k = 3 ∨ k = 4 ∨ k = 5 ∨ k = 6 ∨ k = 7 ∨ k = 8 ∨ k = 9 ∨ k = 10 ∨ k = 11 ∨ k = 12 ∨ k = 13 ∨ k = 14 ∨ k = 15 by omega) with rfl | rfl | rfl | rfl | rfl | rfl | rfl | rfl | rfl | rfl | rfl | rfl | rfl | rfl | rfl | rfl <;> first | exact e_1 | exact e_2 | exact e_4 | exact e_5 | exact e_6 | exact e_7 | exact e_8 | exact e_9 | exact e_10 | exact e_12 | exact e_13 | exact e_14 | exact e_15 | exact e_16 | exact e_18 | exact e_19)) (by decide) ?_
  refine lv_ldcw hx hb hown (hts (.constant RX11 271 (-1000000)) (List.mem_of_getElem? (i := 37) rfl)) dX11_count_207 ?_
  refine W.widen (k := 0) (n := 0) (Nat.le_of_ble_eq_true rfl) (Nat.le_of_ble_eq_true rfl) ?_
  exact W.iret (v := (-1000000)) hx hb hr (fun t ht hW => ⟨⟨(-1000000), (), rfl, (by unfold F_count; rw [if_neg e_1]; rw [if_neg e_2]; rw [if_neg e_4]; rw [if_neg e_5]; rw [if_neg e_6]; rw [if_neg e_7]; rw [if_neg e_8]; rw [if_neg e_9]; rw [if_neg e_10]; rw [if_neg e_12]; rw [if_neg e_13]; rw [if_neg e_14]; rw [if_neg e_15]; rw [if_neg e_16]; rw [if_neg e_18]; rw [if_neg e_19]), trivial⟩, hS.F ht⟩) hS.2.2 dX11_count_210
