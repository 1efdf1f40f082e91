def w_c_X11_isGame : List Cond := .code yX11_isGame cX11_isGame 2 (some .boolean) :: ([.fieldLink RX11 119 "LawnAhead" "gameCount" "I"] ++ (wsX110 ++ []))
theorem in_c_X11_isGame_X11 : ∀ w ∈ wsX110, w ∈ w_c_X11_isGame := fun w h => List.mem_cons_of_mem _ (List.mem_append_right _ (List.mem_append_left _ h))
set_option maxHeartbeats 8000000 in
set_option maxRecDepth 100000 in
theorem c_X11_isGame (l : Launch) (dC : Nat → ClassId) (dI : Nat → Nat → Nat) (h0 : Nat) (p1 : Int32) (q_1 : Nat) (q_5 : Nat) (q_7 : Nat) (q_65 : Nat) (q_67 : Nat) (q_89 : Nat) (q_100 : Nat) (q_106 : Nat) (q_108 : Nat) (q_113 : Nat) (q_73 : Nat) (q_81 : Nat) (sz : Nat) : Met l yX11_isGame w_c_X11_isGame ({ frames := 0, cells := 0, slots := 0, locals := 0 }) (va_Pc [.ref h0, .int p1] (fun U => U.heap.size = sz ∧ va_P (dC, dI) vwCl [(h0, .inr (11, [.ref q_1, .ref q_5, .ref q_7, .ref q_65, .ref q_67, .ref q_89, .ref q_100, .ref q_106, .ref q_108, .ref q_113, .ref q_73, .ref q_81, .int 0, .int 0, .int (-1), .int 0, .long 0]))] U.heap ∧ va_K (dC, dI) vwCl [] U ∧ va_D (fun _ => True) [(h0, .inr (11, [.ref q_1, .ref q_5, .ref q_7, .ref q_65, .ref q_67, .ref q_89, .ref q_100, .ref q_106, .ref q_108, .ref q_113, .ref q_73, .ref q_81, .int 0, .int 0, .int (-1), .int 0, .long 0]))])) (va_Qi (fun (r : Int32) (_ : Unit) => r = 0) (fun _ t => va_P (dC, dI) vwCl [(h0, .inr (11, [.ref q_1, .ref q_5, .ref q_7, .ref q_65, .ref q_67, .ref q_89, .ref q_100, .ref q_106, .ref q_108, .ref q_113, .ref q_73, .ref q_81, .int 0, .int 0, .int (-1), .int 0, .long 0]))] t.heap ∧ va_K (dC, dI) vwCl [] t ∧ va_D (va_A [(h0, .inr (11, [.ref q_1, .ref q_5, .ref q_7, .ref q_65, .ref q_67, .ref q_89, .ref q_100, .ref q_106, .ref q_108, .ref q_113, .ref q_73, .ref q_81, .int 0, .int 0, .int (-1), .int 0, .long 0]))] sz) [(h0, .inr (11, [.ref q_1, .ref q_5, .ref q_7, .ref q_65, .ref q_67, .ref q_89, .ref q_100, .ref q_106, .ref q_108, .ref q_113, .ref q_73, .ref q_81, .int 0, .int 0, .int (-1), .int 0, .long 0]))]) (va_A [(h0, .inr (11, [.ref q_1, .ref q_5, .ref q_7, .ref q_65, .ref q_67, .ref q_89, .ref q_100, .ref q_106, .ref q_108, .ref q_113, .ref q_73, .ref q_81, .int 0, .int 0, .int (-1), .int 0, .long 0]))] sz)) 0 0 (va_A [(h0, .inr (11, [.ref q_1, .ref q_5, .ref q_7, .ref q_65, .ref q_67, .ref q_89, .ref q_100, .ref q_106, .ref q_108, .ref q_113, .ref q_73, .ref q_81, .int 0, .int 0, .int (-1), .int 0, .long 0]))] sz) := by
  refine Met.ofW (cc := cX11_isGame) (maxL := 2) (ret := (some .boolean)) (by decide) rfl ?_
  intro p e s m args below meth c s₁ B hml hv
  obtain ⟨rfl, hsz, hP, hK, hD0⟩ := hv
  have hx := B.exec
  have hb := B.bytes
  have hr := B.returns
  have hts := atoms_spec (ws := w_c_X11_isGame) B.pre
  have hown : s.vm.findClass RX11 = some m.cls := findClass_of_methodNamed B.named
  have hlocks := B.notSynchronized
  subst hsz
  have hD := hD0.self (sz := s.heap.size)
  generalize hAe : va_A [(h0, .inr (11, [.ref q_1, .ref q_5, .ref q_7, .ref q_65, .ref q_67, .ref q_89, .ref q_100, .ref q_106, .ref q_108, .ref q_113, .ref q_73, .ref q_81, .int 0, .int 0, .int (-1), .int 0, .long 0]))] s.heap.size = A at hD ⊢
  have hA : ∀ q : Nat, s.heap.size ≤ q → A q := fun q h => by rw [← hAe]; exact Or.inr h
  have hS : va_S A s.heap s.heap [] := va_S.rf
  have hP : va_P (dC, dI) vwCl [(h0, .inr (11, [.ref q_1, .ref q_5, .ref q_7, .ref q_65, .ref q_67, .ref q_89, .ref q_100, .ref q_106, .ref q_108, .ref q_113, .ref q_73, .ref q_81, .int 0, .int 0, .int (-1), .int 0, .long 0]))] s.heap := hP
  have hl := lv_entry ([.ref h0, .int p1]) (n := 2) (Nat.le_of_ble_eq_true rfl)
  rw [lg_entry_eq]
  generalize (lg_sl ([.ref h0, .int p1]) ++ List.replicate (2 - (lg_sl ([.ref h0, .int p1])).length) Slot.unset).toArray = ls at hl ⊢
  have hl : lv_has ls 2 [(0, .ref h0), (1, .int p1)] := hl
  refine lv_iload_n hx hb dX11_isGame_0 rfl (lv_at hl 1 rfl) ?_
  refine lv_if_lt (tgt := 16) hx hb dX11_isGame_1 (by decide) (fun c_1 => ?_) (fun c_1 => ?_)
  · refine lv_iconst (v := 0) hx hb dX11_isGame_16 (by decide +kernel) ?_
    refine W.widen (k := 0) (n := 0) (Nat.le_of_ble_eq_true rfl) (Nat.le_of_ble_eq_true rfl) ?_
    have hP9 := hP.sub (ws' := [(h0, .inr (11, [.ref q_1, .ref q_5, .ref q_7, .ref q_65, .ref q_67, .ref q_89, .ref q_100, .ref q_106, .ref q_108, .ref q_113, .ref q_73, .ref q_81, .int 0, .int 0, .int (-1), .int 0, .long 0]))]) [0] rfl
    have hD9 := hD.sub (ws' := [(h0, .inr (11, [.ref q_1, .ref q_5, .ref q_7, .ref q_65, .ref q_67, .ref q_89, .ref q_100, .ref q_106, .ref q_108, .ref q_113, .ref q_73, .ref q_81, .int 0, .int 0, .int (-1), .int 0, .long 0]))]) [0] (by decide) rfl
    have hK9 := hK.sub (tys' := []) [] rfl
    exact W.zret (ty := .boolean) (v := 0) hx hb hr (by decide +kernel) (fun t ht hW => ⟨⟨0, (), rfl, rfl, by rw [ht]; exact hP9, va_K.moved hW.alike hK9, hD9⟩, hS.F ht⟩) hS.2.2 dX11_isGame_17
  · refine lv_iload_n hx hb dX11_isGame_4 rfl (lv_at hl 1 rfl) ?_
    refine lv_aload_n hx hb dX11_isGame_5 rfl (lv_at hl 0 rfl) ?_
    refine va_get (D := (dC, dI)) (ci := 11) (v := .int 0) (C := RX11) (T := TX11) (N := 17) hx hb hts in_c_X11_isGame_X11 hown hK hP 0 rfl rfl 13 (by decide) (hts (.fieldLink RX11 119 "LawnAhead" "gameCount" "I") (List.mem_of_getElem? (i := 1) rfl)) (fun _ h9 => h9) rfl dX11_isGame_6 ?_
    refine lv_icmp_ge (tgt := 16) hx hb dX11_isGame_9 (by decide) (fun c_2 => ?_) (fun c_2 => ?_)
    · refine lv_iconst (v := 0) hx hb dX11_isGame_16 (by decide +kernel) ?_
      refine W.widen (k := 0) (n := 0) (Nat.le_of_ble_eq_true rfl) (Nat.le_of_ble_eq_true rfl) ?_
      have hP9 := hP.sub (ws' := [(h0, .inr (11, [.ref q_1, .ref q_5, .ref q_7, .ref q_65, .ref q_67, .ref q_89, .ref q_100, .ref q_106, .ref q_108, .ref q_113, .ref q_73, .ref q_81, .int 0, .int 0, .int (-1), .int 0, .long 0]))]) [0] rfl
      have hD9 := hD.sub (ws' := [(h0, .inr (11, [.ref q_1, .ref q_5, .ref q_7, .ref q_65, .ref q_67, .ref q_89, .ref q_100, .ref q_106, .ref q_108, .ref q_113, .ref q_73, .ref q_81, .int 0, .int 0, .int (-1), .int 0, .long 0]))]) [0] (by decide) rfl
      have hK9 := hK.sub (tys' := []) [] rfl
      exact W.zret (ty := .boolean) (v := 0) hx hb hr (by decide +kernel) (fun t ht hW => ⟨⟨0, (), rfl, rfl, by rw [ht]; exact hP9, va_K.moved hW.alike hK9, hD9⟩, hS.F ht⟩) hS.2.2 dX11_isGame_17
    · exfalso
      have l0 : (0 : Int32).toInt = 0 := (by decide +kernel); have l1 : ((-1) : Int32).toInt = -1 := (by decide +kernel); have l2 : (1 : Int32).toInt = 1 := (by decide +kernel); have l3 : (2 : Int32).toInt = 2 := (by decide +kernel); have l4 : (3 : Int32).toInt = 3 := (by decide +kernel); have l5 : (4 : Int32).toInt = 4 := (by decide +kernel); have l6 : (5 : Int32).toInt = 5 := (by decide +kernel); have l7 : (10 : Int32).toInt = 10 := (by decide +kernel); have l8 : (12 : Int32).toInt = 12 := (by decide +kernel); have l9 : (15 : Int32).toInt = 15 := (by decide +kernel); have l10 : (30 : Int32).toInt = 30 := (by decide +kernel); have l11 : (99 : Int32).toInt = 99 := (by decide +kernel); have l12 : (100 : Int32).toInt = 100 := (by decide +kernel); have l13 : (240 : Int32).toInt = 240 := (by decide +kernel); simp only [Int32.lt_iff_toInt_lt, Int32.le_iff_toInt_le, ← Int32.toInt_inj, l0, l1, l2, l3, l4, l5, l6, l7, l8, l9, l10, l11, l12, l13] at c_1 c_2; omega

def w_c_X7_allows : List Cond := .code yX7_allows cX7_allows 7 (some .boolean) :: ([.fieldLink RX7 31 "LawnAhead$Play" "sight" "LLawnAhead$Sight;", .fieldLink RX7 36 "LawnAhead$Sight" "ground" "LLawnAhead$Ground;", .fieldLink RX7 42 "LawnAhead$Ground" "cells" "I"] ++ (wsX70 ++ (wsX80 ++ (wsX40 ++ []))))
theorem in_c_X7_allows_X7 : ∀ w ∈ wsX70, w ∈ w_c_X7_allows := fun w h => List.mem_cons_of_mem _ (List.mem_append_right _ (List.mem_append_left _ h))
theorem in_c_X7_allows_X8 : ∀ w ∈ wsX80, w ∈ w_c_X7_allows := fun w h => List.mem_cons_of_mem _ (List.mem_append_right _ (List.mem_append_right _ (List.mem_append_left _ h)))
theorem in_c_X7_allows_X4 : ∀ w ∈ wsX40, w ∈ w_c_X7_allows := fun w h => List.mem_cons_of_mem _ (List.mem_append_right _ (List.mem_append_right _ (List.mem_append_right _ (List.mem_append_left _ h))))
set_option maxHeartbeats 8000000 in
set_option maxRecDepth 100000 in
theorem c_X7_allows (l : Launch) (dC : Nat → ClassId) (dI : Nat → Nat → Nat) (h0 : Nat) (p1 : Nat) (p2 : Int32) (p3 : Int32) (p4 : Int32) (p5 : Int32) (q_89 : Nat) (q_102 : Nat) (q_103 : Nat) (q_104 : Nat) (q_105 : Nat) (q_73 : Nat) (q_91 : Nat) (q_92 : Nat) (q_93 : Nat) (q_94 : Nat) (q_95 : Nat) (q_96 : Nat) (q_75 : Nat) (q_76 : Nat) (q_77 : Nat) (q_78 : Nat) (q_79 : Nat) (sz : Nat) : Met l yX7_allows w_c_X7_allows ({ frames := 0, cells := 0, slots := 0, locals := 0 }) (va_Pc [.ref h0, .ref p1, .int p2, .int p3, .int p4, .int p5] (fun U => U.heap.size = sz ∧ va_P (dC, dI) vwCl [(h0, .inr (7, [.ref q_89, .ref q_102, .ref q_103, .ref q_104, .ref q_105, .int 0, .int 0, .int 0, .int 0])), (q_89, .inr (8, [.ref q_73, .null, .ref q_91, .ref q_92, .ref q_93, .ref q_94, .ref q_95, .ref q_96, .int 0])), (q_73, .inr (4, [.ref q_75, .ref q_76, .ref q_77, .ref q_78, .ref q_79, .int 0, .int 0, .int 0, .int 0, .int 0, .int 0, .int 0, .int 0, .int 0, .int 0]))] U.heap ∧ va_K (dC, dI) vwCl [] U ∧ va_D (fun _ => True) [(h0, .inr (7, [.ref q_89, .ref q_102, .ref q_103, .ref q_104, .ref q_105, .int 0, .int 0, .int 0, .int 0])), (q_89, .inr (8, [.ref q_73, .null, .ref q_91, .ref q_92, .ref q_93, .ref q_94, .ref q_95, .ref q_96, .int 0])), (q_73, .inr (4, [.ref q_75, .ref q_76, .ref q_77, .ref q_78, .ref q_79, .int 0, .int 0, .int 0, .int 0, .int 0, .int 0, .int 0, .int 0, .int 0, .int 0]))])) (va_Qi (fun (r : Int32) (_ : Unit) => r = 0) (fun _ t => va_P (dC, dI) vwCl [(h0, .inr (7, [.ref q_89, .ref q_102, .ref q_103, .ref q_104, .ref q_105, .int 0, .int 0, .int 0, .int 0])), (q_89, .inr (8, [.ref q_73, .null, .ref q_91, .ref q_92, .ref q_93, .ref q_94, .ref q_95, .ref q_96, .int 0])), (q_73, .inr (4, [.ref q_75, .ref q_76, .ref q_77, .ref q_78, .ref q_79, .int 0, .int 0, .int 0, .int 0, .int 0, .int 0, .int 0, .int 0, .int 0, .int 0]))] t.heap ∧ va_K (dC, dI) vwCl [] t ∧ va_D (va_A [(h0, .inr (7, [.ref q_89, .ref q_102, .ref q_103, .ref q_104, .ref q_105, .int 0, .int 0, .int 0, .int 0])), (q_89, .inr (8, [.ref q_73, .null, .ref q_91, .ref q_92, .ref q_93, .ref q_94, .ref q_95, .ref q_96, .int 0])), (q_73, .inr (4, [.ref q_75, .ref q_76, .ref q_77, .ref q_78, .ref q_79, .int 0, .int 0, .int 0, .int 0, .int 0, .int 0, .int 0, .int 0, .int 0, .int 0]))] sz) [(h0, .inr (7, [.ref q_89, .ref q_102, .ref q_103, .ref q_104, .ref q_105, .int 0, .int 0, .int 0, .int 0])), (q_89, .inr (8, [.ref q_73, .null, .ref q_91, .ref q_92, .ref q_93, .ref q_94, .ref q_95, .ref q_96, .int 0])), (q_73, .inr (4, [.ref q_75, .ref q_76, .ref q_77, .ref q_78, .ref q_79, .int 0, .int 0, .int 0, .int 0, .int 0, .int 0, .int 0, .int 0, .int 0, .int 0]))]) (va_A [(h0, .inr (7, [.ref q_89, .ref q_102, .ref q_103, .ref q_104, .ref q_105, .int 0, .int 0, .int 0, .int 0])), (q_89, .inr (8, [.ref q_73, .null, .ref q_91, .ref q_92, .ref q_93, .ref q_94, .ref q_95, .ref q_96, .int 0])), (q_73, .inr (4, [.ref q_75, .ref q_76, .ref q_77, .ref q_78, .ref q_79, .int 0, .int 0, .int 0, .int 0, .int 0, .int 0, .int 0, .int 0, .int 0, .int 0]))] sz)) 0 0 (va_A [(h0, .inr (7, [.ref q_89, .ref q_102, .ref q_103, .ref q_104, .ref q_105, .int 0, .int 0, .int 0, .int 0])), (q_89, .inr (8, [.ref q_73, .null, .ref q_91, .ref q_92, .ref q_93, .ref q_94, .ref q_95, .ref q_96, .int 0])), (q_73, .inr (4, [.ref q_75, .ref q_76, .ref q_77, .ref q_78, .ref q_79, .int 0, .int 0, .int 0, .int 0, .int 0, .int 0, .int 0, .int 0, .int 0, .int 0]))] sz) := by
  refine Met.ofW (cc := cX7_allows) (maxL := 7) (ret := (some .boolean)) (by decide) rfl ?_
  intro p e s m args below meth c s₁ B hml hv
  obtain ⟨rfl, hsz, hP, hK, hD0⟩ := hv
  have hx := B.exec
  have hb := B.bytes
  have hr := B.returns
  have hts := atoms_spec (ws := w_c_X7_allows) B.pre
  have hown : s.vm.findClass RX7 = some m.cls := findClass_of_methodNamed B.named
  have hlocks := B.notSynchronized
  subst hsz
  have hD := hD0.self (sz := s.heap.size)
  generalize hAe : va_A [(h0, .inr (7, [.ref q_89, .ref q_102, .ref q_103, .ref q_104, .ref q_105, .int 0, .int 0, .int 0, .int 0])), (q_89, .inr (8, [.ref q_73, .null, .ref q_91, .ref q_92, .ref q_93, .ref q_94, .ref q_95, .ref q_96, .int 0])), (q_73, .inr (4, [.ref q_75, .ref q_76, .ref q_77, .ref q_78, .ref q_79, .int 0, .int 0, .int 0, .int 0, .int 0, .int 0, .int 0, .int 0, .int 0, .int 0]))] s.heap.size = A at hD ⊢
  have hA : ∀ q : Nat, s.heap.size ≤ q → A q := fun q h => by rw [← hAe]; exact Or.inr h
  have hS : va_S A s.heap s.heap [] := va_S.rf
  have hP : va_P (dC, dI) vwCl [(h0, .inr (7, [.ref q_89, .ref q_102, .ref q_103, .ref q_104, .ref q_105, .int 0, .int 0, .int 0, .int 0])), (q_89, .inr (8, [.ref q_73, .null, .ref q_91, .ref q_92, .ref q_93, .ref q_94, .ref q_95, .ref q_96, .int 0])), (q_73, .inr (4, [.ref q_75, .ref q_76, .ref q_77, .ref q_78, .ref q_79, .int 0, .int 0, .int 0, .int 0, .int 0, .int 0, .int 0, .int 0, .int 0, .int 0]))] s.heap := hP
  have hl := lv_entry ([.ref h0, .ref p1, .int p2, .int p3, .int p4, .int p5]) (n := 7) (Nat.le_of_ble_eq_true rfl)
  rw [lg_entry_eq]
  generalize (lg_sl ([.ref h0, .ref p1, .int p2, .int p3, .int p4, .int p5]) ++ List.replicate (7 - (lg_sl ([.ref h0, .ref p1, .int p2, .int p3, .int p4, .int p5])).length) Slot.unset).toArray = ls at hl ⊢
  have hl : lv_has ls 7 [(0, .ref h0), (1, .ref p1), (2, .int p2), (3, .int p3), (4, .int p4), (5, .int p5)] := hl
  refine lv_aload_n hx hb dX7_allows_0 rfl (lv_at hl 0 rfl) ?_
  refine va_get (D := (dC, dI)) (ci := 7) (v := .ref q_89) (C := RX7) (T := TX7) (N := 9) hx hb hts in_c_X7_allows_X7 hown hK hP 0 rfl rfl 0 (by decide) (hts (.fieldLink RX7 31 "LawnAhead$Play" "sight" "LLawnAhead$Sight;") (List.mem_of_getElem? (i := 1) rfl)) (fun _ h9 => h9) rfl dX7_allows_1 ?_
  refine va_get (D := (dC, dI)) (ci := 8) (v := .ref q_73) (C := RX8) (T := TX8) (N := 9) hx hb hts in_c_X7_allows_X8 hown hK hP 1 rfl rfl 0 (by decide) (hts (.fieldLink RX7 36 "LawnAhead$Sight" "ground" "LLawnAhead$Ground;") (List.mem_of_getElem? (i := 2) rfl)) (fun _ h9 => h9) rfl dX7_allows_4 ?_
  refine lv_astore (lv' := [(6, .ref q_73), (0, .ref h0), (1, .ref p1), (2, .int p2), (3, .int p3), (4, .int p4), (5, .int p5)]) hx hb dX7_allows_7 hl (by decide) rfl (fun ls hl => ?_)
  refine lv_aload hx hb dX7_allows_9 (lv_at hl 0 rfl) ?_
  refine va_get (D := (dC, dI)) (ci := 4) (v := .int 0) (C := RX4) (T := TX4) (N := 15) hx hb hts in_c_X7_allows_X4 hown hK hP 2 rfl rfl 5 (by decide) (hts (.fieldLink RX7 42 "LawnAhead$Ground" "cells" "I") (List.mem_of_getElem? (i := 3) rfl)) (fun _ h9 => h9) rfl dX7_allows_11 ?_
  refine lv_if_eq (tgt := 24) hx hb dX7_allows_14 (by decide) (fun c_1 => ?_) (fun c_1 => absurd (by decide +kernel) c_1)
  refine lv_iconst (v := 0) hx hb dX7_allows_24 (by decide +kernel) ?_
  refine W.widen (k := 0) (n := 0) (Nat.le_of_ble_eq_true rfl) (Nat.le_of_ble_eq_true rfl) ?_
  have hP9 := hP.sub (ws' := [(h0, .inr (7, [.ref q_89, .ref q_102, .ref q_103, .ref q_104, .ref q_105, .int 0, .int 0, .int 0, .int 0])), (q_89, .inr (8, [.ref q_73, .null, .ref q_91, .ref q_92, .ref q_93, .ref q_94, .ref q_95, .ref q_96, .int 0])), (q_73, .inr (4, [.ref q_75, .ref q_76, .ref q_77, .ref q_78, .ref q_79, .int 0, .int 0, .int 0, .int 0, .int 0, .int 0, .int 0, .int 0, .int 0, .int 0]))]) [0, 1, 2] rfl
  have hD9 := hD.sub (ws' := [(h0, .inr (7, [.ref q_89, .ref q_102, .ref q_103, .ref q_104, .ref q_105, .int 0, .int 0, .int 0, .int 0])), (q_89, .inr (8, [.ref q_73, .null, .ref q_91, .ref q_92, .ref q_93, .ref q_94, .ref q_95, .ref q_96, .int 0])), (q_73, .inr (4, [.ref q_75, .ref q_76, .ref q_77, .ref q_78, .ref q_79, .int 0, .int 0, .int 0, .int 0, .int 0, .int 0, .int 0, .int 0, .int 0, .int 0]))]) [0, 1, 2] (by decide) rfl
  have hK9 := hK.sub (tys' := []) [] rfl
  exact W.zret (ty := .boolean) (v := 0) hx hb hr (by decide +kernel) (fun t ht hW => ⟨⟨0, (), rfl, rfl, by rw [ht]; exact hP9, va_K.moved hW.alike hK9, hD9⟩, hS.F ht⟩) hS.2.2 dX7_allows_25

def w_c_X11_act : List Cond := .code yX11_act cX11_act 6 (some .boolean) :: ([.fieldLink RX11 68 "LawnAhead" "play" "LLawnAhead$Play;", .fieldLink RX11 33 "LawnAhead" "now" "LLawnAhead$State;", .fieldLink RX7 31 "LawnAhead$Play" "sight" "LLawnAhead$Sight;", .fieldLink RX7 36 "LawnAhead$Sight" "ground" "LLawnAhead$Ground;", .fieldLink RX7 42 "LawnAhead$Ground" "cells" "I", .code yX7_allows cX7_allows 7 (some .boolean), .methodLink RX11 211 yX7_allows, .instanceMethod yX7_allows, .selects RX7 yX7_allows yX7_allows, .initialized RX7] ++ (wsX110 ++ (wsX70 ++ (wsX80 ++ (wsX40 ++ [])))))
theorem in_c_X11_act_X11 : ∀ w ∈ wsX110, w ∈ w_c_X11_act := fun w h => List.mem_cons_of_mem _ (List.mem_append_right _ (List.mem_append_left _ h))
theorem in_c_X11_act_X7 : ∀ w ∈ wsX70, w ∈ w_c_X11_act := fun w h => List.mem_cons_of_mem _ (List.mem_append_right _ (List.mem_append_right _ (List.mem_append_left _ h)))
theorem in_c_X11_act_X8 : ∀ w ∈ wsX80, w ∈ w_c_X11_act := fun w h => List.mem_cons_of_mem _ (List.mem_append_right _ (List.mem_append_right _ (List.mem_append_right _ (List.mem_append_left _ h))))
theorem in_c_X11_act_X4 : ∀ w ∈ wsX40, w ∈ w_c_X11_act := fun w h => List.mem_cons_of_mem _ (List.mem_append_right _ (List.mem_append_right _ (List.mem_append_right _ (List.mem_append_right _ (List.mem_append_left _ h)))))
set_option maxRecDepth 100000 in
theorem g_c_X11_act_13_c_X7_allows : GoodIn w_c_X11_act (([.methodLink RX11 211 yX7_allows, .instanceMethod yX7_allows, .selects RX7 yX7_allows yX7_allows, .initialized RX7] : List Cond) ++ w_c_X7_allows) := goodIn_r _ [7, 8, 9, 10, 6, 3, 4, 5, 28, 29, 30, 31, 32, 33, 34, 35, 36, 37, 38, 39, 40, 41, 42, 43, 44, 45, 46, 47, 48, 49, 50, 51, 52, 53, 54, 55, 56, 57, 58, 59, 60] rfl (by decide +kernel)
set_option maxHeartbeats 8000000 in
set_option maxRecDepth 100000 in
theorem c_X11_act (l : Launch) (dC : Nat → ClassId) (dI : Nat → Nat → Nat) (h0 : Nat) (p1 : Int32) (p2 : Int32) (p3 : Int32) (p4 : Int32) (q_1 : Nat) (q_5 : Nat) (q_7 : Nat) (q_65 : Nat) (q_67 : Nat) (q_89 : Nat) (q_100 : Nat) (q_106 : Nat) (q_108 : Nat) (q_113 : Nat) (q_73 : Nat) (q_81 : Nat) (q_102 : Nat) (q_103 : Nat) (q_104 : Nat) (q_105 : Nat) (q_91 : Nat) (q_92 : Nat) (q_93 : Nat) (q_94 : Nat) (q_95 : Nat) (q_96 : Nat) (q_75 : Nat) (q_76 : Nat) (q_77 : Nat) (q_78 : Nat) (q_79 : Nat) (sz : Nat) : Met l yX11_act w_c_X11_act ({ frames := 1, cells := 0, slots := 0, locals := 26 }) (va_Pc [.ref h0, .int p1, .int p2, .int p3, .int p4] (fun U => U.heap.size = sz ∧ va_P (dC, dI) vwCl [(h0, .inr (11, [.ref q_1, .ref q_5, .ref q_7, .ref q_65, .ref q_67, .ref q_89, .ref q_100, .ref q_106, .ref q_108, .ref q_113, .ref q_73, .ref q_81, .int 0, .int 0, .int (-1), .int 0, .long 0])), (q_100, .inr (7, [.ref q_89, .ref q_102, .ref q_103, .ref q_104, .ref q_105, .int 0, .int 0, .int 0, .int 0])), (q_89, .inr (8, [.ref q_73, .null, .ref q_91, .ref q_92, .ref q_93, .ref q_94, .ref q_95, .ref q_96, .int 0])), (q_73, .inr (4, [.ref q_75, .ref q_76, .ref q_77, .ref q_78, .ref q_79, .int 0, .int 0, .int 0, .int 0, .int 0, .int 0, .int 0, .int 0, .int 0, .int 0]))] U.heap ∧ va_K (dC, dI) vwCl [] U ∧ va_D (fun _ => True) [(h0, .inr (11, [.ref q_1, .ref q_5, .ref q_7, .ref q_65, .ref q_67, .ref q_89, .ref q_100, .ref q_106, .ref q_108, .ref q_113, .ref q_73, .ref q_81, .int 0, .int 0, .int (-1), .int 0, .long 0])), (q_100, .inr (7, [.ref q_89, .ref q_102, .ref q_103, .ref q_104, .ref q_105, .int 0, .int 0, .int 0, .int 0])), (q_89, .inr (8, [.ref q_73, .null, .ref q_91, .ref q_92, .ref q_93, .ref q_94, .ref q_95, .ref q_96, .int 0])), (q_73, .inr (4, [.ref q_75, .ref q_76, .ref q_77, .ref q_78, .ref q_79, .int 0, .int 0, .int 0, .int 0, .int 0, .int 0, .int 0, .int 0, .int 0, .int 0]))])) (va_Qi (fun (r : Int32) (_ : Unit) => r = 0) (fun _ t => va_P (dC, dI) vwCl [(h0, .inr (11, [.ref q_1, .ref q_5, .ref q_7, .ref q_65, .ref q_67, .ref q_89, .ref q_100, .ref q_106, .ref q_108, .ref q_113, .ref q_73, .ref q_81, .int 0, .int 0, .int (-1), .int 0, .long 0])), (q_100, .inr (7, [.ref q_89, .ref q_102, .ref q_103, .ref q_104, .ref q_105, .int 0, .int 0, .int 0, .int 0])), (q_89, .inr (8, [.ref q_73, .null, .ref q_91, .ref q_92, .ref q_93, .ref q_94, .ref q_95, .ref q_96, .int 0])), (q_73, .inr (4, [.ref q_75, .ref q_76, .ref q_77, .ref q_78, .ref q_79, .int 0, .int 0, .int 0, .int 0, .int 0, .int 0, .int 0, .int 0, .int 0, .int 0]))] t.heap ∧ va_K (dC, dI) vwCl [] t ∧ va_D (va_A [(h0, .inr (11, [.ref q_1, .ref q_5, .ref q_7, .ref q_65, .ref q_67, .ref q_89, .ref q_100, .ref q_106, .ref q_108, .ref q_113, .ref q_73, .ref q_81, .int 0, .int 0, .int (-1), .int 0, .long 0])), (q_100, .inr (7, [.ref q_89, .ref q_102, .ref q_103, .ref q_104, .ref q_105, .int 0, .int 0, .int 0, .int 0])), (q_89, .inr (8, [.ref q_73, .null, .ref q_91, .ref q_92, .ref q_93, .ref q_94, .ref q_95, .ref q_96, .int 0])), (q_73, .inr (4, [.ref q_75, .ref q_76, .ref q_77, .ref q_78, .ref q_79, .int 0, .int 0, .int 0, .int 0, .int 0, .int 0, .int 0, .int 0, .int 0, .int 0]))] sz) [(h0, .inr (11, [.ref q_1, .ref q_5, .ref q_7, .ref q_65, .ref q_67, .ref q_89, .ref q_100, .ref q_106, .ref q_108, .ref q_113, .ref q_73, .ref q_81, .int 0, .int 0, .int (-1), .int 0, .long 0])), (q_100, .inr (7, [.ref q_89, .ref q_102, .ref q_103, .ref q_104, .ref q_105, .int 0, .int 0, .int 0, .int 0])), (q_89, .inr (8, [.ref q_73, .null, .ref q_91, .ref q_92, .ref q_93, .ref q_94, .ref q_95, .ref q_96, .int 0])), (q_73, .inr (4, [.ref q_75, .ref q_76, .ref q_77, .ref q_78, .ref q_79, .int 0, .int 0, .int 0, .int 0, .int 0, .int 0, .int 0, .int 0, .int 0, .int 0]))]) (va_A [(h0, .inr (11, [.ref q_1, .ref q_5, .ref q_7, .ref q_65, .ref q_67, .ref q_89, .ref q_100, .ref q_106, .ref q_108, .ref q_113, .ref q_73, .ref q_81, .int 0, .int 0, .int (-1), .int 0, .long 0])), (q_100, .inr (7, [.ref q_89, .ref q_102, .ref q_103, .ref q_104, .ref q_105, .int 0, .int 0, .int 0, .int 0])), (q_89, .inr (8, [.ref q_73, .null, .ref q_91, .ref q_92, .ref q_93, .ref q_94, .ref q_95, .ref q_96, .int 0])), (q_73, .inr (4, [.ref q_75, .ref q_76, .ref q_77, .ref q_78, .ref q_79, .int 0, .int 0, .int 0, .int 0, .int 0, .int 0, .int 0, .int 0, .int 0, .int 0]))] sz)) 0 0 (va_A [(h0, .inr (11, [.ref q_1, .ref q_5, .ref q_7, .ref q_65, .ref q_67, .ref q_89, .ref q_100, .ref q_106, .ref q_108, .ref q_113, .ref q_73, .ref q_81, .int 0, .int 0, .int (-1), .int 0, .long 0])), (q_100, .inr (7, [.ref q_89, .ref q_102, .ref q_103, .ref q_104, .ref q_105, .int 0, .int 0, .int 0, .int 0])), (q_89, .inr (8, [.ref q_73, .null, .ref q_91, .ref q_92, .ref q_93, .ref q_94, .ref q_95, .ref q_96, .int 0])), (q_73, .inr (4, [.ref q_75, .ref q_76, .ref q_77, .ref q_78, .ref q_79, .int 0, .int 0, .int 0, .int 0, .int 0, .int 0, .int 0, .int 0, .int 0, .int 0]))] sz) := by
  refine Met.ofW (cc := cX11_act) (maxL := 6) (ret := (some .boolean)) (by decide) rfl ?_
  intro p e s m args below meth c s₁ B hml hv
  obtain ⟨rfl, hsz, hP, hK, hD0⟩ := hv
  have hx := B.exec
  have hb := B.bytes
  have hr := B.returns
  have hts := atoms_spec (ws := w_c_X11_act) B.pre
  have hown : s.vm.findClass RX11 = some m.cls := findClass_of_methodNamed B.named
  have hlocks := B.notSynchronized
  subst hsz
  have hD := hD0.self (sz := s.heap.size)
  generalize hAe : va_A [(h0, .inr (11, [.ref q_1, .ref q_5, .ref q_7, .ref q_65, .ref q_67, .ref q_89, .ref q_100, .ref q_106, .ref q_108, .ref q_113, .ref q_73, .ref q_81, .int 0, .int 0, .int (-1), .int 0, .long 0])), (q_100, .inr (7, [.ref q_89, .ref q_102, .ref q_103, .ref q_104, .ref q_105, .int 0, .int 0, .int 0, .int 0])), (q_89, .inr (8, [.ref q_73, .null, .ref q_91, .ref q_92, .ref q_93, .ref q_94, .ref q_95, .ref q_96, .int 0])), (q_73, .inr (4, [.ref q_75, .ref q_76, .ref q_77, .ref q_78, .ref q_79, .int 0, .int 0, .int 0, .int 0, .int 0, .int 0, .int 0, .int 0, .int 0, .int 0]))] s.heap.size = A at hD ⊢
  have hA : ∀ q : Nat, s.heap.size ≤ q → A q := fun q h => by rw [← hAe]; exact Or.inr h
  have hS : va_S A s.heap s.heap [] := va_S.rf
  have hP : va_P (dC, dI) vwCl [(h0, .inr (11, [.ref q_1, .ref q_5, .ref q_7, .ref q_65, .ref q_67, .ref q_89, .ref q_100, .ref q_106, .ref q_108, .ref q_113, .ref q_73, .ref q_81, .int 0, .int 0, .int (-1), .int 0, .long 0])), (q_100, .inr (7, [.ref q_89, .ref q_102, .ref q_103, .ref q_104, .ref q_105, .int 0, .int 0, .int 0, .int 0])), (q_89, .inr (8, [.ref q_73, .null, .ref q_91, .ref q_92, .ref q_93, .ref q_94, .ref q_95, .ref q_96, .int 0])), (q_73, .inr (4, [.ref q_75, .ref q_76, .ref q_77, .ref q_78, .ref q_79, .int 0, .int 0, .int 0, .int 0, .int 0, .int 0, .int 0, .int 0, .int 0, .int 0]))] s.heap := hP
  have hl := lv_entry ([.ref h0, .int p1, .int p2, .int p3, .int p4]) (n := 6) (Nat.le_of_ble_eq_true rfl)
  rw [lg_entry_eq]
  generalize (lg_sl ([.ref h0, .int p1, .int p2, .int p3, .int p4]) ++ List.replicate (6 - (lg_sl ([.ref h0, .int p1, .int p2, .int p3, .int p4])).length) Slot.unset).toArray = ls at hl ⊢
  have hl : lv_has ls 6 [(0, .ref h0), (1, .int p1), (2, .int p2), (3, .int p3), (4, .int p4)] := hl
  refine lv_aload_n hx hb dX11_act_0 rfl (lv_at hl 0 rfl) ?_
  refine va_get (D := (dC, dI)) (ci := 11) (v := .ref q_100) (C := RX11) (T := TX11) (N := 17) hx hb hts in_c_X11_act_X11 hown hK hP 0 rfl rfl 6 (by decide) (hts (.fieldLink RX11 68 "LawnAhead" "play" "LLawnAhead$Play;") (List.mem_of_getElem? (i := 1) rfl)) (fun _ h9 => h9) rfl dX11_act_1 ?_
  refine lv_aload_n hx hb dX11_act_4 rfl (lv_at hl 0 rfl) ?_
  refine va_get (D := (dC, dI)) (ci := 11) (v := .ref q_65) (C := RX11) (T := TX11) (N := 17) hx hb hts in_c_X11_act_X11 hown hK hP 0 rfl rfl 3 (by decide) (hts (.fieldLink RX11 33 "LawnAhead" "now" "LLawnAhead$State;") (List.mem_of_getElem? (i := 2) rfl)) (fun _ h9 => h9) rfl dX11_act_5 ?_
  refine lv_iload_n hx hb dX11_act_8 rfl (lv_at hl 1 rfl) ?_
  refine lv_iload_n hx hb dX11_act_9 rfl (lv_at hl 2 rfl) ?_
  refine lv_iload_n hx hb dX11_act_10 rfl (lv_at hl 3 rfl) ?_
  refine lv_iload hx hb dX11_act_11 (lv_at hl 4 rfl) ?_
  have hPc := hP.sub (ws' := [(q_100, .inr (7, [.ref q_89, .ref q_102, .ref q_103, .ref q_104, .ref q_105, .int 0, .int 0, .int 0, .int 0])), (q_89, .inr (8, [.ref q_73, .null, .ref q_91, .ref q_92, .ref q_93, .ref q_94, .ref q_95, .ref q_96, .int 0])), (q_73, .inr (4, [.ref q_75, .ref q_76, .ref q_77, .ref q_78, .ref q_79, .int 0, .int 0, .int 0, .int 0, .int 0, .int 0, .int 0, .int 0, .int 0, .int 0]))]) [1, 2, 3] rfl
  have hDc := hD.sub (ws' := [(q_100, .inr (7, [.ref q_89, .ref q_102, .ref q_103, .ref q_104, .ref q_105, .int 0, .int 0, .int 0, .int 0])), (q_89, .inr (8, [.ref q_73, .null, .ref q_91, .ref q_92, .ref q_93, .ref q_94, .ref q_95, .ref q_96, .int 0])), (q_73, .inr (4, [.ref q_75, .ref q_76, .ref q_77, .ref q_78, .ref q_79, .int 0, .int 0, .int 0, .int 0, .int 0, .int 0, .int 0, .int 0, .int 0, .int 0]))]) [1, 2, 3] (by decide) rfl
  have hKc := hK.sub (tys' := []) [] rfl
  have hFc := va_free (wc := [(q_100, .inr (7, [.ref q_89, .ref q_102, .ref q_103, .ref q_104, .ref q_105, .int 0, .int 0, .int 0, .int 0])), (q_89, .inr (8, [.ref q_73, .null, .ref q_91, .ref q_92, .ref q_93, .ref q_94, .ref q_95, .ref q_96, .int 0])), (q_73, .inr (4, [.ref q_75, .ref q_76, .ref q_77, .ref q_78, .ref q_79, .int 0, .int 0, .int 0, .int 0, .int 0, .int 0, .int 0, .int 0, .int 0, .int 0]))]) hD hS hA [1, 2, 3] rfl
  refine va_calli (va_runV (As := [.ref q_65, .int p1, .int p2, .int p3, .int p4]) (rest := []) ⟨hx, hb, hml, hown, hts⟩ (c_X7_allows l dC dI q_100 q_65 p1 p2 p3 p4 q_89 q_102 q_103 q_104 q_105 q_73 q_91 q_92 q_93 q_94 q_95 q_96 q_75 q_76 q_77 q_78 q_79 s.heap.size) (cwV 5 hts g_c_X11_act_13_c_X7_allows rfl rfl rfl (by decide +kernel) ⟨Nat.le_of_ble_eq_true rfl, Nat.le_of_ble_eq_true rfl⟩) ⟨fun a U g mk q => by obtain ⟨q0, q1, qP, qK, qD⟩ := q; exact ⟨q0, q1, qP, va_K.moved (u := U) (U := U.calling g mk a) (Vm.Alike.refl U.vm) qK, qD⟩, va_recv hK hP (ci := 7) (q0 := 1) rfl rfl, fun U hU hW => ⟨rfl, by rw [hU], by rw [hU]; exact hPc, va_K.moved hW.alike hKc, hDc.weaken (fun _ _ _ _ => trivial)⟩⟩ rfl rfl hl.1 rfl (lv_room (Nat.le_of_ble_eq_true rfl)) dX11_act_13 ⟨Nat.le_of_ble_eq_true rfl, Nat.le_of_ble_eq_true rfl⟩) hS (fun q _ h => hFc q h) hFc (fun r_1 u t H1 locs ht hvm hw hB hz1 hk1 hS => ?_)
  obtain ⟨hP1, hK1, hD1⟩ := hB
  rw [ht] at hP1
  have hK1 := va_K.moved hvm.symm hK1
  try dsimp only at hw
  obtain ⟨hP, hD⟩ := va_join (wr := [(h0, .inr (11, [.ref q_1, .ref q_5, .ref q_7, .ref q_65, .ref q_67, .ref q_89, .ref q_100, .ref q_106, .ref q_108, .ref q_113, .ref q_73, .ref q_81, .int 0, .int 0, .int (-1), .int 0, .long 0]))]) (w1 := [(q_100, .inr (7, [.ref q_89, .ref q_102, .ref q_103, .ref q_104, .ref q_105, .int 0, .int 0, .int 0, .int 0])), (q_89, .inr (8, [.ref q_73, .null, .ref q_91, .ref q_92, .ref q_93, .ref q_94, .ref q_95, .ref q_96, .int 0])), (q_73, .inr (4, [.ref q_75, .ref q_76, .ref q_77, .ref q_78, .ref q_79, .int 0, .int 0, .int 0, .int 0, .int 0, .int 0, .int 0, .int 0, .int 0, .int 0]))]) hP hD [1, 2, 3] [0] rfl rfl (by decide) (by decide) hk1 hFc hP1 hD1
  have hK := hK.app hK1
  generalize H1 = H at hP hS ⊢
  have hP : va_P (dC, dI) vwCl [(h0, .inr (11, [.ref q_1, .ref q_5, .ref q_7, .ref q_65, .ref q_67, .ref q_89, .ref q_100, .ref q_106, .ref q_108, .ref q_113, .ref q_73, .ref q_81, .int 0, .int 0, .int (-1), .int 0, .long 0])), (q_100, .inr (7, [.ref q_89, .ref q_102, .ref q_103, .ref q_104, .ref q_105, .int 0, .int 0, .int 0, .int 0])), (q_89, .inr (8, [.ref q_73, .null, .ref q_91, .ref q_92, .ref q_93, .ref q_94, .ref q_95, .ref q_96, .int 0])), (q_73, .inr (4, [.ref q_75, .ref q_76, .ref q_77, .ref q_78, .ref q_79, .int 0, .int 0, .int 0, .int 0, .int 0, .int 0, .int 0, .int 0, .int 0, .int 0]))] H := hP
  have hD : va_D A [(h0, .inr (11, [.ref q_1, .ref q_5, .ref q_7, .ref q_65, .ref q_67, .ref q_89, .ref q_100, .ref q_106, .ref q_108, .ref q_113, .ref q_73, .ref q_81, .int 0, .int 0, .int (-1), .int 0, .long 0])), (q_100, .inr (7, [.ref q_89, .ref q_102, .ref q_103, .ref q_104, .ref q_105, .int 0, .int 0, .int 0, .int 0])), (q_89, .inr (8, [.ref q_73, .null, .ref q_91, .ref q_92, .ref q_93, .ref q_94, .ref q_95, .ref q_96, .int 0])), (q_73, .inr (4, [.ref q_75, .ref q_76, .ref q_77, .ref q_78, .ref q_79, .int 0, .int 0, .int 0, .int 0, .int 0, .int 0, .int 0, .int 0, .int 0, .int 0]))] := hD
  have hK : va_K (dC, dI) vwCl [] s := hK
  refine W.widen (k := 0) (n := 0) (Nat.le_of_ble_eq_true rfl) (Nat.le_of_ble_eq_true rfl) ?_
  obtain rfl : r_1 = 0 := hw
  refine lv_if_ne (tgt := 21) hx hb dX11_act_16 (by decide) (fun c_2 => absurd (by decide +kernel) c_2) (fun c_2 => ?_)
  refine lv_iconst (v := 0) hx hb dX11_act_19 (by decide +kernel) ?_
  refine W.widen (k := 0) (n := 0) (Nat.le_of_ble_eq_true rfl) (Nat.le_of_ble_eq_true rfl) ?_
  have hP9 := hP.sub (ws' := [(h0, .inr (11, [.ref q_1, .ref q_5, .ref q_7, .ref q_65, .ref q_67, .ref q_89, .ref q_100, .ref q_106, .ref q_108, .ref q_113, .ref q_73, .ref q_81, .int 0, .int 0, .int (-1), .int 0, .long 0])), (q_100, .inr (7, [.ref q_89, .ref q_102, .ref q_103, .ref q_104, .ref q_105, .int 0, .int 0, .int 0, .int 0])), (q_89, .inr (8, [.ref q_73, .null, .ref q_91, .ref q_92, .ref q_93, .ref q_94, .ref q_95, .ref q_96, .int 0])), (q_73, .inr (4, [.ref q_75, .ref q_76, .ref q_77, .ref q_78, .ref q_79, .int 0, .int 0, .int 0, .int 0, .int 0, .int 0, .int 0, .int 0, .int 0, .int 0]))]) [0, 1, 2, 3] rfl
  have hD9 := hD.sub (ws' := [(h0, .inr (11, [.ref q_1, .ref q_5, .ref q_7, .ref q_65, .ref q_67, .ref q_89, .ref q_100, .ref q_106, .ref q_108, .ref q_113, .ref q_73, .ref q_81, .int 0, .int 0, .int (-1), .int 0, .long 0])), (q_100, .inr (7, [.ref q_89, .ref q_102, .ref q_103, .ref q_104, .ref q_105, .int 0, .int 0, .int 0, .int 0])), (q_89, .inr (8, [.ref q_73, .null, .ref q_91, .ref q_92, .ref q_93, .ref q_94, .ref q_95, .ref q_96, .int 0])), (q_73, .inr (4, [.ref q_75, .ref q_76, .ref q_77, .ref q_78, .ref q_79, .int 0, .int 0, .int 0, .int 0, .int 0, .int 0, .int 0, .int 0, .int 0, .int 0]))]) [0, 1, 2, 3] (by decide) rfl
  have hK9 := hK.sub (tys' := []) [] rfl
  exact W.zret (ty := .boolean) (v := 0) hx hb hr (by decide +kernel) (fun t ht hW => ⟨⟨0, (), rfl, rfl, by rw [ht]; exact hP9, va_K.moved hW.alike hK9, hD9⟩, hS.F ht⟩) hS.2.2 dX11_act_20

def w_c_X5_shown : List Cond := .code yX5_shown cX5_shown 1 (some .int) :: ([.fieldLink RX5 31 "LawnAhead$History" "kept" "I", .methodLink RX5 38 Lib.Math.min.name, .static Lib.Math.min.name, .initialized "java/lang/Math", .code Lib.Math.min.name Lib.Math.min.code 2 (some .int)] ++ (wsX50 ++ []))
theorem in_c_X5_shown_X5 : ∀ w ∈ wsX50, w ∈ w_c_X5_shown := fun w h => List.mem_cons_of_mem _ (List.mem_append_right _ (List.mem_append_left _ h))
set_option maxHeartbeats 8000000 in
set_option maxRecDepth 100000 in
theorem c_X5_shown (l : Launch) (dC : Nat → ClassId) (dI : Nat → Nat → Nat) (h0 : Nat) (q_69 : Nat) (q_70 : Nat) (q_71 : Nat) (q_72 : Nat) (sz : Nat) : Met l yX5_shown w_c_X5_shown ({ frames := 1, cells := 0, slots := 0, locals := 13 }) (va_Pc [.ref h0] (fun U => U.heap.size = sz ∧ va_P (dC, dI) vwCl [(h0, .inr (5, [.ref q_69, .ref q_70, .ref q_71, .ref q_72, .int 0, .int 0, .int 0, .int 0, .int 0, .int 0, .int 0]))] U.heap ∧ va_K (dC, dI) vwCl [] U ∧ va_D (fun _ => True) [(h0, .inr (5, [.ref q_69, .ref q_70, .ref q_71, .ref q_72, .int 0, .int 0, .int 0, .int 0, .int 0, .int 0, .int 0]))])) (va_Qi (fun (r : Int32) (_ : Unit) => r = 0) (fun _ t => va_P (dC, dI) vwCl [(h0, .inr (5, [.ref q_69, .ref q_70, .ref q_71, .ref q_72, .int 0, .int 0, .int 0, .int 0, .int 0, .int 0, .int 0]))] t.heap ∧ va_K (dC, dI) vwCl [] t ∧ va_D (va_A [(h0, .inr (5, [.ref q_69, .ref q_70, .ref q_71, .ref q_72, .int 0, .int 0, .int 0, .int 0, .int 0, .int 0, .int 0]))] sz) [(h0, .inr (5, [.ref q_69, .ref q_70, .ref q_71, .ref q_72, .int 0, .int 0, .int 0, .int 0, .int 0, .int 0, .int 0]))]) (va_A [(h0, .inr (5, [.ref q_69, .ref q_70, .ref q_71, .ref q_72, .int 0, .int 0, .int 0, .int 0, .int 0, .int 0, .int 0]))] sz)) 0 0 (va_A [(h0, .inr (5, [.ref q_69, .ref q_70, .ref q_71, .ref q_72, .int 0, .int 0, .int 0, .int 0, .int 0, .int 0, .int 0]))] sz) := by
  refine Met.ofW (cc := cX5_shown) (maxL := 1) (ret := (some .int)) (by decide) rfl ?_
  intro p e s m args below meth c s₁ B hml hv
  obtain ⟨rfl, hsz, hP, hK, hD0⟩ := hv
  have hx := B.exec
  have hb := B.bytes
  have hr := B.returns
  have hts := atoms_spec (ws := w_c_X5_shown) B.pre
  have hown : s.vm.findClass RX5 = some m.cls := findClass_of_methodNamed B.named
  have hlocks := B.notSynchronized
  subst hsz
  have hD := hD0.self (sz := s.heap.size)
  generalize hAe : va_A [(h0, .inr (5, [.ref q_69, .ref q_70, .ref q_71, .ref q_72, .int 0, .int 0, .int 0, .int 0, .int 0, .int 0, .int 0]))] s.heap.size = A at hD ⊢
  have hA : ∀ q : Nat, s.heap.size ≤ q → A q := fun q h => by rw [← hAe]; exact Or.inr h
  have hS : va_S A s.heap s.heap [] := va_S.rf
  have hP : va_P (dC, dI) vwCl [(h0, .inr (5, [.ref q_69, .ref q_70, .ref q_71, .ref q_72, .int 0, .int 0, .int 0, .int 0, .int 0, .int 0, .int 0]))] s.heap := hP
  have hl := lv_entry ([.ref h0]) (n := 1) (Nat.le_of_ble_eq_true rfl)
  rw [lg_entry_eq]
  generalize (lg_sl ([.ref h0]) ++ List.replicate (1 - (lg_sl ([.ref h0])).length) Slot.unset).toArray = ls at hl ⊢
  have hl : lv_has ls 1 [(0, .ref h0)] := hl
  refine lv_aload_n hx hb dX5_shown_0 rfl (lv_at hl 0 rfl) ?_
  refine va_get (D := (dC, dI)) (ci := 5) (v := .int 0) (C := RX5) (T := TX5) (N := 11) hx hb hts in_c_X5_shown_X5 hown hK hP 0 rfl rfl 6 (by decide) (hts (.fieldLink RX5 31 "LawnAhead$History" "kept" "I") (List.mem_of_getElem? (i := 1) rfl)) (fun _ h9 => h9) rfl dX5_shown_1 ?_
  refine lv_bipush (v := 60) hx hb dX5_shown_4 (by decide +kernel) ?_
  refine va_mmin hx hb (hml.trans hl.1.symm) hown (hts (.methodLink RX5 38 Lib.Math.min.name) (List.mem_of_getElem? (i := 2) rfl)) (hts (.static Lib.Math.min.name) (List.mem_of_getElem? (i := 3) rfl)) (hts (.initialized "java/lang/Math") (List.mem_of_getElem? (i := 4) rfl)) (hts (.code Lib.Math.min.name Lib.Math.min.code 2 (some .int)) (List.mem_of_getElem? (i := 5) rfl)) (Nat.le_of_ble_eq_true rfl) (Nat.le_of_ble_eq_true rfl) (Nat.le_of_ble_eq_true rfl) (Nat.le_of_ble_eq_true rfl) dX5_shown_6 ?_
  refine lv_topi (fun f_1 ef_1 => ?_)
  obtain rfl : f_1 = 0 := ef_1.trans (by decide +kernel)
  refine W.widen (k := 0) (n := 0) (Nat.le_of_ble_eq_true rfl) (Nat.le_of_ble_eq_true rfl) ?_
  have hP9 := hP.sub (ws' := [(h0, .inr (5, [.ref q_69, .ref q_70, .ref q_71, .ref q_72, .int 0, .int 0, .int 0, .int 0, .int 0, .int 0, .int 0]))]) [0] rfl
  have hD9 := hD.sub (ws' := [(h0, .inr (5, [.ref q_69, .ref q_70, .ref q_71, .ref q_72, .int 0, .int 0, .int 0, .int 0, .int 0, .int 0, .int 0]))]) [0] (by decide) rfl
  have hK9 := hK.sub (tys' := []) [] rfl
  exact W.iret (v := 0) hx hb hr (fun t ht hW => ⟨⟨0, (), rfl, rfl, by rw [ht]; exact hP9, va_K.moved hW.alike hK9, hD9⟩, hS.F ht⟩) hS.2.2 dX5_shown_9

def w_c_X5_takeBack : List Cond := .code yX5_takeBack cX5_takeBack 2 (some .boolean) :: ([.fieldLink RX5 27 "LawnAhead$History" "undoable" "I"] ++ (wsX50 ++ []))
theorem in_c_X5_takeBack_X5 : ∀ w ∈ wsX50, w ∈ w_c_X5_takeBack := fun w h => List.mem_cons_of_mem _ (List.mem_append_right _ (List.mem_append_left _ h))
set_option maxHeartbeats 8000000 in
set_option maxRecDepth 100000 in
theorem c_X5_takeBack (l : Launch) (dC : Nat → ClassId) (dI : Nat → Nat → Nat) (h0 : Nat) (p1 : Nat) (q_69 : Nat) (q_70 : Nat) (q_71 : Nat) (q_72 : Nat) (sz : Nat) : Met l yX5_takeBack w_c_X5_takeBack ({ frames := 0, cells := 0, slots := 0, locals := 0 }) (va_Pc [.ref h0, .ref p1] (fun U => U.heap.size = sz ∧ va_P (dC, dI) vwCl [(h0, .inr (5, [.ref q_69, .ref q_70, .ref q_71, .ref q_72, .int 0, .int 0, .int 0, .int 0, .int 0, .int 0, .int 0]))] U.heap ∧ va_K (dC, dI) vwCl [] U ∧ va_D (fun _ => True) [(h0, .inr (5, [.ref q_69, .ref q_70, .ref q_71, .ref q_72, .int 0, .int 0, .int 0, .int 0, .int 0, .int 0, .int 0]))])) (va_Qi (fun (r : Int32) (_ : Unit) => r = 0) (fun _ t => va_P (dC, dI) vwCl [(h0, .inr (5, [.ref q_69, .ref q_70, .ref q_71, .ref q_72, .int 0, .int 0, .int 0, .int 0, .int 0, .int 0, .int 0]))] t.heap ∧ va_K (dC, dI) vwCl [] t ∧ va_D (va_A [(h0, .inr (5, [.ref q_69, .ref q_70, .ref q_71, .ref q_72, .int 0, .int 0, .int 0, .int 0, .int 0, .int 0, .int 0]))] sz) [(h0, .inr (5, [.ref q_69, .ref q_70, .ref q_71, .ref q_72, .int 0, .int 0, .int 0, .int 0, .int 0, .int 0, .int 0]))]) (va_A [(h0, .inr (5, [.ref q_69, .ref q_70, .ref q_71, .ref q_72, .int 0, .int 0, .int 0, .int 0, .int 0, .int 0, .int 0]))] sz)) 0 0 (va_A [(h0, .inr (5, [.ref q_69, .ref q_70, .ref q_71, .ref q_72, .int 0, .int 0, .int 0, .int 0, .int 0, .int 0, .int 0]))] sz) := by
  refine Met.ofW (cc := cX5_takeBack) (maxL := 2) (ret := (some .boolean)) (by decide) rfl ?_
  intro p e s m args below meth c s₁ B hml hv
  obtain ⟨rfl, hsz, hP, hK, hD0⟩ := hv
  have hx := B.exec
  have hb := B.bytes
  have hr := B.returns
  have hts := atoms_spec (ws := w_c_X5_takeBack) B.pre
  have hown : s.vm.findClass RX5 = some m.cls := findClass_of_methodNamed B.named
  have hlocks := B.notSynchronized
  subst hsz
  have hD := hD0.self (sz := s.heap.size)
  generalize hAe : va_A [(h0, .inr (5, [.ref q_69, .ref q_70, .ref q_71, .ref q_72, .int 0, .int 0, .int 0, .int 0, .int 0, .int 0, .int 0]))] s.heap.size = A at hD ⊢
  have hA : ∀ q : Nat, s.heap.size ≤ q → A q := fun q h => by rw [← hAe]; exact Or.inr h
  have hS : va_S A s.heap s.heap [] := va_S.rf
  have hP : va_P (dC, dI) vwCl [(h0, .inr (5, [.ref q_69, .ref q_70, .ref q_71, .ref q_72, .int 0, .int 0, .int 0, .int 0, .int 0, .int 0, .int 0]))] s.heap := hP
  have hl := lv_entry ([.ref h0, .ref p1]) (n := 2) (Nat.le_of_ble_eq_true rfl)
  rw [lg_entry_eq]
  generalize (lg_sl ([.ref h0, .ref p1]) ++ List.replicate (2 - (lg_sl ([.ref h0, .ref p1])).length) Slot.unset).toArray = ls at hl ⊢
  have hl : lv_has ls 2 [(0, .ref h0), (1, .ref p1)] := hl
  refine lv_aload_n hx hb dX5_takeBack_0 rfl (lv_at hl 0 rfl) ?_
  refine va_get (D := (dC, dI)) (ci := 5) (v := .int 0) (C := RX5) (T := TX5) (N := 11) hx hb hts in_c_X5_takeBack_X5 hown hK hP 0 rfl rfl 4 (by decide) (hts (.fieldLink RX5 27 "LawnAhead$History" "undoable" "I") (List.mem_of_getElem? (i := 1) rfl)) (fun _ h9 => h9) rfl dX5_takeBack_1 ?_
  refine lv_iconst (v := 1) hx hb dX5_takeBack_4 (by decide +kernel) ?_
  refine lv_icmp_ge (tgt := 10) hx hb dX5_takeBack_5 (by decide) (fun c_1 => absurd c_1 (by decide +kernel)) (fun c_1 => ?_)
  refine lv_iconst (v := 0) hx hb dX5_takeBack_8 (by decide +kernel) ?_
  refine W.widen (k := 0) (n := 0) (Nat.le_of_ble_eq_true rfl) (Nat.le_of_ble_eq_true rfl) ?_
  have hP9 := hP.sub (ws' := [(h0, .inr (5, [.ref q_69, .ref q_70, .ref q_71, .ref q_72, .int 0, .int 0, .int 0, .int 0, .int 0, .int 0, .int 0]))]) [0] rfl
  have hD9 := hD.sub (ws' := [(h0, .inr (5, [.ref q_69, .ref q_70, .ref q_71, .ref q_72, .int 0, .int 0, .int 0, .int 0, .int 0, .int 0, .int 0]))]) [0] (by decide) rfl
  have hK9 := hK.sub (tys' := []) [] rfl
  exact W.zret (ty := .boolean) (v := 0) hx hb hr (by decide +kernel) (fun t ht hW => ⟨⟨0, (), rfl, rfl, by rw [ht]; exact hP9, va_K.moved hW.alike hK9, hD9⟩, hS.F ht⟩) hS.2.2 dX5_takeBack_9

def w_c_X5_bringBack : List Cond := .code yX5_bringBack cX5_bringBack 2 (some .boolean) :: ([.fieldLink RX5 34 "LawnAhead$History" "hasImage" "Z"] ++ (wsX50 ++ []))
theorem in_c_X5_bringBack_X5 : ∀ w ∈ wsX50, w ∈ w_c_X5_bringBack := fun w h => List.mem_cons_of_mem _ (List.mem_append_right _ (List.mem_append_left _ h))
set_option maxHeartbeats 8000000 in
set_option maxRecDepth 100000 in
theorem c_X5_bringBack (l : Launch) (dC : Nat → ClassId) (dI : Nat → Nat → Nat) (h0 : Nat) (p1 : Nat) (q_69 : Nat) (q_70 : Nat) (q_71 : Nat) (q_72 : Nat) (sz : Nat) : Met l yX5_bringBack w_c_X5_bringBack ({ frames := 0, cells := 0, slots := 0, locals := 0 }) (va_Pc [.ref h0, .ref p1] (fun U => U.heap.size = sz ∧ va_P (dC, dI) vwCl [(h0, .inr (5, [.ref q_69, .ref q_70, .ref q_71, .ref q_72, .int 0, .int 0, .int 0, .int 0, .int 0, .int 0, .int 0]))] U.heap ∧ va_K (dC, dI) vwCl [] U ∧ va_D (fun _ => True) [(h0, .inr (5, [.ref q_69, .ref q_70, .ref q_71, .ref q_72, .int 0, .int 0, .int 0, .int 0, .int 0, .int 0, .int 0]))])) (va_Qi (fun (r : Int32) (_ : Unit) => r = 0) (fun _ t => va_P (dC, dI) vwCl [(h0, .inr (5, [.ref q_69, .ref q_70, .ref q_71, .ref q_72, .int 0, .int 0, .int 0, .int 0, .int 0, .int 0, .int 0]))] t.heap ∧ va_K (dC, dI) vwCl [] t ∧ va_D (va_A [(h0, .inr (5, [.ref q_69, .ref q_70, .ref q_71, .ref q_72, .int 0, .int 0, .int 0, .int 0, .int 0, .int 0, .int 0]))] sz) [(h0, .inr (5, [.ref q_69, .ref q_70, .ref q_71, .ref q_72, .int 0, .int 0, .int 0, .int 0, .int 0, .int 0, .int 0]))]) (va_A [(h0, .inr (5, [.ref q_69, .ref q_70, .ref q_71, .ref q_72, .int 0, .int 0, .int 0, .int 0, .int 0, .int 0, .int 0]))] sz)) 0 0 (va_A [(h0, .inr (5, [.ref q_69, .ref q_70, .ref q_71, .ref q_72, .int 0, .int 0, .int 0, .int 0, .int 0, .int 0, .int 0]))] sz) := by
  refine Met.ofW (cc := cX5_bringBack) (maxL := 2) (ret := (some .boolean)) (by decide) rfl ?_
  intro p e s m args below meth c s₁ B hml hv
  obtain ⟨rfl, hsz, hP, hK, hD0⟩ := hv
  have hx := B.exec
  have hb := B.bytes
  have hr := B.returns
  have hts := atoms_spec (ws := w_c_X5_bringBack) B.pre
  have hown : s.vm.findClass RX5 = some m.cls := findClass_of_methodNamed B.named
  have hlocks := B.notSynchronized
  subst hsz
  have hD := hD0.self (sz := s.heap.size)
  generalize hAe : va_A [(h0, .inr (5, [.ref q_69, .ref q_70, .ref q_71, .ref q_72, .int 0, .int 0, .int 0, .int 0, .int 0, .int 0, .int 0]))] s.heap.size = A at hD ⊢
  have hA : ∀ q : Nat, s.heap.size ≤ q → A q := fun q h => by rw [← hAe]; exact Or.inr h
  have hS : va_S A s.heap s.heap [] := va_S.rf
  have hP : va_P (dC, dI) vwCl [(h0, .inr (5, [.ref q_69, .ref q_70, .ref q_71, .ref q_72, .int 0, .int 0, .int 0, .int 0, .int 0, .int 0, .int 0]))] s.heap := hP
  have hl := lv_entry ([.ref h0, .ref p1]) (n := 2) (Nat.le_of_ble_eq_true rfl)
  rw [lg_entry_eq]
  generalize (lg_sl ([.ref h0, .ref p1]) ++ List.replicate (2 - (lg_sl ([.ref h0, .ref p1])).length) Slot.unset).toArray = ls at hl ⊢
  have hl : lv_has ls 2 [(0, .ref h0), (1, .ref p1)] := hl
  refine lv_aload_n hx hb dX5_bringBack_0 rfl (lv_at hl 0 rfl) ?_
  refine va_get (D := (dC, dI)) (ci := 5) (v := .int 0) (C := RX5) (T := TX5) (N := 11) hx hb hts in_c_X5_bringBack_X5 hown hK hP 0 rfl rfl 8 (by decide) (hts (.fieldLink RX5 34 "LawnAhead$History" "hasImage" "Z") (List.mem_of_getElem? (i := 1) rfl)) (fun _ h9 => h9) rfl dX5_bringBack_1 ?_
  refine lv_if_ne (tgt := 9) hx hb dX5_bringBack_4 (by decide) (fun c_1 => absurd (by decide +kernel) c_1) (fun c_1 => ?_)
  refine lv_iconst (v := 0) hx hb dX5_bringBack_7 (by decide +kernel) ?_
  refine W.widen (k := 0) (n := 0) (Nat.le_of_ble_eq_true rfl) (Nat.le_of_ble_eq_true rfl) ?_
  have hP9 := hP.sub (ws' := [(h0, .inr (5, [.ref q_69, .ref q_70, .ref q_71, .ref q_72, .int 0, .int 0, .int 0, .int 0, .int 0, .int 0, .int 0]))]) [0] rfl
  have hD9 := hD.sub (ws' := [(h0, .inr (5, [.ref q_69, .ref q_70, .ref q_71, .ref q_72, .int 0, .int 0, .int 0, .int 0, .int 0, .int 0, .int 0]))]) [0] (by decide) rfl
  have hK9 := hK.sub (tys' := []) [] rfl
  exact W.zret (ty := .boolean) (v := 0) hx hb hr (by decide +kernel) (fun t ht hW => ⟨⟨0, (), rfl, rfl, by rw [ht]; exact hP9, va_K.moved hW.alike hK9, hD9⟩, hS.F ht⟩) hS.2.2 dX5_bringBack_8
