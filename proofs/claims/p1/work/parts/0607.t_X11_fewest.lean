def w_t_X11_fewest : List Cond := .code yX11_fewest cX11_fewest 1 (some .int) :: ([.fieldLink RX11 47 "LawnAhead" "ground" "LLawnAhead$Ground;", .fieldLink RX11 148 "LawnAhead$Ground" "cells" "I", .code yX11_noLawn cX11_noLawn 1 (some .boolean), .methodLink RX11 155 yX11_noLawn, .instanceMethod yX11_noLawn, .selects RX11 yX11_noLawn yX11_noLawn, .initialized RX11] ++ (wsX110 ++ (wsX40 ++ [])))
theorem in_t_X11_fewest_X11 : ∀ w ∈ wsX110, w ∈ w_t_X11_fewest := fun w h => List.mem_cons_of_mem _ (List.mem_append_right _ (List.mem_append_left _ h))
theorem in_t_X11_fewest_X4 : ∀ w ∈ wsX40, w ∈ w_t_X11_fewest := fun w h => List.mem_cons_of_mem _ (List.mem_append_right _ (List.mem_append_right _ (List.mem_append_left _ h)))
set_option maxRecDepth 100000 in
theorem g_t_X11_fewest_1_c_X11_noLawn : GoodIn w_t_X11_fewest (([.methodLink RX11 155 yX11_noLawn, .instanceMethod yX11_noLawn, .selects RX11 yX11_noLawn yX11_noLawn, .initialized RX11] : List Cond) ++ w_c_X11_noLawn) := goodIn_r _ [4, 5, 6, 7, 3, 1, 2, 8, 9, 10, 11, 12, 13, 14, 15, 16, 17, 18, 19, 20, 21, 22, 23, 24, 25, 26, 27, 28, 29, 30, 31, 32, 33, 34, 35, 36, 37, 38, 39] rfl (by decide +kernel)
set_option maxHeartbeats 8000000 in
set_option maxRecDepth 100000 in
theorem t_X11_fewest (l : Launch) (dC : Nat → ClassId) (dI : Nat → Nat → Nat) (h0 : Nat) (q_1 : Nat) (q_5 : Nat) (q_7 : Nat) (q_65 : Nat) (q_67 : Nat) (q_89 : Nat) (q_100 : Nat) (q_106 : Nat) (q_108 : Nat) (q_113 : Nat) (q_73 : Nat) (q_81 : Nat) (q_75 : Nat) (q_76 : Nat) (q_77 : Nat) (q_78 : Nat) (q_79 : Nat) (sz : Nat) : Met l yX11_fewest w_t_X11_fewest ({ frames := 1, cells := 0, slots := 0, locals := 20 }) (va_Pc [.ref h0] (fun U => U.heap.size = sz ∧ va_P (dC, dI) vwCl [(h0, .inr (11, [.ref q_1, .ref q_5, .ref q_7, .ref q_65, .ref q_67, .ref q_89, .ref q_100, .ref q_106, .ref q_108, .ref q_113, .ref q_73, .ref q_81, .int 0, .int 0, .int (-1), .int 0, .long 0])), (q_73, .inr (4, [.ref q_75, .ref q_76, .ref q_77, .ref q_78, .ref q_79, .int 0, .int 0, .int 0, .int 0, .int 0, .int 0, .int 0, .int 0, .int 0, .int 0]))] U.heap ∧ va_K (dC, dI) vwCl [] U ∧ va_D (fun _ => True) [(h0, .inr (11, [.ref q_1, .ref q_5, .ref q_7, .ref q_65, .ref q_67, .ref q_89, .ref q_100, .ref q_106, .ref q_108, .ref q_113, .ref q_73, .ref q_81, .int 0, .int 0, .int (-1), .int 0, .long 0])), (q_73, .inr (4, [.ref q_75, .ref q_76, .ref q_77, .ref q_78, .ref q_79, .int 0, .int 0, .int 0, .int 0, .int 0, .int 0, .int 0, .int 0, .int 0, .int 0]))])) (va_Qi (fun (r : Int32) (_ : Unit) => r = (-1)) (fun _ _ => True) (va_A [(h0, .inr (11, [.ref q_1, .ref q_5, .ref q_7, .ref q_65, .ref q_67, .ref q_89, .ref q_100, .ref q_106, .ref q_108, .ref q_113, .ref q_73, .ref q_81, .int 0, .int 0, .int (-1), .int 0, .long 0])), (q_73, .inr (4, [.ref q_75, .ref q_76, .ref q_77, .ref q_78, .ref q_79, .int 0, .int 0, .int 0, .int 0, .int 0, .int 0, .int 0, .int 0, .int 0, .int 0]))] sz)) 0 0 (va_A [(h0, .inr (11, [.ref q_1, .ref q_5, .ref q_7, .ref q_65, .ref q_67, .ref q_89, .ref q_100, .ref q_106, .ref q_108, .ref q_113, .ref q_73, .ref q_81, .int 0, .int 0, .int (-1), .int 0, .long 0])), (q_73, .inr (4, [.ref q_75, .ref q_76, .ref q_77, .ref q_78, .ref q_79, .int 0, .int 0, .int 0, .int 0, .int 0, .int 0, .int 0, .int 0, .int 0, .int 0]))] sz) := by
  refine Met.ofW (cc := cX11_fewest) (maxL := 1) (ret := (some .int)) (by decide) rfl ?_
  intro p e s m args below meth c s₁ B hml hv
  obtain ⟨rfl, hsz, hP, hK, hD0⟩ := hv
  have hx := B.exec
  have hb := B.bytes
  have hr := B.returns
  have hts := atoms_spec (ws := w_t_X11_fewest) B.pre
  have hown : s.vm.findClass RX11 = some m.cls := findClass_of_methodNamed B.named
  have hlocks := B.notSynchronized
  subst hsz
  have hD := hD0.self (sz := s.heap.size)
  generalize hAe : va_A [(h0, .inr (11, [.ref q_1, .ref q_5, .ref q_7, .ref q_65, .ref q_67, .ref q_89, .ref q_100, .ref q_106, .ref q_108, .ref q_113, .ref q_73, .ref q_81, .int 0, .int 0, .int (-1), .int 0, .long 0])), (q_73, .inr (4, [.ref q_75, .ref q_76, .ref q_77, .ref q_78, .ref q_79, .int 0, .int 0, .int 0, .int 0, .int 0, .int 0, .int 0, .int 0, .int 0, .int 0]))] s.heap.size = A at hD ⊢
  have hA : ∀ q : Nat, s.heap.size ≤ q → A q := fun q h => by rw [← hAe]; exact Or.inr h
  have hS : va_S A s.heap s.heap [] := va_S.rf
  have hP : va_P (dC, dI) vwCl [(h0, .inr (11, [.ref q_1, .ref q_5, .ref q_7, .ref q_65, .ref q_67, .ref q_89, .ref q_100, .ref q_106, .ref q_108, .ref q_113, .ref q_73, .ref q_81, .int 0, .int 0, .int (-1), .int 0, .long 0])), (q_73, .inr (4, [.ref q_75, .ref q_76, .ref q_77, .ref q_78, .ref q_79, .int 0, .int 0, .int 0, .int 0, .int 0, .int 0, .int 0, .int 0, .int 0, .int 0]))] s.heap := hP
  have hl := lv_entry ([.ref h0]) (n := 1) (Nat.le_of_ble_eq_true rfl)
  rw [lg_entry_eq]
  generalize (lg_sl ([.ref h0]) ++ List.replicate (1 - (lg_sl ([.ref h0])).length) Slot.unset).toArray = ls at hl ⊢
  have hl : lv_has ls 1 [(0, .ref h0)] := hl
  refine lv_aload_n hx hb dX11_fewest_0 rfl (lv_at hl 0 rfl) ?_
  have hPc := hP.sub (ws' := [(h0, .inr (11, [.ref q_1, .ref q_5, .ref q_7, .ref q_65, .ref q_67, .ref q_89, .ref q_100, .ref q_106, .ref q_108, .ref q_113, .ref q_73, .ref q_81, .int 0, .int 0, .int (-1), .int 0, .long 0])), (q_73, .inr (4, [.ref q_75, .ref q_76, .ref q_77, .ref q_78, .ref q_79, .int 0, .int 0, .int 0, .int 0, .int 0, .int 0, .int 0, .int 0, .int 0, .int 0]))]) [0, 1] rfl
  have hDc := hD.sub (ws' := [(h0, .inr (11, [.ref q_1, .ref q_5, .ref q_7, .ref q_65, .ref q_67, .ref q_89, .ref q_100, .ref q_106, .ref q_108, .ref q_113, .ref q_73, .ref q_81, .int 0, .int 0, .int (-1), .int 0, .long 0])), (q_73, .inr (4, [.ref q_75, .ref q_76, .ref q_77, .ref q_78, .ref q_79, .int 0, .int 0, .int 0, .int 0, .int 0, .int 0, .int 0, .int 0, .int 0, .int 0]))]) [0, 1] (by decide) rfl
  have hKc := hK.sub (tys' := []) [] rfl
  have hFc := va_free (wc := [(h0, .inr (11, [.ref q_1, .ref q_5, .ref q_7, .ref q_65, .ref q_67, .ref q_89, .ref q_100, .ref q_106, .ref q_108, .ref q_113, .ref q_73, .ref q_81, .int 0, .int 0, .int (-1), .int 0, .long 0])), (q_73, .inr (4, [.ref q_75, .ref q_76, .ref q_77, .ref q_78, .ref q_79, .int 0, .int 0, .int 0, .int 0, .int 0, .int 0, .int 0, .int 0, .int 0, .int 0]))]) hD hS hA [0, 1] rfl
  refine va_calli (va_runV (As := []) (rest := []) ⟨hx, hb, hml, hown, hts⟩ (c_X11_noLawn l dC dI h0 q_1 q_5 q_7 q_65 q_67 q_89 q_100 q_106 q_108 q_113 q_73 q_81 q_75 q_76 q_77 q_78 q_79 s.heap.size) (cwV 0 hts g_t_X11_fewest_1_c_X11_noLawn rfl rfl rfl (by decide +kernel) ⟨Nat.le_of_ble_eq_true rfl, Nat.le_of_ble_eq_true rfl⟩) ⟨fun a U g mk q => by obtain ⟨q0, q1, qP, qK, qD⟩ := q; exact ⟨q0, q1, qP, va_K.moved (u := U) (U := U.calling g mk a) (Vm.Alike.refl U.vm) qK, qD⟩, va_recv hK hP (ci := 11) (q0 := 0) rfl rfl, fun U hU hW => ⟨rfl, by rw [hU], by rw [hU]; exact hPc, va_K.moved hW.alike hKc, hDc.weaken (fun _ _ _ _ => trivial)⟩⟩ rfl rfl hl.1 rfl (lv_room (Nat.le_of_ble_eq_true rfl)) dX11_fewest_1 ⟨Nat.le_of_ble_eq_true rfl, Nat.le_of_ble_eq_true rfl⟩) hS (fun q _ h => hFc q h) hFc (fun r_1 u t H1 locs ht hvm hw hB hz1 hk1 hS => ?_)
  obtain ⟨hP1, hK1, hD1⟩ := hB
  rw [ht] at hP1
  have hK1 := va_K.moved hvm.symm hK1
  try dsimp only at hw
  obtain ⟨hP, hD⟩ := va_join (wr := []) (w1 := [(h0, .inr (11, [.ref q_1, .ref q_5, .ref q_7, .ref q_65, .ref q_67, .ref q_89, .ref q_100, .ref q_106, .ref q_108, .ref q_113, .ref q_73, .ref q_81, .int 0, .int 0, .int (-1), .int 0, .long 0])), (q_73, .inr (4, [.ref q_75, .ref q_76, .ref q_77, .ref q_78, .ref q_79, .int 0, .int 0, .int 0, .int 0, .int 0, .int 0, .int 0, .int 0, .int 0, .int 0]))]) hP hD [0, 1] [] rfl rfl (by decide) (by decide) hk1 hFc hP1 hD1
  have hK := hK.app hK1
  generalize H1 = H at hP hS ⊢
  have hP : va_P (dC, dI) vwCl [(h0, .inr (11, [.ref q_1, .ref q_5, .ref q_7, .ref q_65, .ref q_67, .ref q_89, .ref q_100, .ref q_106, .ref q_108, .ref q_113, .ref q_73, .ref q_81, .int 0, .int 0, .int (-1), .int 0, .long 0])), (q_73, .inr (4, [.ref q_75, .ref q_76, .ref q_77, .ref q_78, .ref q_79, .int 0, .int 0, .int 0, .int 0, .int 0, .int 0, .int 0, .int 0, .int 0, .int 0]))] H := hP
  have hD : va_D A [(h0, .inr (11, [.ref q_1, .ref q_5, .ref q_7, .ref q_65, .ref q_67, .ref q_89, .ref q_100, .ref q_106, .ref q_108, .ref q_113, .ref q_73, .ref q_81, .int 0, .int 0, .int (-1), .int 0, .long 0])), (q_73, .inr (4, [.ref q_75, .ref q_76, .ref q_77, .ref q_78, .ref q_79, .int 0, .int 0, .int 0, .int 0, .int 0, .int 0, .int 0, .int 0, .int 0, .int 0]))] := hD
  have hK : va_K (dC, dI) vwCl [] s := hK
  refine W.widen (k := 0) (n := 0) (Nat.le_of_ble_eq_true rfl) (Nat.le_of_ble_eq_true rfl) ?_
  obtain rfl : r_1 = 1 := hw
  refine lv_if_eq (tgt := 9) hx hb dX11_fewest_4 (by decide) (fun c_2 => absurd c_2 (by decide +kernel)) (fun c_2 => ?_)
  refine lv_iconst (v := -1) hx hb dX11_fewest_7 (by decide +kernel) ?_
  refine W.widen (k := 0) (n := 0) (Nat.le_of_ble_eq_true rfl) (Nat.le_of_ble_eq_true rfl) ?_
  exact W.iret (v := (-1)) hx hb hr (fun t ht hW => ⟨⟨(-1), (), rfl, rfl, trivial⟩, hS.F ht⟩) hS.2.2 dX11_fewest_8

def w_t_X11_fit : List Cond := .code yX11_fit cX11_fit 2 (some .int) :: ([.fieldLink RX11 47 "LawnAhead" "ground" "LLawnAhead$Ground;", .fieldLink RX11 148 "LawnAhead$Ground" "cells" "I", .code yX11_noLawn cX11_noLawn 1 (some .boolean), .methodLink RX11 155 yX11_noLawn, .instanceMethod yX11_noLawn, .selects RX11 yX11_noLawn yX11_noLawn, .initialized RX11] ++ (wsX110 ++ (wsX40 ++ [])))
theorem in_t_X11_fit_X11 : ∀ w ∈ wsX110, w ∈ w_t_X11_fit := fun w h => List.mem_cons_of_mem _ (List.mem_append_right _ (List.mem_append_left _ h))
theorem in_t_X11_fit_X4 : ∀ w ∈ wsX40, w ∈ w_t_X11_fit := fun w h => List.mem_cons_of_mem _ (List.mem_append_right _ (List.mem_append_right _ (List.mem_append_left _ h)))
set_option maxRecDepth 100000 in
theorem g_t_X11_fit_1_c_X11_noLawn : GoodIn w_t_X11_fit (([.methodLink RX11 155 yX11_noLawn, .instanceMethod yX11_noLawn, .selects RX11 yX11_noLawn yX11_noLawn, .initialized RX11] : List Cond) ++ w_c_X11_noLawn) := goodIn_r _ [4, 5, 6, 7, 3, 1, 2, 8, 9, 10, 11, 12, 13, 14, 15, 16, 17, 18, 19, 20, 21, 22, 23, 24, 25, 26, 27, 28, 29, 30, 31, 32, 33, 34, 35, 36, 37, 38, 39] rfl (by decide +kernel)
set_option maxHeartbeats 8000000 in
set_option maxRecDepth 100000 in
theorem t_X11_fit (l : Launch) (dC : Nat → ClassId) (dI : Nat → Nat → Nat) (h0 : Nat) (p1 : Int32) (q_1 : Nat) (q_5 : Nat) (q_7 : Nat) (q_65 : Nat) (q_67 : Nat) (q_89 : Nat) (q_100 : Nat) (q_106 : Nat) (q_108 : Nat) (q_113 : Nat) (q_73 : Nat) (q_81 : Nat) (q_75 : Nat) (q_76 : Nat) (q_77 : Nat) (q_78 : Nat) (q_79 : Nat) (sz : Nat) : Met l yX11_fit w_t_X11_fit ({ frames := 1, cells := 0, slots := 0, locals := 20 }) (va_Pc [.ref h0, .int p1] (fun U => U.heap.size = sz ∧ va_P (dC, dI) vwCl [(h0, .inr (11, [.ref q_1, .ref q_5, .ref q_7, .ref q_65, .ref q_67, .ref q_89, .ref q_100, .ref q_106, .ref q_108, .ref q_113, .ref q_73, .ref q_81, .int 0, .int 0, .int (-1), .int 0, .long 0])), (q_73, .inr (4, [.ref q_75, .ref q_76, .ref q_77, .ref q_78, .ref q_79, .int 0, .int 0, .int 0, .int 0, .int 0, .int 0, .int 0, .int 0, .int 0, .int 0]))] U.heap ∧ va_K (dC, dI) vwCl [] U ∧ va_D (fun _ => True) [(h0, .inr (11, [.ref q_1, .ref q_5, .ref q_7, .ref q_65, .ref q_67, .ref q_89, .ref q_100, .ref q_106, .ref q_108, .ref q_113, .ref q_73, .ref q_81, .int 0, .int 0, .int (-1), .int 0, .long 0])), (q_73, .inr (4, [.ref q_75, .ref q_76, .ref q_77, .ref q_78, .ref q_79, .int 0, .int 0, .int 0, .int 0, .int 0, .int 0, .int 0, .int 0, .int 0, .int 0]))])) (va_Qi (fun (r : Int32) (_ : Unit) => r = (-1)) (fun _ _ => True) (va_A [(h0, .inr (11, [.ref q_1, .ref q_5, .ref q_7, .ref q_65, .ref q_67, .ref q_89, .ref q_100, .ref q_106, .ref q_108, .ref q_113, .ref q_73, .ref q_81, .int 0, .int 0, .int (-1), .int 0, .long 0])), (q_73, .inr (4, [.ref q_75, .ref q_76, .ref q_77, .ref q_78, .ref q_79, .int 0, .int 0, .int 0, .int 0, .int 0, .int 0, .int 0, .int 0, .int 0, .int 0]))] sz)) 0 0 (va_A [(h0, .inr (11, [.ref q_1, .ref q_5, .ref q_7, .ref q_65, .ref q_67, .ref q_89, .ref q_100, .ref q_106, .ref q_108, .ref q_113, .ref q_73, .ref q_81, .int 0, .int 0, .int (-1), .int 0, .long 0])), (q_73, .inr (4, [.ref q_75, .ref q_76, .ref q_77, .ref q_78, .ref q_79, .int 0, .int 0, .int 0, .int 0, .int 0, .int 0, .int 0, .int 0, .int 0, .int 0]))] sz) := by
  refine Met.ofW (cc := cX11_fit) (maxL := 2) (ret := (some .int)) (by decide) rfl ?_
  intro p e s m args below meth c s₁ B hml hv
  obtain ⟨rfl, hsz, hP, hK, hD0⟩ := hv
  have hx := B.exec
  have hb := B.bytes
  have hr := B.returns
  have hts := atoms_spec (ws := w_t_X11_fit) B.pre
  have hown : s.vm.findClass RX11 = some m.cls := findClass_of_methodNamed B.named
  have hlocks := B.notSynchronized
  subst hsz
  have hD := hD0.self (sz := s.heap.size)
  generalize hAe : va_A [(h0, .inr (11, [.ref q_1, .ref q_5, .ref q_7, .ref q_65, .ref q_67, .ref q_89, .ref q_100, .ref q_106, .ref q_108, .ref q_113, .ref q_73, .ref q_81, .int 0, .int 0, .int (-1), .int 0, .long 0])), (q_73, .inr (4, [.ref q_75, .ref q_76, .ref q_77, .ref q_78, .ref q_79, .int 0, .int 0, .int 0, .int 0, .int 0, .int 0, .int 0, .int 0, .int 0, .int 0]))] s.heap.size = A at hD ⊢
  have hA : ∀ q : Nat, s.heap.size ≤ q → A q := fun q h => by rw [← hAe]; exact Or.inr h
  have hS : va_S A s.heap s.heap [] := va_S.rf
  have hP : va_P (dC, dI) vwCl [(h0, .inr (11, [.ref q_1, .ref q_5, .ref q_7, .ref q_65, .ref q_67, .ref q_89, .ref q_100, .ref q_106, .ref q_108, .ref q_113, .ref q_73, .ref q_81, .int 0, .int 0, .int (-1), .int 0, .long 0])), (q_73, .inr (4, [.ref q_75, .ref q_76, .ref q_77, .ref q_78, .ref q_79, .int 0, .int 0, .int 0, .int 0, .int 0, .int 0, .int 0, .int 0, .int 0, .int 0]))] s.heap := hP
  have hl := lv_entry ([.ref h0, .int p1]) (n := 2) (Nat.le_of_ble_eq_true rfl)
  rw [lg_entry_eq]
  generalize (lg_sl ([.ref h0, .int p1]) ++ List.replicate (2 - (lg_sl ([.ref h0, .int p1])).length) Slot.unset).toArray = ls at hl ⊢
  have hl : lv_has ls 2 [(0, .ref h0), (1, .int p1)] := hl
  refine lv_aload_n hx hb dX11_fit_0 rfl (lv_at hl 0 rfl) ?_
  have hPc := hP.sub (ws' := [(h0, .inr (11, [.ref q_1, .ref q_5, .ref q_7, .ref q_65, .ref q_67, .ref q_89, .ref q_100, .ref q_106, .ref q_108, .ref q_113, .ref q_73, .ref q_81, .int 0, .int 0, .int (-1), .int 0, .long 0])), (q_73, .inr (4, [.ref q_75, .ref q_76, .ref q_77, .ref q_78, .ref q_79, .int 0, .int 0, .int 0, .int 0, .int 0, .int 0, .int 0, .int 0, .int 0, .int 0]))]) [0, 1] rfl
  have hDc := hD.sub (ws' := [(h0, .inr (11, [.ref q_1, .ref q_5, .ref q_7, .ref q_65, .ref q_67, .ref q_89, .ref q_100, .ref q_106, .ref q_108, .ref q_113, .ref q_73, .ref q_81, .int 0, .int 0, .int (-1), .int 0, .long 0])), (q_73, .inr (4, [.ref q_75, .ref q_76, .ref q_77, .ref q_78, .ref q_79, .int 0, .int 0, .int 0, .int 0, .int 0, .int 0, .int 0, .int 0, .int 0, .int 0]))]) [0, 1] (by decide) rfl
  have hKc := hK.sub (tys' := []) [] rfl
  have hFc := va_free (wc := [(h0, .inr (11, [.ref q_1, .ref q_5, .ref q_7, .ref q_65, .ref q_67, .ref q_89, .ref q_100, .ref q_106, .ref q_108, .ref q_113, .ref q_73, .ref q_81, .int 0, .int 0, .int (-1), .int 0, .long 0])), (q_73, .inr (4, [.ref q_75, .ref q_76, .ref q_77, .ref q_78, .ref q_79, .int 0, .int 0, .int 0, .int 0, .int 0, .int 0, .int 0, .int 0, .int 0, .int 0]))]) hD hS hA [0, 1] rfl
  refine va_calli (va_runV (As := []) (rest := []) ⟨hx, hb, hml, hown, hts⟩ (c_X11_noLawn l dC dI h0 q_1 q_5 q_7 q_65 q_67 q_89 q_100 q_106 q_108 q_113 q_73 q_81 q_75 q_76 q_77 q_78 q_79 s.heap.size) (cwV 0 hts g_t_X11_fit_1_c_X11_noLawn rfl rfl rfl (by decide +kernel) ⟨Nat.le_of_ble_eq_true rfl, Nat.le_of_ble_eq_true rfl⟩) ⟨fun a U g mk q => by obtain ⟨q0, q1, qP, qK, qD⟩ := q; exact ⟨q0, q1, qP, va_K.moved (u := U) (U := U.calling g mk a) (Vm.Alike.refl U.vm) qK, qD⟩, va_recv hK hP (ci := 11) (q0 := 0) rfl rfl, fun U hU hW => ⟨rfl, by rw [hU], by rw [hU]; exact hPc, va_K.moved hW.alike hKc, hDc.weaken (fun _ _ _ _ => trivial)⟩⟩ rfl rfl hl.1 rfl (lv_room (Nat.le_of_ble_eq_true rfl)) dX11_fit_1 ⟨Nat.le_of_ble_eq_true rfl, Nat.le_of_ble_eq_true rfl⟩) hS (fun q _ h => hFc q h) hFc (fun r_1 u t H1 locs ht hvm hw hB hz1 hk1 hS => ?_)
  obtain ⟨hP1, hK1, hD1⟩ := hB
  rw [ht] at hP1
  have hK1 := va_K.moved hvm.symm hK1
  try dsimp only at hw
  obtain ⟨hP, hD⟩ := va_join (wr := []) (w1 := [(h0, .inr (11, [.ref q_1, .ref q_5, .ref q_7, .ref q_65, .ref q_67, .ref q_89, .ref q_100, .ref q_106, .ref q_108, .ref q_113, .ref q_73, .ref q_81, .int 0, .int 0, .int (-1), .int 0, .long 0])), (q_73, .inr (4, [.ref q_75, .ref q_76, .ref q_77, .ref q_78, .ref q_79, .int 0, .int 0, .int 0, .int 0, .int 0, .int 0, .int 0, .int 0, .int 0, .int 0]))]) hP hD [0, 1] [] rfl rfl (by decide) (by decide) hk1 hFc hP1 hD1
  have hK := hK.app hK1
  generalize H1 = H at hP hS ⊢
  have hP : va_P (dC, dI) vwCl [(h0, .inr (11, [.ref q_1, .ref q_5, .ref q_7, .ref q_65, .ref q_67, .ref q_89, .ref q_100, .ref q_106, .ref q_108, .ref q_113, .ref q_73, .ref q_81, .int 0, .int 0, .int (-1), .int 0, .long 0])), (q_73, .inr (4, [.ref q_75, .ref q_76, .ref q_77, .ref q_78, .ref q_79, .int 0, .int 0, .int 0, .int 0, .int 0, .int 0, .int 0, .int 0, .int 0, .int 0]))] H := hP
  have hD : va_D A [(h0, .inr (11, [.ref q_1, .ref q_5, .ref q_7, .ref q_65, .ref q_67, .ref q_89, .ref q_100, .ref q_106, .ref q_108, .ref q_113, .ref q_73, .ref q_81, .int 0, .int 0, .int (-1), .int 0, .long 0])), (q_73, .inr (4, [.ref q_75, .ref q_76, .ref q_77, .ref q_78, .ref q_79, .int 0, .int 0, .int 0, .int 0, .int 0, .int 0, .int 0, .int 0, .int 0, .int 0]))] := hD
  have hK : va_K (dC, dI) vwCl [] s := hK
  refine W.widen (k := 0) (n := 0) (Nat.le_of_ble_eq_true rfl) (Nat.le_of_ble_eq_true rfl) ?_
  obtain rfl : r_1 = 1 := hw
  refine lv_if_ne (tgt := 12) hx hb dX11_fit_4 (by decide) (fun c_2 => ?_) (fun c_2 => absurd c_2 (by decide +kernel))
  refine lv_iconst (v := -1) hx hb dX11_fit_12 (by decide +kernel) ?_
  refine lv_goto (tgt := 24) hx hb dX11_fit_13 (by decide) ?_
  refine W.widen (k := 0) (n := 0) (Nat.le_of_ble_eq_true rfl) (Nat.le_of_ble_eq_true rfl) ?_
  exact W.iret (v := (-1)) hx hb hr (fun t ht hW => ⟨⟨(-1), (), rfl, rfl, trivial⟩, hS.F ht⟩) hS.2.2 dX11_fit_24

def w_t_X11_tells : List Cond := .code yX11_tells cX11_tells 5 (some .int) :: ([.fieldLink RX11 47 "LawnAhead" "ground" "LLawnAhead$Ground;", .fieldLink RX11 148 "LawnAhead$Ground" "cells" "I"] ++ (wsX110 ++ (wsX40 ++ [])))
theorem in_t_X11_tells_X11 : ∀ w ∈ wsX110, w ∈ w_t_X11_tells := fun w h => List.mem_cons_of_mem _ (List.mem_append_right _ (List.mem_append_left _ h))
theorem in_t_X11_tells_X4 : ∀ w ∈ wsX40, w ∈ w_t_X11_tells := fun w h => List.mem_cons_of_mem _ (List.mem_append_right _ (List.mem_append_right _ (List.mem_append_left _ h)))
set_option maxHeartbeats 8000000 in
set_option maxRecDepth 100000 in
theorem t_X11_tells (l : Launch) (dC : Nat → ClassId) (dI : Nat → Nat → Nat) (h0 : Nat) (q_1 : Nat) (q_5 : Nat) (q_7 : Nat) (q_65 : Nat) (q_67 : Nat) (q_89 : Nat) (q_100 : Nat) (q_106 : Nat) (q_108 : Nat) (q_113 : Nat) (q_73 : Nat) (q_81 : Nat) (q_75 : Nat) (q_76 : Nat) (q_77 : Nat) (q_78 : Nat) (q_79 : Nat) (sz : Nat) : Met l yX11_tells w_t_X11_tells ({ frames := 0, cells := 0, slots := 0, locals := 0 }) (va_Pc [.ref h0] (fun U => U.heap.size = sz ∧ va_P (dC, dI) vwCl [(h0, .inr (11, [.ref q_1, .ref q_5, .ref q_7, .ref q_65, .ref q_67, .ref q_89, .ref q_100, .ref q_106, .ref q_108, .ref q_113, .ref q_73, .ref q_81, .int 0, .int 0, .int (-1), .int 0, .long 0])), (q_73, .inr (4, [.ref q_75, .ref q_76, .ref q_77, .ref q_78, .ref q_79, .int 0, .int 0, .int 0, .int 0, .int 0, .int 0, .int 0, .int 0, .int 0, .int 0]))] U.heap ∧ va_K (dC, dI) vwCl [] U ∧ va_D (fun _ => True) [(h0, .inr (11, [.ref q_1, .ref q_5, .ref q_7, .ref q_65, .ref q_67, .ref q_89, .ref q_100, .ref q_106, .ref q_108, .ref q_113, .ref q_73, .ref q_81, .int 0, .int 0, .int (-1), .int 0, .long 0])), (q_73, .inr (4, [.ref q_75, .ref q_76, .ref q_77, .ref q_78, .ref q_79, .int 0, .int 0, .int 0, .int 0, .int 0, .int 0, .int 0, .int 0, .int 0, .int 0]))])) (va_Qi (fun (r : Int32) (_ : Unit) => r = (-1)) (fun _ _ => True) (va_A [(h0, .inr (11, [.ref q_1, .ref q_5, .ref q_7, .ref q_65, .ref q_67, .ref q_89, .ref q_100, .ref q_106, .ref q_108, .ref q_113, .ref q_73, .ref q_81, .int 0, .int 0, .int (-1), .int 0, .long 0])), (q_73, .inr (4, [.ref q_75, .ref q_76, .ref q_77, .ref q_78, .ref q_79, .int 0, .int 0, .int 0, .int 0, .int 0, .int 0, .int 0, .int 0, .int 0, .int 0]))] sz)) 0 0 (va_A [(h0, .inr (11, [.ref q_1, .ref q_5, .ref q_7, .ref q_65, .ref q_67, .ref q_89, .ref q_100, .ref q_106, .ref q_108, .ref q_113, .ref q_73, .ref q_81, .int 0, .int 0, .int (-1), .int 0, .long 0])), (q_73, .inr (4, [.ref q_75, .ref q_76, .ref q_77, .ref q_78, .ref q_79, .int 0, .int 0, .int 0, .int 0, .int 0, .int 0, .int 0, .int 0, .int 0, .int 0]))] sz) := by
  refine Met.ofW (cc := cX11_tells) (maxL := 5) (ret := (some .int)) (by decide) rfl ?_
  intro p e s m args below meth c s₁ B hml hv
  obtain ⟨rfl, hsz, hP, hK, hD0⟩ := hv
  have hx := B.exec
  have hb := B.bytes
  have hr := B.returns
  have hts := atoms_spec (ws := w_t_X11_tells) B.pre
  have hown : s.vm.findClass RX11 = some m.cls := findClass_of_methodNamed B.named
  have hlocks := B.notSynchronized
  subst hsz
  have hD := hD0.self (sz := s.heap.size)
  generalize hAe : va_A [(h0, .inr (11, [.ref q_1, .ref q_5, .ref q_7, .ref q_65, .ref q_67, .ref q_89, .ref q_100, .ref q_106, .ref q_108, .ref q_113, .ref q_73, .ref q_81, .int 0, .int 0, .int (-1), .int 0, .long 0])), (q_73, .inr (4, [.ref q_75, .ref q_76, .ref q_77, .ref q_78, .ref q_79, .int 0, .int 0, .int 0, .int 0, .int 0, .int 0, .int 0, .int 0, .int 0, .int 0]))] s.heap.size = A at hD ⊢
  have hA : ∀ q : Nat, s.heap.size ≤ q → A q := fun q h => by rw [← hAe]; exact Or.inr h
  have hS : va_S A s.heap s.heap [] := va_S.rf
  have hP : va_P (dC, dI) vwCl [(h0, .inr (11, [.ref q_1, .ref q_5, .ref q_7, .ref q_65, .ref q_67, .ref q_89, .ref q_100, .ref q_106, .ref q_108, .ref q_113, .ref q_73, .ref q_81, .int 0, .int 0, .int (-1), .int 0, .long 0])), (q_73, .inr (4, [.ref q_75, .ref q_76, .ref q_77, .ref q_78, .ref q_79, .int 0, .int 0, .int 0, .int 0, .int 0, .int 0, .int 0, .int 0, .int 0, .int 0]))] s.heap := hP
  have hl := lv_entry ([.ref h0]) (n := 5) (Nat.le_of_ble_eq_true rfl)
  rw [lg_entry_eq]
  generalize (lg_sl ([.ref h0]) ++ List.replicate (5 - (lg_sl ([.ref h0])).length) Slot.unset).toArray = ls at hl ⊢
  have hl : lv_has ls 5 [(0, .ref h0)] := hl
  refine lv_iconst (v := -1) hx hb dX11_tells_0 (by decide +kernel) ?_
  refine lv_istore_n (lv' := [(1, .int (-1)), (0, .ref h0)]) hx hb dX11_tells_1 rfl hl (by decide) rfl (fun ls hl => ?_)
  refine lv_iconst (v := 0) hx hb dX11_tells_2 (by decide +kernel) ?_
  refine lv_istore_n (lv' := [(2, .int 0), (1, .int (-1)), (0, .ref h0)]) hx hb dX11_tells_3 rfl hl (by decide) rfl (fun ls hl => ?_)
  refine lv_iconst (v := 0) hx hb dX11_tells_4 (by decide +kernel) ?_
  refine lv_istore_n (lv' := [(3, .int 0), (2, .int 0), (1, .int (-1)), (0, .ref h0)]) hx hb dX11_tells_5 rfl hl (by decide) rfl (fun ls hl => ?_)
  refine lv_iload_n hx hb dX11_tells_6 rfl (lv_at hl 0 rfl) ?_
  refine lv_aload_n hx hb dX11_tells_7 rfl (lv_at hl 3 rfl) ?_
  refine va_get (D := (dC, dI)) (ci := 11) (v := .ref q_73) (C := RX11) (T := TX11) (N := 17) hx hb hts in_t_X11_tells_X11 hown hK hP 0 rfl rfl 10 (by decide) (hts (.fieldLink RX11 47 "LawnAhead" "ground" "LLawnAhead$Ground;") (List.mem_of_getElem? (i := 1) rfl)) (fun _ h9 => h9) rfl dX11_tells_8 ?_
  refine va_get (D := (dC, dI)) (ci := 4) (v := .int 0) (C := RX4) (T := TX4) (N := 15) hx hb hts in_t_X11_tells_X4 hown hK hP 1 rfl rfl 5 (by decide) (hts (.fieldLink RX11 148 "LawnAhead$Ground" "cells" "I") (List.mem_of_getElem? (i := 2) rfl)) (fun _ h9 => h9) rfl dX11_tells_11 ?_
  refine lv_icmp_ge (tgt := 73) hx hb dX11_tells_14 (by decide) (fun c_1 => ?_) (fun c_1 => absurd (by decide +kernel) c_1)
  refine lv_iload_n hx hb dX11_tells_73 rfl (lv_at hl 2 rfl) ?_
  refine W.widen (k := 0) (n := 0) (Nat.le_of_ble_eq_true rfl) (Nat.le_of_ble_eq_true rfl) ?_
  exact W.iret (v := (-1)) hx hb hr (fun t ht hW => ⟨⟨(-1), (), rfl, rfl, trivial⟩, hS.F ht⟩) hS.2.2 dX11_tells_74

def w_t_X11_alike : List Cond := .code yX11_alike cX11_alike 6 (some .int) :: ([.fieldLink RX11 47 "LawnAhead" "ground" "LLawnAhead$Ground;", .fieldLink RX11 148 "LawnAhead$Ground" "cells" "I", .code yX11_noLawn cX11_noLawn 1 (some .boolean), .methodLink RX11 155 yX11_noLawn, .instanceMethod yX11_noLawn, .selects RX11 yX11_noLawn yX11_noLawn, .initialized RX11] ++ (wsX110 ++ (wsX40 ++ [])))
theorem in_t_X11_alike_X11 : ∀ w ∈ wsX110, w ∈ w_t_X11_alike := fun w h => List.mem_cons_of_mem _ (List.mem_append_right _ (List.mem_append_left _ h))
theorem in_t_X11_alike_X4 : ∀ w ∈ wsX40, w ∈ w_t_X11_alike := fun w h => List.mem_cons_of_mem _ (List.mem_append_right _ (List.mem_append_right _ (List.mem_append_left _ h)))
set_option maxRecDepth 100000 in
theorem g_t_X11_alike_1_c_X11_noLawn : GoodIn w_t_X11_alike (([.methodLink RX11 155 yX11_noLawn, .instanceMethod yX11_noLawn, .selects RX11 yX11_noLawn yX11_noLawn, .initialized RX11] : List Cond) ++ w_c_X11_noLawn) := goodIn_r _ [4, 5, 6, 7, 3, 1, 2, 8, 9, 10, 11, 12, 13, 14, 15, 16, 17, 18, 19, 20, 21, 22, 23, 24, 25, 26, 27, 28, 29, 30, 31, 32, 33, 34, 35, 36, 37, 38, 39] rfl (by decide +kernel)
set_option maxHeartbeats 8000000 in
set_option maxRecDepth 100000 in
theorem t_X11_alike (l : Launch) (dC : Nat → ClassId) (dI : Nat → Nat → Nat) (h0 : Nat) (p1 : Int32) (q_1 : Nat) (q_5 : Nat) (q_7 : Nat) (q_65 : Nat) (q_67 : Nat) (q_89 : Nat) (q_100 : Nat) (q_106 : Nat) (q_108 : Nat) (q_113 : Nat) (q_73 : Nat) (q_81 : Nat) (q_75 : Nat) (q_76 : Nat) (q_77 : Nat) (q_78 : Nat) (q_79 : Nat) (sz : Nat) : Met l yX11_alike w_t_X11_alike ({ frames := 1, cells := 0, slots := 0, locals := 20 }) (va_Pc [.ref h0, .int p1] (fun U => U.heap.size = sz ∧ va_P (dC, dI) vwCl [(h0, .inr (11, [.ref q_1, .ref q_5, .ref q_7, .ref q_65, .ref q_67, .ref q_89, .ref q_100, .ref q_106, .ref q_108, .ref q_113, .ref q_73, .ref q_81, .int 0, .int 0, .int (-1), .int 0, .long 0])), (q_73, .inr (4, [.ref q_75, .ref q_76, .ref q_77, .ref q_78, .ref q_79, .int 0, .int 0, .int 0, .int 0, .int 0, .int 0, .int 0, .int 0, .int 0, .int 0]))] U.heap ∧ va_K (dC, dI) vwCl [] U ∧ va_D (fun _ => True) [(h0, .inr (11, [.ref q_1, .ref q_5, .ref q_7, .ref q_65, .ref q_67, .ref q_89, .ref q_100, .ref q_106, .ref q_108, .ref q_113, .ref q_73, .ref q_81, .int 0, .int 0, .int (-1), .int 0, .long 0])), (q_73, .inr (4, [.ref q_75, .ref q_76, .ref q_77, .ref q_78, .ref q_79, .int 0, .int 0, .int 0, .int 0, .int 0, .int 0, .int 0, .int 0, .int 0, .int 0]))])) (va_Qi (fun (r : Int32) (_ : Unit) => r = (-1)) (fun _ _ => True) (va_A [(h0, .inr (11, [.ref q_1, .ref q_5, .ref q_7, .ref q_65, .ref q_67, .ref q_89, .ref q_100, .ref q_106, .ref q_108, .ref q_113, .ref q_73, .ref q_81, .int 0, .int 0, .int (-1), .int 0, .long 0])), (q_73, .inr (4, [.ref q_75, .ref q_76, .ref q_77, .ref q_78, .ref q_79, .int 0, .int 0, .int 0, .int 0, .int 0, .int 0, .int 0, .int 0, .int 0, .int 0]))] sz)) 0 0 (va_A [(h0, .inr (11, [.ref q_1, .ref q_5, .ref q_7, .ref q_65, .ref q_67, .ref q_89, .ref q_100, .ref q_106, .ref q_108, .ref q_113, .ref q_73, .ref q_81, .int 0, .int 0, .int (-1), .int 0, .long 0])), (q_73, .inr (4, [.ref q_75, .ref q_76, .ref q_77, .ref q_78, .ref q_79, .int 0, .int 0, .int 0, .int 0, .int 0, .int 0, .int 0, .int 0, .int 0, .int 0]))] sz) := by
  refine Met.ofW (cc := cX11_alike) (maxL := 6) (ret := (some .int)) (by decide) rfl ?_
  intro p e s m args below meth c s₁ B hml hv
  obtain ⟨rfl, hsz, hP, hK, hD0⟩ := hv
  have hx := B.exec
  have hb := B.bytes
  have hr := B.returns
  have hts := atoms_spec (ws := w_t_X11_alike) B.pre
  have hown : s.vm.findClass RX11 = some m.cls := findClass_of_methodNamed B.named
  have hlocks := B.notSynchronized
  subst hsz
  have hD := hD0.self (sz := s.heap.size)
  generalize hAe : va_A [(h0, .inr (11, [.ref q_1, .ref q_5, .ref q_7, .ref q_65, .ref q_67, .ref q_89, .ref q_100, .ref q_106, .ref q_108, .ref q_113, .ref q_73, .ref q_81, .int 0, .int 0, .int (-1), .int 0, .long 0])), (q_73, .inr (4, [.ref q_75, .ref q_76, .ref q_77, .ref q_78, .ref q_79, .int 0, .int 0, .int 0, .int 0, .int 0, .int 0, .int 0, .int 0, .int 0, .int 0]))] s.heap.size = A at hD ⊢
  have hA : ∀ q : Nat, s.heap.size ≤ q → A q := fun q h => by rw [← hAe]; exact Or.inr h
  have hS : va_S A s.heap s.heap [] := va_S.rf
  have hP : va_P (dC, dI) vwCl [(h0, .inr (11, [.ref q_1, .ref q_5, .ref q_7, .ref q_65, .ref q_67, .ref q_89, .ref q_100, .ref q_106, .ref q_108, .ref q_113, .ref q_73, .ref q_81, .int 0, .int 0, .int (-1), .int 0, .long 0])), (q_73, .inr (4, [.ref q_75, .ref q_76, .ref q_77, .ref q_78, .ref q_79, .int 0, .int 0, .int 0, .int 0, .int 0, .int 0, .int 0, .int 0, .int 0, .int 0]))] s.heap := hP
  have hl := lv_entry ([.ref h0, .int p1]) (n := 6) (Nat.le_of_ble_eq_true rfl)
  rw [lg_entry_eq]
  generalize (lg_sl ([.ref h0, .int p1]) ++ List.replicate (6 - (lg_sl ([.ref h0, .int p1])).length) Slot.unset).toArray = ls at hl ⊢
  have hl : lv_has ls 6 [(0, .ref h0), (1, .int p1)] := hl
  refine lv_aload_n hx hb dX11_alike_0 rfl (lv_at hl 0 rfl) ?_
  have hPc := hP.sub (ws' := [(h0, .inr (11, [.ref q_1, .ref q_5, .ref q_7, .ref q_65, .ref q_67, .ref q_89, .ref q_100, .ref q_106, .ref q_108, .ref q_113, .ref q_73, .ref q_81, .int 0, .int 0, .int (-1), .int 0, .long 0])), (q_73, .inr (4, [.ref q_75, .ref q_76, .ref q_77, .ref q_78, .ref q_79, .int 0, .int 0, .int 0, .int 0, .int 0, .int 0, .int 0, .int 0, .int 0, .int 0]))]) [0, 1] rfl
  have hDc := hD.sub (ws' := [(h0, .inr (11, [.ref q_1, .ref q_5, .ref q_7, .ref q_65, .ref q_67, .ref q_89, .ref q_100, .ref q_106, .ref q_108, .ref q_113, .ref q_73, .ref q_81, .int 0, .int 0, .int (-1), .int 0, .long 0])), (q_73, .inr (4, [.ref q_75, .ref q_76, .ref q_77, .ref q_78, .ref q_79, .int 0, .int 0, .int 0, .int 0, .int 0, .int 0, .int 0, .int 0, .int 0, .int 0]))]) [0, 1] (by decide) rfl
  have hKc := hK.sub (tys' := []) [] rfl
  have hFc := va_free (wc := [(h0, .inr (11, [.ref q_1, .ref q_5, .ref q_7, .ref q_65, .ref q_67, .ref q_89, .ref q_100, .ref q_106, .ref q_108, .ref q_113, .ref q_73, .ref q_81, .int 0, .int 0, .int (-1), .int 0, .long 0])), (q_73, .inr (4, [.ref q_75, .ref q_76, .ref q_77, .ref q_78, .ref q_79, .int 0, .int 0, .int 0, .int 0, .int 0, .int 0, .int 0, .int 0, .int 0, .int 0]))]) hD hS hA [0, 1] rfl
  refine va_calli (va_runV (As := []) (rest := []) ⟨hx, hb, hml, hown, hts⟩ (c_X11_noLawn l dC dI h0 q_1 q_5 q_7 q_65 q_67 q_89 q_100 q_106 q_108 q_113 q_73 q_81 q_75 q_76 q_77 q_78 q_79 s.heap.size) (cwV 0 hts g_t_X11_alike_1_c_X11_noLawn rfl rfl rfl (by decide +kernel) ⟨Nat.le_of_ble_eq_true rfl, Nat.le_of_ble_eq_true rfl⟩) ⟨fun a U g mk q => by obtain ⟨q0, q1, qP, qK, qD⟩ := q; exact ⟨q0, q1, qP, va_K.moved (u := U) (U := U.calling g mk a) (Vm.Alike.refl U.vm) qK, qD⟩, va_recv hK hP (ci := 11) (q0 := 0) rfl rfl, fun U hU hW => ⟨rfl, by rw [hU], by rw [hU]; exact hPc, va_K.moved hW.alike hKc, hDc.weaken (fun _ _ _ _ => trivial)⟩⟩ rfl rfl hl.1 rfl (lv_room (Nat.le_of_ble_eq_true rfl)) dX11_alike_1 ⟨Nat.le_of_ble_eq_true rfl, Nat.le_of_ble_eq_true rfl⟩) hS (fun q _ h => hFc q h) hFc (fun r_1 u t H1 locs ht hvm hw hB hz1 hk1 hS => ?_)
  obtain ⟨hP1, hK1, hD1⟩ := hB
  rw [ht] at hP1
  have hK1 := va_K.moved hvm.symm hK1
  try dsimp only at hw
  obtain ⟨hP, hD⟩ := va_join (wr := []) (w1 := [(h0, .inr (11, [.ref q_1, .ref q_5, .ref q_7, .ref q_65, .ref q_67, .ref q_89, .ref q_100, .ref q_106, .ref q_108, .ref q_113, .ref q_73, .ref q_81, .int 0, .int 0, .int (-1), .int 0, .long 0])), (q_73, .inr (4, [.ref q_75, .ref q_76, .ref q_77, .ref q_78, .ref q_79, .int 0, .int 0, .int 0, .int 0, .int 0, .int 0, .int 0, .int 0, .int 0, .int 0]))]) hP hD [0, 1] [] rfl rfl (by decide) (by decide) hk1 hFc hP1 hD1
  have hK := hK.app hK1
  generalize H1 = H at hP hS ⊢
  have hP : va_P (dC, dI) vwCl [(h0, .inr (11, [.ref q_1, .ref q_5, .ref q_7, .ref q_65, .ref q_67, .ref q_89, .ref q_100, .ref q_106, .ref q_108, .ref q_113, .ref q_73, .ref q_81, .int 0, .int 0, .int (-1), .int 0, .long 0])), (q_73, .inr (4, [.ref q_75, .ref q_76, .ref q_77, .ref q_78, .ref q_79, .int 0, .int 0, .int 0, .int 0, .int 0, .int 0, .int 0, .int 0, .int 0, .int 0]))] H := hP
  have hD : va_D A [(h0, .inr (11, [.ref q_1, .ref q_5, .ref q_7, .ref q_65, .ref q_67, .ref q_89, .ref q_100, .ref q_106, .ref q_108, .ref q_113, .ref q_73, .ref q_81, .int 0, .int 0, .int (-1), .int 0, .long 0])), (q_73, .inr (4, [.ref q_75, .ref q_76, .ref q_77, .ref q_78, .ref q_79, .int 0, .int 0, .int 0, .int 0, .int 0, .int 0, .int 0, .int 0, .int 0, .int 0]))] := hD
  have hK : va_K (dC, dI) vwCl [] s := hK
  refine W.widen (k := 0) (n := 0) (Nat.le_of_ble_eq_true rfl) (Nat.le_of_ble_eq_true rfl) ?_
  obtain rfl : r_1 = 1 := hw
  refine lv_if_ne (tgt := 16) hx hb dX11_alike_4 (by decide) (fun c_2 => ?_) (fun c_2 => absurd c_2 (by decide +kernel))
  refine lv_iconst (v := -1) hx hb dX11_alike_16 (by decide +kernel) ?_
  refine W.widen (k := 0) (n := 0) (Nat.le_of_ble_eq_true rfl) (Nat.le_of_ble_eq_true rfl) ?_
  exact W.iret (v := (-1)) hx hb hr (fun t ht hW => ⟨⟨(-1), (), rfl, rfl, trivial⟩, hS.F ht⟩) hS.2.2 dX11_alike_17

def w_t_X11_openings : List Cond := .code yX11_openings cX11_openings 4 (some .int) :: ([.fieldLink RX11 47 "LawnAhead" "ground" "LLawnAhead$Ground;", .fieldLink RX11 148 "LawnAhead$Ground" "cells" "I", .code yX11_noLawn cX11_noLawn 1 (some .boolean), .methodLink RX11 155 yX11_noLawn, .instanceMethod yX11_noLawn, .selects RX11 yX11_noLawn yX11_noLawn, .initialized RX11] ++ (wsX110 ++ (wsX40 ++ [])))
theorem in_t_X11_openings_X11 : ∀ w ∈ wsX110, w ∈ w_t_X11_openings := fun w h => List.mem_cons_of_mem _ (List.mem_append_right _ (List.mem_append_left _ h))
theorem in_t_X11_openings_X4 : ∀ w ∈ wsX40, w ∈ w_t_X11_openings := fun w h => List.mem_cons_of_mem _ (List.mem_append_right _ (List.mem_append_right _ (List.mem_append_left _ h)))
set_option maxRecDepth 100000 in
theorem g_t_X11_openings_1_c_X11_noLawn : GoodIn w_t_X11_openings (([.methodLink RX11 155 yX11_noLawn, .instanceMethod yX11_noLawn, .selects RX11 yX11_noLawn yX11_noLawn, .initialized RX11] : List Cond) ++ w_c_X11_noLawn) := goodIn_r _ [4, 5, 6, 7, 3, 1, 2, 8, 9, 10, 11, 12, 13, 14, 15, 16, 17, 18, 19, 20, 21, 22, 23, 24, 25, 26, 27, 28, 29, 30, 31, 32, 33, 34, 35, 36, 37, 38, 39] rfl (by decide +kernel)
set_option maxHeartbeats 8000000 in
set_option maxRecDepth 100000 in
theorem t_X11_openings (l : Launch) (dC : Nat → ClassId) (dI : Nat → Nat → Nat) (h0 : Nat) (q_1 : Nat) (q_5 : Nat) (q_7 : Nat) (q_65 : Nat) (q_67 : Nat) (q_89 : Nat) (q_100 : Nat) (q_106 : Nat) (q_108 : Nat) (q_113 : Nat) (q_73 : Nat) (q_81 : Nat) (q_75 : Nat) (q_76 : Nat) (q_77 : Nat) (q_78 : Nat) (q_79 : Nat) (sz : Nat) : Met l yX11_openings w_t_X11_openings ({ frames := 1, cells := 0, slots := 0, locals := 20 }) (va_Pc [.ref h0] (fun U => U.heap.size = sz ∧ va_P (dC, dI) vwCl [(h0, .inr (11, [.ref q_1, .ref q_5, .ref q_7, .ref q_65, .ref q_67, .ref q_89, .ref q_100, .ref q_106, .ref q_108, .ref q_113, .ref q_73, .ref q_81, .int 0, .int 0, .int (-1), .int 0, .long 0])), (q_73, .inr (4, [.ref q_75, .ref q_76, .ref q_77, .ref q_78, .ref q_79, .int 0, .int 0, .int 0, .int 0, .int 0, .int 0, .int 0, .int 0, .int 0, .int 0]))] U.heap ∧ va_K (dC, dI) vwCl [] U ∧ va_D (fun _ => True) [(h0, .inr (11, [.ref q_1, .ref q_5, .ref q_7, .ref q_65, .ref q_67, .ref q_89, .ref q_100, .ref q_106, .ref q_108, .ref q_113, .ref q_73, .ref q_81, .int 0, .int 0, .int (-1), .int 0, .long 0])), (q_73, .inr (4, [.ref q_75, .ref q_76, .ref q_77, .ref q_78, .ref q_79, .int 0, .int 0, .int 0, .int 0, .int 0, .int 0, .int 0, .int 0, .int 0, .int 0]))])) (va_Qi (fun (r : Int32) (_ : Unit) => r = (-1)) (fun _ _ => True) (va_A [(h0, .inr (11, [.ref q_1, .ref q_5, .ref q_7, .ref q_65, .ref q_67, .ref q_89, .ref q_100, .ref q_106, .ref q_108, .ref q_113, .ref q_73, .ref q_81, .int 0, .int 0, .int (-1), .int 0, .long 0])), (q_73, .inr (4, [.ref q_75, .ref q_76, .ref q_77, .ref q_78, .ref q_79, .int 0, .int 0, .int 0, .int 0, .int 0, .int 0, .int 0, .int 0, .int 0, .int 0]))] sz)) 0 0 (va_A [(h0, .inr (11, [.ref q_1, .ref q_5, .ref q_7, .ref q_65, .ref q_67, .ref q_89, .ref q_100, .ref q_106, .ref q_108, .ref q_113, .ref q_73, .ref q_81, .int 0, .int 0, .int (-1), .int 0, .long 0])), (q_73, .inr (4, [.ref q_75, .ref q_76, .ref q_77, .ref q_78, .ref q_79, .int 0, .int 0, .int 0, .int 0, .int 0, .int 0, .int 0, .int 0, .int 0, .int 0]))] sz) := by
  refine Met.ofW (cc := cX11_openings) (maxL := 4) (ret := (some .int)) (by decide) rfl ?_
  intro p e s m args below meth c s₁ B hml hv
  obtain ⟨rfl, hsz, hP, hK, hD0⟩ := hv
  have hx := B.exec
  have hb := B.bytes
  have hr := B.returns
  have hts := atoms_spec (ws := w_t_X11_openings) B.pre
  have hown : s.vm.findClass RX11 = some m.cls := findClass_of_methodNamed B.named
  have hlocks := B.notSynchronized
  subst hsz
  have hD := hD0.self (sz := s.heap.size)
  generalize hAe : va_A [(h0, .inr (11, [.ref q_1, .ref q_5, .ref q_7, .ref q_65, .ref q_67, .ref q_89, .ref q_100, .ref q_106, .ref q_108, .ref q_113, .ref q_73, .ref q_81, .int 0, .int 0, .int (-1), .int 0, .long 0])), (q_73, .inr (4, [.ref q_75, .ref q_76, .ref q_77, .ref q_78, .ref q_79, .int 0, .int 0, .int 0, .int 0, .int 0, .int 0, .int 0, .int 0, .int 0, .int 0]))] s.heap.size = A at hD ⊢
  have hA : ∀ q : Nat, s.heap.size ≤ q → A q := fun q h => by rw [← hAe]; exact Or.inr h
  have hS : va_S A s.heap s.heap [] := va_S.rf
  have hP : va_P (dC, dI) vwCl [(h0, .inr (11, [.ref q_1, .ref q_5, .ref q_7, .ref q_65, .ref q_67, .ref q_89, .ref q_100, .ref q_106, .ref q_108, .ref q_113, .ref q_73, .ref q_81, .int 0, .int 0, .int (-1), .int 0, .long 0])), (q_73, .inr (4, [.ref q_75, .ref q_76, .ref q_77, .ref q_78, .ref q_79, .int 0, .int 0, .int 0, .int 0, .int 0, .int 0, .int 0, .int 0, .int 0, .int 0]))] s.heap := hP
  have hl := lv_entry ([.ref h0]) (n := 4) (Nat.le_of_ble_eq_true rfl)
  rw [lg_entry_eq]
  generalize (lg_sl ([.ref h0]) ++ List.replicate (4 - (lg_sl ([.ref h0])).length) Slot.unset).toArray = ls at hl ⊢
  have hl : lv_has ls 4 [(0, .ref h0)] := hl
  refine lv_aload_n hx hb dX11_openings_0 rfl (lv_at hl 0 rfl) ?_
  have hPc := hP.sub (ws' := [(h0, .inr (11, [.ref q_1, .ref q_5, .ref q_7, .ref q_65, .ref q_67, .ref q_89, .ref q_100, .ref q_106, .ref q_108, .ref q_113, .ref q_73, .ref q_81, .int 0, .int 0, .int (-1), .int 0, .long 0])), (q_73, .inr (4, [.ref q_75, .ref q_76, .ref q_77, .ref q_78, .ref q_79, .int 0, .int 0, .int 0, .int 0, .int 0, .int 0, .int 0, .int 0, .int 0, .int 0]))]) [0, 1] rfl
  have hDc := hD.sub (ws' := [(h0, .inr (11, [.ref q_1, .ref q_5, .ref q_7, .ref q_65, .ref q_67, .ref q_89, .ref q_100, .ref q_106, .ref q_108, .ref q_113, .ref q_73, .ref q_81, .int 0, .int 0, .int (-1), .int 0, .long 0])), (q_73, .inr (4, [.ref q_75, .ref q_76, .ref q_77, .ref q_78, .ref q_79, .int 0, .int 0, .int 0, .int 0, .int 0, .int 0, .int 0, .int 0, .int 0, .int 0]))]) [0, 1] (by decide) rfl
  have hKc := hK.sub (tys' := []) [] rfl
  have hFc := va_free (wc := [(h0, .inr (11, [.ref q_1, .ref q_5, .ref q_7, .ref q_65, .ref q_67, .ref q_89, .ref q_100, .ref q_106, .ref q_108, .ref q_113, .ref q_73, .ref q_81, .int 0, .int 0, .int (-1), .int 0, .long 0])), (q_73, .inr (4, [.ref q_75, .ref q_76, .ref q_77, .ref q_78, .ref q_79, .int 0, .int 0, .int 0, .int 0, .int 0, .int 0, .int 0, .int 0, .int 0, .int 0]))]) hD hS hA [0, 1] rfl
  refine va_calli (va_runV (As := []) (rest := []) ⟨hx, hb, hml, hown, hts⟩ (c_X11_noLawn l dC dI h0 q_1 q_5 q_7 q_65 q_67 q_89 q_100 q_106 q_108 q_113 q_73 q_81 q_75 q_76 q_77 q_78 q_79 s.heap.size) (cwV 0 hts g_t_X11_openings_1_c_X11_noLawn rfl rfl rfl (by decide +kernel) ⟨Nat.le_of_ble_eq_true rfl, Nat.le_of_ble_eq_true rfl⟩) ⟨fun a U g mk q => by obtain ⟨q0, q1, qP, qK, qD⟩ := q; exact ⟨q0, q1, qP, va_K.moved (u := U) (U := U.calling g mk a) (Vm.Alike.refl U.vm) qK, qD⟩, va_recv hK hP (ci := 11) (q0 := 0) rfl rfl, fun U hU hW => ⟨rfl, by rw [hU], by rw [hU]; exact hPc, va_K.moved hW.alike hKc, hDc.weaken (fun _ _ _ _ => trivial)⟩⟩ rfl rfl hl.1 rfl (lv_room (Nat.le_of_ble_eq_true rfl)) dX11_openings_1 ⟨Nat.le_of_ble_eq_true rfl, Nat.le_of_ble_eq_true rfl⟩) hS (fun q _ h => hFc q h) hFc (fun r_1 u t H1 locs ht hvm hw hB hz1 hk1 hS => ?_)
  obtain ⟨hP1, hK1, hD1⟩ := hB
  rw [ht] at hP1
  have hK1 := va_K.moved hvm.symm hK1
  try dsimp only at hw
  obtain ⟨hP, hD⟩ := va_join (wr := []) (w1 := [(h0, .inr (11, [.ref q_1, .ref q_5, .ref q_7, .ref q_65, .ref q_67, .ref q_89, .ref q_100, .ref q_106, .ref q_108, .ref q_113, .ref q_73, .ref q_81, .int 0, .int 0, .int (-1), .int 0, .long 0])), (q_73, .inr (4, [.ref q_75, .ref q_76, .ref q_77, .ref q_78, .ref q_79, .int 0, .int 0, .int 0, .int 0, .int 0, .int 0, .int 0, .int 0, .int 0, .int 0]))]) hP hD [0, 1] [] rfl rfl (by decide) (by decide) hk1 hFc hP1 hD1
  have hK := hK.app hK1
  generalize H1 = H at hP hS ⊢
  have hP : va_P (dC, dI) vwCl [(h0, .inr (11, [.ref q_1, .ref q_5, .ref q_7, .ref q_65, .ref q_67, .ref q_89, .ref q_100, .ref q_106, .ref q_108, .ref q_113, .ref q_73, .ref q_81, .int 0, .int 0, .int (-1), .int 0, .long 0])), (q_73, .inr (4, [.ref q_75, .ref q_76, .ref q_77, .ref q_78, .ref q_79, .int 0, .int 0, .int 0, .int 0, .int 0, .int 0, .int 0, .int 0, .int 0, .int 0]))] H := hP
  have hD : va_D A [(h0, .inr (11, [.ref q_1, .ref q_5, .ref q_7, .ref q_65, .ref q_67, .ref q_89, .ref q_100, .ref q_106, .ref q_108, .ref q_113, .ref q_73, .ref q_81, .int 0, .int 0, .int (-1), .int 0, .long 0])), (q_73, .inr (4, [.ref q_75, .ref q_76, .ref q_77, .ref q_78, .ref q_79, .int 0, .int 0, .int 0, .int 0, .int 0, .int 0, .int 0, .int 0, .int 0, .int 0]))] := hD
  have hK : va_K (dC, dI) vwCl [] s := hK
  refine W.widen (k := 0) (n := 0) (Nat.le_of_ble_eq_true rfl) (Nat.le_of_ble_eq_true rfl) ?_
  obtain rfl : r_1 = 1 := hw
  refine lv_if_eq (tgt := 9) hx hb dX11_openings_4 (by decide) (fun c_2 => absurd c_2 (by decide +kernel)) (fun c_2 => ?_)
  refine lv_iconst (v := -1) hx hb dX11_openings_7 (by decide +kernel) ?_
  refine W.widen (k := 0) (n := 0) (Nat.le_of_ble_eq_true rfl) (Nat.le_of_ble_eq_true rfl) ?_
  exact W.iret (v := (-1)) hx hb hr (fun t ht hW => ⟨⟨(-1), (), rfl, rfl, trivial⟩, hS.F ht⟩) hS.2.2 dX11_openings_8

def w_t_X11_odds : List Cond := .code yX11_odds cX11_odds 3 (some .int) :: ([.fieldLink RX11 47 "LawnAhead" "ground" "LLawnAhead$Ground;", .fieldLink RX11 148 "LawnAhead$Ground" "cells" "I", .code yX11_noLawn cX11_noLawn 1 (some .boolean), .methodLink RX11 155 yX11_noLawn, .instanceMethod yX11_noLawn, .selects RX11 yX11_noLawn yX11_noLawn, .initialized RX11] ++ (wsX110 ++ (wsX40 ++ [])))
theorem in_t_X11_odds_X11 : ∀ w ∈ wsX110, w ∈ w_t_X11_odds := fun w h => List.mem_cons_of_mem _ (List.mem_append_right _ (List.mem_append_left _ h))
theorem in_t_X11_odds_X4 : ∀ w ∈ wsX40, w ∈ w_t_X11_odds := fun w h => List.mem_cons_of_mem _ (List.mem_append_right _ (List.mem_append_right _ (List.mem_append_left _ h)))
set_option maxRecDepth 100000 in
theorem g_t_X11_odds_1_c_X11_noLawn : GoodIn w_t_X11_odds (([.methodLink RX11 155 yX11_noLawn, .instanceMethod yX11_noLawn, .selects RX11 yX11_noLawn yX11_noLawn, .initialized RX11] : List Cond) ++ w_c_X11_noLawn) := goodIn_r _ [4, 5, 6, 7, 3, 1, 2, 8, 9, 10, 11, 12, 13, 14, 15, 16, 17, 18, 19, 20, 21, 22, 23, 24, 25, 26, 27, 28, 29, 30, 31, 32, 33, 34, 35, 36, 37, 38, 39] rfl (by decide +kernel)
set_option maxHeartbeats 8000000 in
set_option maxRecDepth 100000 in
theorem t_X11_odds (l : Launch) (dC : Nat → ClassId) (dI : Nat → Nat → Nat) (h0 : Nat) (p1 : Int32) (p2 : Int32) (q_1 : Nat) (q_5 : Nat) (q_7 : Nat) (q_65 : Nat) (q_67 : Nat) (q_89 : Nat) (q_100 : Nat) (q_106 : Nat) (q_108 : Nat) (q_113 : Nat) (q_73 : Nat) (q_81 : Nat) (q_75 : Nat) (q_76 : Nat) (q_77 : Nat) (q_78 : Nat) (q_79 : Nat) (sz : Nat) : Met l yX11_odds w_t_X11_odds ({ frames := 1, cells := 0, slots := 0, locals := 20 }) (va_Pc [.ref h0, .int p1, .int p2] (fun U => U.heap.size = sz ∧ va_P (dC, dI) vwCl [(h0, .inr (11, [.ref q_1, .ref q_5, .ref q_7, .ref q_65, .ref q_67, .ref q_89, .ref q_100, .ref q_106, .ref q_108, .ref q_113, .ref q_73, .ref q_81, .int 0, .int 0, .int (-1), .int 0, .long 0])), (q_73, .inr (4, [.ref q_75, .ref q_76, .ref q_77, .ref q_78, .ref q_79, .int 0, .int 0, .int 0, .int 0, .int 0, .int 0, .int 0, .int 0, .int 0, .int 0]))] U.heap ∧ va_K (dC, dI) vwCl [] U ∧ va_D (fun _ => True) [(h0, .inr (11, [.ref q_1, .ref q_5, .ref q_7, .ref q_65, .ref q_67, .ref q_89, .ref q_100, .ref q_106, .ref q_108, .ref q_113, .ref q_73, .ref q_81, .int 0, .int 0, .int (-1), .int 0, .long 0])), (q_73, .inr (4, [.ref q_75, .ref q_76, .ref q_77, .ref q_78, .ref q_79, .int 0, .int 0, .int 0, .int 0, .int 0, .int 0, .int 0, .int 0, .int 0, .int 0]))])) (va_Qi (fun (r : Int32) (_ : Unit) => r = (-1)) (fun _ _ => True) (va_A [(h0, .inr (11, [.ref q_1, .ref q_5, .ref q_7, .ref q_65, .ref q_67, .ref q_89, .ref q_100, .ref q_106, .ref q_108, .ref q_113, .ref q_73, .ref q_81, .int 0, .int 0, .int (-1), .int 0, .long 0])), (q_73, .inr (4, [.ref q_75, .ref q_76, .ref q_77, .ref q_78, .ref q_79, .int 0, .int 0, .int 0, .int 0, .int 0, .int 0, .int 0, .int 0, .int 0, .int 0]))] sz)) 0 0 (va_A [(h0, .inr (11, [.ref q_1, .ref q_5, .ref q_7, .ref q_65, .ref q_67, .ref q_89, .ref q_100, .ref q_106, .ref q_108, .ref q_113, .ref q_73, .ref q_81, .int 0, .int 0, .int (-1), .int 0, .long 0])), (q_73, .inr (4, [.ref q_75, .ref q_76, .ref q_77, .ref q_78, .ref q_79, .int 0, .int 0, .int 0, .int 0, .int 0, .int 0, .int 0, .int 0, .int 0, .int 0]))] sz) := by
  refine Met.ofW (cc := cX11_odds) (maxL := 3) (ret := (some .int)) (by decide) rfl ?_
  intro p e s m args below meth c s₁ B hml hv
  obtain ⟨rfl, hsz, hP, hK, hD0⟩ := hv
  have hx := B.exec
  have hb := B.bytes
  have hr := B.returns
  have hts := atoms_spec (ws := w_t_X11_odds) B.pre
  have hown : s.vm.findClass RX11 = some m.cls := findClass_of_methodNamed B.named
  have hlocks := B.notSynchronized
  subst hsz
  have hD := hD0.self (sz := s.heap.size)
  generalize hAe : va_A [(h0, .inr (11, [.ref q_1, .ref q_5, .ref q_7, .ref q_65, .ref q_67, .ref q_89, .ref q_100, .ref q_106, .ref q_108, .ref q_113, .ref q_73, .ref q_81, .int 0, .int 0, .int (-1), .int 0, .long 0])), (q_73, .inr (4, [.ref q_75, .ref q_76, .ref q_77, .ref q_78, .ref q_79, .int 0, .int 0, .int 0, .int 0, .int 0, .int 0, .int 0, .int 0, .int 0, .int 0]))] s.heap.size = A at hD ⊢
  have hA : ∀ q : Nat, s.heap.size ≤ q → A q := fun q h => by rw [← hAe]; exact Or.inr h
  have hS : va_S A s.heap s.heap [] := va_S.rf
  have hP : va_P (dC, dI) vwCl [(h0, .inr (11, [.ref q_1, .ref q_5, .ref q_7, .ref q_65, .ref q_67, .ref q_89, .ref q_100, .ref q_106, .ref q_108, .ref q_113, .ref q_73, .ref q_81, .int 0, .int 0, .int (-1), .int 0, .long 0])), (q_73, .inr (4, [.ref q_75, .ref q_76, .ref q_77, .ref q_78, .ref q_79, .int 0, .int 0, .int 0, .int 0, .int 0, .int 0, .int 0, .int 0, .int 0, .int 0]))] s.heap := hP
  have hl := lv_entry ([.ref h0, .int p1, .int p2]) (n := 3) (Nat.le_of_ble_eq_true rfl)
  rw [lg_entry_eq]
  generalize (lg_sl ([.ref h0, .int p1, .int p2]) ++ List.replicate (3 - (lg_sl ([.ref h0, .int p1, .int p2])).length) Slot.unset).toArray = ls at hl ⊢
  have hl : lv_has ls 3 [(0, .ref h0), (1, .int p1), (2, .int p2)] := hl
  refine lv_aload_n hx hb dX11_odds_0 rfl (lv_at hl 0 rfl) ?_
  have hPc := hP.sub (ws' := [(h0, .inr (11, [.ref q_1, .ref q_5, .ref q_7, .ref q_65, .ref q_67, .ref q_89, .ref q_100, .ref q_106, .ref q_108, .ref q_113, .ref q_73, .ref q_81, .int 0, .int 0, .int (-1), .int 0, .long 0])), (q_73, .inr (4, [.ref q_75, .ref q_76, .ref q_77, .ref q_78, .ref q_79, .int 0, .int 0, .int 0, .int 0, .int 0, .int 0, .int 0, .int 0, .int 0, .int 0]))]) [0, 1] rfl
  have hDc := hD.sub (ws' := [(h0, .inr (11, [.ref q_1, .ref q_5, .ref q_7, .ref q_65, .ref q_67, .ref q_89, .ref q_100, .ref q_106, .ref q_108, .ref q_113, .ref q_73, .ref q_81, .int 0, .int 0, .int (-1), .int 0, .long 0])), (q_73, .inr (4, [.ref q_75, .ref q_76, .ref q_77, .ref q_78, .ref q_79, .int 0, .int 0, .int 0, .int 0, .int 0, .int 0, .int 0, .int 0, .int 0, .int 0]))]) [0, 1] (by decide) rfl
  have hKc := hK.sub (tys' := []) [] rfl
  have hFc := va_free (wc := [(h0, .inr (11, [.ref q_1, .ref q_5, .ref q_7, .ref q_65, .ref q_67, .ref q_89, .ref q_100, .ref q_106, .ref q_108, .ref q_113, .ref q_73, .ref q_81, .int 0, .int 0, .int (-1), .int 0, .long 0])), (q_73, .inr (4, [.ref q_75, .ref q_76, .ref q_77, .ref q_78, .ref q_79, .int 0, .int 0, .int 0, .int 0, .int 0, .int 0, .int 0, .int 0, .int 0, .int 0]))]) hD hS hA [0, 1] rfl
  refine va_calli (va_runV (As := []) (rest := []) ⟨hx, hb, hml, hown, hts⟩ (c_X11_noLawn l dC dI h0 q_1 q_5 q_7 q_65 q_67 q_89 q_100 q_106 q_108 q_113 q_73 q_81 q_75 q_76 q_77 q_78 q_79 s.heap.size) (cwV 0 hts g_t_X11_odds_1_c_X11_noLawn rfl rfl rfl (by decide +kernel) ⟨Nat.le_of_ble_eq_true rfl, Nat.le_of_ble_eq_true rfl⟩) ⟨fun a U g mk q => by obtain ⟨q0, q1, qP, qK, qD⟩ := q; exact ⟨q0, q1, qP, va_K.moved (u := U) (U := U.calling g mk a) (Vm.Alike.refl U.vm) qK, qD⟩, va_recv hK hP (ci := 11) (q0 := 0) rfl rfl, fun U hU hW => ⟨rfl, by rw [hU], by rw [hU]; exact hPc, va_K.moved hW.alike hKc, hDc.weaken (fun _ _ _ _ => trivial)⟩⟩ rfl rfl hl.1 rfl (lv_room (Nat.le_of_ble_eq_true rfl)) dX11_odds_1 ⟨Nat.le_of_ble_eq_true rfl, Nat.le_of_ble_eq_true rfl⟩) hS (fun q _ h => hFc q h) hFc (fun r_1 u t H1 locs ht hvm hw hB hz1 hk1 hS => ?_)
  obtain ⟨hP1, hK1, hD1⟩ := hB
  rw [ht] at hP1
  have hK1 := va_K.moved hvm.symm hK1
  try dsimp only at hw
  obtain ⟨hP, hD⟩ := va_join (wr := []) (w1 := [(h0, .inr (11, [.ref q_1, .ref q_5, .ref q_7, .ref q_65, .ref q_67, .ref q_89, .ref q_100, .ref q_106, .ref q_108, .ref q_113, .ref q_73, .ref q_81, .int 0, .int 0, .int (-1), .int 0, .long 0])), (q_73, .inr (4, [.ref q_75, .ref q_76, .ref q_77, .ref q_78, .ref q_79, .int 0, .int 0, .int 0, .int 0, .int 0, .int 0, .int 0, .int 0, .int 0, .int 0]))]) hP hD [0, 1] [] rfl rfl (by decide) (by decide) hk1 hFc hP1 hD1
  have hK := hK.app hK1
  generalize H1 = H at hP hS ⊢
  have hP : va_P (dC, dI) vwCl [(h0, .inr (11, [.ref q_1, .ref q_5, .ref q_7, .ref q_65, .ref q_67, .ref q_89, .ref q_100, .ref q_106, .ref q_108, .ref q_113, .ref q_73, .ref q_81, .int 0, .int 0, .int (-1), .int 0, .long 0])), (q_73, .inr (4, [.ref q_75, .ref q_76, .ref q_77, .ref q_78, .ref q_79, .int 0, .int 0, .int 0, .int 0, .int 0, .int 0, .int 0, .int 0, .int 0, .int 0]))] H := hP
  have hD : va_D A [(h0, .inr (11, [.ref q_1, .ref q_5, .ref q_7, .ref q_65, .ref q_67, .ref q_89, .ref q_100, .ref q_106, .ref q_108, .ref q_113, .ref q_73, .ref q_81, .int 0, .int 0, .int (-1), .int 0, .long 0])), (q_73, .inr (4, [.ref q_75, .ref q_76, .ref q_77, .ref q_78, .ref q_79, .int 0, .int 0, .int 0, .int 0, .int 0, .int 0, .int 0, .int 0, .int 0, .int 0]))] := hD
  have hK : va_K (dC, dI) vwCl [] s := hK
  refine W.widen (k := 0) (n := 0) (Nat.le_of_ble_eq_true rfl) (Nat.le_of_ble_eq_true rfl) ?_
  obtain rfl : r_1 = 1 := hw
  refine lv_if_ne (tgt := 26) hx hb dX11_odds_4 (by decide) (fun c_2 => ?_) (fun c_2 => absurd c_2 (by decide +kernel))
  refine lv_iconst (v := -1) hx hb dX11_odds_26 (by decide +kernel) ?_
  refine W.widen (k := 0) (n := 0) (Nat.le_of_ble_eq_true rfl) (Nat.le_of_ble_eq_true rfl) ?_
  exact W.iret (v := (-1)) hx hb hr (fun t ht hW => ⟨⟨(-1), (), rfl, rfl, trivial⟩, hS.F ht⟩) hS.2.2 dX11_odds_27
