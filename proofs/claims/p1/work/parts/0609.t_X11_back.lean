def w_t_X11_back : List Cond := .code yX11_back cX11_back 1 (some .int) :: ([.fieldLink RX11 40 "LawnAhead" "history" "LLawnAhead$History;", .fieldLink RX11 33 "LawnAhead" "now" "LLawnAhead$State;", .fieldLink RX5 34 "LawnAhead$History" "hasImage" "Z", .code yX5_bringBack cX5_bringBack 2 (some .boolean), .methodLink RX11 408 yX5_bringBack, .instanceMethod yX5_bringBack, .selects RX5 yX5_bringBack yX5_bringBack, .initialized RX5] ++ (wsX110 ++ (wsX50 ++ [])))
theorem in_t_X11_back_X11 : ∀ w ∈ wsX110, w ∈ w_t_X11_back := fun w h => List.mem_cons_of_mem _ (List.mem_append_right _ (List.mem_append_left _ h))
theorem in_t_X11_back_X5 : ∀ w ∈ wsX50, w ∈ w_t_X11_back := fun w h => List.mem_cons_of_mem _ (List.mem_append_right _ (List.mem_append_right _ (List.mem_append_left _ h)))
set_option maxRecDepth 100000 in
theorem g_t_X11_back_8_c_X5_bringBack : GoodIn w_t_X11_back (([.methodLink RX11 408 yX5_bringBack, .instanceMethod yX5_bringBack, .selects RX5 yX5_bringBack yX5_bringBack, .initialized RX5] : List Cond) ++ w_c_X5_bringBack) := goodIn_r _ [5, 6, 7, 8, 4, 3, 26, 27, 28, 29, 30, 31, 32, 33, 34, 35, 36] rfl (by decide +kernel)
set_option maxHeartbeats 8000000 in
set_option maxRecDepth 100000 in
theorem t_X11_back (l : Launch) (dC : Nat → ClassId) (dI : Nat → Nat → Nat) (h0 : Nat) (q_1 : Nat) (q_5 : Nat) (q_7 : Nat) (q_65 : Nat) (q_67 : Nat) (q_89 : Nat) (q_100 : Nat) (q_106 : Nat) (q_108 : Nat) (q_113 : Nat) (q_73 : Nat) (q_81 : Nat) (q_69 : Nat) (q_70 : Nat) (q_71 : Nat) (q_72 : Nat) (sz : Nat) : Met l yX11_back w_t_X11_back ({ frames := 1, cells := 0, slots := 0, locals := 21 }) (va_Pc [.ref h0] (fun U => U.heap.size = sz ∧ va_P (dC, dI) vwCl [(h0, .inr (11, [.ref q_1, .ref q_5, .ref q_7, .ref q_65, .ref q_67, .ref q_89, .ref q_100, .ref q_106, .ref q_108, .ref q_113, .ref q_73, .ref q_81, .int 0, .int 0, .int (-1), .int 0, .long 0])), (q_67, .inr (5, [.ref q_69, .ref q_70, .ref q_71, .ref q_72, .int 0, .int 0, .int 0, .int 0, .int 0, .int 0, .int 0]))] U.heap ∧ va_K (dC, dI) vwCl [] U ∧ va_D (fun _ => True) [(h0, .inr (11, [.ref q_1, .ref q_5, .ref q_7, .ref q_65, .ref q_67, .ref q_89, .ref q_100, .ref q_106, .ref q_108, .ref q_113, .ref q_73, .ref q_81, .int 0, .int 0, .int (-1), .int 0, .long 0])), (q_67, .inr (5, [.ref q_69, .ref q_70, .ref q_71, .ref q_72, .int 0, .int 0, .int 0, .int 0, .int 0, .int 0, .int 0]))])) (va_Qi (fun (r : Int32) (_ : Unit) => r = (-1)) (fun _ _ => True) (va_A [(h0, .inr (11, [.ref q_1, .ref q_5, .ref q_7, .ref q_65, .ref q_67, .ref q_89, .ref q_100, .ref q_106, .ref q_108, .ref q_113, .ref q_73, .ref q_81, .int 0, .int 0, .int (-1), .int 0, .long 0])), (q_67, .inr (5, [.ref q_69, .ref q_70, .ref q_71, .ref q_72, .int 0, .int 0, .int 0, .int 0, .int 0, .int 0, .int 0]))] sz)) 0 0 (va_A [(h0, .inr (11, [.ref q_1, .ref q_5, .ref q_7, .ref q_65, .ref q_67, .ref q_89, .ref q_100, .ref q_106, .ref q_108, .ref q_113, .ref q_73, .ref q_81, .int 0, .int 0, .int (-1), .int 0, .long 0])), (q_67, .inr (5, [.ref q_69, .ref q_70, .ref q_71, .ref q_72, .int 0, .int 0, .int 0, .int 0, .int 0, .int 0, .int 0]))] sz) := by
  refine Met.ofW (cc := cX11_back) (maxL := 1) (ret := (some .int)) (by decide) rfl ?_
  intro p e s m args below meth c s₁ B hml hv
  obtain ⟨rfl, hsz, hP, hK, hD0⟩ := hv
  have hx := B.exec
  have hb := B.bytes
  have hr := B.returns
  have hts := atoms_spec (ws := w_t_X11_back) B.pre
  have hown : s.vm.findClass RX11 = some m.cls := findClass_of_methodNamed B.named
  have hlocks := B.notSynchronized
  subst hsz
  have hD := hD0.self (sz := s.heap.size)
  generalize hAe : va_A [(h0, .inr (11, [.ref q_1, .ref q_5, .ref q_7, .ref q_65, .ref q_67, .ref q_89, .ref q_100, .ref q_106, .ref q_108, .ref q_113, .ref q_73, .ref q_81, .int 0, .int 0, .int (-1), .int 0, .long 0])), (q_67, .inr (5, [.ref q_69, .ref q_70, .ref q_71, .ref q_72, .int 0, .int 0, .int 0, .int 0, .int 0, .int 0, .int 0]))] s.heap.size = A at hD ⊢
  have hA : ∀ q : Nat, s.heap.size ≤ q → A q := fun q h => by rw [← hAe]; exact Or.inr h
  have hS : va_S A s.heap s.heap [] := va_S.rf
  have hP : va_P (dC, dI) vwCl [(h0, .inr (11, [.ref q_1, .ref q_5, .ref q_7, .ref q_65, .ref q_67, .ref q_89, .ref q_100, .ref q_106, .ref q_108, .ref q_113, .ref q_73, .ref q_81, .int 0, .int 0, .int (-1), .int 0, .long 0])), (q_67, .inr (5, [.ref q_69, .ref q_70, .ref q_71, .ref q_72, .int 0, .int 0, .int 0, .int 0, .int 0, .int 0, .int 0]))] s.heap := hP
  have hl := lv_entry ([.ref h0]) (n := 1) (Nat.le_of_ble_eq_true rfl)
  rw [lg_entry_eq]
  generalize (lg_sl ([.ref h0]) ++ List.replicate (1 - (lg_sl ([.ref h0])).length) Slot.unset).toArray = ls at hl ⊢
  have hl : lv_has ls 1 [(0, .ref h0)] := hl
  refine lv_aload_n hx hb dX11_back_0 rfl (lv_at hl 0 rfl) ?_
  refine va_get (D := (dC, dI)) (ci := 11) (v := .ref q_67) (C := RX11) (T := TX11) (N := 17) hx hb hts in_t_X11_back_X11 hown hK hP 0 rfl rfl 4 (by decide) (hts (.fieldLink RX11 40 "LawnAhead" "history" "LLawnAhead$History;") (List.mem_of_getElem? (i := 1) rfl)) (fun _ h9 => h9) rfl dX11_back_1 ?_
  refine lv_aload_n hx hb dX11_back_4 rfl (lv_at hl 0 rfl) ?_
  refine va_get (D := (dC, dI)) (ci := 11) (v := .ref q_65) (C := RX11) (T := TX11) (N := 17) hx hb hts in_t_X11_back_X11 hown hK hP 0 rfl rfl 3 (by decide) (hts (.fieldLink RX11 33 "LawnAhead" "now" "LLawnAhead$State;") (List.mem_of_getElem? (i := 2) rfl)) (fun _ h9 => h9) rfl dX11_back_5 ?_
  have hPc := hP.sub (ws' := [(q_67, .inr (5, [.ref q_69, .ref q_70, .ref q_71, .ref q_72, .int 0, .int 0, .int 0, .int 0, .int 0, .int 0, .int 0]))]) [1] rfl
  have hDc := hD.sub (ws' := [(q_67, .inr (5, [.ref q_69, .ref q_70, .ref q_71, .ref q_72, .int 0, .int 0, .int 0, .int 0, .int 0, .int 0, .int 0]))]) [1] (by decide) rfl
  have hKc := hK.sub (tys' := []) [] rfl
  have hFc := va_free (wc := [(q_67, .inr (5, [.ref q_69, .ref q_70, .ref q_71, .ref q_72, .int 0, .int 0, .int 0, .int 0, .int 0, .int 0, .int 0]))]) hD hS hA [1] rfl
  refine va_calli (va_runV (As := [.ref q_65]) (rest := []) ⟨hx, hb, hml, hown, hts⟩ (c_X5_bringBack l dC dI q_67 q_65 q_69 q_70 q_71 q_72 s.heap.size) (cwV 1 hts g_t_X11_back_8_c_X5_bringBack rfl rfl rfl (by decide +kernel) ⟨Nat.le_of_ble_eq_true rfl, Nat.le_of_ble_eq_true rfl⟩) ⟨fun a U g mk q => by obtain ⟨q0, q1, qP, qK, qD⟩ := q; exact ⟨q0, q1, qP, va_K.moved (u := U) (U := U.calling g mk a) (Vm.Alike.refl U.vm) qK, qD⟩, va_recv hK hP (ci := 5) (q0 := 1) rfl rfl, fun U hU hW => ⟨rfl, by rw [hU], by rw [hU]; exact hPc, va_K.moved hW.alike hKc, hDc.weaken (fun _ _ _ _ => trivial)⟩⟩ rfl rfl hl.1 rfl (lv_room (Nat.le_of_ble_eq_true rfl)) dX11_back_8 ⟨Nat.le_of_ble_eq_true rfl, Nat.le_of_ble_eq_true rfl⟩) hS (fun q _ h => hFc q h) hFc (fun r_1 u t H1 locs ht hvm hw hB hz1 hk1 hS => ?_)
  obtain ⟨hP1, hK1, hD1⟩ := hB
  rw [ht] at hP1
  have hK1 := va_K.moved hvm.symm hK1
  try dsimp only at hw
  obtain ⟨hP, hD⟩ := va_join (wr := [(h0, .inr (11, [.ref q_1, .ref q_5, .ref q_7, .ref q_65, .ref q_67, .ref q_89, .ref q_100, .ref q_106, .ref q_108, .ref q_113, .ref q_73, .ref q_81, .int 0, .int 0, .int (-1), .int 0, .long 0]))]) (w1 := [(q_67, .inr (5, [.ref q_69, .ref q_70, .ref q_71, .ref q_72, .int 0, .int 0, .int 0, .int 0, .int 0, .int 0, .int 0]))]) hP hD [1] [0] rfl rfl (by decide) (by decide) hk1 hFc hP1 hD1
  have hK := hK.app hK1
  generalize H1 = H at hP hS ⊢
  have hP : va_P (dC, dI) vwCl [(h0, .inr (11, [.ref q_1, .ref q_5, .ref q_7, .ref q_65, .ref q_67, .ref q_89, .ref q_100, .ref q_106, .ref q_108, .ref q_113, .ref q_73, .ref q_81, .int 0, .int 0, .int (-1), .int 0, .long 0])), (q_67, .inr (5, [.ref q_69, .ref q_70, .ref q_71, .ref q_72, .int 0, .int 0, .int 0, .int 0, .int 0, .int 0, .int 0]))] H := hP
  have hD : va_D A [(h0, .inr (11, [.ref q_1, .ref q_5, .ref q_7, .ref q_65, .ref q_67, .ref q_89, .ref q_100, .ref q_106, .ref q_108, .ref q_113, .ref q_73, .ref q_81, .int 0, .int 0, .int (-1), .int 0, .long 0])), (q_67, .inr (5, [.ref q_69, .ref q_70, .ref q_71, .ref q_72, .int 0, .int 0, .int 0, .int 0, .int 0, .int 0, .int 0]))] := hD
  have hK : va_K (dC, dI) vwCl [] s := hK
  refine W.widen (k := 0) (n := 0) (Nat.le_of_ble_eq_true rfl) (Nat.le_of_ble_eq_true rfl) ?_
  obtain rfl : r_1 = 0 := hw
  refine lv_if_eq (tgt := 24) hx hb dX11_back_11 (by decide) (fun c_2 => ?_) (fun c_2 => absurd (by decide +kernel) c_2)
  refine lv_iconst (v := -1) hx hb dX11_back_24 (by decide +kernel) ?_
  refine W.widen (k := 0) (n := 0) (Nat.le_of_ble_eq_true rfl) (Nat.le_of_ble_eq_true rfl) ?_
  exact W.iret (v := (-1)) hx hb hr (fun t ht hW => ⟨⟨(-1), (), rfl, rfl, trivial⟩, hS.F ht⟩) hS.2.2 dX11_back_25

def w_c_fill_4 : List Cond := .code yJ7_fill_53178 cJ7_fill_53178 4 none :: ([] ++ [])
set_option maxHeartbeats 8000000 in
set_option maxRecDepth 100000 in
theorem c_fill_4 (l : Launch) (dC : Nat → ClassId) (dI : Nat → Nat → Nat) (h0 : Nat) (p1 : Int32) (cyA : ClassId) (g0 : Nat → Int32) (sz : Nat) : Met l yJ7_fill_53178 w_c_fill_4 ({ frames := 0, cells := 0, slots := 0, locals := 0 }) (va_Pc [.ref h0, .int p1] (fun U => U.heap.size = sz ∧ va_P (dC, dI) vwCl [(h0, .inl (cyA, 4, .inl g0))] U.heap ∧ va_K (dC, dI) vwCl [(cyA, .int)] U ∧ va_D (fun _ => True) [(h0, .inl (cyA, 4, .inl g0))])) (va_Qv (fun (_ : Unit) => True) (fun _ _ => True) (va_A [(h0, .inl (cyA, 4, .inl g0))] sz)) 0 0 (va_A [(h0, .inl (cyA, 4, .inl g0))] sz) := by
  refine Met.ofW (cc := cJ7_fill_53178) (maxL := 4) (ret := none) (by decide) rfl ?_
  intro p e s m args below meth c s₁ B hml hv
  obtain ⟨rfl, hsz, hP, hK, hD0⟩ := hv
  have hx := B.exec
  have hb := B.bytes
  have hr := B.returns
  have hts := atoms_spec (ws := w_c_fill_4) B.pre
  have hown : s.vm.findClass RJ7 = some m.cls := findClass_of_methodNamed B.named
  have hlocks := B.notSynchronized
  subst hsz
  have hD := hD0.self (sz := s.heap.size)
  generalize hAe : va_A [(h0, .inl (cyA, 4, .inl g0))] s.heap.size = A at hD ⊢
  have hA : ∀ q : Nat, s.heap.size ≤ q → A q := fun q h => by rw [← hAe]; exact Or.inr h
  have hS : va_S A s.heap s.heap [] := va_S.rf
  have hP : va_P (dC, dI) vwCl [(h0, .inl (cyA, 4, .inl g0))] s.heap := hP
  have hl := lv_entry ([.ref h0, .int p1]) (n := 4) (Nat.le_of_ble_eq_true rfl)
  rw [lg_entry_eq]
  generalize (lg_sl ([.ref h0, .int p1]) ++ List.replicate (4 - (lg_sl ([.ref h0, .int p1])).length) Slot.unset).toArray = ls at hl ⊢
  have hl : lv_has ls 4 [(0, .ref h0), (1, .int p1)] := hl
  refine lv_iconst (v := 0) hx hb dJ7_fill_53178_0 (by decide +kernel) ?_
  refine lv_istore_n (lv' := [(2, .int 0), (0, .ref h0), (1, .int p1)]) hx hb dJ7_fill_53178_1 rfl hl (by decide) rfl (fun ls hl => ?_)
  refine lv_aload_n hx hb dJ7_fill_53178_2 rfl (lv_at hl 1 rfl) ?_
  refine va_alen (D := (dC, dI)) (v := 4) hx hb hK hP 0 0 rfl rfl rfl dJ7_fill_53178_3 ?_
  refine lv_istore_n (lv' := [(3, .int 4), (2, .int 0), (0, .ref h0), (1, .int p1)]) hx hb dJ7_fill_53178_4 rfl hl (by decide) rfl (fun ls hl => ?_)
  have loop : ∀ (k i : Nat) (f : Nat → Int32) (H : Heap) (locs : List Loc) (ls : Array Slot), i + k = 4 → va_P (dC, dI) vwCl [(h0, .inl (cyA, 4, .inl f))] H → va_D A [(h0, .inl (cyA, 4, .inl f))] → va_S A s.heap H locs → lv_has ls 4 [(3, .int 4), (2, .int (nI i)), (0, .ref h0), (1, .int p1)] → W p l e (headSpec w_c_fill_4 ({ frames := 0, cells := 0, slots := 0, locals := 0 })).room s m #[.ref h0, .int p1] below meth c H locs 0 0 (MQ below (va_Qv (fun (_ : Unit) => True) (fun _ _ => True) A) #[.ref h0, .int p1] s 0 0 A) (F0 m 5 ls []) := by
    intro k
    induction k with
    | zero =>
      intro i f H locs ls hik hP hD hS hl
      refine lv_iload_n hx hb dJ7_fill_53178_5 rfl (lv_at hl 1 rfl) ?_
      refine lv_iload_n hx hb dJ7_fill_53178_6 rfl (lv_at hl 0 rfl) ?_
      refine lv_icmp_ge (tgt := 20) hx hb dJ7_fill_53178_7 (by decide) (fun c_1 => ?_) (fun c_1 => absurd (show (4 : Int32) ≤ nI i by rw [show i = 4 by omega]; decide +kernel) c_1)
      refine W.widen (k := 0) (n := 0) (Nat.le_of_ble_eq_true rfl) (Nat.le_of_ble_eq_true rfl) ?_
      exact W.vret hx hb hr (fun t ht hW => ⟨⟨(), rfl, trivial, trivial⟩, hS.F ht⟩) hS.2.2 dJ7_fill_53178_20
    | succ k ih =>
      intro i f H locs ls hik hP hD hS hl
      refine lv_iload_n hx hb dJ7_fill_53178_5 rfl (lv_at hl 1 rfl) ?_
      refine lv_iload_n hx hb dJ7_fill_53178_6 rfl (lv_at hl 0 rfl) ?_
      refine lv_icmp_ge (tgt := 20) hx hb dJ7_fill_53178_7 (by decide) (fun c_2 => absurd c_2 (nI_ge (a := i) (b := 4) (by omega) (by decide))) (fun c_2 => ?_)
      refine lv_aload_n hx hb dJ7_fill_53178_10 rfl (lv_at hl 2 rfl) ?_
      refine lv_iload_n hx hb dJ7_fill_53178_11 rfl (lv_at hl 1 rfl) ?_
      refine lv_iload_n hx hb dJ7_fill_53178_12 rfl (lv_at hl 3 rfl) ?_
      refine va_iast (D := (dC, dI)) (i := (nI i)) (x := p1) hx hb hK hP hD hS 0 0 rfl rfl (nI_in (by omega) (by decide)) dJ7_fill_53178_13 (fun H locs hP hD hS => ?_)
      have hP : va_P (dC, dI) vwCl [(h0, .inl (cyA, 4, .inl ((upd f ((nI i) : Int32).toNatClampNeg p1))))] H := hP
      have hD : va_D A [(h0, .inl (cyA, 4, .inl ((upd f ((nI i) : Int32).toNatClampNeg p1))))] := hD
      generalize (upd f ((nI i) : Int32).toNatClampNeg p1) = g_3 at hP hD
      obtain ⟨y_4, ey_4⟩ : ∃ y : Int32, y = (nI i) + 1 := ⟨_, rfl⟩
      refine lv_iinc (v := y_4) (lv' := [(2, .int y_4), (3, .int 4), (0, .ref h0), (1, .int p1)]) hx hb dJ7_fill_53178_14 hl (k := 1) rfl (by rw [ey_4]; rfl) (by decide) rfl (fun ls hl => ?_)
      refine lv_goto (tgt := 5) hx hb dJ7_fill_53178_17 (by decide) ?_
      obtain rfl : y_4 = nI (i + 1) := by rw [ey_4, nI_succ]
      exact ih (i + 1) _ _ _ _ (by omega) hP hD hS (lv_sub hl [1, 0, 2, 3] rfl)
  exact loop 4 0 _ _ _ _ (by omega) hP hD hS (lv_sub hl [0, 1, 2, 3] rfl)

def w_c_fill_1116 : List Cond := .code yJ7_fill_53178 cJ7_fill_53178 4 none :: ([] ++ [])
set_option maxHeartbeats 8000000 in
set_option maxRecDepth 100000 in
theorem c_fill_1116 (l : Launch) (dC : Nat → ClassId) (dI : Nat → Nat → Nat) (h0 : Nat) (p1 : Int32) (cyA : ClassId) (g0 : Nat → Int32) (sz : Nat) : Met l yJ7_fill_53178 w_c_fill_1116 ({ frames := 0, cells := 0, slots := 0, locals := 0 }) (va_Pc [.ref h0, .int p1] (fun U => U.heap.size = sz ∧ va_P (dC, dI) vwCl [(h0, .inl (cyA, 1116, .inl g0))] U.heap ∧ va_K (dC, dI) vwCl [(cyA, .int)] U ∧ va_D (fun _ => True) [(h0, .inl (cyA, 1116, .inl g0))])) (va_Qv (fun (_ : Unit) => True) (fun _ _ => True) (va_A [(h0, .inl (cyA, 1116, .inl g0))] sz)) 0 0 (va_A [(h0, .inl (cyA, 1116, .inl g0))] sz) := by
  refine Met.ofW (cc := cJ7_fill_53178) (maxL := 4) (ret := none) (by decide) rfl ?_
  intro p e s m args below meth c s₁ B hml hv
  obtain ⟨rfl, hsz, hP, hK, hD0⟩ := hv
  have hx := B.exec
  have hb := B.bytes
  have hr := B.returns
  have hts := atoms_spec (ws := w_c_fill_1116) B.pre
  have hown : s.vm.findClass RJ7 = some m.cls := findClass_of_methodNamed B.named
  have hlocks := B.notSynchronized
  subst hsz
  have hD := hD0.self (sz := s.heap.size)
  generalize hAe : va_A [(h0, .inl (cyA, 1116, .inl g0))] s.heap.size = A at hD ⊢
  have hA : ∀ q : Nat, s.heap.size ≤ q → A q := fun q h => by rw [← hAe]; exact Or.inr h
  have hS : va_S A s.heap s.heap [] := va_S.rf
  have hP : va_P (dC, dI) vwCl [(h0, .inl (cyA, 1116, .inl g0))] s.heap := hP
  have hl := lv_entry ([.ref h0, .int p1]) (n := 4) (Nat.le_of_ble_eq_true rfl)
  rw [lg_entry_eq]
  generalize (lg_sl ([.ref h0, .int p1]) ++ List.replicate (4 - (lg_sl ([.ref h0, .int p1])).length) Slot.unset).toArray = ls at hl ⊢
  have hl : lv_has ls 4 [(0, .ref h0), (1, .int p1)] := hl
  refine lv_iconst (v := 0) hx hb dJ7_fill_53178_0 (by decide +kernel) ?_
  refine lv_istore_n (lv' := [(2, .int 0), (0, .ref h0), (1, .int p1)]) hx hb dJ7_fill_53178_1 rfl hl (by decide) rfl (fun ls hl => ?_)
  refine lv_aload_n hx hb dJ7_fill_53178_2 rfl (lv_at hl 1 rfl) ?_
  refine va_alen (D := (dC, dI)) (v := 1116) hx hb hK hP 0 0 rfl rfl rfl dJ7_fill_53178_3 ?_
  refine lv_istore_n (lv' := [(3, .int 1116), (2, .int 0), (0, .ref h0), (1, .int p1)]) hx hb dJ7_fill_53178_4 rfl hl (by decide) rfl (fun ls hl => ?_)
  have loop : ∀ (k i : Nat) (f : Nat → Int32) (H : Heap) (locs : List Loc) (ls : Array Slot), i + k = 1116 → va_P (dC, dI) vwCl [(h0, .inl (cyA, 1116, .inl f))] H → va_D A [(h0, .inl (cyA, 1116, .inl f))] → va_S A s.heap H locs → lv_has ls 4 [(3, .int 1116), (2, .int (nI i)), (0, .ref h0), (1, .int p1)] → W p l e (headSpec w_c_fill_1116 ({ frames := 0, cells := 0, slots := 0, locals := 0 })).room s m #[.ref h0, .int p1] below meth c H locs 0 0 (MQ below (va_Qv (fun (_ : Unit) => True) (fun _ _ => True) A) #[.ref h0, .int p1] s 0 0 A) (F0 m 5 ls []) := by
    intro k
    induction k with
    | zero =>
      intro i f H locs ls hik hP hD hS hl
      refine lv_iload_n hx hb dJ7_fill_53178_5 rfl (lv_at hl 1 rfl) ?_
      refine lv_iload_n hx hb dJ7_fill_53178_6 rfl (lv_at hl 0 rfl) ?_
      refine lv_icmp_ge (tgt := 20) hx hb dJ7_fill_53178_7 (by decide) (fun c_1 => ?_) (fun c_1 => absurd (show (1116 : Int32) ≤ nI i by rw [show i = 1116 by omega]; decide +kernel) c_1)
      refine W.widen (k := 0) (n := 0) (Nat.le_of_ble_eq_true rfl) (Nat.le_of_ble_eq_true rfl) ?_
      exact W.vret hx hb hr (fun t ht hW => ⟨⟨(), rfl, trivial, trivial⟩, hS.F ht⟩) hS.2.2 dJ7_fill_53178_20
    | succ k ih =>
      intro i f H locs ls hik hP hD hS hl
      refine lv_iload_n hx hb dJ7_fill_53178_5 rfl (lv_at hl 1 rfl) ?_
      refine lv_iload_n hx hb dJ7_fill_53178_6 rfl (lv_at hl 0 rfl) ?_
      refine lv_icmp_ge (tgt := 20) hx hb dJ7_fill_53178_7 (by decide) (fun c_2 => absurd c_2 (nI_ge (a := i) (b := 1116) (by omega) (by decide))) (fun c_2 => ?_)
      refine lv_aload_n hx hb dJ7_fill_53178_10 rfl (lv_at hl 2 rfl) ?_
      refine lv_iload_n hx hb dJ7_fill_53178_11 rfl (lv_at hl 1 rfl) ?_
      refine lv_iload_n hx hb dJ7_fill_53178_12 rfl (lv_at hl 3 rfl) ?_
      refine va_iast (D := (dC, dI)) (i := (nI i)) (x := p1) hx hb hK hP hD hS 0 0 rfl rfl (nI_in (by omega) (by decide)) dJ7_fill_53178_13 (fun H locs hP hD hS => ?_)
      have hP : va_P (dC, dI) vwCl [(h0, .inl (cyA, 1116, .inl ((upd f ((nI i) : Int32).toNatClampNeg p1))))] H := hP
      have hD : va_D A [(h0, .inl (cyA, 1116, .inl ((upd f ((nI i) : Int32).toNatClampNeg p1))))] := hD
      generalize (upd f ((nI i) : Int32).toNatClampNeg p1) = g_3 at hP hD
      obtain ⟨y_4, ey_4⟩ : ∃ y : Int32, y = (nI i) + 1 := ⟨_, rfl⟩
      refine lv_iinc (v := y_4) (lv' := [(2, .int y_4), (3, .int 1116), (0, .ref h0), (1, .int p1)]) hx hb dJ7_fill_53178_14 hl (k := 1) rfl (by rw [ey_4]; rfl) (by decide) rfl (fun ls hl => ?_)
      refine lv_goto (tgt := 5) hx hb dJ7_fill_53178_17 (by decide) ?_
      obtain rfl : y_4 = nI (i + 1) := by rw [ey_4, nI_succ]
      exact ih (i + 1) _ _ _ _ (by omega) hP hD hS (lv_sub hl [1, 0, 2, 3] rfl)
  exact loop 1116 0 _ _ _ _ (by omega) hP hD hS (lv_sub hl [0, 1, 2, 3] rfl)

def w_c_X8_face : List Cond := .code yX8_face cX8_face 3 none :: ([.fieldLink RX8 32 "LawnAhead$Sight" "ground" "LLawnAhead$Ground;", .fieldLink RX8 36 "LawnAhead$Sight" "law" "LLawnAhead$Law;", .fieldLink RX8 11 "LawnAhead$Sight" "pageDays" "[I", .code yJ7_fill_53178 cJ7_fill_53178 4 none, .methodLink RX8 40 yJ7_fill_53178, .static yJ7_fill_53178, .initialized RJ7, .fieldLink RX8 15 "LawnAhead$Sight" "reckoned" "[I", .fieldLink RX8 18 "LawnAhead$Sight" "worthy" "[I"] ++ (wsX80 ++ []))
theorem in_c_X8_face_X8 : ∀ w ∈ wsX80, w ∈ w_c_X8_face := fun w h => List.mem_cons_of_mem _ (List.mem_append_right _ (List.mem_append_left _ h))
set_option maxRecDepth 100000 in
theorem g_c_X8_face_15_c_fill_4 : GoodIn w_c_X8_face (([.methodLink RX8 40 yJ7_fill_53178, .static yJ7_fill_53178, .initialized RJ7] : List Cond) ++ w_c_fill_4) := goodIn_r _ [5, 6, 7, 4] rfl (by decide +kernel)
set_option maxRecDepth 100000 in
theorem g_c_X8_face_23_c_fill_1116 : GoodIn w_c_X8_face (([.methodLink RX8 40 yJ7_fill_53178, .static yJ7_fill_53178, .initialized RJ7] : List Cond) ++ w_c_fill_1116) := goodIn_r _ [5, 6, 7, 4] rfl (by decide +kernel)
set_option maxRecDepth 100000 in
theorem g_c_X8_face_31_c_fill_1116 : GoodIn w_c_X8_face (([.methodLink RX8 40 yJ7_fill_53178, .static yJ7_fill_53178, .initialized RJ7] : List Cond) ++ w_c_fill_1116) := goodIn_r _ [5, 6, 7, 4] rfl (by decide +kernel)
set_option maxHeartbeats 8000000 in
set_option maxRecDepth 100000 in
theorem c_X8_face (l : Launch) (dC : Nat → ClassId) (dI : Nat → Nat → Nat) (h0 : Nat) (p1 : Nat) (q_73 : Nat) (q_91 : Nat) (q_92 : Nat) (q_93 : Nat) (q_94 : Nat) (q_95 : Nat) (q_96 : Nat) (cy_97 : ClassId) (cy_98 : ClassId) (cy_99 : ClassId) (sz : Nat) : Met l yX8_face w_c_X8_face ({ frames := 1, cells := 0, slots := 0, locals := 23 }) (va_Pc [.ref h0, .ref p1, .null] (fun U => U.heap.size = sz ∧ va_P (dC, dI) vwCl [(h0, .inr (8, [.ref q_73, .null, .ref q_91, .ref q_92, .ref q_93, .ref q_94, .ref q_95, .ref q_96, .int 0])), (q_91, .inl (cy_97, 4, .inl (fun _ => 0))), (q_92, .inl (cy_98, 1116, .inl (fun _ => 0))), (q_93, .inl (cy_99, 1116, .inl (fun _ => 0)))] U.heap ∧ va_K (dC, dI) vwCl [(cy_97, .int), (cy_98, .int), (cy_99, .int)] U ∧ va_D (fun _ => True) [(h0, .inr (8, [.ref q_73, .null, .ref q_91, .ref q_92, .ref q_93, .ref q_94, .ref q_95, .ref q_96, .int 0])), (q_91, .inl (cy_97, 4, .inl (fun _ => 0))), (q_92, .inl (cy_98, 1116, .inl (fun _ => 0))), (q_93, .inl (cy_99, 1116, .inl (fun _ => 0)))])) (va_Qv (fun (_ : Unit) => True) (fun _ _ => True) (va_A [(h0, .inr (8, [.ref q_73, .null, .ref q_91, .ref q_92, .ref q_93, .ref q_94, .ref q_95, .ref q_96, .int 0])), (q_91, .inl (cy_97, 4, .inl (fun _ => 0))), (q_92, .inl (cy_98, 1116, .inl (fun _ => 0))), (q_93, .inl (cy_99, 1116, .inl (fun _ => 0)))] sz)) 0 0 (va_A [(h0, .inr (8, [.ref q_73, .null, .ref q_91, .ref q_92, .ref q_93, .ref q_94, .ref q_95, .ref q_96, .int 0])), (q_91, .inl (cy_97, 4, .inl (fun _ => 0))), (q_92, .inl (cy_98, 1116, .inl (fun _ => 0))), (q_93, .inl (cy_99, 1116, .inl (fun _ => 0)))] sz) := by
  refine Met.ofW (cc := cX8_face) (maxL := 3) (ret := none) (by decide) rfl ?_
  intro p e s m args below meth c s₁ B hml hv
  obtain ⟨rfl, hsz, hP, hK, hD0⟩ := hv
  have hx := B.exec
  have hb := B.bytes
  have hr := B.returns
  have hts := atoms_spec (ws := w_c_X8_face) B.pre
  have hown : s.vm.findClass RX8 = some m.cls := findClass_of_methodNamed B.named
  have hlocks := B.notSynchronized
  subst hsz
  have hD := hD0.self (sz := s.heap.size)
  generalize hAe : va_A [(h0, .inr (8, [.ref q_73, .null, .ref q_91, .ref q_92, .ref q_93, .ref q_94, .ref q_95, .ref q_96, .int 0])), (q_91, .inl (cy_97, 4, .inl (fun _ => 0))), (q_92, .inl (cy_98, 1116, .inl (fun _ => 0))), (q_93, .inl (cy_99, 1116, .inl (fun _ => 0)))] s.heap.size = A at hD ⊢
  have hA : ∀ q : Nat, s.heap.size ≤ q → A q := fun q h => by rw [← hAe]; exact Or.inr h
  have hS : va_S A s.heap s.heap [] := va_S.rf
  have hP : va_P (dC, dI) vwCl [(h0, .inr (8, [.ref q_73, .null, .ref q_91, .ref q_92, .ref q_93, .ref q_94, .ref q_95, .ref q_96, .int 0])), (q_91, .inl (cy_97, 4, .inl (fun _ => 0))), (q_92, .inl (cy_98, 1116, .inl (fun _ => 0))), (q_93, .inl (cy_99, 1116, .inl (fun _ => 0)))] s.heap := hP
  have hl := lv_entry ([.ref h0, .ref p1, .null]) (n := 3) (Nat.le_of_ble_eq_true rfl)
  rw [lg_entry_eq]
  generalize (lg_sl ([.ref h0, .ref p1, .null]) ++ List.replicate (3 - (lg_sl ([.ref h0, .ref p1, .null])).length) Slot.unset).toArray = ls at hl ⊢
  have hl : lv_has ls 3 [(0, .ref h0), (1, .ref p1), (2, .null)] := hl
  refine lv_aload_n hx hb dX8_face_0 rfl (lv_at hl 0 rfl) ?_
  refine lv_aload_n hx hb dX8_face_1 rfl (lv_at hl 1 rfl) ?_
  refine va_put (D := (dC, dI)) (ci := 8) (v := .ref p1) (ty := (tyX8 0)) (C := RX8) (T := TX8) (N := 9) hx hb hts in_c_X8_face_X8 tyX8 tyX8_ok nmX8 hown hK hP hD hS 0 rfl rfl 0 (by decide) (hts (.fieldLink RX8 32 "LawnAhead$Sight" "ground" "LLawnAhead$Ground;") (List.mem_of_getElem? (i := 1) rfl)) (fun _ h9 => h9) rfl (by decide +kernel) rfl rfl (Nat.le_of_ble_eq_true rfl) dX8_face_2 (fun H locs hP hD hS => ?_)
  have hP : va_P (dC, dI) vwCl [(h0, .inr (8, [.ref p1, .null, .ref q_91, .ref q_92, .ref q_93, .ref q_94, .ref q_95, .ref q_96, .int 0])), (q_91, .inl (cy_97, 4, .inl (fun _ => 0))), (q_92, .inl (cy_98, 1116, .inl (fun _ => 0))), (q_93, .inl (cy_99, 1116, .inl (fun _ => 0)))] H := hP
  have hD : va_D A [(h0, .inr (8, [.ref p1, .null, .ref q_91, .ref q_92, .ref q_93, .ref q_94, .ref q_95, .ref q_96, .int 0])), (q_91, .inl (cy_97, 4, .inl (fun _ => 0))), (q_92, .inl (cy_98, 1116, .inl (fun _ => 0))), (q_93, .inl (cy_99, 1116, .inl (fun _ => 0)))] := hD
  refine lv_aload_n hx hb dX8_face_5 rfl (lv_at hl 0 rfl) ?_
  refine lv_aload_nN hx hb dX8_face_6 rfl (lv_at hl 2 rfl) ?_
  refine va_put (D := (dC, dI)) (ci := 8) (v := .null) (ty := (tyX8 1)) (C := RX8) (T := TX8) (N := 9) hx hb hts in_c_X8_face_X8 tyX8 tyX8_ok nmX8 hown hK hP hD hS 0 rfl rfl 1 (by decide) (hts (.fieldLink RX8 36 "LawnAhead$Sight" "law" "LLawnAhead$Law;") (List.mem_of_getElem? (i := 2) rfl)) (fun _ h9 => h9) rfl (by decide +kernel) rfl rfl (Nat.le_of_ble_eq_true rfl) dX8_face_7 (fun H locs hP hD hS => ?_)
  have hP : va_P (dC, dI) vwCl [(h0, .inr (8, [.ref p1, .null, .ref q_91, .ref q_92, .ref q_93, .ref q_94, .ref q_95, .ref q_96, .int 0])), (q_91, .inl (cy_97, 4, .inl (fun _ => 0))), (q_92, .inl (cy_98, 1116, .inl (fun _ => 0))), (q_93, .inl (cy_99, 1116, .inl (fun _ => 0)))] H := hP
  have hD : va_D A [(h0, .inr (8, [.ref p1, .null, .ref q_91, .ref q_92, .ref q_93, .ref q_94, .ref q_95, .ref q_96, .int 0])), (q_91, .inl (cy_97, 4, .inl (fun _ => 0))), (q_92, .inl (cy_98, 1116, .inl (fun _ => 0))), (q_93, .inl (cy_99, 1116, .inl (fun _ => 0)))] := hD
  refine lv_aload_n hx hb dX8_face_10 rfl (lv_at hl 0 rfl) ?_
  refine va_get (D := (dC, dI)) (ci := 8) (v := .ref q_91) (C := RX8) (T := TX8) (N := 9) hx hb hts in_c_X8_face_X8 hown hK hP 0 rfl rfl 2 (by decide) (hts (.fieldLink RX8 11 "LawnAhead$Sight" "pageDays" "[I") (List.mem_of_getElem? (i := 3) rfl)) (fun _ h9 => h9) rfl dX8_face_11 ?_
  refine lv_iconst (v := 0) hx hb dX8_face_14 (by decide +kernel) ?_
  have hPc := hP.sub (ws' := [(q_91, .inl (cy_97, 4, .inl (fun _ => 0)))]) [1] rfl
  have hDc := hD.sub (ws' := [(q_91, .inl (cy_97, 4, .inl (fun _ => 0)))]) [1] (by decide) rfl
  have hKc := hK.sub (tys' := [(cy_97, .int)]) [0] rfl
  have hFc := va_free (wc := [(q_91, .inl (cy_97, 4, .inl (fun _ => 0)))]) hD hS hA [1] rfl
  refine va_callv (va_runS (As := [.ref q_91, .int 0]) (rest := []) ⟨hx, hb, hml, hown, hts⟩ (c_fill_4 l dC dI q_91 0 cy_97 (fun _ => 0) H.size) (va_cwS 2 hts g_c_X8_face_15_c_fill_4 rfl rfl rfl (by decide +kernel) ⟨Nat.le_of_ble_eq_true rfl, Nat.le_of_ble_eq_true rfl⟩) ⟨fun a U g mk q => by obtain ⟨q0, q1, qP, qK, qD⟩ := q; exact ⟨q0, q1, qP, va_K.moved (u := U) (U := U.calling g mk a) (Vm.Alike.refl U.vm) qK, qD⟩, fun U hU hW => ⟨rfl, by rw [hU], by rw [hU]; exact hPc, va_K.moved hW.alike hKc, hDc.weaken (fun _ _ _ _ => trivial)⟩⟩ rfl rfl hl.1 rfl (lv_room (Nat.le_of_ble_eq_true rfl)) dX8_face_15 ⟨Nat.le_of_ble_eq_true rfl, Nat.le_of_ble_eq_true rfl⟩) hS (fun q _ h => hFc q h) hFc (fun u t H1 locs ht hvm hw hB hz1 hk1 hS => ?_)
  try dsimp only at hw
  obtain ⟨hP, hD⟩ := va_join (wr := [(h0, .inr (8, [.ref p1, .null, .ref q_91, .ref q_92, .ref q_93, .ref q_94, .ref q_95, .ref q_96, .int 0])), (q_92, .inl (cy_98, 1116, .inl (fun _ => 0))), (q_93, .inl (cy_99, 1116, .inl (fun _ => 0)))]) (w1 := []) hP hD [1] [0, 2, 3] rfl rfl (by decide) (by decide) hk1 hFc (show va_P (dC, dI) vwCl [] H1 from fun k q h => by simp at h) ⟨fun i j p q h => by simp at h, fun k q h => by simp at h⟩
  generalize H1 = H at hP hS ⊢
  have hP : va_P (dC, dI) vwCl [(h0, .inr (8, [.ref p1, .null, .ref q_91, .ref q_92, .ref q_93, .ref q_94, .ref q_95, .ref q_96, .int 0])), (q_92, .inl (cy_98, 1116, .inl (fun _ => 0))), (q_93, .inl (cy_99, 1116, .inl (fun _ => 0)))] H := hP
  have hD : va_D A [(h0, .inr (8, [.ref p1, .null, .ref q_91, .ref q_92, .ref q_93, .ref q_94, .ref q_95, .ref q_96, .int 0])), (q_92, .inl (cy_98, 1116, .inl (fun _ => 0))), (q_93, .inl (cy_99, 1116, .inl (fun _ => 0)))] := hD
  refine W.widen (k := 0) (n := 0) (Nat.le_of_ble_eq_true rfl) (Nat.le_of_ble_eq_true rfl) ?_
  refine lv_aload_n hx hb dX8_face_18 rfl (lv_at hl 0 rfl) ?_
  refine va_get (D := (dC, dI)) (ci := 8) (v := .ref q_92) (C := RX8) (T := TX8) (N := 9) hx hb hts in_c_X8_face_X8 hown hK hP 0 rfl rfl 3 (by decide) (hts (.fieldLink RX8 15 "LawnAhead$Sight" "reckoned" "[I") (List.mem_of_getElem? (i := 8) rfl)) (fun _ h9 => h9) rfl dX8_face_19 ?_
  refine lv_iconst (v := 0) hx hb dX8_face_22 (by decide +kernel) ?_
  have hPc := hP.sub (ws' := [(q_92, .inl (cy_98, 1116, .inl (fun _ => 0)))]) [1] rfl
  have hDc := hD.sub (ws' := [(q_92, .inl (cy_98, 1116, .inl (fun _ => 0)))]) [1] (by decide) rfl
  have hKc := hK.sub (tys' := [(cy_98, .int)]) [1] rfl
  have hFc := va_free (wc := [(q_92, .inl (cy_98, 1116, .inl (fun _ => 0)))]) hD hS hA [1] rfl
  refine va_callv (va_runS (As := [.ref q_92, .int 0]) (rest := []) ⟨hx, hb, hml, hown, hts⟩ (c_fill_1116 l dC dI q_92 0 cy_98 (fun _ => 0) H.size) (va_cwS 2 hts g_c_X8_face_23_c_fill_1116 rfl rfl rfl (by decide +kernel) ⟨Nat.le_of_ble_eq_true rfl, Nat.le_of_ble_eq_true rfl⟩) ⟨fun a U g mk q => by obtain ⟨q0, q1, qP, qK, qD⟩ := q; exact ⟨q0, q1, qP, va_K.moved (u := U) (U := U.calling g mk a) (Vm.Alike.refl U.vm) qK, qD⟩, fun U hU hW => ⟨rfl, by rw [hU], by rw [hU]; exact hPc, va_K.moved hW.alike hKc, hDc.weaken (fun _ _ _ _ => trivial)⟩⟩ rfl rfl hl.1 rfl (lv_room (Nat.le_of_ble_eq_true rfl)) dX8_face_23 ⟨Nat.le_of_ble_eq_true rfl, Nat.le_of_ble_eq_true rfl⟩) hS (fun q _ h => hFc q h) hFc (fun u t H1 locs ht hvm hw hB hz1 hk1 hS => ?_)
  try dsimp only at hw
  obtain ⟨hP, hD⟩ := va_join (wr := [(h0, .inr (8, [.ref p1, .null, .ref q_91, .ref q_92, .ref q_93, .ref q_94, .ref q_95, .ref q_96, .int 0])), (q_93, .inl (cy_99, 1116, .inl (fun _ => 0)))]) (w1 := []) hP hD [1] [0, 2] rfl rfl (by decide) (by decide) hk1 hFc (show va_P (dC, dI) vwCl [] H1 from fun k q h => by simp at h) ⟨fun i j p q h => by simp at h, fun k q h => by simp at h⟩
  generalize H1 = H at hP hS ⊢
  have hP : va_P (dC, dI) vwCl [(h0, .inr (8, [.ref p1, .null, .ref q_91, .ref q_92, .ref q_93, .ref q_94, .ref q_95, .ref q_96, .int 0])), (q_93, .inl (cy_99, 1116, .inl (fun _ => 0)))] H := hP
  have hD : va_D A [(h0, .inr (8, [.ref p1, .null, .ref q_91, .ref q_92, .ref q_93, .ref q_94, .ref q_95, .ref q_96, .int 0])), (q_93, .inl (cy_99, 1116, .inl (fun _ => 0)))] := hD
  refine W.widen (k := 0) (n := 0) (Nat.le_of_ble_eq_true rfl) (Nat.le_of_ble_eq_true rfl) ?_
  refine lv_aload_n hx hb dX8_face_26 rfl (lv_at hl 0 rfl) ?_
  refine va_get (D := (dC, dI)) (ci := 8) (v := .ref q_93) (C := RX8) (T := TX8) (N := 9) hx hb hts in_c_X8_face_X8 hown hK hP 0 rfl rfl 4 (by decide) (hts (.fieldLink RX8 18 "LawnAhead$Sight" "worthy" "[I") (List.mem_of_getElem? (i := 9) rfl)) (fun _ h9 => h9) rfl dX8_face_27 ?_
  refine lv_iconst (v := 0) hx hb dX8_face_30 (by decide +kernel) ?_
  have hPc := hP.sub (ws' := [(q_93, .inl (cy_99, 1116, .inl (fun _ => 0)))]) [1] rfl
  have hDc := hD.sub (ws' := [(q_93, .inl (cy_99, 1116, .inl (fun _ => 0)))]) [1] (by decide) rfl
  have hKc := hK.sub (tys' := [(cy_99, .int)]) [2] rfl
  have hFc := va_free (wc := [(q_93, .inl (cy_99, 1116, .inl (fun _ => 0)))]) hD hS hA [1] rfl
  refine va_callv (va_runS (As := [.ref q_93, .int 0]) (rest := []) ⟨hx, hb, hml, hown, hts⟩ (c_fill_1116 l dC dI q_93 0 cy_99 (fun _ => 0) H.size) (va_cwS 2 hts g_c_X8_face_31_c_fill_1116 rfl rfl rfl (by decide +kernel) ⟨Nat.le_of_ble_eq_true rfl, Nat.le_of_ble_eq_true rfl⟩) ⟨fun a U g mk q => by obtain ⟨q0, q1, qP, qK, qD⟩ := q; exact ⟨q0, q1, qP, va_K.moved (u := U) (U := U.calling g mk a) (Vm.Alike.refl U.vm) qK, qD⟩, fun U hU hW => ⟨rfl, by rw [hU], by rw [hU]; exact hPc, va_K.moved hW.alike hKc, hDc.weaken (fun _ _ _ _ => trivial)⟩⟩ rfl rfl hl.1 rfl (lv_room (Nat.le_of_ble_eq_true rfl)) dX8_face_31 ⟨Nat.le_of_ble_eq_true rfl, Nat.le_of_ble_eq_true rfl⟩) hS (fun q _ h => hFc q h) hFc (fun u t H1 locs ht hvm hw hB hz1 hk1 hS => ?_)
  try dsimp only at hw
  obtain ⟨hP, hD⟩ := va_join (wr := [(h0, .inr (8, [.ref p1, .null, .ref q_91, .ref q_92, .ref q_93, .ref q_94, .ref q_95, .ref q_96, .int 0]))]) (w1 := []) hP hD [1] [0] rfl rfl (by decide) (by decide) hk1 hFc (show va_P (dC, dI) vwCl [] H1 from fun k q h => by simp at h) ⟨fun i j p q h => by simp at h, fun k q h => by simp at h⟩
  generalize H1 = H at hP hS ⊢
  have hP : va_P (dC, dI) vwCl [(h0, .inr (8, [.ref p1, .null, .ref q_91, .ref q_92, .ref q_93, .ref q_94, .ref q_95, .ref q_96, .int 0]))] H := hP
  have hD : va_D A [(h0, .inr (8, [.ref p1, .null, .ref q_91, .ref q_92, .ref q_93, .ref q_94, .ref q_95, .ref q_96, .int 0]))] := hD
  refine W.widen (k := 0) (n := 0) (Nat.le_of_ble_eq_true rfl) (Nat.le_of_ble_eq_true rfl) ?_
  refine W.widen (k := 0) (n := 0) (Nat.le_of_ble_eq_true rfl) (Nat.le_of_ble_eq_true rfl) ?_
  exact W.vret hx hb hr (fun t ht hW => ⟨⟨(), rfl, trivial, trivial⟩, hS.F ht⟩) hS.2.2 dX8_face_34

def w_c_X11_lookByLaw : List Cond := .code yX11_lookByLaw cX11_lookByLaw 2 none :: ([.fieldLink RX11 93 "LawnAhead" "holding" "I", .fieldLink RX11 59 "LawnAhead" "sight" "LLawnAhead$Sight;", .fieldLink RX11 47 "LawnAhead" "ground" "LLawnAhead$Ground;", .fieldLink RX8 32 "LawnAhead$Sight" "ground" "LLawnAhead$Ground;", .fieldLink RX8 36 "LawnAhead$Sight" "law" "LLawnAhead$Law;", .fieldLink RX8 11 "LawnAhead$Sight" "pageDays" "[I", .code yJ7_fill_53178 cJ7_fill_53178 4 none, .methodLink RX8 40 yJ7_fill_53178, .static yJ7_fill_53178, .initialized RJ7, .fieldLink RX8 15 "LawnAhead$Sight" "reckoned" "[I", .fieldLink RX8 18 "LawnAhead$Sight" "worthy" "[I", .code yX8_face cX8_face 3 none, .methodLink RX11 151 yX8_face, .instanceMethod yX8_face, .selects RX8 yX8_face yX8_face, .initialized RX8] ++ (wsX110 ++ (wsX80 ++ [])))
theorem in_c_X11_lookByLaw_X11 : ∀ w ∈ wsX110, w ∈ w_c_X11_lookByLaw := fun w h => List.mem_cons_of_mem _ (List.mem_append_right _ (List.mem_append_left _ h))
theorem in_c_X11_lookByLaw_X8 : ∀ w ∈ wsX80, w ∈ w_c_X11_lookByLaw := fun w h => List.mem_cons_of_mem _ (List.mem_append_right _ (List.mem_append_right _ (List.mem_append_left _ h)))
set_option maxRecDepth 100000 in
theorem g_c_X11_lookByLaw_49_c_X8_face : GoodIn w_c_X11_lookByLaw (([.methodLink RX11 151 yX8_face, .instanceMethod yX8_face, .selects RX8 yX8_face yX8_face, .initialized RX8] : List Cond) ++ w_c_X8_face) := goodIn_r _ [14, 15, 16, 17, 13, 4, 5, 6, 7, 8, 9, 10, 11, 12, 35, 36, 37, 38, 39, 40, 41, 42, 43] rfl (by decide +kernel)
set_option maxHeartbeats 8000000 in
set_option maxRecDepth 100000 in
theorem c_X11_lookByLaw (l : Launch) (dC : Nat → ClassId) (dI : Nat → Nat → Nat) (h0 : Nat) (q_1 : Nat) (q_5 : Nat) (q_7 : Nat) (q_65 : Nat) (q_67 : Nat) (q_89 : Nat) (q_100 : Nat) (q_106 : Nat) (q_108 : Nat) (q_113 : Nat) (q_73 : Nat) (q_81 : Nat) (q_91 : Nat) (q_92 : Nat) (q_93 : Nat) (q_94 : Nat) (q_95 : Nat) (q_96 : Nat) (cy_97 : ClassId) (cy_98 : ClassId) (cy_99 : ClassId) (sz : Nat) : Met l yX11_lookByLaw w_c_X11_lookByLaw ({ frames := 2, cells := 0, slots := 0, locals := 45 }) (va_Pc [.ref h0] (fun U => U.heap.size = sz ∧ va_P (dC, dI) vwCl [(h0, .inr (11, [.ref q_1, .ref q_5, .ref q_7, .ref q_65, .ref q_67, .ref q_89, .ref q_100, .ref q_106, .ref q_108, .ref q_113, .ref q_73, .ref q_81, .int 0, .int 0, .int (-1), .int 0, .long 0])), (q_89, .inr (8, [.ref q_73, .null, .ref q_91, .ref q_92, .ref q_93, .ref q_94, .ref q_95, .ref q_96, .int 0])), (q_91, .inl (cy_97, 4, .inl (fun _ => 0))), (q_92, .inl (cy_98, 1116, .inl (fun _ => 0))), (q_93, .inl (cy_99, 1116, .inl (fun _ => 0)))] U.heap ∧ va_K (dC, dI) vwCl [(cy_97, .int), (cy_98, .int), (cy_99, .int)] U ∧ va_D (fun _ => True) [(h0, .inr (11, [.ref q_1, .ref q_5, .ref q_7, .ref q_65, .ref q_67, .ref q_89, .ref q_100, .ref q_106, .ref q_108, .ref q_113, .ref q_73, .ref q_81, .int 0, .int 0, .int (-1), .int 0, .long 0])), (q_89, .inr (8, [.ref q_73, .null, .ref q_91, .ref q_92, .ref q_93, .ref q_94, .ref q_95, .ref q_96, .int 0])), (q_91, .inl (cy_97, 4, .inl (fun _ => 0))), (q_92, .inl (cy_98, 1116, .inl (fun _ => 0))), (q_93, .inl (cy_99, 1116, .inl (fun _ => 0)))])) (va_Qv (fun (_ : Unit) => True) (fun _ _ => True) (va_A [(h0, .inr (11, [.ref q_1, .ref q_5, .ref q_7, .ref q_65, .ref q_67, .ref q_89, .ref q_100, .ref q_106, .ref q_108, .ref q_113, .ref q_73, .ref q_81, .int 0, .int 0, .int (-1), .int 0, .long 0])), (q_89, .inr (8, [.ref q_73, .null, .ref q_91, .ref q_92, .ref q_93, .ref q_94, .ref q_95, .ref q_96, .int 0])), (q_91, .inl (cy_97, 4, .inl (fun _ => 0))), (q_92, .inl (cy_98, 1116, .inl (fun _ => 0))), (q_93, .inl (cy_99, 1116, .inl (fun _ => 0)))] sz)) 0 0 (va_A [(h0, .inr (11, [.ref q_1, .ref q_5, .ref q_7, .ref q_65, .ref q_67, .ref q_89, .ref q_100, .ref q_106, .ref q_108, .ref q_113, .ref q_73, .ref q_81, .int 0, .int 0, .int (-1), .int 0, .long 0])), (q_89, .inr (8, [.ref q_73, .null, .ref q_91, .ref q_92, .ref q_93, .ref q_94, .ref q_95, .ref q_96, .int 0])), (q_91, .inl (cy_97, 4, .inl (fun _ => 0))), (q_92, .inl (cy_98, 1116, .inl (fun _ => 0))), (q_93, .inl (cy_99, 1116, .inl (fun _ => 0)))] sz) := by
  refine Met.ofW (cc := cX11_lookByLaw) (maxL := 2) (ret := none) (by decide) rfl ?_
  intro p e s m args below meth c s₁ B hml hv
  obtain ⟨rfl, hsz, hP, hK, hD0⟩ := hv
  have hx := B.exec
  have hb := B.bytes
  have hr := B.returns
  have hts := atoms_spec (ws := w_c_X11_lookByLaw) B.pre
  have hown : s.vm.findClass RX11 = some m.cls := findClass_of_methodNamed B.named
  have hlocks := B.notSynchronized
  subst hsz
  have hD := hD0.self (sz := s.heap.size)
  generalize hAe : va_A [(h0, .inr (11, [.ref q_1, .ref q_5, .ref q_7, .ref q_65, .ref q_67, .ref q_89, .ref q_100, .ref q_106, .ref q_108, .ref q_113, .ref q_73, .ref q_81, .int 0, .int 0, .int (-1), .int 0, .long 0])), (q_89, .inr (8, [.ref q_73, .null, .ref q_91, .ref q_92, .ref q_93, .ref q_94, .ref q_95, .ref q_96, .int 0])), (q_91, .inl (cy_97, 4, .inl (fun _ => 0))), (q_92, .inl (cy_98, 1116, .inl (fun _ => 0))), (q_93, .inl (cy_99, 1116, .inl (fun _ => 0)))] s.heap.size = A at hD ⊢
  have hA : ∀ q : Nat, s.heap.size ≤ q → A q := fun q h => by rw [← hAe]; exact Or.inr h
  have hS : va_S A s.heap s.heap [] := va_S.rf
  have hP : va_P (dC, dI) vwCl [(h0, .inr (11, [.ref q_1, .ref q_5, .ref q_7, .ref q_65, .ref q_67, .ref q_89, .ref q_100, .ref q_106, .ref q_108, .ref q_113, .ref q_73, .ref q_81, .int 0, .int 0, .int (-1), .int 0, .long 0])), (q_89, .inr (8, [.ref q_73, .null, .ref q_91, .ref q_92, .ref q_93, .ref q_94, .ref q_95, .ref q_96, .int 0])), (q_91, .inl (cy_97, 4, .inl (fun _ => 0))), (q_92, .inl (cy_98, 1116, .inl (fun _ => 0))), (q_93, .inl (cy_99, 1116, .inl (fun _ => 0)))] s.heap := hP
  have hl := lv_entry ([.ref h0]) (n := 2) (Nat.le_of_ble_eq_true rfl)
  rw [lg_entry_eq]
  generalize (lg_sl ([.ref h0]) ++ List.replicate (2 - (lg_sl ([.ref h0])).length) Slot.unset).toArray = ls at hl ⊢
  have hl : lv_has ls 2 [(0, .ref h0)] := hl
  refine lv_aload_n hx hb dX11_lookByLaw_0 rfl (lv_at hl 0 rfl) ?_
  refine va_get (D := (dC, dI)) (ci := 11) (v := .int (-1)) (C := RX11) (T := TX11) (N := 17) hx hb hts in_c_X11_lookByLaw_X11 hown hK hP 0 rfl rfl 14 (by decide) (hts (.fieldLink RX11 93 "LawnAhead" "holding" "I") (List.mem_of_getElem? (i := 1) rfl)) (fun _ h9 => h9) rfl dX11_lookByLaw_1 ?_
  refine lv_if_lt (tgt := 22) hx hb dX11_lookByLaw_4 (by decide) (fun c_1 => ?_) (fun c_1 => absurd (by decide +kernel) c_1)
  refine lv_iconst (v := 0) hx hb dX11_lookByLaw_22 (by decide +kernel) ?_
  refine lv_istore_n (lv' := [(1, .int 0), (0, .ref h0)]) hx hb dX11_lookByLaw_23 rfl hl (by decide) rfl (fun ls hl => ?_)
  refine lv_aload_n hx hb dX11_lookByLaw_24 rfl (lv_at hl 1 rfl) ?_
  refine va_get (D := (dC, dI)) (ci := 11) (v := .ref q_89) (C := RX11) (T := TX11) (N := 17) hx hb hts in_c_X11_lookByLaw_X11 hown hK hP 0 rfl rfl 5 (by decide) (hts (.fieldLink RX11 59 "LawnAhead" "sight" "LLawnAhead$Sight;") (List.mem_of_getElem? (i := 2) rfl)) (fun _ h9 => h9) rfl dX11_lookByLaw_25 ?_
  refine lv_aload_n hx hb dX11_lookByLaw_28 rfl (lv_at hl 1 rfl) ?_
  refine va_get (D := (dC, dI)) (ci := 11) (v := .ref q_73) (C := RX11) (T := TX11) (N := 17) hx hb hts in_c_X11_lookByLaw_X11 hown hK hP 0 rfl rfl 10 (by decide) (hts (.fieldLink RX11 47 "LawnAhead" "ground" "LLawnAhead$Ground;") (List.mem_of_getElem? (i := 3) rfl)) (fun _ h9 => h9) rfl dX11_lookByLaw_29 ?_
  refine lv_iload_n hx hb dX11_lookByLaw_32 rfl (lv_at hl 0 rfl) ?_
  refine lv_if_eq (tgt := 48) hx hb dX11_lookByLaw_33 (by decide) (fun c_2 => ?_) (fun c_2 => absurd (by decide +kernel) c_2)
  refine lv_null hx hb dX11_lookByLaw_48 ?_
  have hPc := hP.sub (ws' := [(q_89, .inr (8, [.ref q_73, .null, .ref q_91, .ref q_92, .ref q_93, .ref q_94, .ref q_95, .ref q_96, .int 0])), (q_91, .inl (cy_97, 4, .inl (fun _ => 0))), (q_92, .inl (cy_98, 1116, .inl (fun _ => 0))), (q_93, .inl (cy_99, 1116, .inl (fun _ => 0)))]) [1, 2, 3, 4] rfl
  have hDc := hD.sub (ws' := [(q_89, .inr (8, [.ref q_73, .null, .ref q_91, .ref q_92, .ref q_93, .ref q_94, .ref q_95, .ref q_96, .int 0])), (q_91, .inl (cy_97, 4, .inl (fun _ => 0))), (q_92, .inl (cy_98, 1116, .inl (fun _ => 0))), (q_93, .inl (cy_99, 1116, .inl (fun _ => 0)))]) [1, 2, 3, 4] (by decide) rfl
  have hKc := hK.sub (tys' := [(cy_97, .int), (cy_98, .int), (cy_99, .int)]) [0, 1, 2] rfl
  have hFc := va_free (wc := [(q_89, .inr (8, [.ref q_73, .null, .ref q_91, .ref q_92, .ref q_93, .ref q_94, .ref q_95, .ref q_96, .int 0])), (q_91, .inl (cy_97, 4, .inl (fun _ => 0))), (q_92, .inl (cy_98, 1116, .inl (fun _ => 0))), (q_93, .inl (cy_99, 1116, .inl (fun _ => 0)))]) hD hS hA [1, 2, 3, 4] rfl
  refine va_callv (va_runV (As := [.ref q_73, .null]) (rest := []) ⟨hx, hb, hml, hown, hts⟩ (c_X8_face l dC dI q_89 q_73 q_73 q_91 q_92 q_93 q_94 q_95 q_96 cy_97 cy_98 cy_99 s.heap.size) (cwV 2 hts g_c_X11_lookByLaw_49_c_X8_face rfl rfl rfl (by decide +kernel) ⟨Nat.le_of_ble_eq_true rfl, Nat.le_of_ble_eq_true rfl⟩) ⟨fun a U g mk q => by obtain ⟨q0, q1, qP, qK, qD⟩ := q; exact ⟨q0, q1, qP, va_K.moved (u := U) (U := U.calling g mk a) (Vm.Alike.refl U.vm) qK, qD⟩, va_recv hK hP (ci := 8) (q0 := 1) rfl rfl, fun U hU hW => ⟨rfl, by rw [hU], by rw [hU]; exact hPc, va_K.moved hW.alike hKc, hDc.weaken (fun _ _ _ _ => trivial)⟩⟩ rfl rfl hl.1 rfl (lv_room (Nat.le_of_ble_eq_true rfl)) dX11_lookByLaw_49 ⟨Nat.le_of_ble_eq_true rfl, Nat.le_of_ble_eq_true rfl⟩) hS (fun q _ h => hFc q h) hFc (fun u t H1 locs ht hvm hw hB hz1 hk1 hS => ?_)
  try dsimp only at hw
  obtain ⟨hP, hD⟩ := va_join (wr := [(h0, .inr (11, [.ref q_1, .ref q_5, .ref q_7, .ref q_65, .ref q_67, .ref q_89, .ref q_100, .ref q_106, .ref q_108, .ref q_113, .ref q_73, .ref q_81, .int 0, .int 0, .int (-1), .int 0, .long 0]))]) (w1 := []) hP hD [1, 2, 3, 4] [0] rfl rfl (by decide) (by decide) hk1 hFc (show va_P (dC, dI) vwCl [] H1 from fun k q h => by simp at h) ⟨fun i j p q h => by simp at h, fun k q h => by simp at h⟩
  generalize H1 = H at hP hS ⊢
  have hP : va_P (dC, dI) vwCl [(h0, .inr (11, [.ref q_1, .ref q_5, .ref q_7, .ref q_65, .ref q_67, .ref q_89, .ref q_100, .ref q_106, .ref q_108, .ref q_113, .ref q_73, .ref q_81, .int 0, .int 0, .int (-1), .int 0, .long 0]))] H := hP
  have hD : va_D A [(h0, .inr (11, [.ref q_1, .ref q_5, .ref q_7, .ref q_65, .ref q_67, .ref q_89, .ref q_100, .ref q_106, .ref q_108, .ref q_113, .ref q_73, .ref q_81, .int 0, .int 0, .int (-1), .int 0, .long 0]))] := hD
  refine W.widen (k := 0) (n := 0) (Nat.le_of_ble_eq_true rfl) (Nat.le_of_ble_eq_true rfl) ?_
  refine W.widen (k := 0) (n := 0) (Nat.le_of_ble_eq_true rfl) (Nat.le_of_ble_eq_true rfl) ?_
  exact W.vret hx hb hr (fun t ht hW => ⟨⟨(), rfl, trivial, trivial⟩, hS.F ht⟩) hS.2.2 dX11_lookByLaw_52

def w_t_X11_law : List Cond := .code yX11_law cX11_law 2 (some .boolean) :: ([.fieldLink RX11 115 "LawnAhead" "lawCount" "I", .fieldLink RX11 93 "LawnAhead" "holding" "I", .fieldLink RX11 59 "LawnAhead" "sight" "LLawnAhead$Sight;", .fieldLink RX11 47 "LawnAhead" "ground" "LLawnAhead$Ground;", .fieldLink RX8 32 "LawnAhead$Sight" "ground" "LLawnAhead$Ground;", .fieldLink RX8 36 "LawnAhead$Sight" "law" "LLawnAhead$Law;", .fieldLink RX8 11 "LawnAhead$Sight" "pageDays" "[I", .code yJ7_fill_53178 cJ7_fill_53178 4 none, .methodLink RX8 40 yJ7_fill_53178, .static yJ7_fill_53178, .initialized RJ7, .fieldLink RX8 15 "LawnAhead$Sight" "reckoned" "[I", .fieldLink RX8 18 "LawnAhead$Sight" "worthy" "[I", .code yX8_face cX8_face 3 none, .methodLink RX11 151 yX8_face, .instanceMethod yX8_face, .selects RX8 yX8_face yX8_face, .initialized RX8, .code yX11_lookByLaw cX11_lookByLaw 2 none, .methodLink RX11 145 yX11_lookByLaw, .instanceMethod yX11_lookByLaw, .selects RX11 yX11_lookByLaw yX11_lookByLaw, .initialized RX11] ++ (wsX110 ++ (wsX80 ++ [])))
theorem in_t_X11_law_X11 : ∀ w ∈ wsX110, w ∈ w_t_X11_law := fun w h => List.mem_cons_of_mem _ (List.mem_append_right _ (List.mem_append_left _ h))
theorem in_t_X11_law_X8 : ∀ w ∈ wsX80, w ∈ w_t_X11_law := fun w h => List.mem_cons_of_mem _ (List.mem_append_right _ (List.mem_append_right _ (List.mem_append_left _ h)))
set_option maxRecDepth 100000 in
theorem g_t_X11_law_21_c_X11_lookByLaw : GoodIn w_t_X11_law (([.methodLink RX11 145 yX11_lookByLaw, .instanceMethod yX11_lookByLaw, .selects RX11 yX11_lookByLaw yX11_lookByLaw, .initialized RX11] : List Cond) ++ w_c_X11_lookByLaw) := goodIn_r _ [20, 21, 22, 23, 19, 2, 3, 4, 5, 6, 7, 8, 9, 10, 11, 12, 13, 14, 15, 16, 17, 18, 24, 25, 26, 27, 28, 29, 30, 31, 32, 33, 34, 35, 36, 37, 38, 39, 40, 41, 42, 43, 44, 45, 46, 47, 48, 49] rfl (by decide +kernel)
set_option maxHeartbeats 8000000 in
set_option maxRecDepth 100000 in
theorem t_X11_law (l : Launch) (dC : Nat → ClassId) (dI : Nat → Nat → Nat) (h0 : Nat) (p1 : Int32) (q_1 : Nat) (q_5 : Nat) (q_7 : Nat) (q_65 : Nat) (q_67 : Nat) (q_89 : Nat) (q_100 : Nat) (q_106 : Nat) (q_108 : Nat) (q_113 : Nat) (q_73 : Nat) (q_81 : Nat) (q_91 : Nat) (q_92 : Nat) (q_93 : Nat) (q_94 : Nat) (q_95 : Nat) (q_96 : Nat) (cy_97 : ClassId) (cy_98 : ClassId) (cy_99 : ClassId) (sz : Nat) : Met l yX11_law w_t_X11_law ({ frames := 3, cells := 0, slots := 0, locals := 66 }) (va_Pc [.ref h0, .int p1] (fun U => U.heap.size = sz ∧ va_P (dC, dI) vwCl [(h0, .inr (11, [.ref q_1, .ref q_5, .ref q_7, .ref q_65, .ref q_67, .ref q_89, .ref q_100, .ref q_106, .ref q_108, .ref q_113, .ref q_73, .ref q_81, .int 0, .int 0, .int (-1), .int 0, .long 0])), (q_89, .inr (8, [.ref q_73, .null, .ref q_91, .ref q_92, .ref q_93, .ref q_94, .ref q_95, .ref q_96, .int 0])), (q_91, .inl (cy_97, 4, .inl (fun _ => 0))), (q_92, .inl (cy_98, 1116, .inl (fun _ => 0))), (q_93, .inl (cy_99, 1116, .inl (fun _ => 0)))] U.heap ∧ va_K (dC, dI) vwCl [(cy_97, .int), (cy_98, .int), (cy_99, .int)] U ∧ va_D (fun _ => True) [(h0, .inr (11, [.ref q_1, .ref q_5, .ref q_7, .ref q_65, .ref q_67, .ref q_89, .ref q_100, .ref q_106, .ref q_108, .ref q_113, .ref q_73, .ref q_81, .int 0, .int 0, .int (-1), .int 0, .long 0])), (q_89, .inr (8, [.ref q_73, .null, .ref q_91, .ref q_92, .ref q_93, .ref q_94, .ref q_95, .ref q_96, .int 0])), (q_91, .inl (cy_97, 4, .inl (fun _ => 0))), (q_92, .inl (cy_98, 1116, .inl (fun _ => 0))), (q_93, .inl (cy_99, 1116, .inl (fun _ => 0)))])) (va_Qi (fun (r : Int32) (_ : Unit) => r = F_law p1) (fun _ _ => True) (va_A [(h0, .inr (11, [.ref q_1, .ref q_5, .ref q_7, .ref q_65, .ref q_67, .ref q_89, .ref q_100, .ref q_106, .ref q_108, .ref q_113, .ref q_73, .ref q_81, .int 0, .int 0, .int (-1), .int 0, .long 0])), (q_89, .inr (8, [.ref q_73, .null, .ref q_91, .ref q_92, .ref q_93, .ref q_94, .ref q_95, .ref q_96, .int 0])), (q_91, .inl (cy_97, 4, .inl (fun _ => 0))), (q_92, .inl (cy_98, 1116, .inl (fun _ => 0))), (q_93, .inl (cy_99, 1116, .inl (fun _ => 0)))] sz)) 0 0 (va_A [(h0, .inr (11, [.ref q_1, .ref q_5, .ref q_7, .ref q_65, .ref q_67, .ref q_89, .ref q_100, .ref q_106, .ref q_108, .ref q_113, .ref q_73, .ref q_81, .int 0, .int 0, .int (-1), .int 0, .long 0])), (q_89, .inr (8, [.ref q_73, .null, .ref q_91, .ref q_92, .ref q_93, .ref q_94, .ref q_95, .ref q_96, .int 0])), (q_91, .inl (cy_97, 4, .inl (fun _ => 0))), (q_92, .inl (cy_98, 1116, .inl (fun _ => 0))), (q_93, .inl (cy_99, 1116, .inl (fun _ => 0)))] sz) := by
  refine Met.ofW (cc := cX11_law) (maxL := 2) (ret := (some .boolean)) (by decide) rfl ?_
  intro p e s m args below meth c s₁ B hml hv
  obtain ⟨rfl, hsz, hP, hK, hD0⟩ := hv
  have hx := B.exec
  have hb := B.bytes
  have hr := B.returns
  have hts := atoms_spec (ws := w_t_X11_law) B.pre
  have hown : s.vm.findClass RX11 = some m.cls := findClass_of_methodNamed B.named
  have hlocks := B.notSynchronized
  subst hsz
  have hD := hD0.self (sz := s.heap.size)
  generalize hAe : va_A [(h0, .inr (11, [.ref q_1, .ref q_5, .ref q_7, .ref q_65, .ref q_67, .ref q_89, .ref q_100, .ref q_106, .ref q_108, .ref q_113, .ref q_73, .ref q_81, .int 0, .int 0, .int (-1), .int 0, .long 0])), (q_89, .inr (8, [.ref q_73, .null, .ref q_91, .ref q_92, .ref q_93, .ref q_94, .ref q_95, .ref q_96, .int 0])), (q_91, .inl (cy_97, 4, .inl (fun _ => 0))), (q_92, .inl (cy_98, 1116, .inl (fun _ => 0))), (q_93, .inl (cy_99, 1116, .inl (fun _ => 0)))] s.heap.size = A at hD ⊢
  have hA : ∀ q : Nat, s.heap.size ≤ q → A q := fun q h => by rw [← hAe]; exact Or.inr h
  have hS : va_S A s.heap s.heap [] := va_S.rf
  have hP : va_P (dC, dI) vwCl [(h0, .inr (11, [.ref q_1, .ref q_5, .ref q_7, .ref q_65, .ref q_67, .ref q_89, .ref q_100, .ref q_106, .ref q_108, .ref q_113, .ref q_73, .ref q_81, .int 0, .int 0, .int (-1), .int 0, .long 0])), (q_89, .inr (8, [.ref q_73, .null, .ref q_91, .ref q_92, .ref q_93, .ref q_94, .ref q_95, .ref q_96, .int 0])), (q_91, .inl (cy_97, 4, .inl (fun _ => 0))), (q_92, .inl (cy_98, 1116, .inl (fun _ => 0))), (q_93, .inl (cy_99, 1116, .inl (fun _ => 0)))] s.heap := hP
  have hl := lv_entry ([.ref h0, .int p1]) (n := 2) (Nat.le_of_ble_eq_true rfl)
  rw [lg_entry_eq]
  generalize (lg_sl ([.ref h0, .int p1]) ++ List.replicate (2 - (lg_sl ([.ref h0, .int p1])).length) Slot.unset).toArray = ls at hl ⊢
  have hl : lv_has ls 2 [(0, .ref h0), (1, .int p1)] := hl
  refine lv_iload_n hx hb dX11_law_0 rfl (lv_at hl 1 rfl) ?_
  refine lv_iconst (v := -1) hx hb dX11_law_1 (by decide +kernel) ?_
  refine lv_icmp_lt (tgt := 13) hx hb dX11_law_2 (by decide) (fun c_1 => ?_) (fun c_1 => ?_)
  · refine lv_iconst (v := 0) hx hb dX11_law_13 (by decide +kernel) ?_
    refine W.widen (k := 0) (n := 0) (Nat.le_of_ble_eq_true rfl) (Nat.le_of_ble_eq_true rfl) ?_
    exact W.zret (ty := .boolean) (v := 0) hx hb hr (by decide +kernel) (fun t ht hW => ⟨⟨0, (), rfl, (by unfold F_law; split <;> first | rfl | (exfalso; rename_i q; have l0 : (0 : Int32).toInt = 0 := (by decide +kernel); have l1 : ((-1) : Int32).toInt = -1 := (by decide +kernel); have l2 : (1 : Int32).toInt = 1 := (by decide +kernel); have l3 : (2 : Int32).toInt = 2 := (by decide +kernel); have l4 : (3 : Int32).toInt = 3 := (by decide +kernel); have l5 : (4 : Int32).toInt = 4 := (by decide +kernel); have l6 : (5 : Int32).toInt = 5 := (by decide +kernel); have l7 : (10 : Int32).toInt = 10 := (by decide +kernel); have l8 : (12 : Int32).toInt = 12 := (by decide +kernel); have l9 : (15 : Int32).toInt = 15 := (by decide +kernel); have l10 : (30 : Int32).toInt = 30 := (by decide +kernel); have l11 : (99 : Int32).toInt = 99 := (by decide +kernel); have l12 : (100 : Int32).toInt = 100 := (by decide +kernel); have l13 : (240 : Int32).toInt = 240 := (by decide +kernel); simp only [Int32.lt_iff_toInt_lt, Int32.le_iff_toInt_le, ← Int32.toInt_inj, l0, l1, l2, l3, l4, l5, l6, l7, l8, l9, l10, l11, l12, l13] at q c_1; omega)), trivial⟩, hS.F ht⟩) hS.2.2 dX11_law_14
  · refine lv_iload_n hx hb dX11_law_5 rfl (lv_at hl 1 rfl) ?_
    refine lv_aload_n hx hb dX11_law_6 rfl (lv_at hl 0 rfl) ?_
    refine va_get (D := (dC, dI)) (ci := 11) (v := .int 0) (C := RX11) (T := TX11) (N := 17) hx hb hts in_t_X11_law_X11 hown hK hP 0 rfl rfl 12 (by decide) (hts (.fieldLink RX11 115 "LawnAhead" "lawCount" "I") (List.mem_of_getElem? (i := 1) rfl)) (fun _ h9 => h9) rfl dX11_law_7 ?_
    refine lv_icmp_lt (tgt := 15) hx hb dX11_law_10 (by decide) (fun c_2 => ?_) (fun c_2 => ?_)
    · obtain rfl : p1 = (-1) := by have l0 : (0 : Int32).toInt = 0 := (by decide +kernel); have l1 : ((-1) : Int32).toInt = -1 := (by decide +kernel); have l2 : (1 : Int32).toInt = 1 := (by decide +kernel); have l3 : (2 : Int32).toInt = 2 := (by decide +kernel); have l4 : (3 : Int32).toInt = 3 := (by decide +kernel); have l5 : (4 : Int32).toInt = 4 := (by decide +kernel); have l6 : (5 : Int32).toInt = 5 := (by decide +kernel); have l7 : (10 : Int32).toInt = 10 := (by decide +kernel); have l8 : (12 : Int32).toInt = 12 := (by decide +kernel); have l9 : (15 : Int32).toInt = 15 := (by decide +kernel); have l10 : (30 : Int32).toInt = 30 := (by decide +kernel); have l11 : (99 : Int32).toInt = 99 := (by decide +kernel); have l12 : (100 : Int32).toInt = 100 := (by decide +kernel); have l13 : (240 : Int32).toInt = 240 := (by decide +kernel); simp only [Int32.lt_iff_toInt_lt, Int32.le_iff_toInt_le, ← Int32.toInt_inj, l0, l1, l2, l3, l4, l5, l6, l7, l8, l9, l10, l11, l12, l13] at c_1 c_2 ⊢; omega
      refine lv_aload_n hx hb dX11_law_15 rfl (lv_at hl 0 rfl) ?_
      refine lv_iload_n hx hb dX11_law_16 rfl (lv_at hl 1 rfl) ?_
      refine va_put (D := (dC, dI)) (ci := 11) (v := .int (-1)) (ty := .int) (C := RX11) (T := TX11) (N := 17) hx hb hts in_t_X11_law_X11 tyX11 tyX11_ok nmX11 hown hK hP hD hS 0 rfl rfl 14 (by decide) (hts (.fieldLink RX11 93 "LawnAhead" "holding" "I") (List.mem_of_getElem? (i := 2) rfl)) (fun _ h9 => h9) rfl (by decide +kernel) rfl rfl (Nat.le_of_ble_eq_true rfl) dX11_law_17 (fun H locs hP hD hS => ?_)
      have hP : va_P (dC, dI) vwCl [(h0, .inr (11, [.ref q_1, .ref q_5, .ref q_7, .ref q_65, .ref q_67, .ref q_89, .ref q_100, .ref q_106, .ref q_108, .ref q_113, .ref q_73, .ref q_81, .int 0, .int 0, .int (-1), .int 0, .long 0])), (q_89, .inr (8, [.ref q_73, .null, .ref q_91, .ref q_92, .ref q_93, .ref q_94, .ref q_95, .ref q_96, .int 0])), (q_91, .inl (cy_97, 4, .inl (fun _ => 0))), (q_92, .inl (cy_98, 1116, .inl (fun _ => 0))), (q_93, .inl (cy_99, 1116, .inl (fun _ => 0)))] H := hP
      have hD : va_D A [(h0, .inr (11, [.ref q_1, .ref q_5, .ref q_7, .ref q_65, .ref q_67, .ref q_89, .ref q_100, .ref q_106, .ref q_108, .ref q_113, .ref q_73, .ref q_81, .int 0, .int 0, .int (-1), .int 0, .long 0])), (q_89, .inr (8, [.ref q_73, .null, .ref q_91, .ref q_92, .ref q_93, .ref q_94, .ref q_95, .ref q_96, .int 0])), (q_91, .inl (cy_97, 4, .inl (fun _ => 0))), (q_92, .inl (cy_98, 1116, .inl (fun _ => 0))), (q_93, .inl (cy_99, 1116, .inl (fun _ => 0)))] := hD
      refine lv_aload_n hx hb dX11_law_20 rfl (lv_at hl 0 rfl) ?_
      have hPc := hP.sub (ws' := [(h0, .inr (11, [.ref q_1, .ref q_5, .ref q_7, .ref q_65, .ref q_67, .ref q_89, .ref q_100, .ref q_106, .ref q_108, .ref q_113, .ref q_73, .ref q_81, .int 0, .int 0, .int (-1), .int 0, .long 0])), (q_89, .inr (8, [.ref q_73, .null, .ref q_91, .ref q_92, .ref q_93, .ref q_94, .ref q_95, .ref q_96, .int 0])), (q_91, .inl (cy_97, 4, .inl (fun _ => 0))), (q_92, .inl (cy_98, 1116, .inl (fun _ => 0))), (q_93, .inl (cy_99, 1116, .inl (fun _ => 0)))]) [0, 1, 2, 3, 4] rfl
      have hDc := hD.sub (ws' := [(h0, .inr (11, [.ref q_1, .ref q_5, .ref q_7, .ref q_65, .ref q_67, .ref q_89, .ref q_100, .ref q_106, .ref q_108, .ref q_113, .ref q_73, .ref q_81, .int 0, .int 0, .int (-1), .int 0, .long 0])), (q_89, .inr (8, [.ref q_73, .null, .ref q_91, .ref q_92, .ref q_93, .ref q_94, .ref q_95, .ref q_96, .int 0])), (q_91, .inl (cy_97, 4, .inl (fun _ => 0))), (q_92, .inl (cy_98, 1116, .inl (fun _ => 0))), (q_93, .inl (cy_99, 1116, .inl (fun _ => 0)))]) [0, 1, 2, 3, 4] (by decide) rfl
      have hKc := hK.sub (tys' := [(cy_97, .int), (cy_98, .int), (cy_99, .int)]) [0, 1, 2] rfl
      have hFc := va_free (wc := [(h0, .inr (11, [.ref q_1, .ref q_5, .ref q_7, .ref q_65, .ref q_67, .ref q_89, .ref q_100, .ref q_106, .ref q_108, .ref q_113, .ref q_73, .ref q_81, .int 0, .int 0, .int (-1), .int 0, .long 0])), (q_89, .inr (8, [.ref q_73, .null, .ref q_91, .ref q_92, .ref q_93, .ref q_94, .ref q_95, .ref q_96, .int 0])), (q_91, .inl (cy_97, 4, .inl (fun _ => 0))), (q_92, .inl (cy_98, 1116, .inl (fun _ => 0))), (q_93, .inl (cy_99, 1116, .inl (fun _ => 0)))]) hD hS hA [0, 1, 2, 3, 4] rfl
      refine va_callv (va_runV (As := []) (rest := []) ⟨hx, hb, hml, hown, hts⟩ (c_X11_lookByLaw l dC dI h0 q_1 q_5 q_7 q_65 q_67 q_89 q_100 q_106 q_108 q_113 q_73 q_81 q_91 q_92 q_93 q_94 q_95 q_96 cy_97 cy_98 cy_99 H.size) (cwV 0 hts g_t_X11_law_21_c_X11_lookByLaw rfl rfl rfl (by decide +kernel) ⟨Nat.le_of_ble_eq_true rfl, Nat.le_of_ble_eq_true rfl⟩) ⟨fun a U g mk q => by obtain ⟨q0, q1, qP, qK, qD⟩ := q; exact ⟨q0, q1, qP, va_K.moved (u := U) (U := U.calling g mk a) (Vm.Alike.refl U.vm) qK, qD⟩, va_recv hK hP (ci := 11) (q0 := 0) rfl rfl, fun U hU hW => ⟨rfl, by rw [hU], by rw [hU]; exact hPc, va_K.moved hW.alike hKc, hDc.weaken (fun _ _ _ _ => trivial)⟩⟩ rfl rfl hl.1 rfl (lv_room (Nat.le_of_ble_eq_true rfl)) dX11_law_21 ⟨Nat.le_of_ble_eq_true rfl, Nat.le_of_ble_eq_true rfl⟩) hS (fun q _ h => hFc q h) hFc (fun u t H1 locs ht hvm hw hB hz1 hk1 hS => ?_)
      try dsimp only at hw
      obtain ⟨hP, hD⟩ := va_join (wr := []) (w1 := []) hP hD [0, 1, 2, 3, 4] [] rfl rfl (by decide) (by decide) hk1 hFc (show va_P (dC, dI) vwCl [] H1 from fun k q h => by simp at h) ⟨fun i j p q h => by simp at h, fun k q h => by simp at h⟩
      generalize H1 = H at hP hS ⊢
      have hP : va_P (dC, dI) vwCl [] H := hP
      have hD : va_D A [] := hD
      refine W.widen (k := 0) (n := 0) (Nat.le_of_ble_eq_true rfl) (Nat.le_of_ble_eq_true rfl) ?_
      refine lv_iconst (v := 1) hx hb dX11_law_24 (by decide +kernel) ?_
      refine W.widen (k := 0) (n := 0) (Nat.le_of_ble_eq_true rfl) (Nat.le_of_ble_eq_true rfl) ?_
      exact W.zret (ty := .boolean) (v := 1) hx hb hr (by decide +kernel) (fun t ht hW => ⟨⟨1, (), rfl, rfl, trivial⟩, hS.F ht⟩) hS.2.2 dX11_law_25
    · refine lv_iconst (v := 0) hx hb dX11_law_13 (by decide +kernel) ?_
      refine W.widen (k := 0) (n := 0) (Nat.le_of_ble_eq_true rfl) (Nat.le_of_ble_eq_true rfl) ?_
      exact W.zret (ty := .boolean) (v := 0) hx hb hr (by decide +kernel) (fun t ht hW => ⟨⟨0, (), rfl, (by unfold F_law; split <;> first | rfl | (exfalso; rename_i q; have l0 : (0 : Int32).toInt = 0 := (by decide +kernel); have l1 : ((-1) : Int32).toInt = -1 := (by decide +kernel); have l2 : (1 : Int32).toInt = 1 := (by decide +kernel); have l3 : (2 : Int32).toInt = 2 := (by decide +kernel); have l4 : (3 : Int32).toInt = 3 := (by decide +kernel); have l5 : (4 : Int32).toInt = 4 := (by decide +kernel); have l6 : (5 : Int32).toInt = 5 := (by decide +kernel); have l7 : (10 : Int32).toInt = 10 := (by decide +kernel); have l8 : (12 : Int32).toInt = 12 := (by decide +kernel); have l9 : (15 : Int32).toInt = 15 := (by decide +kernel); have l10 : (30 : Int32).toInt = 30 := (by decide +kernel); have l11 : (99 : Int32).toInt = 99 := (by decide +kernel); have l12 : (100 : Int32).toInt = 100 := (by decide +kernel); have l13 : (240 : Int32).toInt = 240 := (by decide +kernel); simp only [Int32.lt_iff_toInt_lt, Int32.le_iff_toInt_le, ← Int32.toInt_inj, l0, l1, l2, l3, l4, l5, l6, l7, l8, l9, l10, l11, l12, l13] at q c_1 c_2; omega)), trivial⟩, hS.F ht⟩) hS.2.2 dX11_law_14
