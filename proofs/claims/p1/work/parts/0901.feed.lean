def w_c_fullBytes : List Cond := .code yX10_fullBytes cX10_fullBytes 3 (some .int) :: ([] ++ [])
set_option maxHeartbeats 8000000 in
set_option maxRecDepth 100000 in
theorem c_fullBytes (l : Launch) (dC : Nat → ClassId) (dI : Nat → Nat → Nat) (p1 : Int32) (sz : Nat) : Met l yX10_fullBytes w_c_fullBytes ({ frames := 0, cells := 0, slots := 0, locals := 0 }) (va_Pc [.int p1] (fun U => U.heap.size = sz ∧ va_P (dC, dI) vwCl [] U.heap ∧ va_K (dC, dI) vwCl [] U ∧ va_D (fun _ => True) [])) (va_Qi (fun (r : Int32) (_ : Unit) => r = nI (fbN p1)) (fun _ t => va_P (dC, dI) vwCl [] t.heap ∧ va_K (dC, dI) vwCl [] t ∧ va_D (va_A [] sz) []) (va_A [] sz)) 0 0 (va_A [] sz) := by
  refine Met.ofW (cc := cX10_fullBytes) (maxL := 3) (ret := (some .int)) (by decide) rfl ?_
  intro p e s m args below meth c s₁ B hml hv
  obtain ⟨rfl, hsz, hP, hK, hD0⟩ := hv
  have hx := B.exec
  have hb := B.bytes
  have hr := B.returns
  have hts := atoms_spec (ws := w_c_fullBytes) B.pre
  have hown : s.vm.findClass RX10 = some m.cls := findClass_of_methodNamed B.named
  have hlocks := B.notSynchronized
  subst hsz
  have hD := hD0.self (sz := s.heap.size)
  generalize hAe : va_A [] s.heap.size = A at hD ⊢
  have hA : ∀ q : Nat, s.heap.size ≤ q → A q := fun q h => by rw [← hAe]; exact Or.inr h
  have hS : va_S A s.heap s.heap [] := va_S.rf
  have hP : va_P (dC, dI) vwCl [] s.heap := hP
  have hl := lv_entry ([.int p1]) (n := 3) (Nat.le_of_ble_eq_true rfl)
  rw [lg_entry_eq]
  generalize (lg_sl ([.int p1]) ++ List.replicate (3 - (lg_sl ([.int p1])).length) Slot.unset).toArray = ls at hl ⊢
  have hl : lv_has ls 3 [(0, .int p1)] := hl
  refine lv_iconst (v := 0) hx hb dX10_fullBytes_0 (by decide +kernel) ?_
  refine lv_istore_n (lv' := [(1, .int 0), (0, .int p1)]) hx hb dX10_fullBytes_1 rfl hl (by decide) rfl (fun ls hl => ?_)
  refine lv_bipush (v := 24) hx hb dX10_fullBytes_2 (by decide +kernel) ?_
  refine lv_istore_n (lv' := [(2, .int 24), (1, .int 0), (0, .int p1)]) hx hb dX10_fullBytes_4 rfl hl (by decide) rfl (fun ls hl => ?_)
  refine lv_iload_n hx hb dX10_fullBytes_5 rfl (lv_at hl 0 rfl) ?_
  refine lv_if_lt (tgt := 28) hx hb dX10_fullBytes_6 (by decide) (fun c_1 => absurd c_1 (by decide +kernel)) (fun c_1 => ?_)
  refine lv_iload_n hx hb dX10_fullBytes_9 rfl (lv_at hl 2 rfl) ?_
  refine lv_iload_n hx hb dX10_fullBytes_10 rfl (lv_at hl 0 rfl) ?_
  obtain ⟨y_2, ey_2⟩ : ∃ y : Int32, y = (p1.toUInt32 >>> ((24 : Int32).toUInt32 &&& Int32.toUInt32 31)).toInt32 := ⟨_, rfl⟩
  refine lv_iushr (v := y_2) hx hb dX10_fullBytes_11 ey_2.symm ?_
  refine lv_sipush (v := 255) hx hb dX10_fullBytes_12 (by decide +kernel) ?_
  refine lv_iand hx hb dX10_fullBytes_15 ?_
  refine lv_topi (fun f_3 ef_3 => ?_)
  have nxt0 : ∀ (b0 : Int32) (ls : Array Slot), b0 = nI (0 + btN p1 24) → lv_has ls 3 [(2, .int 24), (1, .int b0), (0, .int p1)] → W p l e (headSpec w_c_fullBytes ({ frames := 0, cells := 0, slots := 0, locals := 0 })).room s m #[.int p1] below meth c s.heap [] 0 0 (MQ below (va_Qi (fun (r : Int32) (_ : Unit) => r = nI (fbN p1)) (fun _ t => va_P (dC, dI) vwCl [] t.heap ∧ va_K (dC, dI) vwCl [] t ∧ va_D A []) A) #[.int p1] s 0 0 A) (F0 m 22 ls []) := by
    intro b0 ls eb hl
    subst eb
    refine lv_iinc (v := 16) (lv' := [(2, .int 16), (1, .int (nI (0 + btN p1 24))), (0, .int p1)]) hx hb dX10_fullBytes_22 hl (k := 0) rfl (by decide +kernel) (by decide) rfl (fun ls hl => ?_)
    refine lv_goto (tgt := 5) hx hb dX10_fullBytes_25 (by decide) ?_
    refine lv_iload_n hx hb dX10_fullBytes_5 rfl (lv_at hl 0 rfl) ?_
    refine lv_if_lt (tgt := 28) hx hb dX10_fullBytes_6 (by decide) (fun c_4 => absurd c_4 (by decide +kernel)) (fun c_4 => ?_)
    refine lv_iload_n hx hb dX10_fullBytes_9 rfl (lv_at hl 2 rfl) ?_
    refine lv_iload_n hx hb dX10_fullBytes_10 rfl (lv_at hl 0 rfl) ?_
    obtain ⟨y_5, ey_5⟩ : ∃ y : Int32, y = (p1.toUInt32 >>> ((16 : Int32).toUInt32 &&& Int32.toUInt32 31)).toInt32 := ⟨_, rfl⟩
    refine lv_iushr (v := y_5) hx hb dX10_fullBytes_11 ey_5.symm ?_
    refine lv_sipush (v := 255) hx hb dX10_fullBytes_12 (by decide +kernel) ?_
    refine lv_iand hx hb dX10_fullBytes_15 ?_
    refine lv_topi (fun f_6 ef_6 => ?_)
    have nxt1 : ∀ (b1 : Int32) (ls : Array Slot), b1 = nI (0 + btN p1 24 + btN p1 16) → lv_has ls 3 [(2, .int 16), (1, .int b1), (0, .int p1)] → W p l e (headSpec w_c_fullBytes ({ frames := 0, cells := 0, slots := 0, locals := 0 })).room s m #[.int p1] below meth c s.heap [] 0 0 (MQ below (va_Qi (fun (r : Int32) (_ : Unit) => r = nI (fbN p1)) (fun _ t => va_P (dC, dI) vwCl [] t.heap ∧ va_K (dC, dI) vwCl [] t ∧ va_D A []) A) #[.int p1] s 0 0 A) (F0 m 22 ls []) := by
      intro b1 ls eb hl
      subst eb
      refine lv_iinc (v := 8) (lv' := [(2, .int 8), (1, .int (nI (0 + btN p1 24 + btN p1 16))), (0, .int p1)]) hx hb dX10_fullBytes_22 hl (k := 0) rfl (by decide +kernel) (by decide) rfl (fun ls hl => ?_)
      refine lv_goto (tgt := 5) hx hb dX10_fullBytes_25 (by decide) ?_
      refine lv_iload_n hx hb dX10_fullBytes_5 rfl (lv_at hl 0 rfl) ?_
      refine lv_if_lt (tgt := 28) hx hb dX10_fullBytes_6 (by decide) (fun c_7 => absurd c_7 (by decide +kernel)) (fun c_7 => ?_)
      refine lv_iload_n hx hb dX10_fullBytes_9 rfl (lv_at hl 2 rfl) ?_
      refine lv_iload_n hx hb dX10_fullBytes_10 rfl (lv_at hl 0 rfl) ?_
      obtain ⟨y_8, ey_8⟩ : ∃ y : Int32, y = (p1.toUInt32 >>> ((8 : Int32).toUInt32 &&& Int32.toUInt32 31)).toInt32 := ⟨_, rfl⟩
      refine lv_iushr (v := y_8) hx hb dX10_fullBytes_11 ey_8.symm ?_
      refine lv_sipush (v := 255) hx hb dX10_fullBytes_12 (by decide +kernel) ?_
      refine lv_iand hx hb dX10_fullBytes_15 ?_
      refine lv_topi (fun f_9 ef_9 => ?_)
      have nxt2 : ∀ (b2 : Int32) (ls : Array Slot), b2 = nI (0 + btN p1 24 + btN p1 16 + btN p1 8) → lv_has ls 3 [(2, .int 8), (1, .int b2), (0, .int p1)] → W p l e (headSpec w_c_fullBytes ({ frames := 0, cells := 0, slots := 0, locals := 0 })).room s m #[.int p1] below meth c s.heap [] 0 0 (MQ below (va_Qi (fun (r : Int32) (_ : Unit) => r = nI (fbN p1)) (fun _ t => va_P (dC, dI) vwCl [] t.heap ∧ va_K (dC, dI) vwCl [] t ∧ va_D A []) A) #[.int p1] s 0 0 A) (F0 m 22 ls []) := by
        intro b2 ls eb hl
        subst eb
        refine lv_iinc (v := 0) (lv' := [(2, .int 0), (1, .int (nI (0 + btN p1 24 + btN p1 16 + btN p1 8))), (0, .int p1)]) hx hb dX10_fullBytes_22 hl (k := 0) rfl (by decide +kernel) (by decide) rfl (fun ls hl => ?_)
        refine lv_goto (tgt := 5) hx hb dX10_fullBytes_25 (by decide) ?_
        refine lv_iload_n hx hb dX10_fullBytes_5 rfl (lv_at hl 0 rfl) ?_
        refine lv_if_lt (tgt := 28) hx hb dX10_fullBytes_6 (by decide) (fun c_10 => absurd c_10 (by decide +kernel)) (fun c_10 => ?_)
        refine lv_iload_n hx hb dX10_fullBytes_9 rfl (lv_at hl 2 rfl) ?_
        refine lv_iload_n hx hb dX10_fullBytes_10 rfl (lv_at hl 0 rfl) ?_
        obtain ⟨y_11, ey_11⟩ : ∃ y : Int32, y = (p1.toUInt32 >>> ((0 : Int32).toUInt32 &&& Int32.toUInt32 31)).toInt32 := ⟨_, rfl⟩
        refine lv_iushr (v := y_11) hx hb dX10_fullBytes_11 ey_11.symm ?_
        refine lv_sipush (v := 255) hx hb dX10_fullBytes_12 (by decide +kernel) ?_
        refine lv_iand hx hb dX10_fullBytes_15 ?_
        refine lv_topi (fun f_12 ef_12 => ?_)
        have nxt3 : ∀ (b3 : Int32) (ls : Array Slot), b3 = nI (0 + btN p1 24 + btN p1 16 + btN p1 8 + btN p1 0) → lv_has ls 3 [(2, .int 0), (1, .int b3), (0, .int p1)] → W p l e (headSpec w_c_fullBytes ({ frames := 0, cells := 0, slots := 0, locals := 0 })).room s m #[.int p1] below meth c s.heap [] 0 0 (MQ below (va_Qi (fun (r : Int32) (_ : Unit) => r = nI (fbN p1)) (fun _ t => va_P (dC, dI) vwCl [] t.heap ∧ va_K (dC, dI) vwCl [] t ∧ va_D A []) A) #[.int p1] s 0 0 A) (F0 m 22 ls []) := by
          intro b3 ls eb hl
          subst eb
          refine lv_iinc (v := (-8)) (lv' := [(2, .int (-8)), (1, .int (nI (0 + btN p1 24 + btN p1 16 + btN p1 8 + btN p1 0))), (0, .int p1)]) hx hb dX10_fullBytes_22 hl (k := 0) rfl (by decide +kernel) (by decide) rfl (fun ls hl => ?_)
          refine lv_goto (tgt := 5) hx hb dX10_fullBytes_25 (by decide) ?_
          refine lv_iload_n hx hb dX10_fullBytes_5 rfl (lv_at hl 0 rfl) ?_
          refine lv_if_lt (tgt := 28) hx hb dX10_fullBytes_6 (by decide) (fun c_13 => ?_) (fun c_13 => absurd (by decide +kernel) c_13)
          refine lv_iload_n hx hb dX10_fullBytes_28 rfl (lv_at hl 1 rfl) ?_
          refine W.widen (k := 0) (n := 0) (Nat.le_of_ble_eq_true rfl) (Nat.le_of_ble_eq_true rfl) ?_
          have hP9 := hP.sub (ws' := []) [] rfl
          have hD9 := hD.sub (ws' := []) [] (by decide) rfl
          have hK9 := hK.sub (tys' := []) [] rfl
          exact W.iret (v := (nI (0 + btN p1 24 + btN p1 16 + btN p1 8 + btN p1 0))) hx hb hr (fun t ht hW => ⟨⟨(nI (0 + btN p1 24 + btN p1 16 + btN p1 8 + btN p1 0)), (), rfl, rfl, by rw [ht]; exact hP9, va_K.moved hW.alike hK9, hD9⟩, hS.F ht⟩) hS.2.2 dX10_fullBytes_29
        refine lv_if_eq (tgt := 22) hx hb dX10_fullBytes_16 (by decide) (fun c_14 => ?_) (fun c_14 => ?_)
        · exact nxt3 (nI (0 + btN p1 24 + btN p1 16 + btN p1 8)) _ (by first | (rw [show btN p1 0 = 0 from (if_pos (show (p1.toUInt32 >>> ((0 : Int32).toUInt32 &&& Int32.toUInt32 31)).toInt32 &&& 255 = 0 by rw [← ey_11, ← ef_12]; exact c_14))]; done) | (rw [show btN p1 0 = 0 from (if_pos (show (p1.toUInt32 >>> ((0 : Int32).toUInt32 &&& Int32.toUInt32 31)).toInt32 &&& 255 = 0 by rw [← ey_11, ← ef_12]; exact c_14))]; rfl)) (lv_sub hl [0, 1, 2] rfl)
        · obtain ⟨y_15, ey_15⟩ : ∃ y : Int32, y = (nI (0 + btN p1 24 + btN p1 16 + btN p1 8)) + 1 := ⟨_, rfl⟩
          refine lv_iinc (v := y_15) (lv' := [(1, .int y_15), (2, .int 0), (0, .int p1)]) hx hb dX10_fullBytes_19 hl (k := 1) rfl (by rw [ey_15]; rfl) (by decide) rfl (fun ls hl => ?_)
          exact nxt3 y_15 _ (by first | (rw [show btN p1 0 = 1 from (if_neg (show ¬ (p1.toUInt32 >>> ((0 : Int32).toUInt32 &&& Int32.toUInt32 31)).toInt32 &&& 255 = 0 from fun zz => c_14 (by rw [ef_12, ey_11]; exact zz)))]; done) | (rw [show btN p1 0 = 1 from (if_neg (show ¬ (p1.toUInt32 >>> ((0 : Int32).toUInt32 &&& Int32.toUInt32 31)).toInt32 &&& 255 = 0 from fun zz => c_14 (by rw [ef_12, ey_11]; exact zz)))]; rfl) | (rw [show btN p1 0 = 1 from (if_neg (show ¬ (p1.toUInt32 >>> ((0 : Int32).toUInt32 &&& Int32.toUInt32 31)).toInt32 &&& 255 = 0 from fun zz => c_14 (by rw [ef_12, ey_11]; exact zz))), ey_15]; exact nI_1 _)) (lv_sub hl [1, 0, 2] rfl)
      refine lv_if_eq (tgt := 22) hx hb dX10_fullBytes_16 (by decide) (fun c_16 => ?_) (fun c_16 => ?_)
      · exact nxt2 (nI (0 + btN p1 24 + btN p1 16)) _ (by first | (rw [show btN p1 8 = 0 from (if_pos (show (p1.toUInt32 >>> ((8 : Int32).toUInt32 &&& Int32.toUInt32 31)).toInt32 &&& 255 = 0 by rw [← ey_8, ← ef_9]; exact c_16))]; done) | (rw [show btN p1 8 = 0 from (if_pos (show (p1.toUInt32 >>> ((8 : Int32).toUInt32 &&& Int32.toUInt32 31)).toInt32 &&& 255 = 0 by rw [← ey_8, ← ef_9]; exact c_16))]; rfl)) (lv_sub hl [0, 1, 2] rfl)
      · obtain ⟨y_17, ey_17⟩ : ∃ y : Int32, y = (nI (0 + btN p1 24 + btN p1 16)) + 1 := ⟨_, rfl⟩
        refine lv_iinc (v := y_17) (lv' := [(1, .int y_17), (2, .int 8), (0, .int p1)]) hx hb dX10_fullBytes_19 hl (k := 1) rfl (by rw [ey_17]; rfl) (by decide) rfl (fun ls hl => ?_)
        exact nxt2 y_17 _ (by first | (rw [show btN p1 8 = 1 from (if_neg (show ¬ (p1.toUInt32 >>> ((8 : Int32).toUInt32 &&& Int32.toUInt32 31)).toInt32 &&& 255 = 0 from fun zz => c_16 (by rw [ef_9, ey_8]; exact zz)))]; done) | (rw [show btN p1 8 = 1 from (if_neg (show ¬ (p1.toUInt32 >>> ((8 : Int32).toUInt32 &&& Int32.toUInt32 31)).toInt32 &&& 255 = 0 from fun zz => c_16 (by rw [ef_9, ey_8]; exact zz)))]; rfl) | (rw [show btN p1 8 = 1 from (if_neg (show ¬ (p1.toUInt32 >>> ((8 : Int32).toUInt32 &&& Int32.toUInt32 31)).toInt32 &&& 255 = 0 from fun zz => c_16 (by rw [ef_9, ey_8]; exact zz))), ey_17]; exact nI_1 _)) (lv_sub hl [1, 0, 2] rfl)
    refine lv_if_eq (tgt := 22) hx hb dX10_fullBytes_16 (by decide) (fun c_18 => ?_) (fun c_18 => ?_)
    · exact nxt1 (nI (0 + btN p1 24)) _ (by first | (rw [show btN p1 16 = 0 from (if_pos (show (p1.toUInt32 >>> ((16 : Int32).toUInt32 &&& Int32.toUInt32 31)).toInt32 &&& 255 = 0 by rw [← ey_5, ← ef_6]; exact c_18))]; done) | (rw [show btN p1 16 = 0 from (if_pos (show (p1.toUInt32 >>> ((16 : Int32).toUInt32 &&& Int32.toUInt32 31)).toInt32 &&& 255 = 0 by rw [← ey_5, ← ef_6]; exact c_18))]; rfl)) (lv_sub hl [0, 1, 2] rfl)
    · obtain ⟨y_19, ey_19⟩ : ∃ y : Int32, y = (nI (0 + btN p1 24)) + 1 := ⟨_, rfl⟩
      refine lv_iinc (v := y_19) (lv' := [(1, .int y_19), (2, .int 16), (0, .int p1)]) hx hb dX10_fullBytes_19 hl (k := 1) rfl (by rw [ey_19]; rfl) (by decide) rfl (fun ls hl => ?_)
      exact nxt1 y_19 _ (by first | (rw [show btN p1 16 = 1 from (if_neg (show ¬ (p1.toUInt32 >>> ((16 : Int32).toUInt32 &&& Int32.toUInt32 31)).toInt32 &&& 255 = 0 from fun zz => c_18 (by rw [ef_6, ey_5]; exact zz)))]; done) | (rw [show btN p1 16 = 1 from (if_neg (show ¬ (p1.toUInt32 >>> ((16 : Int32).toUInt32 &&& Int32.toUInt32 31)).toInt32 &&& 255 = 0 from fun zz => c_18 (by rw [ef_6, ey_5]; exact zz)))]; rfl) | (rw [show btN p1 16 = 1 from (if_neg (show ¬ (p1.toUInt32 >>> ((16 : Int32).toUInt32 &&& Int32.toUInt32 31)).toInt32 &&& 255 = 0 from fun zz => c_18 (by rw [ef_6, ey_5]; exact zz))), ey_19]; exact nI_1 _)) (lv_sub hl [1, 0, 2] rfl)
  refine lv_if_eq (tgt := 22) hx hb dX10_fullBytes_16 (by decide) (fun c_20 => ?_) (fun c_20 => ?_)
  · exact nxt0 0 _ (by first | (rw [show btN p1 24 = 0 from (if_pos (show (p1.toUInt32 >>> ((24 : Int32).toUInt32 &&& Int32.toUInt32 31)).toInt32 &&& 255 = 0 by rw [← ey_2, ← ef_3]; exact c_20))]; done) | (rw [show btN p1 24 = 0 from (if_pos (show (p1.toUInt32 >>> ((24 : Int32).toUInt32 &&& Int32.toUInt32 31)).toInt32 &&& 255 = 0 by rw [← ey_2, ← ef_3]; exact c_20))]; rfl)) (lv_sub hl [0, 1, 2] rfl)
  · refine lv_iinc (v := 1) (lv' := [(1, .int 1), (2, .int 24), (0, .int p1)]) hx hb dX10_fullBytes_19 hl (k := 1) rfl (by decide +kernel) (by decide) rfl (fun ls hl => ?_)
    exact nxt0 1 _ (by first | (rw [show btN p1 24 = 1 from (if_neg (show ¬ (p1.toUInt32 >>> ((24 : Int32).toUInt32 &&& Int32.toUInt32 31)).toInt32 &&& 255 = 0 from fun zz => c_20 (by rw [ef_3, ey_2]; exact zz)))]; done) | (rw [show btN p1 24 = 1 from (if_neg (show ¬ (p1.toUInt32 >>> ((24 : Int32).toUInt32 &&& Int32.toUInt32 31)).toInt32 &&& 255 = 0 from fun zz => c_20 (by rw [ef_3, ey_2]; exact zz)))]; rfl)) (lv_sub hl [1, 0, 2] rfl)

def w_c_bytesIn : List Cond := .code yX12_bytesIn cX12_bytesIn 3 (some .int) :: ([] ++ [])
set_option maxHeartbeats 8000000 in
set_option maxRecDepth 100000 in
theorem c_bytesIn (l : Launch) (dC : Nat → ClassId) (dI : Nat → Nat → Nat) (p1 : Int32) (sz : Nat) : Met l yX12_bytesIn w_c_bytesIn ({ frames := 0, cells := 0, slots := 0, locals := 0 }) (va_Pc [.int p1] (fun U => U.heap.size = sz ∧ va_P (dC, dI) vwCl [] U.heap ∧ va_K (dC, dI) vwCl [] U ∧ va_D (fun _ => True) [])) (va_Qi (fun (r : Int32) (_ : Unit) => r = nI (fbN p1)) (fun _ t => va_P (dC, dI) vwCl [] t.heap ∧ va_K (dC, dI) vwCl [] t ∧ va_D (va_A [] sz) []) (va_A [] sz)) 0 0 (va_A [] sz) := by
  refine Met.ofW (cc := cX12_bytesIn) (maxL := 3) (ret := (some .int)) (by decide) rfl ?_
  intro p e s m args below meth c s₁ B hml hv
  obtain ⟨rfl, hsz, hP, hK, hD0⟩ := hv
  have hx := B.exec
  have hb := B.bytes
  have hr := B.returns
  have hts := atoms_spec (ws := w_c_bytesIn) B.pre
  have hown : s.vm.findClass RX12 = some m.cls := findClass_of_methodNamed B.named
  have hlocks := B.notSynchronized
  subst hsz
  have hD := hD0.self (sz := s.heap.size)
  generalize hAe : va_A [] s.heap.size = A at hD ⊢
  have hA : ∀ q : Nat, s.heap.size ≤ q → A q := fun q h => by rw [← hAe]; exact Or.inr h
  have hS : va_S A s.heap s.heap [] := va_S.rf
  have hP : va_P (dC, dI) vwCl [] s.heap := hP
  have hl := lv_entry ([.int p1]) (n := 3) (Nat.le_of_ble_eq_true rfl)
  rw [lg_entry_eq]
  generalize (lg_sl ([.int p1]) ++ List.replicate (3 - (lg_sl ([.int p1])).length) Slot.unset).toArray = ls at hl ⊢
  have hl : lv_has ls 3 [(0, .int p1)] := hl
  refine lv_iconst (v := 0) hx hb dX12_bytesIn_0 (by decide +kernel) ?_
  refine lv_istore_n (lv' := [(1, .int 0), (0, .int p1)]) hx hb dX12_bytesIn_1 rfl hl (by decide) rfl (fun ls hl => ?_)
  refine lv_bipush (v := 24) hx hb dX12_bytesIn_2 (by decide +kernel) ?_
  refine lv_istore_n (lv' := [(2, .int 24), (1, .int 0), (0, .int p1)]) hx hb dX12_bytesIn_4 rfl hl (by decide) rfl (fun ls hl => ?_)
  refine lv_iload_n hx hb dX12_bytesIn_5 rfl (lv_at hl 0 rfl) ?_
  refine lv_if_lt (tgt := 33) hx hb dX12_bytesIn_6 (by decide) (fun c_1 => absurd c_1 (by decide +kernel)) (fun c_1 => ?_)
  refine lv_iload_n hx hb dX12_bytesIn_9 rfl (lv_at hl 1 rfl) ?_
  refine lv_iload_n hx hb dX12_bytesIn_10 rfl (lv_at hl 2 rfl) ?_
  refine lv_iload_n hx hb dX12_bytesIn_11 rfl (lv_at hl 0 rfl) ?_
  refine lv_ishr hx hb dX12_bytesIn_12 ?_
  refine lv_topi (fun f_3 ef_3 => ?_)
  refine lv_sipush (v := 255) hx hb dX12_bytesIn_13 (by decide +kernel) ?_
  refine lv_iand hx hb dX12_bytesIn_16 ?_
  refine lv_topi (fun f_4 ef_4 => ?_)
  have nxt0 : ∀ (b0 : Int32) (ls : Array Slot), b0 = nI (btN p1 24) → lv_has ls 3 [(2, .int 24), (1, .int 0), (0, .int p1)] → W p l e (headSpec w_c_bytesIn ({ frames := 0, cells := 0, slots := 0, locals := 0 })).room s m #[.int p1] below meth c s.heap [] 0 0 (MQ below (va_Qi (fun (r : Int32) (_ : Unit) => r = nI (fbN p1)) (fun _ t => va_P (dC, dI) vwCl [] t.heap ∧ va_K (dC, dI) vwCl [] t ∧ va_D A []) A) #[.int p1] s 0 0 A) (F0 m 25 ls [.int b0, .int 0]) := by
    intro b0 ls eb hl
    subst eb
    refine lv_iadd hx hb dX12_bytesIn_25 ?_
    refine lv_topi (fun f_5 ef_5 => ?_)
    obtain rfl : f_5 = nI (0 + (btN p1 24)) := ef_5.trans (nI_add 0 (btN p1 24))
    refine lv_istore_n (lv' := [(1, .int (nI (0 + (btN p1 24)))), (2, .int 24), (0, .int p1)]) hx hb dX12_bytesIn_26 rfl hl (by decide) rfl (fun ls hl => ?_)
    refine lv_iinc (v := 16) (lv' := [(2, .int 16), (1, .int (nI (0 + (btN p1 24)))), (0, .int p1)]) hx hb dX12_bytesIn_27 hl (k := 1) rfl (by decide +kernel) (by decide) rfl (fun ls hl => ?_)
    refine lv_goto (tgt := 5) hx hb dX12_bytesIn_30 (by decide) ?_
    refine lv_iload_n hx hb dX12_bytesIn_5 rfl (lv_at hl 0 rfl) ?_
    refine lv_if_lt (tgt := 33) hx hb dX12_bytesIn_6 (by decide) (fun c_6 => absurd c_6 (by decide +kernel)) (fun c_6 => ?_)
    refine lv_iload_n hx hb dX12_bytesIn_9 rfl (lv_at hl 1 rfl) ?_
    refine lv_iload_n hx hb dX12_bytesIn_10 rfl (lv_at hl 2 rfl) ?_
    refine lv_iload_n hx hb dX12_bytesIn_11 rfl (lv_at hl 0 rfl) ?_
    refine lv_ishr hx hb dX12_bytesIn_12 ?_
    refine lv_topi (fun f_8 ef_8 => ?_)
    refine lv_sipush (v := 255) hx hb dX12_bytesIn_13 (by decide +kernel) ?_
    refine lv_iand hx hb dX12_bytesIn_16 ?_
    refine lv_topi (fun f_9 ef_9 => ?_)
    have nxt1 : ∀ (b1 : Int32) (ls : Array Slot), b1 = nI (btN p1 16) → lv_has ls 3 [(2, .int 16), (1, .int (nI (0 + (btN p1 24)))), (0, .int p1)] → W p l e (headSpec w_c_bytesIn ({ frames := 0, cells := 0, slots := 0, locals := 0 })).room s m #[.int p1] below meth c s.heap [] 0 0 (MQ below (va_Qi (fun (r : Int32) (_ : Unit) => r = nI (fbN p1)) (fun _ t => va_P (dC, dI) vwCl [] t.heap ∧ va_K (dC, dI) vwCl [] t ∧ va_D A []) A) #[.int p1] s 0 0 A) (F0 m 25 ls [.int b1, .int (nI (0 + (btN p1 24)))]) := by
      intro b1 ls eb hl
      subst eb
      refine lv_iadd hx hb dX12_bytesIn_25 ?_
      refine lv_topi (fun f_10 ef_10 => ?_)
      obtain rfl : f_10 = nI ((0 + (btN p1 24)) + (btN p1 16)) := ef_10.trans (nI_add (0 + (btN p1 24)) (btN p1 16))
      refine lv_istore_n (lv' := [(1, .int (nI ((0 + (btN p1 24)) + (btN p1 16)))), (2, .int 16), (0, .int p1)]) hx hb dX12_bytesIn_26 rfl hl (by decide) rfl (fun ls hl => ?_)
      refine lv_iinc (v := 8) (lv' := [(2, .int 8), (1, .int (nI ((0 + (btN p1 24)) + (btN p1 16)))), (0, .int p1)]) hx hb dX12_bytesIn_27 hl (k := 1) rfl (by decide +kernel) (by decide) rfl (fun ls hl => ?_)
      refine lv_goto (tgt := 5) hx hb dX12_bytesIn_30 (by decide) ?_
      refine lv_iload_n hx hb dX12_bytesIn_5 rfl (lv_at hl 0 rfl) ?_
      refine lv_if_lt (tgt := 33) hx hb dX12_bytesIn_6 (by decide) (fun c_11 => absurd c_11 (by decide +kernel)) (fun c_11 => ?_)
      refine lv_iload_n hx hb dX12_bytesIn_9 rfl (lv_at hl 1 rfl) ?_
      refine lv_iload_n hx hb dX12_bytesIn_10 rfl (lv_at hl 2 rfl) ?_
      refine lv_iload_n hx hb dX12_bytesIn_11 rfl (lv_at hl 0 rfl) ?_
      refine lv_ishr hx hb dX12_bytesIn_12 ?_
      refine lv_topi (fun f_13 ef_13 => ?_)
      refine lv_sipush (v := 255) hx hb dX12_bytesIn_13 (by decide +kernel) ?_
      refine lv_iand hx hb dX12_bytesIn_16 ?_
      refine lv_topi (fun f_14 ef_14 => ?_)
      have nxt2 : ∀ (b2 : Int32) (ls : Array Slot), b2 = nI (btN p1 8) → lv_has ls 3 [(2, .int 8), (1, .int (nI ((0 + (btN p1 24)) + (btN p1 16)))), (0, .int p1)] → W p l e (headSpec w_c_bytesIn ({ frames := 0, cells := 0, slots := 0, locals := 0 })).room s m #[.int p1] below meth c s.heap [] 0 0 (MQ below (va_Qi (fun (r : Int32) (_ : Unit) => r = nI (fbN p1)) (fun _ t => va_P (dC, dI) vwCl [] t.heap ∧ va_K (dC, dI) vwCl [] t ∧ va_D A []) A) #[.int p1] s 0 0 A) (F0 m 25 ls [.int b2, .int (nI ((0 + (btN p1 24)) + (btN p1 16)))]) := by
        intro b2 ls eb hl
        subst eb
        refine lv_iadd hx hb dX12_bytesIn_25 ?_
        refine lv_topi (fun f_15 ef_15 => ?_)
        obtain rfl : f_15 = nI (((0 + (btN p1 24)) + (btN p1 16)) + (btN p1 8)) := ef_15.trans (nI_add ((0 + (btN p1 24)) + (btN p1 16)) (btN p1 8))
        refine lv_istore_n (lv' := [(1, .int (nI (((0 + (btN p1 24)) + (btN p1 16)) + (btN p1 8)))), (2, .int 8), (0, .int p1)]) hx hb dX12_bytesIn_26 rfl hl (by decide) rfl (fun ls hl => ?_)
        refine lv_iinc (v := 0) (lv' := [(2, .int 0), (1, .int (nI (((0 + (btN p1 24)) + (btN p1 16)) + (btN p1 8)))), (0, .int p1)]) hx hb dX12_bytesIn_27 hl (k := 1) rfl (by decide +kernel) (by decide) rfl (fun ls hl => ?_)
        refine lv_goto (tgt := 5) hx hb dX12_bytesIn_30 (by decide) ?_
        refine lv_iload_n hx hb dX12_bytesIn_5 rfl (lv_at hl 0 rfl) ?_
        refine lv_if_lt (tgt := 33) hx hb dX12_bytesIn_6 (by decide) (fun c_16 => absurd c_16 (by decide +kernel)) (fun c_16 => ?_)
        refine lv_iload_n hx hb dX12_bytesIn_9 rfl (lv_at hl 1 rfl) ?_
        refine lv_iload_n hx hb dX12_bytesIn_10 rfl (lv_at hl 2 rfl) ?_
        refine lv_iload_n hx hb dX12_bytesIn_11 rfl (lv_at hl 0 rfl) ?_
        refine lv_ishr hx hb dX12_bytesIn_12 ?_
        refine lv_topi (fun f_18 ef_18 => ?_)
        refine lv_sipush (v := 255) hx hb dX12_bytesIn_13 (by decide +kernel) ?_
        refine lv_iand hx hb dX12_bytesIn_16 ?_
        refine lv_topi (fun f_19 ef_19 => ?_)
        have nxt3 : ∀ (b3 : Int32) (ls : Array Slot), b3 = nI (btN p1 0) → lv_has ls 3 [(2, .int 0), (1, .int (nI (((0 + (btN p1 24)) + (btN p1 16)) + (btN p1 8)))), (0, .int p1)] → W p l e (headSpec w_c_bytesIn ({ frames := 0, cells := 0, slots := 0, locals := 0 })).room s m #[.int p1] below meth c s.heap [] 0 0 (MQ below (va_Qi (fun (r : Int32) (_ : Unit) => r = nI (fbN p1)) (fun _ t => va_P (dC, dI) vwCl [] t.heap ∧ va_K (dC, dI) vwCl [] t ∧ va_D A []) A) #[.int p1] s 0 0 A) (F0 m 25 ls [.int b3, .int (nI (((0 + (btN p1 24)) + (btN p1 16)) + (btN p1 8)))]) := by
          intro b3 ls eb hl
          subst eb
          refine lv_iadd hx hb dX12_bytesIn_25 ?_
          refine lv_topi (fun f_20 ef_20 => ?_)
          obtain rfl : f_20 = nI ((((0 + (btN p1 24)) + (btN p1 16)) + (btN p1 8)) + (btN p1 0)) := ef_20.trans (nI_add (((0 + (btN p1 24)) + (btN p1 16)) + (btN p1 8)) (btN p1 0))
          refine lv_istore_n (lv' := [(1, .int (nI ((((0 + (btN p1 24)) + (btN p1 16)) + (btN p1 8)) + (btN p1 0)))), (2, .int 0), (0, .int p1)]) hx hb dX12_bytesIn_26 rfl hl (by decide) rfl (fun ls hl => ?_)
          refine lv_iinc (v := (-8)) (lv' := [(2, .int (-8)), (1, .int (nI ((((0 + (btN p1 24)) + (btN p1 16)) + (btN p1 8)) + (btN p1 0)))), (0, .int p1)]) hx hb dX12_bytesIn_27 hl (k := 1) rfl (by decide +kernel) (by decide) rfl (fun ls hl => ?_)
          refine lv_goto (tgt := 5) hx hb dX12_bytesIn_30 (by decide) ?_
          refine lv_iload_n hx hb dX12_bytesIn_5 rfl (lv_at hl 0 rfl) ?_
          refine lv_if_lt (tgt := 33) hx hb dX12_bytesIn_6 (by decide) (fun c_21 => ?_) (fun c_21 => absurd (by decide +kernel) c_21)
          refine lv_iload_n hx hb dX12_bytesIn_33 rfl (lv_at hl 1 rfl) ?_
          refine W.widen (k := 0) (n := 0) (Nat.le_of_ble_eq_true rfl) (Nat.le_of_ble_eq_true rfl) ?_
          have hP9 := hP.sub (ws' := []) [] rfl
          have hD9 := hD.sub (ws' := []) [] (by decide) rfl
          have hK9 := hK.sub (tys' := []) [] rfl
          exact W.iret (v := (nI ((((0 + (btN p1 24)) + (btN p1 16)) + (btN p1 8)) + (btN p1 0)))) hx hb hr (fun t ht hW => ⟨⟨(nI ((((0 + (btN p1 24)) + (btN p1 16)) + (btN p1 8)) + (btN p1 0))), (), rfl, rfl, by rw [ht]; exact hP9, va_K.moved hW.alike hK9, hD9⟩, hS.F ht⟩) hS.2.2 dX12_bytesIn_34
        refine lv_if_eq (tgt := 24) hx hb dX12_bytesIn_17 (by decide) (fun c_22 => ?_) (fun c_22 => ?_)
        · refine lv_iconst (v := 0) hx hb dX12_bytesIn_24 (by decide +kernel) ?_
          exact nxt3 0 _ (by first | (rw [show btN p1 0 = 0 from (if_pos (show (p1.toUInt32 >>> ((0 : Int32).toUInt32 &&& Int32.toUInt32 31)).toInt32 &&& 255 = 0 by rw [← btM_0, ← ef_18, ← ef_19]; exact c_22))]; done) | (rw [show btN p1 0 = 0 from (if_pos (show (p1.toUInt32 >>> ((0 : Int32).toUInt32 &&& Int32.toUInt32 31)).toInt32 &&& 255 = 0 by rw [← btM_0, ← ef_18, ← ef_19]; exact c_22))]; rfl)) (lv_sub hl [0, 1, 2] rfl)
        · refine lv_iconst (v := 1) hx hb dX12_bytesIn_20 (by decide +kernel) ?_
          refine lv_goto (tgt := 25) hx hb dX12_bytesIn_21 (by decide) ?_
          exact nxt3 1 _ (by first | (rw [show btN p1 0 = 1 from (if_neg (show ¬ (p1.toUInt32 >>> ((0 : Int32).toUInt32 &&& Int32.toUInt32 31)).toInt32 &&& 255 = 0 from fun zz => c_22 (by rw [ef_19, ef_18, btM_0]; exact zz)))]; done) | (rw [show btN p1 0 = 1 from (if_neg (show ¬ (p1.toUInt32 >>> ((0 : Int32).toUInt32 &&& Int32.toUInt32 31)).toInt32 &&& 255 = 0 from fun zz => c_22 (by rw [ef_19, ef_18, btM_0]; exact zz)))]; rfl)) (lv_sub hl [0, 1, 2] rfl)
      refine lv_if_eq (tgt := 24) hx hb dX12_bytesIn_17 (by decide) (fun c_23 => ?_) (fun c_23 => ?_)
      · refine lv_iconst (v := 0) hx hb dX12_bytesIn_24 (by decide +kernel) ?_
        exact nxt2 0 _ (by first | (rw [show btN p1 8 = 0 from (if_pos (show (p1.toUInt32 >>> ((8 : Int32).toUInt32 &&& Int32.toUInt32 31)).toInt32 &&& 255 = 0 by rw [← btM_8, ← ef_13, ← ef_14]; exact c_23))]; done) | (rw [show btN p1 8 = 0 from (if_pos (show (p1.toUInt32 >>> ((8 : Int32).toUInt32 &&& Int32.toUInt32 31)).toInt32 &&& 255 = 0 by rw [← btM_8, ← ef_13, ← ef_14]; exact c_23))]; rfl)) (lv_sub hl [0, 1, 2] rfl)
      · refine lv_iconst (v := 1) hx hb dX12_bytesIn_20 (by decide +kernel) ?_
        refine lv_goto (tgt := 25) hx hb dX12_bytesIn_21 (by decide) ?_
        exact nxt2 1 _ (by first | (rw [show btN p1 8 = 1 from (if_neg (show ¬ (p1.toUInt32 >>> ((8 : Int32).toUInt32 &&& Int32.toUInt32 31)).toInt32 &&& 255 = 0 from fun zz => c_23 (by rw [ef_14, ef_13, btM_8]; exact zz)))]; done) | (rw [show btN p1 8 = 1 from (if_neg (show ¬ (p1.toUInt32 >>> ((8 : Int32).toUInt32 &&& Int32.toUInt32 31)).toInt32 &&& 255 = 0 from fun zz => c_23 (by rw [ef_14, ef_13, btM_8]; exact zz)))]; rfl)) (lv_sub hl [0, 1, 2] rfl)
    refine lv_if_eq (tgt := 24) hx hb dX12_bytesIn_17 (by decide) (fun c_24 => ?_) (fun c_24 => ?_)
    · refine lv_iconst (v := 0) hx hb dX12_bytesIn_24 (by decide +kernel) ?_
      exact nxt1 0 _ (by first | (rw [show btN p1 16 = 0 from (if_pos (show (p1.toUInt32 >>> ((16 : Int32).toUInt32 &&& Int32.toUInt32 31)).toInt32 &&& 255 = 0 by rw [← btM_16, ← ef_8, ← ef_9]; exact c_24))]; done) | (rw [show btN p1 16 = 0 from (if_pos (show (p1.toUInt32 >>> ((16 : Int32).toUInt32 &&& Int32.toUInt32 31)).toInt32 &&& 255 = 0 by rw [← btM_16, ← ef_8, ← ef_9]; exact c_24))]; rfl)) (lv_sub hl [0, 1, 2] rfl)
    · refine lv_iconst (v := 1) hx hb dX12_bytesIn_20 (by decide +kernel) ?_
      refine lv_goto (tgt := 25) hx hb dX12_bytesIn_21 (by decide) ?_
      exact nxt1 1 _ (by first | (rw [show btN p1 16 = 1 from (if_neg (show ¬ (p1.toUInt32 >>> ((16 : Int32).toUInt32 &&& Int32.toUInt32 31)).toInt32 &&& 255 = 0 from fun zz => c_24 (by rw [ef_9, ef_8, btM_16]; exact zz)))]; done) | (rw [show btN p1 16 = 1 from (if_neg (show ¬ (p1.toUInt32 >>> ((16 : Int32).toUInt32 &&& Int32.toUInt32 31)).toInt32 &&& 255 = 0 from fun zz => c_24 (by rw [ef_9, ef_8, btM_16]; exact zz)))]; rfl)) (lv_sub hl [0, 1, 2] rfl)
  refine lv_if_eq (tgt := 24) hx hb dX12_bytesIn_17 (by decide) (fun c_25 => ?_) (fun c_25 => ?_)
  · refine lv_iconst (v := 0) hx hb dX12_bytesIn_24 (by decide +kernel) ?_
    exact nxt0 0 _ (by first | (rw [show btN p1 24 = 0 from (if_pos (show (p1.toUInt32 >>> ((24 : Int32).toUInt32 &&& Int32.toUInt32 31)).toInt32 &&& 255 = 0 by rw [← btM_24, ← ef_3, ← ef_4]; exact c_25))]; done) | (rw [show btN p1 24 = 0 from (if_pos (show (p1.toUInt32 >>> ((24 : Int32).toUInt32 &&& Int32.toUInt32 31)).toInt32 &&& 255 = 0 by rw [← btM_24, ← ef_3, ← ef_4]; exact c_25))]; rfl)) (lv_sub hl [0, 1, 2] rfl)
  · refine lv_iconst (v := 1) hx hb dX12_bytesIn_20 (by decide +kernel) ?_
    refine lv_goto (tgt := 25) hx hb dX12_bytesIn_21 (by decide) ?_
    exact nxt0 1 _ (by first | (rw [show btN p1 24 = 1 from (if_neg (show ¬ (p1.toUInt32 >>> ((24 : Int32).toUInt32 &&& Int32.toUInt32 31)).toInt32 &&& 255 = 0 from fun zz => c_25 (by rw [ef_4, ef_3, btM_24]; exact zz)))]; done) | (rw [show btN p1 24 = 1 from (if_neg (show ¬ (p1.toUInt32 >>> ((24 : Int32).toUInt32 &&& Int32.toUInt32 31)).toInt32 &&& 255 = 0 from fun zz => c_25 (by rw [ef_4, ef_3, btM_24]; exact zz)))]; rfl)) (lv_sub hl [0, 1, 2] rfl)

def w_c_append : List Cond := .code yX10_append cX10_append 4 none :: ([.fieldLink RX10 15 "LawnAhead$Tape" "length" "I", .fieldLink RX10 11 "LawnAhead$Tape" "bytes" "[I"] ++ (wsX100 ++ []))
theorem in_c_append_X10 : ∀ w ∈ wsX100, w ∈ w_c_append := fun w h => List.mem_cons_of_mem _ (List.mem_append_right _ (List.mem_append_left _ h))
set_option maxHeartbeats 8000000 in
set_option maxRecDepth 100000 in
theorem c_append (l : Launch) (dC : Nat → ClassId) (dI : Nat → Nat → Nat) (h0 : Nat) (p1 : Int32) (q1 : Nat) (cy1 : ClassId) (g0 : Nat → Int32) (n : Nat) (sz : Nat) (hn : n + 4 ≤ 240) : Met l yX10_append w_c_append ({ frames := 0, cells := 0, slots := 0, locals := 0 }) (va_Pc [.ref h0, .int p1] (fun U => U.heap.size = sz ∧ va_P (dC, dI) vwCl [(h0, .inr (10, [.ref q1, .int (nI n), .int 0, .int 0])), (q1, .inl (cy1, 240, .inl g0))] U.heap ∧ va_K (dC, dI) vwCl [(cy1, .int)] U ∧ va_D (fun _ => True) [(h0, .inr (10, [.ref q1, .int (nI n), .int 0, .int 0])), (q1, .inl (cy1, 240, .inl g0))])) (va_Qv (fun (_ : Unit) => True) (fun _ t => ∃ (g : Nat → Int32), va_P (dC, dI) vwCl [(h0, .inr (10, [.ref q1, .int (nI (n + fbN p1)), .int 0, .int 0])), (q1, .inl (cy1, 240, .inl g))] t.heap ∧ va_K (dC, dI) vwCl [] t ∧ va_D (va_A [(h0, .inr (10, [.ref q1, .int (nI n), .int 0, .int 0])), (q1, .inl (cy1, 240, .inl g0))] sz) [(h0, .inr (10, [.ref q1, .int (nI (n + fbN p1)), .int 0, .int 0])), (q1, .inl (cy1, 240, .inl g))]) (va_A [(h0, .inr (10, [.ref q1, .int (nI n), .int 0, .int 0])), (q1, .inl (cy1, 240, .inl g0))] sz)) 0 0 (va_A [(h0, .inr (10, [.ref q1, .int (nI n), .int 0, .int 0])), (q1, .inl (cy1, 240, .inl g0))] sz) := by
  refine Met.ofW (cc := cX10_append) (maxL := 4) (ret := none) (by decide) rfl ?_
  intro p e s m args below meth c s₁ B hml hv
  obtain ⟨rfl, hsz, hP, hK, hD0⟩ := hv
  have hx := B.exec
  have hb := B.bytes
  have hr := B.returns
  have hts := atoms_spec (ws := w_c_append) B.pre
  have hown : s.vm.findClass RX10 = some m.cls := findClass_of_methodNamed B.named
  have hlocks := B.notSynchronized
  subst hsz
  have hD := hD0.self (sz := s.heap.size)
  generalize hAe : va_A [(h0, .inr (10, [.ref q1, .int (nI n), .int 0, .int 0])), (q1, .inl (cy1, 240, .inl g0))] s.heap.size = A at hD ⊢
  have hA : ∀ q : Nat, s.heap.size ≤ q → A q := fun q h => by rw [← hAe]; exact Or.inr h
  have hS : va_S A s.heap s.heap [] := va_S.rf
  have hP : va_P (dC, dI) vwCl [(h0, .inr (10, [.ref q1, .int (nI n), .int 0, .int 0])), (q1, .inl (cy1, 240, .inl g0))] s.heap := hP
  have hl := lv_entry ([.ref h0, .int p1]) (n := 4) (Nat.le_of_ble_eq_true rfl)
  rw [lg_entry_eq]
  generalize (lg_sl ([.ref h0, .int p1]) ++ List.replicate (4 - (lg_sl ([.ref h0, .int p1])).length) Slot.unset).toArray = ls at hl ⊢
  have hl : lv_has ls 4 [(0, .ref h0), (1, .int p1)] := hl
  refine lv_bipush (v := 24) hx hb dX10_append_0 (by decide +kernel) ?_
  refine lv_istore_n (lv' := [(2, .int 24), (0, .ref h0), (1, .int p1)]) hx hb dX10_append_2 rfl hl (by decide) rfl (fun ls hl => ?_)
  refine lv_iload_n hx hb dX10_append_3 rfl (lv_at hl 0 rfl) ?_
  refine lv_if_lt (tgt := 55) hx hb dX10_append_4 (by decide) (fun c_1 => absurd c_1 (by decide +kernel)) (fun c_1 => ?_)
  refine lv_iload_n hx hb dX10_append_7 rfl (lv_at hl 2 rfl) ?_
  refine lv_iload_n hx hb dX10_append_8 rfl (lv_at hl 0 rfl) ?_
  obtain ⟨y_2, ey_2⟩ : ∃ y : Int32, y = (p1.toUInt32 >>> ((24 : Int32).toUInt32 &&& Int32.toUInt32 31)).toInt32 := ⟨_, rfl⟩
  refine lv_iushr (v := y_2) hx hb dX10_append_9 ey_2.symm ?_
  refine lv_sipush (v := 255) hx hb dX10_append_10 (by decide +kernel) ?_
  refine lv_iand hx hb dX10_append_13 ?_
  refine lv_topi (fun f_3 ef_3 => ?_)
  refine lv_istore_n (lv' := [(3, .int f_3), (2, .int 24), (0, .ref h0), (1, .int p1)]) hx hb dX10_append_14 rfl hl (by decide) rfl (fun ls hl => ?_)
  refine lv_iload_n hx hb dX10_append_15 rfl (lv_at hl 0 rfl) ?_
  have nxt0 : ∀ (b0 : Int32) (g : Nat → Int32) (H : Heap) (locs : List Loc) (ls : Array Slot), b0 = nI (n + btN p1 24) → va_P (dC, dI) vwCl [(h0, .inr (10, [.ref q1, .int b0, .int 0, .int 0])), (q1, .inl (cy1, 240, .inl g))] H → va_D A [(h0, .inr (10, [.ref q1, .int b0, .int 0, .int 0])), (q1, .inl (cy1, 240, .inl g))] → va_S A s.heap H locs → lv_has ls 4 [(3, .int f_3), (2, .int 24), (0, .ref h0), (1, .int p1)] → W p l e (headSpec w_c_append ({ frames := 0, cells := 0, slots := 0, locals := 0 })).room s m #[.ref h0, .int p1] below meth c H locs 0 0 (MQ below (va_Qv (fun (_ : Unit) => True) (fun _ t => ∃ (g : Nat → Int32), va_P (dC, dI) vwCl [(h0, .inr (10, [.ref q1, .int (nI (n + fbN p1)), .int 0, .int 0])), (q1, .inl (cy1, 240, .inl g))] t.heap ∧ va_K (dC, dI) vwCl [] t ∧ va_D A [(h0, .inr (10, [.ref q1, .int (nI (n + fbN p1)), .int 0, .int 0])), (q1, .inl (cy1, 240, .inl g))]) A) #[.ref h0, .int p1] s 0 0 A) (F0 m 49 ls []) := by
    intro b0 g H locs ls eb hP hD hS hl
    subst eb
    refine lv_iinc (v := 16) (lv' := [(2, .int 16), (3, .int f_3), (0, .ref h0), (1, .int p1)]) hx hb dX10_append_49 hl (k := 1) rfl (by decide +kernel) (by decide) rfl (fun ls hl => ?_)
    refine lv_goto (tgt := 3) hx hb dX10_append_52 (by decide) ?_
    refine lv_iload_n hx hb dX10_append_3 rfl (lv_at hl 0 rfl) ?_
    refine lv_if_lt (tgt := 55) hx hb dX10_append_4 (by decide) (fun c_4 => absurd c_4 (by decide +kernel)) (fun c_4 => ?_)
    refine lv_iload_n hx hb dX10_append_7 rfl (lv_at hl 3 rfl) ?_
    refine lv_iload_n hx hb dX10_append_8 rfl (lv_at hl 0 rfl) ?_
    obtain ⟨y_5, ey_5⟩ : ∃ y : Int32, y = (p1.toUInt32 >>> ((16 : Int32).toUInt32 &&& Int32.toUInt32 31)).toInt32 := ⟨_, rfl⟩
    refine lv_iushr (v := y_5) hx hb dX10_append_9 ey_5.symm ?_
    refine lv_sipush (v := 255) hx hb dX10_append_10 (by decide +kernel) ?_
    refine lv_iand hx hb dX10_append_13 ?_
    refine lv_topi (fun f_6 ef_6 => ?_)
    refine lv_istore_n (lv' := [(3, .int f_6), (2, .int 16), (0, .ref h0), (1, .int p1)]) hx hb dX10_append_14 rfl hl (by decide) rfl (fun ls hl => ?_)
    refine lv_iload_n hx hb dX10_append_15 rfl (lv_at hl 0 rfl) ?_
    have nxt1 : ∀ (b1 : Int32) (g : Nat → Int32) (H : Heap) (locs : List Loc) (ls : Array Slot), b1 = nI (n + btN p1 24 + btN p1 16) → va_P (dC, dI) vwCl [(h0, .inr (10, [.ref q1, .int b1, .int 0, .int 0])), (q1, .inl (cy1, 240, .inl g))] H → va_D A [(h0, .inr (10, [.ref q1, .int b1, .int 0, .int 0])), (q1, .inl (cy1, 240, .inl g))] → va_S A s.heap H locs → lv_has ls 4 [(3, .int f_6), (2, .int 16), (0, .ref h0), (1, .int p1)] → W p l e (headSpec w_c_append ({ frames := 0, cells := 0, slots := 0, locals := 0 })).room s m #[.ref h0, .int p1] below meth c H locs 0 0 (MQ below (va_Qv (fun (_ : Unit) => True) (fun _ t => ∃ (g : Nat → Int32), va_P (dC, dI) vwCl [(h0, .inr (10, [.ref q1, .int (nI (n + fbN p1)), .int 0, .int 0])), (q1, .inl (cy1, 240, .inl g))] t.heap ∧ va_K (dC, dI) vwCl [] t ∧ va_D A [(h0, .inr (10, [.ref q1, .int (nI (n + fbN p1)), .int 0, .int 0])), (q1, .inl (cy1, 240, .inl g))]) A) #[.ref h0, .int p1] s 0 0 A) (F0 m 49 ls []) := by
      intro b1 g H locs ls eb hP hD hS hl
      subst eb
      refine lv_iinc (v := 8) (lv' := [(2, .int 8), (3, .int f_6), (0, .ref h0), (1, .int p1)]) hx hb dX10_append_49 hl (k := 1) rfl (by decide +kernel) (by decide) rfl (fun ls hl => ?_)
      refine lv_goto (tgt := 3) hx hb dX10_append_52 (by decide) ?_
      refine lv_iload_n hx hb dX10_append_3 rfl (lv_at hl 0 rfl) ?_
      refine lv_if_lt (tgt := 55) hx hb dX10_append_4 (by decide) (fun c_7 => absurd c_7 (by decide +kernel)) (fun c_7 => ?_)
      refine lv_iload_n hx hb dX10_append_7 rfl (lv_at hl 3 rfl) ?_
      refine lv_iload_n hx hb dX10_append_8 rfl (lv_at hl 0 rfl) ?_
      obtain ⟨y_8, ey_8⟩ : ∃ y : Int32, y = (p1.toUInt32 >>> ((8 : Int32).toUInt32 &&& Int32.toUInt32 31)).toInt32 := ⟨_, rfl⟩
      refine lv_iushr (v := y_8) hx hb dX10_append_9 ey_8.symm ?_
      refine lv_sipush (v := 255) hx hb dX10_append_10 (by decide +kernel) ?_
      refine lv_iand hx hb dX10_append_13 ?_
      refine lv_topi (fun f_9 ef_9 => ?_)
      refine lv_istore_n (lv' := [(3, .int f_9), (2, .int 8), (0, .ref h0), (1, .int p1)]) hx hb dX10_append_14 rfl hl (by decide) rfl (fun ls hl => ?_)
      refine lv_iload_n hx hb dX10_append_15 rfl (lv_at hl 0 rfl) ?_
      have nxt2 : ∀ (b2 : Int32) (g : Nat → Int32) (H : Heap) (locs : List Loc) (ls : Array Slot), b2 = nI (n + btN p1 24 + btN p1 16 + btN p1 8) → va_P (dC, dI) vwCl [(h0, .inr (10, [.ref q1, .int b2, .int 0, .int 0])), (q1, .inl (cy1, 240, .inl g))] H → va_D A [(h0, .inr (10, [.ref q1, .int b2, .int 0, .int 0])), (q1, .inl (cy1, 240, .inl g))] → va_S A s.heap H locs → lv_has ls 4 [(3, .int f_9), (2, .int 8), (0, .ref h0), (1, .int p1)] → W p l e (headSpec w_c_append ({ frames := 0, cells := 0, slots := 0, locals := 0 })).room s m #[.ref h0, .int p1] below meth c H locs 0 0 (MQ below (va_Qv (fun (_ : Unit) => True) (fun _ t => ∃ (g : Nat → Int32), va_P (dC, dI) vwCl [(h0, .inr (10, [.ref q1, .int (nI (n + fbN p1)), .int 0, .int 0])), (q1, .inl (cy1, 240, .inl g))] t.heap ∧ va_K (dC, dI) vwCl [] t ∧ va_D A [(h0, .inr (10, [.ref q1, .int (nI (n + fbN p1)), .int 0, .int 0])), (q1, .inl (cy1, 240, .inl g))]) A) #[.ref h0, .int p1] s 0 0 A) (F0 m 49 ls []) := by
        intro b2 g H locs ls eb hP hD hS hl
        subst eb
        refine lv_iinc (v := 0) (lv' := [(2, .int 0), (3, .int f_9), (0, .ref h0), (1, .int p1)]) hx hb dX10_append_49 hl (k := 1) rfl (by decide +kernel) (by decide) rfl (fun ls hl => ?_)
        refine lv_goto (tgt := 3) hx hb dX10_append_52 (by decide) ?_
        refine lv_iload_n hx hb dX10_append_3 rfl (lv_at hl 0 rfl) ?_
        refine lv_if_lt (tgt := 55) hx hb dX10_append_4 (by decide) (fun c_10 => absurd c_10 (by decide +kernel)) (fun c_10 => ?_)
        refine lv_iload_n hx hb dX10_append_7 rfl (lv_at hl 3 rfl) ?_
        refine lv_iload_n hx hb dX10_append_8 rfl (lv_at hl 0 rfl) ?_
        obtain ⟨y_11, ey_11⟩ : ∃ y : Int32, y = (p1.toUInt32 >>> ((0 : Int32).toUInt32 &&& Int32.toUInt32 31)).toInt32 := ⟨_, rfl⟩
        refine lv_iushr (v := y_11) hx hb dX10_append_9 ey_11.symm ?_
        refine lv_sipush (v := 255) hx hb dX10_append_10 (by decide +kernel) ?_
        refine lv_iand hx hb dX10_append_13 ?_
        refine lv_topi (fun f_12 ef_12 => ?_)
        refine lv_istore_n (lv' := [(3, .int f_12), (2, .int 0), (0, .ref h0), (1, .int p1)]) hx hb dX10_append_14 rfl hl (by decide) rfl (fun ls hl => ?_)
        refine lv_iload_n hx hb dX10_append_15 rfl (lv_at hl 0 rfl) ?_
        have nxt3 : ∀ (b3 : Int32) (g : Nat → Int32) (H : Heap) (locs : List Loc) (ls : Array Slot), b3 = nI (n + btN p1 24 + btN p1 16 + btN p1 8 + btN p1 0) → va_P (dC, dI) vwCl [(h0, .inr (10, [.ref q1, .int b3, .int 0, .int 0])), (q1, .inl (cy1, 240, .inl g))] H → va_D A [(h0, .inr (10, [.ref q1, .int b3, .int 0, .int 0])), (q1, .inl (cy1, 240, .inl g))] → va_S A s.heap H locs → lv_has ls 4 [(3, .int f_12), (2, .int 0), (0, .ref h0), (1, .int p1)] → W p l e (headSpec w_c_append ({ frames := 0, cells := 0, slots := 0, locals := 0 })).room s m #[.ref h0, .int p1] below meth c H locs 0 0 (MQ below (va_Qv (fun (_ : Unit) => True) (fun _ t => ∃ (g : Nat → Int32), va_P (dC, dI) vwCl [(h0, .inr (10, [.ref q1, .int (nI (n + fbN p1)), .int 0, .int 0])), (q1, .inl (cy1, 240, .inl g))] t.heap ∧ va_K (dC, dI) vwCl [] t ∧ va_D A [(h0, .inr (10, [.ref q1, .int (nI (n + fbN p1)), .int 0, .int 0])), (q1, .inl (cy1, 240, .inl g))]) A) #[.ref h0, .int p1] s 0 0 A) (F0 m 49 ls []) := by
          intro b3 g H locs ls eb hP hD hS hl
          subst eb
          refine lv_iinc (v := (-8)) (lv' := [(2, .int (-8)), (3, .int f_12), (0, .ref h0), (1, .int p1)]) hx hb dX10_append_49 hl (k := 1) rfl (by decide +kernel) (by decide) rfl (fun ls hl => ?_)
          refine lv_goto (tgt := 3) hx hb dX10_append_52 (by decide) ?_
          refine lv_iload_n hx hb dX10_append_3 rfl (lv_at hl 0 rfl) ?_
          refine lv_if_lt (tgt := 55) hx hb dX10_append_4 (by decide) (fun c_13 => ?_) (fun c_13 => absurd (by decide +kernel) c_13)
          have eN : nI (n + btN p1 24 + btN p1 16 + btN p1 8 + btN p1 0) = nI (n + fbN p1) := congrArg nI (by unfold fbN; omega)
          rw [eN] at hP hD
          refine W.widen (k := 0) (n := 0) (Nat.le_of_ble_eq_true rfl) (Nat.le_of_ble_eq_true rfl) ?_
          have hP9 := hP.sub (ws' := [(h0, .inr (10, [.ref q1, .int (nI (n + fbN p1)), .int 0, .int 0])), (q1, .inl (cy1, 240, .inl g))]) [0, 1] rfl
          have hD9 := hD.sub (ws' := [(h0, .inr (10, [.ref q1, .int (nI (n + fbN p1)), .int 0, .int 0])), (q1, .inl (cy1, 240, .inl g))]) [0, 1] (by decide) rfl
          have hK9 := hK.sub (tys' := []) [] rfl
          exact W.vret hx hb hr (fun t ht hW => ⟨⟨(), rfl, trivial, g, by rw [ht]; exact hP9, va_K.moved hW.alike hK9, hD9⟩, hS.F ht⟩) hS.2.2 dX10_append_55
        refine lv_if_eq (tgt := 49) hx hb dX10_append_16 (by decide) (fun c_14 => ?_) (fun c_14 => ?_)
        · exact nxt3 (nI (n + btN p1 24 + btN p1 16 + btN p1 8)) _ _ _ _ (by first | (rw [show btN p1 0 = 0 from (if_pos (show (p1.toUInt32 >>> ((0 : Int32).toUInt32 &&& Int32.toUInt32 31)).toInt32 &&& 255 = 0 by rw [← ey_11, ← ef_12]; exact c_14))]; done) | (rw [show btN p1 0 = 0 from (if_pos (show (p1.toUInt32 >>> ((0 : Int32).toUInt32 &&& Int32.toUInt32 31)).toInt32 &&& 255 = 0 by rw [← ey_11, ← ef_12]; exact c_14))]; rfl)) hP hD hS (lv_sub hl [0, 1, 2, 3] rfl)
        · refine lv_aload_n hx hb dX10_append_19 rfl (lv_at hl 2 rfl) ?_
          refine va_get (D := (dC, dI)) (ci := 10) (v := .int (nI (n + btN p1 24 + btN p1 16 + btN p1 8))) (C := RX10) (T := TX10) (N := 4) hx hb hts in_c_append_X10 hown hK hP 0 rfl rfl 1 (by decide) (hts (.fieldLink RX10 15 "LawnAhead$Tape" "length" "I") (List.mem_of_getElem? (i := 1) rfl)) (fun _ h9 => h9) rfl dX10_append_20 ?_
          refine lv_sipush (v := 240) hx hb dX10_append_23 (by decide +kernel) ?_
          refine lv_icmp_ge (tgt := 49) hx hb dX10_append_26 (by decide) (fun c_15 => absurd c_15 (nI_ge (a := ((n + btN p1 24 + btN p1 16 + btN p1 8))) (b := 240) (by have := btN_le p1 24; have := btN_le p1 16; have := btN_le p1 8; omega) (by decide))) (fun c_15 => ?_)
          refine lv_aload_n hx hb dX10_append_29 rfl (lv_at hl 2 rfl) ?_
          refine va_get (D := (dC, dI)) (ci := 10) (v := .ref q1) (C := RX10) (T := TX10) (N := 4) hx hb hts in_c_append_X10 hown hK hP 0 rfl rfl 0 (by decide) (hts (.fieldLink RX10 11 "LawnAhead$Tape" "bytes" "[I") (List.mem_of_getElem? (i := 2) rfl)) (fun _ h9 => h9) rfl dX10_append_30 ?_
          refine lv_aload_n hx hb dX10_append_33 rfl (lv_at hl 2 rfl) ?_
          refine va_get (D := (dC, dI)) (ci := 10) (v := .int (nI (n + btN p1 24 + btN p1 16 + btN p1 8))) (C := RX10) (T := TX10) (N := 4) hx hb hts in_c_append_X10 hown hK hP 0 rfl rfl 1 (by decide) (hts (.fieldLink RX10 15 "LawnAhead$Tape" "length" "I") (List.mem_of_getElem? (i := 1) rfl)) (fun _ h9 => h9) rfl dX10_append_34 ?_
          refine lv_iload_n hx hb dX10_append_37 rfl (lv_at hl 0 rfl) ?_
          refine va_iast (D := (dC, dI)) (i := (nI (n + btN p1 24 + btN p1 16 + btN p1 8))) (x := f_12) hx hb hK hP hD hS 1 0 rfl rfl (nI_in (by have := btN_le p1 24; have := btN_le p1 16; have := btN_le p1 8; omega) (by decide)) dX10_append_38 (fun H locs hP hD hS => ?_)
          have hP : va_P (dC, dI) vwCl [(h0, .inr (10, [.ref q1, .int (nI (n + btN p1 24 + btN p1 16 + btN p1 8)), .int 0, .int 0])), (q1, .inl (cy1, 240, .inl ((upd g ((nI (n + btN p1 24 + btN p1 16 + btN p1 8)) : Int32).toNatClampNeg f_12))))] H := hP
          have hD : va_D A [(h0, .inr (10, [.ref q1, .int (nI (n + btN p1 24 + btN p1 16 + btN p1 8)), .int 0, .int 0])), (q1, .inl (cy1, 240, .inl ((upd g ((nI (n + btN p1 24 + btN p1 16 + btN p1 8)) : Int32).toNatClampNeg f_12))))] := hD
          generalize (upd g ((nI (n + btN p1 24 + btN p1 16 + btN p1 8)) : Int32).toNatClampNeg f_12) = g_16 at hP hD
          refine lv_aload_n hx hb dX10_append_39 rfl (lv_at hl 2 rfl) ?_
          refine lv_dup hx hb dX10_append_40 rfl ?_
          refine va_get (D := (dC, dI)) (ci := 10) (v := .int (nI (n + btN p1 24 + btN p1 16 + btN p1 8))) (C := RX10) (T := TX10) (N := 4) hx hb hts in_c_append_X10 hown hK hP 0 rfl rfl 1 (by decide) (hts (.fieldLink RX10 15 "LawnAhead$Tape" "length" "I") (List.mem_of_getElem? (i := 1) rfl)) (fun _ h9 => h9) rfl dX10_append_41 ?_
          refine lv_iconst (v := 1) hx hb dX10_append_44 (by decide +kernel) ?_
          refine lv_iadd hx hb dX10_append_45 ?_
          refine lv_topi (fun f_17 ef_17 => ?_)
          obtain rfl : f_17 = nI ((n + btN p1 24 + btN p1 16 + btN p1 8) + 1) := ef_17.trans (nI_add (n + btN p1 24 + btN p1 16 + btN p1 8) 1)
          refine va_put (D := (dC, dI)) (ci := 10) (v := .int (nI ((n + btN p1 24 + btN p1 16 + btN p1 8) + 1))) (ty := .int) (C := RX10) (T := TX10) (N := 4) hx hb hts in_c_append_X10 tyX10 tyX10_ok nmX10 hown hK hP hD hS 0 rfl rfl 1 (by decide) (hts (.fieldLink RX10 15 "LawnAhead$Tape" "length" "I") (List.mem_of_getElem? (i := 1) rfl)) (fun _ h9 => h9) rfl (by decide +kernel) rfl rfl (Nat.le_of_ble_eq_true rfl) dX10_append_46 (fun H locs hP hD hS => ?_)
          have hP : va_P (dC, dI) vwCl [(h0, .inr (10, [.ref q1, .int (nI ((n + btN p1 24 + btN p1 16 + btN p1 8) + 1)), .int 0, .int 0])), (q1, .inl (cy1, 240, .inl g_16))] H := hP
          have hD : va_D A [(h0, .inr (10, [.ref q1, .int (nI ((n + btN p1 24 + btN p1 16 + btN p1 8) + 1)), .int 0, .int 0])), (q1, .inl (cy1, 240, .inl g_16))] := hD
          exact nxt3 (nI ((n + btN p1 24 + btN p1 16 + btN p1 8) + 1)) _ _ _ _ (by first | (rw [show btN p1 0 = 1 from (if_neg (show ¬ (p1.toUInt32 >>> ((0 : Int32).toUInt32 &&& Int32.toUInt32 31)).toInt32 &&& 255 = 0 from fun zz => c_14 (by rw [ef_12, ey_11]; exact zz)))]; done) | (rw [show btN p1 0 = 1 from (if_neg (show ¬ (p1.toUInt32 >>> ((0 : Int32).toUInt32 &&& Int32.toUInt32 31)).toInt32 &&& 255 = 0 from fun zz => c_14 (by rw [ef_12, ey_11]; exact zz)))]; rfl)) hP hD hS (lv_sub hl [0, 1, 2, 3] rfl)
      refine lv_if_eq (tgt := 49) hx hb dX10_append_16 (by decide) (fun c_18 => ?_) (fun c_18 => ?_)
      · exact nxt2 (nI (n + btN p1 24 + btN p1 16)) _ _ _ _ (by first | (rw [show btN p1 8 = 0 from (if_pos (show (p1.toUInt32 >>> ((8 : Int32).toUInt32 &&& Int32.toUInt32 31)).toInt32 &&& 255 = 0 by rw [← ey_8, ← ef_9]; exact c_18))]; done) | (rw [show btN p1 8 = 0 from (if_pos (show (p1.toUInt32 >>> ((8 : Int32).toUInt32 &&& Int32.toUInt32 31)).toInt32 &&& 255 = 0 by rw [← ey_8, ← ef_9]; exact c_18))]; rfl)) hP hD hS (lv_sub hl [0, 1, 2, 3] rfl)
      · refine lv_aload_n hx hb dX10_append_19 rfl (lv_at hl 2 rfl) ?_
        refine va_get (D := (dC, dI)) (ci := 10) (v := .int (nI (n + btN p1 24 + btN p1 16))) (C := RX10) (T := TX10) (N := 4) hx hb hts in_c_append_X10 hown hK hP 0 rfl rfl 1 (by decide) (hts (.fieldLink RX10 15 "LawnAhead$Tape" "length" "I") (List.mem_of_getElem? (i := 1) rfl)) (fun _ h9 => h9) rfl dX10_append_20 ?_
        refine lv_sipush (v := 240) hx hb dX10_append_23 (by decide +kernel) ?_
        refine lv_icmp_ge (tgt := 49) hx hb dX10_append_26 (by decide) (fun c_19 => absurd c_19 (nI_ge (a := ((n + btN p1 24 + btN p1 16))) (b := 240) (by have := btN_le p1 24; have := btN_le p1 16; have := btN_le p1 8; omega) (by decide))) (fun c_19 => ?_)
        refine lv_aload_n hx hb dX10_append_29 rfl (lv_at hl 2 rfl) ?_
        refine va_get (D := (dC, dI)) (ci := 10) (v := .ref q1) (C := RX10) (T := TX10) (N := 4) hx hb hts in_c_append_X10 hown hK hP 0 rfl rfl 0 (by decide) (hts (.fieldLink RX10 11 "LawnAhead$Tape" "bytes" "[I") (List.mem_of_getElem? (i := 2) rfl)) (fun _ h9 => h9) rfl dX10_append_30 ?_
        refine lv_aload_n hx hb dX10_append_33 rfl (lv_at hl 2 rfl) ?_
        refine va_get (D := (dC, dI)) (ci := 10) (v := .int (nI (n + btN p1 24 + btN p1 16))) (C := RX10) (T := TX10) (N := 4) hx hb hts in_c_append_X10 hown hK hP 0 rfl rfl 1 (by decide) (hts (.fieldLink RX10 15 "LawnAhead$Tape" "length" "I") (List.mem_of_getElem? (i := 1) rfl)) (fun _ h9 => h9) rfl dX10_append_34 ?_
        refine lv_iload_n hx hb dX10_append_37 rfl (lv_at hl 0 rfl) ?_
        refine va_iast (D := (dC, dI)) (i := (nI (n + btN p1 24 + btN p1 16))) (x := f_9) hx hb hK hP hD hS 1 0 rfl rfl (nI_in (by have := btN_le p1 24; have := btN_le p1 16; have := btN_le p1 8; omega) (by decide)) dX10_append_38 (fun H locs hP hD hS => ?_)
        have hP : va_P (dC, dI) vwCl [(h0, .inr (10, [.ref q1, .int (nI (n + btN p1 24 + btN p1 16)), .int 0, .int 0])), (q1, .inl (cy1, 240, .inl ((upd g ((nI (n + btN p1 24 + btN p1 16)) : Int32).toNatClampNeg f_9))))] H := hP
        have hD : va_D A [(h0, .inr (10, [.ref q1, .int (nI (n + btN p1 24 + btN p1 16)), .int 0, .int 0])), (q1, .inl (cy1, 240, .inl ((upd g ((nI (n + btN p1 24 + btN p1 16)) : Int32).toNatClampNeg f_9))))] := hD
        generalize (upd g ((nI (n + btN p1 24 + btN p1 16)) : Int32).toNatClampNeg f_9) = g_20 at hP hD
        refine lv_aload_n hx hb dX10_append_39 rfl (lv_at hl 2 rfl) ?_
        refine lv_dup hx hb dX10_append_40 rfl ?_
        refine va_get (D := (dC, dI)) (ci := 10) (v := .int (nI (n + btN p1 24 + btN p1 16))) (C := RX10) (T := TX10) (N := 4) hx hb hts in_c_append_X10 hown hK hP 0 rfl rfl 1 (by decide) (hts (.fieldLink RX10 15 "LawnAhead$Tape" "length" "I") (List.mem_of_getElem? (i := 1) rfl)) (fun _ h9 => h9) rfl dX10_append_41 ?_
        refine lv_iconst (v := 1) hx hb dX10_append_44 (by decide +kernel) ?_
        refine lv_iadd hx hb dX10_append_45 ?_
        refine lv_topi (fun f_21 ef_21 => ?_)
        obtain rfl : f_21 = nI ((n + btN p1 24 + btN p1 16) + 1) := ef_21.trans (nI_add (n + btN p1 24 + btN p1 16) 1)
        refine va_put (D := (dC, dI)) (ci := 10) (v := .int (nI ((n + btN p1 24 + btN p1 16) + 1))) (ty := .int) (C := RX10) (T := TX10) (N := 4) hx hb hts in_c_append_X10 tyX10 tyX10_ok nmX10 hown hK hP hD hS 0 rfl rfl 1 (by decide) (hts (.fieldLink RX10 15 "LawnAhead$Tape" "length" "I") (List.mem_of_getElem? (i := 1) rfl)) (fun _ h9 => h9) rfl (by decide +kernel) rfl rfl (Nat.le_of_ble_eq_true rfl) dX10_append_46 (fun H locs hP hD hS => ?_)
        have hP : va_P (dC, dI) vwCl [(h0, .inr (10, [.ref q1, .int (nI ((n + btN p1 24 + btN p1 16) + 1)), .int 0, .int 0])), (q1, .inl (cy1, 240, .inl g_20))] H := hP
        have hD : va_D A [(h0, .inr (10, [.ref q1, .int (nI ((n + btN p1 24 + btN p1 16) + 1)), .int 0, .int 0])), (q1, .inl (cy1, 240, .inl g_20))] := hD
        exact nxt2 (nI ((n + btN p1 24 + btN p1 16) + 1)) _ _ _ _ (by first | (rw [show btN p1 8 = 1 from (if_neg (show ¬ (p1.toUInt32 >>> ((8 : Int32).toUInt32 &&& Int32.toUInt32 31)).toInt32 &&& 255 = 0 from fun zz => c_18 (by rw [ef_9, ey_8]; exact zz)))]; done) | (rw [show btN p1 8 = 1 from (if_neg (show ¬ (p1.toUInt32 >>> ((8 : Int32).toUInt32 &&& Int32.toUInt32 31)).toInt32 &&& 255 = 0 from fun zz => c_18 (by rw [ef_9, ey_8]; exact zz)))]; rfl)) hP hD hS (lv_sub hl [0, 1, 2, 3] rfl)
    refine lv_if_eq (tgt := 49) hx hb dX10_append_16 (by decide) (fun c_22 => ?_) (fun c_22 => ?_)
    · exact nxt1 (nI (n + btN p1 24)) _ _ _ _ (by first | (rw [show btN p1 16 = 0 from (if_pos (show (p1.toUInt32 >>> ((16 : Int32).toUInt32 &&& Int32.toUInt32 31)).toInt32 &&& 255 = 0 by rw [← ey_5, ← ef_6]; exact c_22))]; done) | (rw [show btN p1 16 = 0 from (if_pos (show (p1.toUInt32 >>> ((16 : Int32).toUInt32 &&& Int32.toUInt32 31)).toInt32 &&& 255 = 0 by rw [← ey_5, ← ef_6]; exact c_22))]; rfl)) hP hD hS (lv_sub hl [0, 1, 2, 3] rfl)
    · refine lv_aload_n hx hb dX10_append_19 rfl (lv_at hl 2 rfl) ?_
      refine va_get (D := (dC, dI)) (ci := 10) (v := .int (nI (n + btN p1 24))) (C := RX10) (T := TX10) (N := 4) hx hb hts in_c_append_X10 hown hK hP 0 rfl rfl 1 (by decide) (hts (.fieldLink RX10 15 "LawnAhead$Tape" "length" "I") (List.mem_of_getElem? (i := 1) rfl)) (fun _ h9 => h9) rfl dX10_append_20 ?_
      refine lv_sipush (v := 240) hx hb dX10_append_23 (by decide +kernel) ?_
      refine lv_icmp_ge (tgt := 49) hx hb dX10_append_26 (by decide) (fun c_23 => absurd c_23 (nI_ge (a := ((n + btN p1 24))) (b := 240) (by have := btN_le p1 24; have := btN_le p1 16; have := btN_le p1 8; omega) (by decide))) (fun c_23 => ?_)
      refine lv_aload_n hx hb dX10_append_29 rfl (lv_at hl 2 rfl) ?_
      refine va_get (D := (dC, dI)) (ci := 10) (v := .ref q1) (C := RX10) (T := TX10) (N := 4) hx hb hts in_c_append_X10 hown hK hP 0 rfl rfl 0 (by decide) (hts (.fieldLink RX10 11 "LawnAhead$Tape" "bytes" "[I") (List.mem_of_getElem? (i := 2) rfl)) (fun _ h9 => h9) rfl dX10_append_30 ?_
      refine lv_aload_n hx hb dX10_append_33 rfl (lv_at hl 2 rfl) ?_
      refine va_get (D := (dC, dI)) (ci := 10) (v := .int (nI (n + btN p1 24))) (C := RX10) (T := TX10) (N := 4) hx hb hts in_c_append_X10 hown hK hP 0 rfl rfl 1 (by decide) (hts (.fieldLink RX10 15 "LawnAhead$Tape" "length" "I") (List.mem_of_getElem? (i := 1) rfl)) (fun _ h9 => h9) rfl dX10_append_34 ?_
      refine lv_iload_n hx hb dX10_append_37 rfl (lv_at hl 0 rfl) ?_
      refine va_iast (D := (dC, dI)) (i := (nI (n + btN p1 24))) (x := f_6) hx hb hK hP hD hS 1 0 rfl rfl (nI_in (by have := btN_le p1 24; have := btN_le p1 16; have := btN_le p1 8; omega) (by decide)) dX10_append_38 (fun H locs hP hD hS => ?_)
      have hP : va_P (dC, dI) vwCl [(h0, .inr (10, [.ref q1, .int (nI (n + btN p1 24)), .int 0, .int 0])), (q1, .inl (cy1, 240, .inl ((upd g ((nI (n + btN p1 24)) : Int32).toNatClampNeg f_6))))] H := hP
      have hD : va_D A [(h0, .inr (10, [.ref q1, .int (nI (n + btN p1 24)), .int 0, .int 0])), (q1, .inl (cy1, 240, .inl ((upd g ((nI (n + btN p1 24)) : Int32).toNatClampNeg f_6))))] := hD
      generalize (upd g ((nI (n + btN p1 24)) : Int32).toNatClampNeg f_6) = g_24 at hP hD
      refine lv_aload_n hx hb dX10_append_39 rfl (lv_at hl 2 rfl) ?_
      refine lv_dup hx hb dX10_append_40 rfl ?_
      refine va_get (D := (dC, dI)) (ci := 10) (v := .int (nI (n + btN p1 24))) (C := RX10) (T := TX10) (N := 4) hx hb hts in_c_append_X10 hown hK hP 0 rfl rfl 1 (by decide) (hts (.fieldLink RX10 15 "LawnAhead$Tape" "length" "I") (List.mem_of_getElem? (i := 1) rfl)) (fun _ h9 => h9) rfl dX10_append_41 ?_
      refine lv_iconst (v := 1) hx hb dX10_append_44 (by decide +kernel) ?_
      refine lv_iadd hx hb dX10_append_45 ?_
      refine lv_topi (fun f_25 ef_25 => ?_)
      obtain rfl : f_25 = nI ((n + btN p1 24) + 1) := ef_25.trans (nI_add (n + btN p1 24) 1)
      refine va_put (D := (dC, dI)) (ci := 10) (v := .int (nI ((n + btN p1 24) + 1))) (ty := .int) (C := RX10) (T := TX10) (N := 4) hx hb hts in_c_append_X10 tyX10 tyX10_ok nmX10 hown hK hP hD hS 0 rfl rfl 1 (by decide) (hts (.fieldLink RX10 15 "LawnAhead$Tape" "length" "I") (List.mem_of_getElem? (i := 1) rfl)) (fun _ h9 => h9) rfl (by decide +kernel) rfl rfl (Nat.le_of_ble_eq_true rfl) dX10_append_46 (fun H locs hP hD hS => ?_)
      have hP : va_P (dC, dI) vwCl [(h0, .inr (10, [.ref q1, .int (nI ((n + btN p1 24) + 1)), .int 0, .int 0])), (q1, .inl (cy1, 240, .inl g_24))] H := hP
      have hD : va_D A [(h0, .inr (10, [.ref q1, .int (nI ((n + btN p1 24) + 1)), .int 0, .int 0])), (q1, .inl (cy1, 240, .inl g_24))] := hD
      exact nxt1 (nI ((n + btN p1 24) + 1)) _ _ _ _ (by first | (rw [show btN p1 16 = 1 from (if_neg (show ¬ (p1.toUInt32 >>> ((16 : Int32).toUInt32 &&& Int32.toUInt32 31)).toInt32 &&& 255 = 0 from fun zz => c_22 (by rw [ef_6, ey_5]; exact zz)))]; done) | (rw [show btN p1 16 = 1 from (if_neg (show ¬ (p1.toUInt32 >>> ((16 : Int32).toUInt32 &&& Int32.toUInt32 31)).toInt32 &&& 255 = 0 from fun zz => c_22 (by rw [ef_6, ey_5]; exact zz)))]; rfl)) hP hD hS (lv_sub hl [0, 1, 2, 3] rfl)
  refine lv_if_eq (tgt := 49) hx hb dX10_append_16 (by decide) (fun c_26 => ?_) (fun c_26 => ?_)
  · exact nxt0 (nI n) _ _ _ _ (by first | (rw [show btN p1 24 = 0 from (if_pos (show (p1.toUInt32 >>> ((24 : Int32).toUInt32 &&& Int32.toUInt32 31)).toInt32 &&& 255 = 0 by rw [← ey_2, ← ef_3]; exact c_26))]; done) | (rw [show btN p1 24 = 0 from (if_pos (show (p1.toUInt32 >>> ((24 : Int32).toUInt32 &&& Int32.toUInt32 31)).toInt32 &&& 255 = 0 by rw [← ey_2, ← ef_3]; exact c_26))]; rfl)) hP hD hS (lv_sub hl [0, 1, 2, 3] rfl)
  · refine lv_aload_n hx hb dX10_append_19 rfl (lv_at hl 2 rfl) ?_
    refine va_get (D := (dC, dI)) (ci := 10) (v := .int (nI n)) (C := RX10) (T := TX10) (N := 4) hx hb hts in_c_append_X10 hown hK hP 0 rfl rfl 1 (by decide) (hts (.fieldLink RX10 15 "LawnAhead$Tape" "length" "I") (List.mem_of_getElem? (i := 1) rfl)) (fun _ h9 => h9) rfl dX10_append_20 ?_
    refine lv_sipush (v := 240) hx hb dX10_append_23 (by decide +kernel) ?_
    refine lv_icmp_ge (tgt := 49) hx hb dX10_append_26 (by decide) (fun c_27 => absurd c_27 (nI_ge (a := n) (b := 240) (by have := btN_le p1 24; have := btN_le p1 16; have := btN_le p1 8; omega) (by decide))) (fun c_27 => ?_)
    refine lv_aload_n hx hb dX10_append_29 rfl (lv_at hl 2 rfl) ?_
    refine va_get (D := (dC, dI)) (ci := 10) (v := .ref q1) (C := RX10) (T := TX10) (N := 4) hx hb hts in_c_append_X10 hown hK hP 0 rfl rfl 0 (by decide) (hts (.fieldLink RX10 11 "LawnAhead$Tape" "bytes" "[I") (List.mem_of_getElem? (i := 2) rfl)) (fun _ h9 => h9) rfl dX10_append_30 ?_
    refine lv_aload_n hx hb dX10_append_33 rfl (lv_at hl 2 rfl) ?_
    refine va_get (D := (dC, dI)) (ci := 10) (v := .int (nI n)) (C := RX10) (T := TX10) (N := 4) hx hb hts in_c_append_X10 hown hK hP 0 rfl rfl 1 (by decide) (hts (.fieldLink RX10 15 "LawnAhead$Tape" "length" "I") (List.mem_of_getElem? (i := 1) rfl)) (fun _ h9 => h9) rfl dX10_append_34 ?_
    refine lv_iload_n hx hb dX10_append_37 rfl (lv_at hl 0 rfl) ?_
    refine va_iast (D := (dC, dI)) (i := (nI n)) (x := f_3) hx hb hK hP hD hS 1 0 rfl rfl (nI_in (by have := btN_le p1 24; have := btN_le p1 16; have := btN_le p1 8; omega) (by decide)) dX10_append_38 (fun H locs hP hD hS => ?_)
    have hP : va_P (dC, dI) vwCl [(h0, .inr (10, [.ref q1, .int (nI n), .int 0, .int 0])), (q1, .inl (cy1, 240, .inl ((upd g0 ((nI n) : Int32).toNatClampNeg f_3))))] H := hP
    have hD : va_D A [(h0, .inr (10, [.ref q1, .int (nI n), .int 0, .int 0])), (q1, .inl (cy1, 240, .inl ((upd g0 ((nI n) : Int32).toNatClampNeg f_3))))] := hD
    generalize (upd g0 ((nI n) : Int32).toNatClampNeg f_3) = g_28 at hP hD
    refine lv_aload_n hx hb dX10_append_39 rfl (lv_at hl 2 rfl) ?_
    refine lv_dup hx hb dX10_append_40 rfl ?_
    refine va_get (D := (dC, dI)) (ci := 10) (v := .int (nI n)) (C := RX10) (T := TX10) (N := 4) hx hb hts in_c_append_X10 hown hK hP 0 rfl rfl 1 (by decide) (hts (.fieldLink RX10 15 "LawnAhead$Tape" "length" "I") (List.mem_of_getElem? (i := 1) rfl)) (fun _ h9 => h9) rfl dX10_append_41 ?_
    refine lv_iconst (v := 1) hx hb dX10_append_44 (by decide +kernel) ?_
    refine lv_iadd hx hb dX10_append_45 ?_
    refine lv_topi (fun f_29 ef_29 => ?_)
    obtain rfl : f_29 = nI (n + 1) := ef_29.trans (nI_add n 1)
    refine va_put (D := (dC, dI)) (ci := 10) (v := .int (nI (n + 1))) (ty := .int) (C := RX10) (T := TX10) (N := 4) hx hb hts in_c_append_X10 tyX10 tyX10_ok nmX10 hown hK hP hD hS 0 rfl rfl 1 (by decide) (hts (.fieldLink RX10 15 "LawnAhead$Tape" "length" "I") (List.mem_of_getElem? (i := 1) rfl)) (fun _ h9 => h9) rfl (by decide +kernel) rfl rfl (Nat.le_of_ble_eq_true rfl) dX10_append_46 (fun H locs hP hD hS => ?_)
    have hP : va_P (dC, dI) vwCl [(h0, .inr (10, [.ref q1, .int (nI (n + 1)), .int 0, .int 0])), (q1, .inl (cy1, 240, .inl g_28))] H := hP
    have hD : va_D A [(h0, .inr (10, [.ref q1, .int (nI (n + 1)), .int 0, .int 0])), (q1, .inl (cy1, 240, .inl g_28))] := hD
    exact nxt0 (nI (n + 1)) _ _ _ _ (by first | (rw [show btN p1 24 = 1 from (if_neg (show ¬ (p1.toUInt32 >>> ((24 : Int32).toUInt32 &&& Int32.toUInt32 31)).toInt32 &&& 255 = 0 from fun zz => c_26 (by rw [ef_3, ey_2]; exact zz)))]; done) | (rw [show btN p1 24 = 1 from (if_neg (show ¬ (p1.toUInt32 >>> ((24 : Int32).toUInt32 &&& Int32.toUInt32 31)).toInt32 &&& 255 = 0 from fun zz => c_26 (by rw [ef_3, ey_2]; exact zz)))]; rfl)) hP hD hS (lv_sub hl [0, 1, 2, 3] rfl)

def w_c_put : List Cond := .code yX12_put cX12_put 3 none :: ([.fieldLink RX12 9 "LawnAheadModel" "tape" "[B", .fieldLink RX12 107 "LawnAheadModel" "length" "I"] ++ (wsX120 ++ []))
theorem in_c_put_X12 : ∀ w ∈ wsX120, w ∈ w_c_put := fun w h => List.mem_cons_of_mem _ (List.mem_append_right _ (List.mem_append_left _ h))
set_option maxHeartbeats 8000000 in
set_option maxRecDepth 100000 in
theorem c_put (l : Launch) (dC : Nat → ClassId) (dI : Nat → Nat → Nat) (h0 : Nat) (p1 : Int32) (q_1 : Nat) (q_3 : Nat) (q_5 : Nat) (q_7 : Nat) (aY : Nat) (aT : Nat) (q_9 : Nat) (q_11 : Nat) (q_13 : Nat) (q_15 : Nat) (q_17 : Nat) (q_19 : Nat) (q_21 : Nat) (q_23 : Nat) (q_25 : Nat) (q_27 : Nat) (q_29 : Nat) (q_31 : Nat) (q_33 : Nat) (q_35 : Nat) (q_37 : Nat) (q_39 : Nat) (q_41 : Nat) (cy_2 : ClassId) (g0 : Nat → Int32) (n : Nat) (sz : Nat) (hn : n + 4 ≤ 240) : Met l yX12_put w_c_put ({ frames := 0, cells := 0, slots := 0, locals := 0 }) (va_Pc [.ref h0, .int p1] (fun U => U.heap.size = sz ∧ va_P (dC, dI) vwCl [(h0, .inr (12, [.int 0, .ref q_1, .ref q_3, .ref q_5, .ref q_7, .ref q_1, .int (nI n), .int 0, .int 0, .int 0, .int 0, .int 0, .int 0, .int 0, .int 0, .ref aY, .ref aT, .int 0, .ref q_9, .ref q_11, .ref q_13, .ref q_15, .ref q_17, .int 0, .int 0, .int 0, .int 0, .int 0, .int 0, .int 0, .int 0, .int 0, .ref q_19, .ref q_21, .int (-1), .int 0, .ref q_23, .ref q_25, .ref q_27, .int 0, .long 0, .ref q_29, .int 0, .int 0, .ref q_31, .ref q_33, .ref q_35, .int 0, .ref q_37, .ref q_39, .int 0, .ref q_41, .int 0])), (q_1, .inl (cy_2, 240, .inl g0))] U.heap ∧ va_K (dC, dI) vwCl [(cy_2, .byte)] U ∧ va_D (fun _ => True) [(h0, .inr (12, [.int 0, .ref q_1, .ref q_3, .ref q_5, .ref q_7, .ref q_1, .int (nI n), .int 0, .int 0, .int 0, .int 0, .int 0, .int 0, .int 0, .int 0, .ref aY, .ref aT, .int 0, .ref q_9, .ref q_11, .ref q_13, .ref q_15, .ref q_17, .int 0, .int 0, .int 0, .int 0, .int 0, .int 0, .int 0, .int 0, .int 0, .ref q_19, .ref q_21, .int (-1), .int 0, .ref q_23, .ref q_25, .ref q_27, .int 0, .long 0, .ref q_29, .int 0, .int 0, .ref q_31, .ref q_33, .ref q_35, .int 0, .ref q_37, .ref q_39, .int 0, .ref q_41, .int 0])), (q_1, .inl (cy_2, 240, .inl g0))])) (va_Qv (fun (_ : Unit) => True) (fun _ t => ∃ (g : Nat → Int32), va_P (dC, dI) vwCl [(h0, .inr (12, [.int 0, .ref q_1, .ref q_3, .ref q_5, .ref q_7, .ref q_1, .int (nI (n + fbN p1)), .int 0, .int 0, .int 0, .int 0, .int 0, .int 0, .int 0, .int 0, .ref aY, .ref aT, .int 0, .ref q_9, .ref q_11, .ref q_13, .ref q_15, .ref q_17, .int 0, .int 0, .int 0, .int 0, .int 0, .int 0, .int 0, .int 0, .int 0, .ref q_19, .ref q_21, .int (-1), .int 0, .ref q_23, .ref q_25, .ref q_27, .int 0, .long 0, .ref q_29, .int 0, .int 0, .ref q_31, .ref q_33, .ref q_35, .int 0, .ref q_37, .ref q_39, .int 0, .ref q_41, .int 0])), (q_1, .inl (cy_2, 240, .inl g))] t.heap ∧ va_K (dC, dI) vwCl [] t ∧ va_D (va_A [(h0, .inr (12, [.int 0, .ref q_1, .ref q_3, .ref q_5, .ref q_7, .ref q_1, .int (nI n), .int 0, .int 0, .int 0, .int 0, .int 0, .int 0, .int 0, .int 0, .ref aY, .ref aT, .int 0, .ref q_9, .ref q_11, .ref q_13, .ref q_15, .ref q_17, .int 0, .int 0, .int 0, .int 0, .int 0, .int 0, .int 0, .int 0, .int 0, .ref q_19, .ref q_21, .int (-1), .int 0, .ref q_23, .ref q_25, .ref q_27, .int 0, .long 0, .ref q_29, .int 0, .int 0, .ref q_31, .ref q_33, .ref q_35, .int 0, .ref q_37, .ref q_39, .int 0, .ref q_41, .int 0])), (q_1, .inl (cy_2, 240, .inl g0))] sz) [(h0, .inr (12, [.int 0, .ref q_1, .ref q_3, .ref q_5, .ref q_7, .ref q_1, .int (nI (n + fbN p1)), .int 0, .int 0, .int 0, .int 0, .int 0, .int 0, .int 0, .int 0, .ref aY, .ref aT, .int 0, .ref q_9, .ref q_11, .ref q_13, .ref q_15, .ref q_17, .int 0, .int 0, .int 0, .int 0, .int 0, .int 0, .int 0, .int 0, .int 0, .ref q_19, .ref q_21, .int (-1), .int 0, .ref q_23, .ref q_25, .ref q_27, .int 0, .long 0, .ref q_29, .int 0, .int 0, .ref q_31, .ref q_33, .ref q_35, .int 0, .ref q_37, .ref q_39, .int 0, .ref q_41, .int 0])), (q_1, .inl (cy_2, 240, .inl g))]) (va_A [(h0, .inr (12, [.int 0, .ref q_1, .ref q_3, .ref q_5, .ref q_7, .ref q_1, .int (nI n), .int 0, .int 0, .int 0, .int 0, .int 0, .int 0, .int 0, .int 0, .ref aY, .ref aT, .int 0, .ref q_9, .ref q_11, .ref q_13, .ref q_15, .ref q_17, .int 0, .int 0, .int 0, .int 0, .int 0, .int 0, .int 0, .int 0, .int 0, .ref q_19, .ref q_21, .int (-1), .int 0, .ref q_23, .ref q_25, .ref q_27, .int 0, .long 0, .ref q_29, .int 0, .int 0, .ref q_31, .ref q_33, .ref q_35, .int 0, .ref q_37, .ref q_39, .int 0, .ref q_41, .int 0])), (q_1, .inl (cy_2, 240, .inl g0))] sz)) 0 0 (va_A [(h0, .inr (12, [.int 0, .ref q_1, .ref q_3, .ref q_5, .ref q_7, .ref q_1, .int (nI n), .int 0, .int 0, .int 0, .int 0, .int 0, .int 0, .int 0, .int 0, .ref aY, .ref aT, .int 0, .ref q_9, .ref q_11, .ref q_13, .ref q_15, .ref q_17, .int 0, .int 0, .int 0, .int 0, .int 0, .int 0, .int 0, .int 0, .int 0, .ref q_19, .ref q_21, .int (-1), .int 0, .ref q_23, .ref q_25, .ref q_27, .int 0, .long 0, .ref q_29, .int 0, .int 0, .ref q_31, .ref q_33, .ref q_35, .int 0, .ref q_37, .ref q_39, .int 0, .ref q_41, .int 0])), (q_1, .inl (cy_2, 240, .inl g0))] sz) := by
  refine Met.ofW (cc := cX12_put) (maxL := 3) (ret := none) (by decide) rfl ?_
  intro p e s m args below meth c s₁ B hml hv
  obtain ⟨rfl, hsz, hP, hK, hD0⟩ := hv
  have hx := B.exec
  have hb := B.bytes
  have hr := B.returns
  have hts := atoms_spec (ws := w_c_put) B.pre
  have hown : s.vm.findClass RX12 = some m.cls := findClass_of_methodNamed B.named
  have hlocks := B.notSynchronized
  subst hsz
  have hD := hD0.self (sz := s.heap.size)
  generalize hAe : va_A [(h0, .inr (12, [.int 0, .ref q_1, .ref q_3, .ref q_5, .ref q_7, .ref q_1, .int (nI n), .int 0, .int 0, .int 0, .int 0, .int 0, .int 0, .int 0, .int 0, .ref aY, .ref aT, .int 0, .ref q_9, .ref q_11, .ref q_13, .ref q_15, .ref q_17, .int 0, .int 0, .int 0, .int 0, .int 0, .int 0, .int 0, .int 0, .int 0, .ref q_19, .ref q_21, .int (-1), .int 0, .ref q_23, .ref q_25, .ref q_27, .int 0, .long 0, .ref q_29, .int 0, .int 0, .ref q_31, .ref q_33, .ref q_35, .int 0, .ref q_37, .ref q_39, .int 0, .ref q_41, .int 0])), (q_1, .inl (cy_2, 240, .inl g0))] s.heap.size = A at hD ⊢
  have hA : ∀ q : Nat, s.heap.size ≤ q → A q := fun q h => by rw [← hAe]; exact Or.inr h
  have hS : va_S A s.heap s.heap [] := va_S.rf
  have hP : va_P (dC, dI) vwCl [(h0, .inr (12, [.int 0, .ref q_1, .ref q_3, .ref q_5, .ref q_7, .ref q_1, .int (nI n), .int 0, .int 0, .int 0, .int 0, .int 0, .int 0, .int 0, .int 0, .ref aY, .ref aT, .int 0, .ref q_9, .ref q_11, .ref q_13, .ref q_15, .ref q_17, .int 0, .int 0, .int 0, .int 0, .int 0, .int 0, .int 0, .int 0, .int 0, .ref q_19, .ref q_21, .int (-1), .int 0, .ref q_23, .ref q_25, .ref q_27, .int 0, .long 0, .ref q_29, .int 0, .int 0, .ref q_31, .ref q_33, .ref q_35, .int 0, .ref q_37, .ref q_39, .int 0, .ref q_41, .int 0])), (q_1, .inl (cy_2, 240, .inl g0))] s.heap := hP
  have hl := lv_entry ([.ref h0, .int p1]) (n := 3) (Nat.le_of_ble_eq_true rfl)
  rw [lg_entry_eq]
  generalize (lg_sl ([.ref h0, .int p1]) ++ List.replicate (3 - (lg_sl ([.ref h0, .int p1])).length) Slot.unset).toArray = ls at hl ⊢
  have hl : lv_has ls 3 [(0, .ref h0), (1, .int p1)] := hl
  refine lv_bipush (v := 24) hx hb dX12_put_0 (by decide +kernel) ?_
  refine lv_istore_n (lv' := [(2, .int 24), (0, .ref h0), (1, .int p1)]) hx hb dX12_put_2 rfl hl (by decide) rfl (fun ls hl => ?_)
  refine lv_iload_n hx hb dX12_put_3 rfl (lv_at hl 0 rfl) ?_
  refine lv_if_lt (tgt := 49) hx hb dX12_put_4 (by decide) (fun c_1 => absurd c_1 (by decide +kernel)) (fun c_1 => ?_)
  refine lv_iload_n hx hb dX12_put_7 rfl (lv_at hl 2 rfl) ?_
  refine lv_iload_n hx hb dX12_put_8 rfl (lv_at hl 0 rfl) ?_
  refine lv_ishr hx hb dX12_put_9 ?_
  refine lv_topi (fun f_3 ef_3 => ?_)
  refine lv_sipush (v := 255) hx hb dX12_put_10 (by decide +kernel) ?_
  refine lv_iand hx hb dX12_put_13 ?_
  refine lv_topi (fun f_4 ef_4 => ?_)
  have nxt0 : ∀ (b0 : Int32) (g : Nat → Int32) (H : Heap) (locs : List Loc) (ls : Array Slot), b0 = nI (n + btN p1 24) → va_P (dC, dI) vwCl [(h0, .inr (12, [.int 0, .ref q_1, .ref q_3, .ref q_5, .ref q_7, .ref q_1, .int b0, .int 0, .int 0, .int 0, .int 0, .int 0, .int 0, .int 0, .int 0, .ref aY, .ref aT, .int 0, .ref q_9, .ref q_11, .ref q_13, .ref q_15, .ref q_17, .int 0, .int 0, .int 0, .int 0, .int 0, .int 0, .int 0, .int 0, .int 0, .ref q_19, .ref q_21, .int (-1), .int 0, .ref q_23, .ref q_25, .ref q_27, .int 0, .long 0, .ref q_29, .int 0, .int 0, .ref q_31, .ref q_33, .ref q_35, .int 0, .ref q_37, .ref q_39, .int 0, .ref q_41, .int 0])), (q_1, .inl (cy_2, 240, .inl g))] H → va_D A [(h0, .inr (12, [.int 0, .ref q_1, .ref q_3, .ref q_5, .ref q_7, .ref q_1, .int b0, .int 0, .int 0, .int 0, .int 0, .int 0, .int 0, .int 0, .int 0, .ref aY, .ref aT, .int 0, .ref q_9, .ref q_11, .ref q_13, .ref q_15, .ref q_17, .int 0, .int 0, .int 0, .int 0, .int 0, .int 0, .int 0, .int 0, .int 0, .ref q_19, .ref q_21, .int (-1), .int 0, .ref q_23, .ref q_25, .ref q_27, .int 0, .long 0, .ref q_29, .int 0, .int 0, .ref q_31, .ref q_33, .ref q_35, .int 0, .ref q_37, .ref q_39, .int 0, .ref q_41, .int 0])), (q_1, .inl (cy_2, 240, .inl g))] → va_S A s.heap H locs → lv_has ls 3 [(2, .int 24), (0, .ref h0), (1, .int p1)] → W p l e (headSpec w_c_put ({ frames := 0, cells := 0, slots := 0, locals := 0 })).room s m #[.ref h0, .int p1] below meth c H locs 0 0 (MQ below (va_Qv (fun (_ : Unit) => True) (fun _ t => ∃ (g : Nat → Int32), va_P (dC, dI) vwCl [(h0, .inr (12, [.int 0, .ref q_1, .ref q_3, .ref q_5, .ref q_7, .ref q_1, .int (nI (n + fbN p1)), .int 0, .int 0, .int 0, .int 0, .int 0, .int 0, .int 0, .int 0, .ref aY, .ref aT, .int 0, .ref q_9, .ref q_11, .ref q_13, .ref q_15, .ref q_17, .int 0, .int 0, .int 0, .int 0, .int 0, .int 0, .int 0, .int 0, .int 0, .ref q_19, .ref q_21, .int (-1), .int 0, .ref q_23, .ref q_25, .ref q_27, .int 0, .long 0, .ref q_29, .int 0, .int 0, .ref q_31, .ref q_33, .ref q_35, .int 0, .ref q_37, .ref q_39, .int 0, .ref q_41, .int 0])), (q_1, .inl (cy_2, 240, .inl g))] t.heap ∧ va_K (dC, dI) vwCl [] t ∧ va_D A [(h0, .inr (12, [.int 0, .ref q_1, .ref q_3, .ref q_5, .ref q_7, .ref q_1, .int (nI (n + fbN p1)), .int 0, .int 0, .int 0, .int 0, .int 0, .int 0, .int 0, .int 0, .ref aY, .ref aT, .int 0, .ref q_9, .ref q_11, .ref q_13, .ref q_15, .ref q_17, .int 0, .int 0, .int 0, .int 0, .int 0, .int 0, .int 0, .int 0, .int 0, .ref q_19, .ref q_21, .int (-1), .int 0, .ref q_23, .ref q_25, .ref q_27, .int 0, .long 0, .ref q_29, .int 0, .int 0, .ref q_31, .ref q_33, .ref q_35, .int 0, .ref q_37, .ref q_39, .int 0, .ref q_41, .int 0])), (q_1, .inl (cy_2, 240, .inl g))]) A) #[.ref h0, .int p1] s 0 0 A) (F0 m 43 ls []) := by
    intro b0 g H locs ls eb hP hD hS hl
    subst eb
    refine lv_iinc (v := 16) (lv' := [(2, .int 16), (0, .ref h0), (1, .int p1)]) hx hb dX12_put_43 hl (k := 0) rfl (by decide +kernel) (by decide) rfl (fun ls hl => ?_)
    refine lv_goto (tgt := 3) hx hb dX12_put_46 (by decide) ?_
    refine lv_iload_n hx hb dX12_put_3 rfl (lv_at hl 0 rfl) ?_
    refine lv_if_lt (tgt := 49) hx hb dX12_put_4 (by decide) (fun c_5 => absurd c_5 (by decide +kernel)) (fun c_5 => ?_)
    refine lv_iload_n hx hb dX12_put_7 rfl (lv_at hl 2 rfl) ?_
    refine lv_iload_n hx hb dX12_put_8 rfl (lv_at hl 0 rfl) ?_
    refine lv_ishr hx hb dX12_put_9 ?_
    refine lv_topi (fun f_7 ef_7 => ?_)
    refine lv_sipush (v := 255) hx hb dX12_put_10 (by decide +kernel) ?_
    refine lv_iand hx hb dX12_put_13 ?_
    refine lv_topi (fun f_8 ef_8 => ?_)
    have nxt1 : ∀ (b1 : Int32) (g : Nat → Int32) (H : Heap) (locs : List Loc) (ls : Array Slot), b1 = nI (n + btN p1 24 + btN p1 16) → va_P (dC, dI) vwCl [(h0, .inr (12, [.int 0, .ref q_1, .ref q_3, .ref q_5, .ref q_7, .ref q_1, .int b1, .int 0, .int 0, .int 0, .int 0, .int 0, .int 0, .int 0, .int 0, .ref aY, .ref aT, .int 0, .ref q_9, .ref q_11, .ref q_13, .ref q_15, .ref q_17, .int 0, .int 0, .int 0, .int 0, .int 0, .int 0, .int 0, .int 0, .int 0, .ref q_19, .ref q_21, .int (-1), .int 0, .ref q_23, .ref q_25, .ref q_27, .int 0, .long 0, .ref q_29, .int 0, .int 0, .ref q_31, .ref q_33, .ref q_35, .int 0, .ref q_37, .ref q_39, .int 0, .ref q_41, .int 0])), (q_1, .inl (cy_2, 240, .inl g))] H → va_D A [(h0, .inr (12, [.int 0, .ref q_1, .ref q_3, .ref q_5, .ref q_7, .ref q_1, .int b1, .int 0, .int 0, .int 0, .int 0, .int 0, .int 0, .int 0, .int 0, .ref aY, .ref aT, .int 0, .ref q_9, .ref q_11, .ref q_13, .ref q_15, .ref q_17, .int 0, .int 0, .int 0, .int 0, .int 0, .int 0, .int 0, .int 0, .int 0, .ref q_19, .ref q_21, .int (-1), .int 0, .ref q_23, .ref q_25, .ref q_27, .int 0, .long 0, .ref q_29, .int 0, .int 0, .ref q_31, .ref q_33, .ref q_35, .int 0, .ref q_37, .ref q_39, .int 0, .ref q_41, .int 0])), (q_1, .inl (cy_2, 240, .inl g))] → va_S A s.heap H locs → lv_has ls 3 [(2, .int 16), (0, .ref h0), (1, .int p1)] → W p l e (headSpec w_c_put ({ frames := 0, cells := 0, slots := 0, locals := 0 })).room s m #[.ref h0, .int p1] below meth c H locs 0 0 (MQ below (va_Qv (fun (_ : Unit) => True) (fun _ t => ∃ (g : Nat → Int32), va_P (dC, dI) vwCl [(h0, .inr (12, [.int 0, .ref q_1, .ref q_3, .ref q_5, .ref q_7, .ref q_1, .int (nI (n + fbN p1)), .int 0, .int 0, .int 0, .int 0, .int 0, .int 0, .int 0, .int 0, .ref aY, .ref aT, .int 0, .ref q_9, .ref q_11, .ref q_13, .ref q_15, .ref q_17, .int 0, .int 0, .int 0, .int 0, .int 0, .int 0, .int 0, .int 0, .int 0, .ref q_19, .ref q_21, .int (-1), .int 0, .ref q_23, .ref q_25, .ref q_27, .int 0, .long 0, .ref q_29, .int 0, .int 0, .ref q_31, .ref q_33, .ref q_35, .int 0, .ref q_37, .ref q_39, .int 0, .ref q_41, .int 0])), (q_1, .inl (cy_2, 240, .inl g))] t.heap ∧ va_K (dC, dI) vwCl [] t ∧ va_D A [(h0, .inr (12, [.int 0, .ref q_1, .ref q_3, .ref q_5, .ref q_7, .ref q_1, .int (nI (n + fbN p1)), .int 0, .int 0, .int 0, .int 0, .int 0, .int 0, .int 0, .int 0, .ref aY, .ref aT, .int 0, .ref q_9, .ref q_11, .ref q_13, .ref q_15, .ref q_17, .int 0, .int 0, .int 0, .int 0, .int 0, .int 0, .int 0, .int 0, .int 0, .ref q_19, .ref q_21, .int (-1), .int 0, .ref q_23, .ref q_25, .ref q_27, .int 0, .long 0, .ref q_29, .int 0, .int 0, .ref q_31, .ref q_33, .ref q_35, .int 0, .ref q_37, .ref q_39, .int 0, .ref q_41, .int 0])), (q_1, .inl (cy_2, 240, .inl g))]) A) #[.ref h0, .int p1] s 0 0 A) (F0 m 43 ls []) := by
      intro b1 g H locs ls eb hP hD hS hl
      subst eb
      refine lv_iinc (v := 8) (lv' := [(2, .int 8), (0, .ref h0), (1, .int p1)]) hx hb dX12_put_43 hl (k := 0) rfl (by decide +kernel) (by decide) rfl (fun ls hl => ?_)
      refine lv_goto (tgt := 3) hx hb dX12_put_46 (by decide) ?_
      refine lv_iload_n hx hb dX12_put_3 rfl (lv_at hl 0 rfl) ?_
      refine lv_if_lt (tgt := 49) hx hb dX12_put_4 (by decide) (fun c_9 => absurd c_9 (by decide +kernel)) (fun c_9 => ?_)
      refine lv_iload_n hx hb dX12_put_7 rfl (lv_at hl 2 rfl) ?_
      refine lv_iload_n hx hb dX12_put_8 rfl (lv_at hl 0 rfl) ?_
      refine lv_ishr hx hb dX12_put_9 ?_
      refine lv_topi (fun f_11 ef_11 => ?_)
      refine lv_sipush (v := 255) hx hb dX12_put_10 (by decide +kernel) ?_
      refine lv_iand hx hb dX12_put_13 ?_
      refine lv_topi (fun f_12 ef_12 => ?_)
      have nxt2 : ∀ (b2 : Int32) (g : Nat → Int32) (H : Heap) (locs : List Loc) (ls : Array Slot), b2 = nI (n + btN p1 24 + btN p1 16 + btN p1 8) → va_P (dC, dI) vwCl [(h0, .inr (12, [.int 0, .ref q_1, .ref q_3, .ref q_5, .ref q_7, .ref q_1, .int b2, .int 0, .int 0, .int 0, .int 0, .int 0, .int 0, .int 0, .int 0, .ref aY, .ref aT, .int 0, .ref q_9, .ref q_11, .ref q_13, .ref q_15, .ref q_17, .int 0, .int 0, .int 0, .int 0, .int 0, .int 0, .int 0, .int 0, .int 0, .ref q_19, .ref q_21, .int (-1), .int 0, .ref q_23, .ref q_25, .ref q_27, .int 0, .long 0, .ref q_29, .int 0, .int 0, .ref q_31, .ref q_33, .ref q_35, .int 0, .ref q_37, .ref q_39, .int 0, .ref q_41, .int 0])), (q_1, .inl (cy_2, 240, .inl g))] H → va_D A [(h0, .inr (12, [.int 0, .ref q_1, .ref q_3, .ref q_5, .ref q_7, .ref q_1, .int b2, .int 0, .int 0, .int 0, .int 0, .int 0, .int 0, .int 0, .int 0, .ref aY, .ref aT, .int 0, .ref q_9, .ref q_11, .ref q_13, .ref q_15, .ref q_17, .int 0, .int 0, .int 0, .int 0, .int 0, .int 0, .int 0, .int 0, .int 0, .ref q_19, .ref q_21, .int (-1), .int 0, .ref q_23, .ref q_25, .ref q_27, .int 0, .long 0, .ref q_29, .int 0, .int 0, .ref q_31, .ref q_33, .ref q_35, .int 0, .ref q_37, .ref q_39, .int 0, .ref q_41, .int 0])), (q_1, .inl (cy_2, 240, .inl g))] → va_S A s.heap H locs → lv_has ls 3 [(2, .int 8), (0, .ref h0), (1, .int p1)] → W p l e (headSpec w_c_put ({ frames := 0, cells := 0, slots := 0, locals := 0 })).room s m #[.ref h0, .int p1] below meth c H locs 0 0 (MQ below (va_Qv (fun (_ : Unit) => True) (fun _ t => ∃ (g : Nat → Int32), va_P (dC, dI) vwCl [(h0, .inr (12, [.int 0, .ref q_1, .ref q_3, .ref q_5, .ref q_7, .ref q_1, .int (nI (n + fbN p1)), .int 0, .int 0, .int 0, .int 0, .int 0, .int 0, .int 0, .int 0, .ref aY, .ref aT, .int 0, .ref q_9, .ref q_11, .ref q_13, .ref q_15, .ref q_17, .int 0, .int 0, .int 0, .int 0, .int 0, .int 0, .int 0, .int 0, .int 0, .ref q_19, .ref q_21, .int (-1), .int 0, .ref q_23, .ref q_25, .ref q_27, .int 0, .long 0, .ref q_29, .int 0, .int 0, .ref q_31, .ref q_33, .ref q_35, .int 0, .ref q_37, .ref q_39, .int 0, .ref q_41, .int 0])), (q_1, .inl (cy_2, 240, .inl g))] t.heap ∧ va_K (dC, dI) vwCl [] t ∧ va_D A [(h0, .inr (12, [.int 0, .ref q_1, .ref q_3, .ref q_5, .ref q_7, .ref q_1, .int (nI (n + fbN p1)), .int 0, .int 0, .int 0, .int 0, .int 0, .int 0, .int 0, .int 0, .ref aY, .ref aT, .int 0, .ref q_9, .ref q_11, .ref q_13, .ref q_15, .ref q_17, .int 0, .int 0, .int 0, .int 0, .int 0, .int 0, .int 0, .int 0, .int 0, .ref q_19, .ref q_21, .int (-1), .int 0, .ref q_23, .ref q_25, .ref q_27, .int 0, .long 0, .ref q_29, .int 0, .int 0, .ref q_31, .ref q_33, .ref q_35, .int 0, .ref q_37, .ref q_39, .int 0, .ref q_41, .int 0])), (q_1, .inl (cy_2, 240, .inl g))]) A) #[.ref h0, .int p1] s 0 0 A) (F0 m 43 ls []) := by
        intro b2 g H locs ls eb hP hD hS hl
        subst eb
        refine lv_iinc (v := 0) (lv' := [(2, .int 0), (0, .ref h0), (1, .int p1)]) hx hb dX12_put_43 hl (k := 0) rfl (by decide +kernel) (by decide) rfl (fun ls hl => ?_)
        refine lv_goto (tgt := 3) hx hb dX12_put_46 (by decide) ?_
        refine lv_iload_n hx hb dX12_put_3 rfl (lv_at hl 0 rfl) ?_
        refine lv_if_lt (tgt := 49) hx hb dX12_put_4 (by decide) (fun c_13 => absurd c_13 (by decide +kernel)) (fun c_13 => ?_)
        refine lv_iload_n hx hb dX12_put_7 rfl (lv_at hl 2 rfl) ?_
        refine lv_iload_n hx hb dX12_put_8 rfl (lv_at hl 0 rfl) ?_
        refine lv_ishr hx hb dX12_put_9 ?_
        refine lv_topi (fun f_15 ef_15 => ?_)
        refine lv_sipush (v := 255) hx hb dX12_put_10 (by decide +kernel) ?_
        refine lv_iand hx hb dX12_put_13 ?_
        refine lv_topi (fun f_16 ef_16 => ?_)
        have nxt3 : ∀ (b3 : Int32) (g : Nat → Int32) (H : Heap) (locs : List Loc) (ls : Array Slot), b3 = nI (n + btN p1 24 + btN p1 16 + btN p1 8 + btN p1 0) → va_P (dC, dI) vwCl [(h0, .inr (12, [.int 0, .ref q_1, .ref q_3, .ref q_5, .ref q_7, .ref q_1, .int b3, .int 0, .int 0, .int 0, .int 0, .int 0, .int 0, .int 0, .int 0, .ref aY, .ref aT, .int 0, .ref q_9, .ref q_11, .ref q_13, .ref q_15, .ref q_17, .int 0, .int 0, .int 0, .int 0, .int 0, .int 0, .int 0, .int 0, .int 0, .ref q_19, .ref q_21, .int (-1), .int 0, .ref q_23, .ref q_25, .ref q_27, .int 0, .long 0, .ref q_29, .int 0, .int 0, .ref q_31, .ref q_33, .ref q_35, .int 0, .ref q_37, .ref q_39, .int 0, .ref q_41, .int 0])), (q_1, .inl (cy_2, 240, .inl g))] H → va_D A [(h0, .inr (12, [.int 0, .ref q_1, .ref q_3, .ref q_5, .ref q_7, .ref q_1, .int b3, .int 0, .int 0, .int 0, .int 0, .int 0, .int 0, .int 0, .int 0, .ref aY, .ref aT, .int 0, .ref q_9, .ref q_11, .ref q_13, .ref q_15, .ref q_17, .int 0, .int 0, .int 0, .int 0, .int 0, .int 0, .int 0, .int 0, .int 0, .ref q_19, .ref q_21, .int (-1), .int 0, .ref q_23, .ref q_25, .ref q_27, .int 0, .long 0, .ref q_29, .int 0, .int 0, .ref q_31, .ref q_33, .ref q_35, .int 0, .ref q_37, .ref q_39, .int 0, .ref q_41, .int 0])), (q_1, .inl (cy_2, 240, .inl g))] → va_S A s.heap H locs → lv_has ls 3 [(2, .int 0), (0, .ref h0), (1, .int p1)] → W p l e (headSpec w_c_put ({ frames := 0, cells := 0, slots := 0, locals := 0 })).room s m #[.ref h0, .int p1] below meth c H locs 0 0 (MQ below (va_Qv (fun (_ : Unit) => True) (fun _ t => ∃ (g : Nat → Int32), va_P (dC, dI) vwCl [(h0, .inr (12, [.int 0, .ref q_1, .ref q_3, .ref q_5, .ref q_7, .ref q_1, .int (nI (n + fbN p1)), .int 0, .int 0, .int 0, .int 0, .int 0, .int 0, .int 0, .int 0, .ref aY, .ref aT, .int 0, .ref q_9, .ref q_11, .ref q_13, .ref q_15, .ref q_17, .int 0, .int 0, .int 0, .int 0, .int 0, .int 0, .int 0, .int 0, .int 0, .ref q_19, .ref q_21, .int (-1), .int 0, .ref q_23, .ref q_25, .ref q_27, .int 0, .long 0, .ref q_29, .int 0, .int 0, .ref q_31, .ref q_33, .ref q_35, .int 0, .ref q_37, .ref q_39, .int 0, .ref q_41, .int 0])), (q_1, .inl (cy_2, 240, .inl g))] t.heap ∧ va_K (dC, dI) vwCl [] t ∧ va_D A [(h0, .inr (12, [.int 0, .ref q_1, .ref q_3, .ref q_5, .ref q_7, .ref q_1, .int (nI (n + fbN p1)), .int 0, .int 0, .int 0, .int 0, .int 0, .int 0, .int 0, .int 0, .ref aY, .ref aT, .int 0, .ref q_9, .ref q_11, .ref q_13, .ref q_15, .ref q_17, .int 0, .int 0, .int 0, .int 0, .int 0, .int 0, .int 0, .int 0, .int 0, .ref q_19, .ref q_21, .int (-1), .int 0, .ref q_23, .ref q_25, .ref q_27, .int 0, .long 0, .ref q_29, .int 0, .int 0, .ref q_31, .ref q_33, .ref q_35, .int 0, .ref q_37, .ref q_39, .int 0, .ref q_41, .int 0])), (q_1, .inl (cy_2, 240, .inl g))]) A) #[.ref h0, .int p1] s 0 0 A) (F0 m 43 ls []) := by
          intro b3 g H locs ls eb hP hD hS hl
          subst eb
          refine lv_iinc (v := (-8)) (lv' := [(2, .int (-8)), (0, .ref h0), (1, .int p1)]) hx hb dX12_put_43 hl (k := 0) rfl (by decide +kernel) (by decide) rfl (fun ls hl => ?_)
          refine lv_goto (tgt := 3) hx hb dX12_put_46 (by decide) ?_
          refine lv_iload_n hx hb dX12_put_3 rfl (lv_at hl 0 rfl) ?_
          refine lv_if_lt (tgt := 49) hx hb dX12_put_4 (by decide) (fun c_17 => ?_) (fun c_17 => absurd (by decide +kernel) c_17)
          have eN : nI (n + btN p1 24 + btN p1 16 + btN p1 8 + btN p1 0) = nI (n + fbN p1) := congrArg nI (by unfold fbN; omega)
          rw [eN] at hP hD
          refine W.widen (k := 0) (n := 0) (Nat.le_of_ble_eq_true rfl) (Nat.le_of_ble_eq_true rfl) ?_
          have hP9 := hP.sub (ws' := [(h0, .inr (12, [.int 0, .ref q_1, .ref q_3, .ref q_5, .ref q_7, .ref q_1, .int (nI (n + fbN p1)), .int 0, .int 0, .int 0, .int 0, .int 0, .int 0, .int 0, .int 0, .ref aY, .ref aT, .int 0, .ref q_9, .ref q_11, .ref q_13, .ref q_15, .ref q_17, .int 0, .int 0, .int 0, .int 0, .int 0, .int 0, .int 0, .int 0, .int 0, .ref q_19, .ref q_21, .int (-1), .int 0, .ref q_23, .ref q_25, .ref q_27, .int 0, .long 0, .ref q_29, .int 0, .int 0, .ref q_31, .ref q_33, .ref q_35, .int 0, .ref q_37, .ref q_39, .int 0, .ref q_41, .int 0])), (q_1, .inl (cy_2, 240, .inl g))]) [0, 1] rfl
          have hD9 := hD.sub (ws' := [(h0, .inr (12, [.int 0, .ref q_1, .ref q_3, .ref q_5, .ref q_7, .ref q_1, .int (nI (n + fbN p1)), .int 0, .int 0, .int 0, .int 0, .int 0, .int 0, .int 0, .int 0, .ref aY, .ref aT, .int 0, .ref q_9, .ref q_11, .ref q_13, .ref q_15, .ref q_17, .int 0, .int 0, .int 0, .int 0, .int 0, .int 0, .int 0, .int 0, .int 0, .ref q_19, .ref q_21, .int (-1), .int 0, .ref q_23, .ref q_25, .ref q_27, .int 0, .long 0, .ref q_29, .int 0, .int 0, .ref q_31, .ref q_33, .ref q_35, .int 0, .ref q_37, .ref q_39, .int 0, .ref q_41, .int 0])), (q_1, .inl (cy_2, 240, .inl g))]) [0, 1] (by decide) rfl
          have hK9 := hK.sub (tys' := []) [] rfl
          exact W.vret hx hb hr (fun t ht hW => ⟨⟨(), rfl, trivial, g, by rw [ht]; exact hP9, va_K.moved hW.alike hK9, hD9⟩, hS.F ht⟩) hS.2.2 dX12_put_49
        refine lv_if_ne (tgt := 20) hx hb dX12_put_14 (by decide) (fun c_18 => ?_) (fun c_18 => ?_)
        · refine lv_aload_n hx hb dX12_put_20 rfl (lv_at hl 1 rfl) ?_
          refine va_get (D := (dC, dI)) (ci := 12) (v := .ref q_1) (C := RX12) (T := TX12) (N := 53) hx hb hts in_c_put_X12 hown hK hP 0 rfl rfl 1 (by decide) (hts (.fieldLink RX12 9 "LawnAheadModel" "tape" "[B") (List.mem_of_getElem? (i := 1) rfl)) (fun _ h9 => h9) rfl dX12_put_21 ?_
          refine lv_aload_n hx hb dX12_put_24 rfl (lv_at hl 1 rfl) ?_
          refine va_get (D := (dC, dI)) (ci := 12) (v := .int (nI (n + btN p1 24 + btN p1 16 + btN p1 8))) (C := RX12) (T := TX12) (N := 53) hx hb hts in_c_put_X12 hown hK hP 0 rfl rfl 6 (by decide) (hts (.fieldLink RX12 107 "LawnAheadModel" "length" "I") (List.mem_of_getElem? (i := 2) rfl)) (fun _ h9 => h9) rfl dX12_put_25 ?_
          refine lv_iload_n hx hb dX12_put_28 rfl (lv_at hl 2 rfl) ?_
          refine lv_iload_n hx hb dX12_put_29 rfl (lv_at hl 0 rfl) ?_
          refine lv_ishr hx hb dX12_put_30 ?_
          refine lv_topi (fun f_20 ef_20 => ?_)
          obtain ⟨y_21, ey_21⟩ : ∃ y : Int32, y = (f_20 : Int32).toInt8.toInt32 := ⟨_, rfl⟩
          refine lv_i2b (v := y_21) hx hb dX12_put_31 ey_21.symm ?_
          refine va_bast (D := (dC, dI)) (i := (nI (n + btN p1 24 + btN p1 16 + btN p1 8))) (x := y_21) hx hb hK hP hD hS 1 0 rfl rfl (nI_in (by have := btN_le p1 24; have := btN_le p1 16; have := btN_le p1 8; omega) (by decide)) dX12_put_32 (fun H locs hP hD hS => ?_)
          have hP : va_P (dC, dI) vwCl [(h0, .inr (12, [.int 0, .ref q_1, .ref q_3, .ref q_5, .ref q_7, .ref q_1, .int (nI (n + btN p1 24 + btN p1 16 + btN p1 8)), .int 0, .int 0, .int 0, .int 0, .int 0, .int 0, .int 0, .int 0, .ref aY, .ref aT, .int 0, .ref q_9, .ref q_11, .ref q_13, .ref q_15, .ref q_17, .int 0, .int 0, .int 0, .int 0, .int 0, .int 0, .int 0, .int 0, .int 0, .ref q_19, .ref q_21, .int (-1), .int 0, .ref q_23, .ref q_25, .ref q_27, .int 0, .long 0, .ref q_29, .int 0, .int 0, .ref q_31, .ref q_33, .ref q_35, .int 0, .ref q_37, .ref q_39, .int 0, .ref q_41, .int 0])), (q_1, .inl (cy_2, 240, .inl ((upd g ((nI (n + btN p1 24 + btN p1 16 + btN p1 8)) : Int32).toNatClampNeg (vp_nar .byte y_21)))))] H := hP
          have hD : va_D A [(h0, .inr (12, [.int 0, .ref q_1, .ref q_3, .ref q_5, .ref q_7, .ref q_1, .int (nI (n + btN p1 24 + btN p1 16 + btN p1 8)), .int 0, .int 0, .int 0, .int 0, .int 0, .int 0, .int 0, .int 0, .ref aY, .ref aT, .int 0, .ref q_9, .ref q_11, .ref q_13, .ref q_15, .ref q_17, .int 0, .int 0, .int 0, .int 0, .int 0, .int 0, .int 0, .int 0, .int 0, .ref q_19, .ref q_21, .int (-1), .int 0, .ref q_23, .ref q_25, .ref q_27, .int 0, .long 0, .ref q_29, .int 0, .int 0, .ref q_31, .ref q_33, .ref q_35, .int 0, .ref q_37, .ref q_39, .int 0, .ref q_41, .int 0])), (q_1, .inl (cy_2, 240, .inl ((upd g ((nI (n + btN p1 24 + btN p1 16 + btN p1 8)) : Int32).toNatClampNeg (vp_nar .byte y_21)))))] := hD
          generalize (upd g ((nI (n + btN p1 24 + btN p1 16 + btN p1 8)) : Int32).toNatClampNeg (vp_nar .byte y_21)) = g_22 at hP hD
          refine lv_aload_n hx hb dX12_put_33 rfl (lv_at hl 1 rfl) ?_
          refine lv_dup hx hb dX12_put_34 rfl ?_
          refine va_get (D := (dC, dI)) (ci := 12) (v := .int (nI (n + btN p1 24 + btN p1 16 + btN p1 8))) (C := RX12) (T := TX12) (N := 53) hx hb hts in_c_put_X12 hown hK hP 0 rfl rfl 6 (by decide) (hts (.fieldLink RX12 107 "LawnAheadModel" "length" "I") (List.mem_of_getElem? (i := 2) rfl)) (fun _ h9 => h9) rfl dX12_put_35 ?_
          refine lv_iconst (v := 1) hx hb dX12_put_38 (by decide +kernel) ?_
          refine lv_iadd hx hb dX12_put_39 ?_
          refine lv_topi (fun f_23 ef_23 => ?_)
          obtain rfl : f_23 = nI ((n + btN p1 24 + btN p1 16 + btN p1 8) + 1) := ef_23.trans (nI_add (n + btN p1 24 + btN p1 16 + btN p1 8) 1)
          refine va_put (D := (dC, dI)) (ci := 12) (v := .int (nI ((n + btN p1 24 + btN p1 16 + btN p1 8) + 1))) (ty := .int) (C := RX12) (T := TX12) (N := 53) hx hb hts in_c_put_X12 tyX12 tyX12_ok nmX12 hown hK hP hD hS 0 rfl rfl 6 (by decide) (hts (.fieldLink RX12 107 "LawnAheadModel" "length" "I") (List.mem_of_getElem? (i := 2) rfl)) (fun _ h9 => h9) rfl (by decide +kernel) rfl rfl (Nat.le_of_ble_eq_true rfl) dX12_put_40 (fun H locs hP hD hS => ?_)
          have hP : va_P (dC, dI) vwCl [(h0, .inr (12, [.int 0, .ref q_1, .ref q_3, .ref q_5, .ref q_7, .ref q_1, .int (nI ((n + btN p1 24 + btN p1 16 + btN p1 8) + 1)), .int 0, .int 0, .int 0, .int 0, .int 0, .int 0, .int 0, .int 0, .ref aY, .ref aT, .int 0, .ref q_9, .ref q_11, .ref q_13, .ref q_15, .ref q_17, .int 0, .int 0, .int 0, .int 0, .int 0, .int 0, .int 0, .int 0, .int 0, .ref q_19, .ref q_21, .int (-1), .int 0, .ref q_23, .ref q_25, .ref q_27, .int 0, .long 0, .ref q_29, .int 0, .int 0, .ref q_31, .ref q_33, .ref q_35, .int 0, .ref q_37, .ref q_39, .int 0, .ref q_41, .int 0])), (q_1, .inl (cy_2, 240, .inl g_22))] H := hP
          have hD : va_D A [(h0, .inr (12, [.int 0, .ref q_1, .ref q_3, .ref q_5, .ref q_7, .ref q_1, .int (nI ((n + btN p1 24 + btN p1 16 + btN p1 8) + 1)), .int 0, .int 0, .int 0, .int 0, .int 0, .int 0, .int 0, .int 0, .ref aY, .ref aT, .int 0, .ref q_9, .ref q_11, .ref q_13, .ref q_15, .ref q_17, .int 0, .int 0, .int 0, .int 0, .int 0, .int 0, .int 0, .int 0, .int 0, .ref q_19, .ref q_21, .int (-1), .int 0, .ref q_23, .ref q_25, .ref q_27, .int 0, .long 0, .ref q_29, .int 0, .int 0, .ref q_31, .ref q_33, .ref q_35, .int 0, .ref q_37, .ref q_39, .int 0, .ref q_41, .int 0])), (q_1, .inl (cy_2, 240, .inl g_22))] := hD
          exact nxt3 (nI ((n + btN p1 24 + btN p1 16 + btN p1 8) + 1)) _ _ _ _ (by first | (rw [show btN p1 0 = 1 from (if_neg (show ¬ (p1.toUInt32 >>> ((0 : Int32).toUInt32 &&& Int32.toUInt32 31)).toInt32 &&& 255 = 0 from fun zz => c_18 (by rw [ef_16, ef_15, btM_0]; exact zz)))]; done) | (rw [show btN p1 0 = 1 from (if_neg (show ¬ (p1.toUInt32 >>> ((0 : Int32).toUInt32 &&& Int32.toUInt32 31)).toInt32 &&& 255 = 0 from fun zz => c_18 (by rw [ef_16, ef_15, btM_0]; exact zz)))]; rfl)) hP hD hS (lv_sub hl [0, 1, 2] rfl)
        · refine lv_goto (tgt := 43) hx hb dX12_put_17 (by decide) ?_
          exact nxt3 (nI (n + btN p1 24 + btN p1 16 + btN p1 8)) _ _ _ _ (by first | (rw [show btN p1 0 = 0 from (if_pos (show (p1.toUInt32 >>> ((0 : Int32).toUInt32 &&& Int32.toUInt32 31)).toInt32 &&& 255 = 0 by rw [← btM_0, ← ef_15, ← ef_16]; exact c_18))]; done) | (rw [show btN p1 0 = 0 from (if_pos (show (p1.toUInt32 >>> ((0 : Int32).toUInt32 &&& Int32.toUInt32 31)).toInt32 &&& 255 = 0 by rw [← btM_0, ← ef_15, ← ef_16]; exact c_18))]; rfl)) hP hD hS (lv_sub hl [0, 1, 2] rfl)
      refine lv_if_ne (tgt := 20) hx hb dX12_put_14 (by decide) (fun c_24 => ?_) (fun c_24 => ?_)
      · refine lv_aload_n hx hb dX12_put_20 rfl (lv_at hl 1 rfl) ?_
        refine va_get (D := (dC, dI)) (ci := 12) (v := .ref q_1) (C := RX12) (T := TX12) (N := 53) hx hb hts in_c_put_X12 hown hK hP 0 rfl rfl 1 (by decide) (hts (.fieldLink RX12 9 "LawnAheadModel" "tape" "[B") (List.mem_of_getElem? (i := 1) rfl)) (fun _ h9 => h9) rfl dX12_put_21 ?_
        refine lv_aload_n hx hb dX12_put_24 rfl (lv_at hl 1 rfl) ?_
        refine va_get (D := (dC, dI)) (ci := 12) (v := .int (nI (n + btN p1 24 + btN p1 16))) (C := RX12) (T := TX12) (N := 53) hx hb hts in_c_put_X12 hown hK hP 0 rfl rfl 6 (by decide) (hts (.fieldLink RX12 107 "LawnAheadModel" "length" "I") (List.mem_of_getElem? (i := 2) rfl)) (fun _ h9 => h9) rfl dX12_put_25 ?_
        refine lv_iload_n hx hb dX12_put_28 rfl (lv_at hl 2 rfl) ?_
        refine lv_iload_n hx hb dX12_put_29 rfl (lv_at hl 0 rfl) ?_
        refine lv_ishr hx hb dX12_put_30 ?_
        refine lv_topi (fun f_26 ef_26 => ?_)
        obtain ⟨y_27, ey_27⟩ : ∃ y : Int32, y = (f_26 : Int32).toInt8.toInt32 := ⟨_, rfl⟩
        refine lv_i2b (v := y_27) hx hb dX12_put_31 ey_27.symm ?_
        refine va_bast (D := (dC, dI)) (i := (nI (n + btN p1 24 + btN p1 16))) (x := y_27) hx hb hK hP hD hS 1 0 rfl rfl (nI_in (by have := btN_le p1 24; have := btN_le p1 16; have := btN_le p1 8; omega) (by decide)) dX12_put_32 (fun H locs hP hD hS => ?_)
        have hP : va_P (dC, dI) vwCl [(h0, .inr (12, [.int 0, .ref q_1, .ref q_3, .ref q_5, .ref q_7, .ref q_1, .int (nI (n + btN p1 24 + btN p1 16)), .int 0, .int 0, .int 0, .int 0, .int 0, .int 0, .int 0, .int 0, .ref aY, .ref aT, .int 0, .ref q_9, .ref q_11, .ref q_13, .ref q_15, .ref q_17, .int 0, .int 0, .int 0, .int 0, .int 0, .int 0, .int 0, .int 0, .int 0, .ref q_19, .ref q_21, .int (-1), .int 0, .ref q_23, .ref q_25, .ref q_27, .int 0, .long 0, .ref q_29, .int 0, .int 0, .ref q_31, .ref q_33, .ref q_35, .int 0, .ref q_37, .ref q_39, .int 0, .ref q_41, .int 0])), (q_1, .inl (cy_2, 240, .inl ((upd g ((nI (n + btN p1 24 + btN p1 16)) : Int32).toNatClampNeg (vp_nar .byte y_27)))))] H := hP
        have hD : va_D A [(h0, .inr (12, [.int 0, .ref q_1, .ref q_3, .ref q_5, .ref q_7, .ref q_1, .int (nI (n + btN p1 24 + btN p1 16)), .int 0, .int 0, .int 0, .int 0, .int 0, .int 0, .int 0, .int 0, .ref aY, .ref aT, .int 0, .ref q_9, .ref q_11, .ref q_13, .ref q_15, .ref q_17, .int 0, .int 0, .int 0, .int 0, .int 0, .int 0, .int 0, .int 0, .int 0, .ref q_19, .ref q_21, .int (-1), .int 0, .ref q_23, .ref q_25, .ref q_27, .int 0, .long 0, .ref q_29, .int 0, .int 0, .ref q_31, .ref q_33, .ref q_35, .int 0, .ref q_37, .ref q_39, .int 0, .ref q_41, .int 0])), (q_1, .inl (cy_2, 240, .inl ((upd g ((nI (n + btN p1 24 + btN p1 16)) : Int32).toNatClampNeg (vp_nar .byte y_27)))))] := hD
        generalize (upd g ((nI (n + btN p1 24 + btN p1 16)) : Int32).toNatClampNeg (vp_nar .byte y_27)) = g_28 at hP hD
        refine lv_aload_n hx hb dX12_put_33 rfl (lv_at hl 1 rfl) ?_
        refine lv_dup hx hb dX12_put_34 rfl ?_
        refine va_get (D := (dC, dI)) (ci := 12) (v := .int (nI (n + btN p1 24 + btN p1 16))) (C := RX12) (T := TX12) (N := 53) hx hb hts in_c_put_X12 hown hK hP 0 rfl rfl 6 (by decide) (hts (.fieldLink RX12 107 "LawnAheadModel" "length" "I") (List.mem_of_getElem? (i := 2) rfl)) (fun _ h9 => h9) rfl dX12_put_35 ?_
        refine lv_iconst (v := 1) hx hb dX12_put_38 (by decide +kernel) ?_
        refine lv_iadd hx hb dX12_put_39 ?_
        refine lv_topi (fun f_29 ef_29 => ?_)
        obtain rfl : f_29 = nI ((n + btN p1 24 + btN p1 16) + 1) := ef_29.trans (nI_add (n + btN p1 24 + btN p1 16) 1)
        refine va_put (D := (dC, dI)) (ci := 12) (v := .int (nI ((n + btN p1 24 + btN p1 16) + 1))) (ty := .int) (C := RX12) (T := TX12) (N := 53) hx hb hts in_c_put_X12 tyX12 tyX12_ok nmX12 hown hK hP hD hS 0 rfl rfl 6 (by decide) (hts (.fieldLink RX12 107 "LawnAheadModel" "length" "I") (List.mem_of_getElem? (i := 2) rfl)) (fun _ h9 => h9) rfl (by decide +kernel) rfl rfl (Nat.le_of_ble_eq_true rfl) dX12_put_40 (fun H locs hP hD hS => ?_)
        have hP : va_P (dC, dI) vwCl [(h0, .inr (12, [.int 0, .ref q_1, .ref q_3, .ref q_5, .ref q_7, .ref q_1, .int (nI ((n + btN p1 24 + btN p1 16) + 1)), .int 0, .int 0, .int 0, .int 0, .int 0, .int 0, .int 0, .int 0, .ref aY, .ref aT, .int 0, .ref q_9, .ref q_11, .ref q_13, .ref q_15, .ref q_17, .int 0, .int 0, .int 0, .int 0, .int 0, .int 0, .int 0, .int 0, .int 0, .ref q_19, .ref q_21, .int (-1), .int 0, .ref q_23, .ref q_25, .ref q_27, .int 0, .long 0, .ref q_29, .int 0, .int 0, .ref q_31, .ref q_33, .ref q_35, .int 0, .ref q_37, .ref q_39, .int 0, .ref q_41, .int 0])), (q_1, .inl (cy_2, 240, .inl g_28))] H := hP
        have hD : va_D A [(h0, .inr (12, [.int 0, .ref q_1, .ref q_3, .ref q_5, .ref q_7, .ref q_1, .int (nI ((n + btN p1 24 + btN p1 16) + 1)), .int 0, .int 0, .int 0, .int 0, .int 0, .int 0, .int 0, .int 0, .ref aY, .ref aT, .int 0, .ref q_9, .ref q_11, .ref q_13, .ref q_15, .ref q_17, .int 0, .int 0, .int 0, .int 0, .int 0, .int 0, .int 0, .int 0, .int 0, .ref q_19, .ref q_21, .int (-1), .int 0, .ref q_23, .ref q_25, .ref q_27, .int 0, .long 0, .ref q_29, .int 0, .int 0, .ref q_31, .ref q_33, .ref q_35, .int 0, .ref q_37, .ref q_39, .int 0, .ref q_41, .int 0])), (q_1, .inl (cy_2, 240, .inl g_28))] := hD
        exact nxt2 (nI ((n + btN p1 24 + btN p1 16) + 1)) _ _ _ _ (by first | (rw [show btN p1 8 = 1 from (if_neg (show ¬ (p1.toUInt32 >>> ((8 : Int32).toUInt32 &&& Int32.toUInt32 31)).toInt32 &&& 255 = 0 from fun zz => c_24 (by rw [ef_12, ef_11, btM_8]; exact zz)))]; done) | (rw [show btN p1 8 = 1 from (if_neg (show ¬ (p1.toUInt32 >>> ((8 : Int32).toUInt32 &&& Int32.toUInt32 31)).toInt32 &&& 255 = 0 from fun zz => c_24 (by rw [ef_12, ef_11, btM_8]; exact zz)))]; rfl)) hP hD hS (lv_sub hl [0, 1, 2] rfl)
      · refine lv_goto (tgt := 43) hx hb dX12_put_17 (by decide) ?_
        exact nxt2 (nI (n + btN p1 24 + btN p1 16)) _ _ _ _ (by first | (rw [show btN p1 8 = 0 from (if_pos (show (p1.toUInt32 >>> ((8 : Int32).toUInt32 &&& Int32.toUInt32 31)).toInt32 &&& 255 = 0 by rw [← btM_8, ← ef_11, ← ef_12]; exact c_24))]; done) | (rw [show btN p1 8 = 0 from (if_pos (show (p1.toUInt32 >>> ((8 : Int32).toUInt32 &&& Int32.toUInt32 31)).toInt32 &&& 255 = 0 by rw [← btM_8, ← ef_11, ← ef_12]; exact c_24))]; rfl)) hP hD hS (lv_sub hl [0, 1, 2] rfl)
    refine lv_if_ne (tgt := 20) hx hb dX12_put_14 (by decide) (fun c_30 => ?_) (fun c_30 => ?_)
    · refine lv_aload_n hx hb dX12_put_20 rfl (lv_at hl 1 rfl) ?_
      refine va_get (D := (dC, dI)) (ci := 12) (v := .ref q_1) (C := RX12) (T := TX12) (N := 53) hx hb hts in_c_put_X12 hown hK hP 0 rfl rfl 1 (by decide) (hts (.fieldLink RX12 9 "LawnAheadModel" "tape" "[B") (List.mem_of_getElem? (i := 1) rfl)) (fun _ h9 => h9) rfl dX12_put_21 ?_
      refine lv_aload_n hx hb dX12_put_24 rfl (lv_at hl 1 rfl) ?_
      refine va_get (D := (dC, dI)) (ci := 12) (v := .int (nI (n + btN p1 24))) (C := RX12) (T := TX12) (N := 53) hx hb hts in_c_put_X12 hown hK hP 0 rfl rfl 6 (by decide) (hts (.fieldLink RX12 107 "LawnAheadModel" "length" "I") (List.mem_of_getElem? (i := 2) rfl)) (fun _ h9 => h9) rfl dX12_put_25 ?_
      refine lv_iload_n hx hb dX12_put_28 rfl (lv_at hl 2 rfl) ?_
      refine lv_iload_n hx hb dX12_put_29 rfl (lv_at hl 0 rfl) ?_
      refine lv_ishr hx hb dX12_put_30 ?_
      refine lv_topi (fun f_32 ef_32 => ?_)
      obtain ⟨y_33, ey_33⟩ : ∃ y : Int32, y = (f_32 : Int32).toInt8.toInt32 := ⟨_, rfl⟩
      refine lv_i2b (v := y_33) hx hb dX12_put_31 ey_33.symm ?_
      refine va_bast (D := (dC, dI)) (i := (nI (n + btN p1 24))) (x := y_33) hx hb hK hP hD hS 1 0 rfl rfl (nI_in (by have := btN_le p1 24; have := btN_le p1 16; have := btN_le p1 8; omega) (by decide)) dX12_put_32 (fun H locs hP hD hS => ?_)
      have hP : va_P (dC, dI) vwCl [(h0, .inr (12, [.int 0, .ref q_1, .ref q_3, .ref q_5, .ref q_7, .ref q_1, .int (nI (n + btN p1 24)), .int 0, .int 0, .int 0, .int 0, .int 0, .int 0, .int 0, .int 0, .ref aY, .ref aT, .int 0, .ref q_9, .ref q_11, .ref q_13, .ref q_15, .ref q_17, .int 0, .int 0, .int 0, .int 0, .int 0, .int 0, .int 0, .int 0, .int 0, .ref q_19, .ref q_21, .int (-1), .int 0, .ref q_23, .ref q_25, .ref q_27, .int 0, .long 0, .ref q_29, .int 0, .int 0, .ref q_31, .ref q_33, .ref q_35, .int 0, .ref q_37, .ref q_39, .int 0, .ref q_41, .int 0])), (q_1, .inl (cy_2, 240, .inl ((upd g ((nI (n + btN p1 24)) : Int32).toNatClampNeg (vp_nar .byte y_33)))))] H := hP
      have hD : va_D A [(h0, .inr (12, [.int 0, .ref q_1, .ref q_3, .ref q_5, .ref q_7, .ref q_1, .int (nI (n + btN p1 24)), .int 0, .int 0, .int 0, .int 0, .int 0, .int 0, .int 0, .int 0, .ref aY, .ref aT, .int 0, .ref q_9, .ref q_11, .ref q_13, .ref q_15, .ref q_17, .int 0, .int 0, .int 0, .int 0, .int 0, .int 0, .int 0, .int 0, .int 0, .ref q_19, .ref q_21, .int (-1), .int 0, .ref q_23, .ref q_25, .ref q_27, .int 0, .long 0, .ref q_29, .int 0, .int 0, .ref q_31, .ref q_33, .ref q_35, .int 0, .ref q_37, .ref q_39, .int 0, .ref q_41, .int 0])), (q_1, .inl (cy_2, 240, .inl ((upd g ((nI (n + btN p1 24)) : Int32).toNatClampNeg (vp_nar .byte y_33)))))] := hD
      generalize (upd g ((nI (n + btN p1 24)) : Int32).toNatClampNeg (vp_nar .byte y_33)) = g_34 at hP hD
      refine lv_aload_n hx hb dX12_put_33 rfl (lv_at hl 1 rfl) ?_
      refine lv_dup hx hb dX12_put_34 rfl ?_
      refine va_get (D := (dC, dI)) (ci := 12) (v := .int (nI (n + btN p1 24))) (C := RX12) (T := TX12) (N := 53) hx hb hts in_c_put_X12 hown hK hP 0 rfl rfl 6 (by decide) (hts (.fieldLink RX12 107 "LawnAheadModel" "length" "I") (List.mem_of_getElem? (i := 2) rfl)) (fun _ h9 => h9) rfl dX12_put_35 ?_
      refine lv_iconst (v := 1) hx hb dX12_put_38 (by decide +kernel) ?_
      refine lv_iadd hx hb dX12_put_39 ?_
      refine lv_topi (fun f_35 ef_35 => ?_)
      obtain rfl : f_35 = nI ((n + btN p1 24) + 1) := ef_35.trans (nI_add (n + btN p1 24) 1)
      refine va_put (D := (dC, dI)) (ci := 12) (v := .int (nI ((n + btN p1 24) + 1))) (ty := .int) (C := RX12) (T := TX12) (N := 53) hx hb hts in_c_put_X12 tyX12 tyX12_ok nmX12 hown hK hP hD hS 0 rfl rfl 6 (by decide) (hts (.fieldLink RX12 107 "LawnAheadModel" "length" "I") (List.mem_of_getElem? (i := 2) rfl)) (fun _ h9 => h9) rfl (by decide +kernel) rfl rfl (Nat.le_of_ble_eq_true rfl) dX12_put_40 (fun H locs hP hD hS => ?_)
      have hP : va_P (dC, dI) vwCl [(h0, .inr (12, [.int 0, .ref q_1, .ref q_3, .ref q_5, .ref q_7, .ref q_1, .int (nI ((n + btN p1 24) + 1)), .int 0, .int 0, .int 0, .int 0, .int 0, .int 0, .int 0, .int 0, .ref aY, .ref aT, .int 0, .ref q_9, .ref q_11, .ref q_13, .ref q_15, .ref q_17, .int 0, .int 0, .int 0, .int 0, .int 0, .int 0, .int 0, .int 0, .int 0, .ref q_19, .ref q_21, .int (-1), .int 0, .ref q_23, .ref q_25, .ref q_27, .int 0, .long 0, .ref q_29, .int 0, .int 0, .ref q_31, .ref q_33, .ref q_35, .int 0, .ref q_37, .ref q_39, .int 0, .ref q_41, .int 0])), (q_1, .inl (cy_2, 240, .inl g_34))] H := hP
      have hD : va_D A [(h0, .inr (12, [.int 0, .ref q_1, .ref q_3, .ref q_5, .ref q_7, .ref q_1, .int (nI ((n + btN p1 24) + 1)), .int 0, .int 0, .int 0, .int 0, .int 0, .int 0, .int 0, .int 0, .ref aY, .ref aT, .int 0, .ref q_9, .ref q_11, .ref q_13, .ref q_15, .ref q_17, .int 0, .int 0, .int 0, .int 0, .int 0, .int 0, .int 0, .int 0, .int 0, .ref q_19, .ref q_21, .int (-1), .int 0, .ref q_23, .ref q_25, .ref q_27, .int 0, .long 0, .ref q_29, .int 0, .int 0, .ref q_31, .ref q_33, .ref q_35, .int 0, .ref q_37, .ref q_39, .int 0, .ref q_41, .int 0])), (q_1, .inl (cy_2, 240, .inl g_34))] := hD
      exact nxt1 (nI ((n + btN p1 24) + 1)) _ _ _ _ (by first | (rw [show btN p1 16 = 1 from (if_neg (show ¬ (p1.toUInt32 >>> ((16 : Int32).toUInt32 &&& Int32.toUInt32 31)).toInt32 &&& 255 = 0 from fun zz => c_30 (by rw [ef_8, ef_7, btM_16]; exact zz)))]; done) | (rw [show btN p1 16 = 1 from (if_neg (show ¬ (p1.toUInt32 >>> ((16 : Int32).toUInt32 &&& Int32.toUInt32 31)).toInt32 &&& 255 = 0 from fun zz => c_30 (by rw [ef_8, ef_7, btM_16]; exact zz)))]; rfl)) hP hD hS (lv_sub hl [0, 1, 2] rfl)
    · refine lv_goto (tgt := 43) hx hb dX12_put_17 (by decide) ?_
      exact nxt1 (nI (n + btN p1 24)) _ _ _ _ (by first | (rw [show btN p1 16 = 0 from (if_pos (show (p1.toUInt32 >>> ((16 : Int32).toUInt32 &&& Int32.toUInt32 31)).toInt32 &&& 255 = 0 by rw [← btM_16, ← ef_7, ← ef_8]; exact c_30))]; done) | (rw [show btN p1 16 = 0 from (if_pos (show (p1.toUInt32 >>> ((16 : Int32).toUInt32 &&& Int32.toUInt32 31)).toInt32 &&& 255 = 0 by rw [← btM_16, ← ef_7, ← ef_8]; exact c_30))]; rfl)) hP hD hS (lv_sub hl [0, 1, 2] rfl)
  refine lv_if_ne (tgt := 20) hx hb dX12_put_14 (by decide) (fun c_36 => ?_) (fun c_36 => ?_)
  · refine lv_aload_n hx hb dX12_put_20 rfl (lv_at hl 1 rfl) ?_
    refine va_get (D := (dC, dI)) (ci := 12) (v := .ref q_1) (C := RX12) (T := TX12) (N := 53) hx hb hts in_c_put_X12 hown hK hP 0 rfl rfl 1 (by decide) (hts (.fieldLink RX12 9 "LawnAheadModel" "tape" "[B") (List.mem_of_getElem? (i := 1) rfl)) (fun _ h9 => h9) rfl dX12_put_21 ?_
    refine lv_aload_n hx hb dX12_put_24 rfl (lv_at hl 1 rfl) ?_
    refine va_get (D := (dC, dI)) (ci := 12) (v := .int (nI n)) (C := RX12) (T := TX12) (N := 53) hx hb hts in_c_put_X12 hown hK hP 0 rfl rfl 6 (by decide) (hts (.fieldLink RX12 107 "LawnAheadModel" "length" "I") (List.mem_of_getElem? (i := 2) rfl)) (fun _ h9 => h9) rfl dX12_put_25 ?_
    refine lv_iload_n hx hb dX12_put_28 rfl (lv_at hl 2 rfl) ?_
    refine lv_iload_n hx hb dX12_put_29 rfl (lv_at hl 0 rfl) ?_
    refine lv_ishr hx hb dX12_put_30 ?_
    refine lv_topi (fun f_38 ef_38 => ?_)
    obtain ⟨y_39, ey_39⟩ : ∃ y : Int32, y = (f_38 : Int32).toInt8.toInt32 := ⟨_, rfl⟩
    refine lv_i2b (v := y_39) hx hb dX12_put_31 ey_39.symm ?_
    refine va_bast (D := (dC, dI)) (i := (nI n)) (x := y_39) hx hb hK hP hD hS 1 0 rfl rfl (nI_in (by have := btN_le p1 24; have := btN_le p1 16; have := btN_le p1 8; omega) (by decide)) dX12_put_32 (fun H locs hP hD hS => ?_)
    have hP : va_P (dC, dI) vwCl [(h0, .inr (12, [.int 0, .ref q_1, .ref q_3, .ref q_5, .ref q_7, .ref q_1, .int (nI n), .int 0, .int 0, .int 0, .int 0, .int 0, .int 0, .int 0, .int 0, .ref aY, .ref aT, .int 0, .ref q_9, .ref q_11, .ref q_13, .ref q_15, .ref q_17, .int 0, .int 0, .int 0, .int 0, .int 0, .int 0, .int 0, .int 0, .int 0, .ref q_19, .ref q_21, .int (-1), .int 0, .ref q_23, .ref q_25, .ref q_27, .int 0, .long 0, .ref q_29, .int 0, .int 0, .ref q_31, .ref q_33, .ref q_35, .int 0, .ref q_37, .ref q_39, .int 0, .ref q_41, .int 0])), (q_1, .inl (cy_2, 240, .inl ((upd g0 ((nI n) : Int32).toNatClampNeg (vp_nar .byte y_39)))))] H := hP
    have hD : va_D A [(h0, .inr (12, [.int 0, .ref q_1, .ref q_3, .ref q_5, .ref q_7, .ref q_1, .int (nI n), .int 0, .int 0, .int 0, .int 0, .int 0, .int 0, .int 0, .int 0, .ref aY, .ref aT, .int 0, .ref q_9, .ref q_11, .ref q_13, .ref q_15, .ref q_17, .int 0, .int 0, .int 0, .int 0, .int 0, .int 0, .int 0, .int 0, .int 0, .ref q_19, .ref q_21, .int (-1), .int 0, .ref q_23, .ref q_25, .ref q_27, .int 0, .long 0, .ref q_29, .int 0, .int 0, .ref q_31, .ref q_33, .ref q_35, .int 0, .ref q_37, .ref q_39, .int 0, .ref q_41, .int 0])), (q_1, .inl (cy_2, 240, .inl ((upd g0 ((nI n) : Int32).toNatClampNeg (vp_nar .byte y_39)))))] := hD
    generalize (upd g0 ((nI n) : Int32).toNatClampNeg (vp_nar .byte y_39)) = g_40 at hP hD
    refine lv_aload_n hx hb dX12_put_33 rfl (lv_at hl 1 rfl) ?_
    refine lv_dup hx hb dX12_put_34 rfl ?_
    refine va_get (D := (dC, dI)) (ci := 12) (v := .int (nI n)) (C := RX12) (T := TX12) (N := 53) hx hb hts in_c_put_X12 hown hK hP 0 rfl rfl 6 (by decide) (hts (.fieldLink RX12 107 "LawnAheadModel" "length" "I") (List.mem_of_getElem? (i := 2) rfl)) (fun _ h9 => h9) rfl dX12_put_35 ?_
    refine lv_iconst (v := 1) hx hb dX12_put_38 (by decide +kernel) ?_
    refine lv_iadd hx hb dX12_put_39 ?_
    refine lv_topi (fun f_41 ef_41 => ?_)
    obtain rfl : f_41 = nI (n + 1) := ef_41.trans (nI_add n 1)
    refine va_put (D := (dC, dI)) (ci := 12) (v := .int (nI (n + 1))) (ty := .int) (C := RX12) (T := TX12) (N := 53) hx hb hts in_c_put_X12 tyX12 tyX12_ok nmX12 hown hK hP hD hS 0 rfl rfl 6 (by decide) (hts (.fieldLink RX12 107 "LawnAheadModel" "length" "I") (List.mem_of_getElem? (i := 2) rfl)) (fun _ h9 => h9) rfl (by decide +kernel) rfl rfl (Nat.le_of_ble_eq_true rfl) dX12_put_40 (fun H locs hP hD hS => ?_)
    have hP : va_P (dC, dI) vwCl [(h0, .inr (12, [.int 0, .ref q_1, .ref q_3, .ref q_5, .ref q_7, .ref q_1, .int (nI (n + 1)), .int 0, .int 0, .int 0, .int 0, .int 0, .int 0, .int 0, .int 0, .ref aY, .ref aT, .int 0, .ref q_9, .ref q_11, .ref q_13, .ref q_15, .ref q_17, .int 0, .int 0, .int 0, .int 0, .int 0, .int 0, .int 0, .int 0, .int 0, .ref q_19, .ref q_21, .int (-1), .int 0, .ref q_23, .ref q_25, .ref q_27, .int 0, .long 0, .ref q_29, .int 0, .int 0, .ref q_31, .ref q_33, .ref q_35, .int 0, .ref q_37, .ref q_39, .int 0, .ref q_41, .int 0])), (q_1, .inl (cy_2, 240, .inl g_40))] H := hP
    have hD : va_D A [(h0, .inr (12, [.int 0, .ref q_1, .ref q_3, .ref q_5, .ref q_7, .ref q_1, .int (nI (n + 1)), .int 0, .int 0, .int 0, .int 0, .int 0, .int 0, .int 0, .int 0, .ref aY, .ref aT, .int 0, .ref q_9, .ref q_11, .ref q_13, .ref q_15, .ref q_17, .int 0, .int 0, .int 0, .int 0, .int 0, .int 0, .int 0, .int 0, .int 0, .ref q_19, .ref q_21, .int (-1), .int 0, .ref q_23, .ref q_25, .ref q_27, .int 0, .long 0, .ref q_29, .int 0, .int 0, .ref q_31, .ref q_33, .ref q_35, .int 0, .ref q_37, .ref q_39, .int 0, .ref q_41, .int 0])), (q_1, .inl (cy_2, 240, .inl g_40))] := hD
    exact nxt0 (nI (n + 1)) _ _ _ _ (by first | (rw [show btN p1 24 = 1 from (if_neg (show ¬ (p1.toUInt32 >>> ((24 : Int32).toUInt32 &&& Int32.toUInt32 31)).toInt32 &&& 255 = 0 from fun zz => c_36 (by rw [ef_4, ef_3, btM_24]; exact zz)))]; done) | (rw [show btN p1 24 = 1 from (if_neg (show ¬ (p1.toUInt32 >>> ((24 : Int32).toUInt32 &&& Int32.toUInt32 31)).toInt32 &&& 255 = 0 from fun zz => c_36 (by rw [ef_4, ef_3, btM_24]; exact zz)))]; rfl)) hP hD hS (lv_sub hl [0, 1, 2] rfl)
  · refine lv_goto (tgt := 43) hx hb dX12_put_17 (by decide) ?_
    exact nxt0 (nI n) _ _ _ _ (by first | (rw [show btN p1 24 = 0 from (if_pos (show (p1.toUInt32 >>> ((24 : Int32).toUInt32 &&& Int32.toUInt32 31)).toInt32 &&& 255 = 0 by rw [← btM_24, ← ef_3, ← ef_4]; exact c_36))]; done) | (rw [show btN p1 24 = 0 from (if_pos (show (p1.toUInt32 >>> ((24 : Int32).toUInt32 &&& Int32.toUInt32 31)).toInt32 &&& 255 = 0 by rw [← btM_24, ← ef_3, ← ef_4]; exact c_36))]; rfl)) hP hD hS (lv_sub hl [0, 1, 2] rfl)

def w_t_X11_feed : List Cond := .code yX11_feed cX11_feed 7 (some .int) :: ([.code yX10_fullBytes cX10_fullBytes 3 (some .int), .methodLink RX11 97 yX10_fullBytes, .static yX10_fullBytes, .initialized RX10, .fieldLink RX11 10 "LawnAhead" "tape" "LLawnAhead$Tape;", .fieldLink RX11 101 "LawnAhead$Tape" "length" "I", .fieldLink RX10 15 "LawnAhead$Tape" "length" "I", .fieldLink RX10 11 "LawnAhead$Tape" "bytes" "[I", .code yX10_append cX10_append 4 none, .methodLink RX11 104 yX10_append, .instanceMethod yX10_append, .selects RX10 yX10_append yX10_append] ++ (wsX110 ++ (wsX100 ++ [])))
theorem in_t_X11_feed_X11 : ∀ w ∈ wsX110, w ∈ w_t_X11_feed := fun w h => List.mem_cons_of_mem _ (List.mem_append_right _ (List.mem_append_left _ h))
theorem in_t_X11_feed_X10 : ∀ w ∈ wsX100, w ∈ w_t_X11_feed := fun w h => List.mem_cons_of_mem _ (List.mem_append_right _ (List.mem_append_right _ (List.mem_append_left _ h)))
set_option maxRecDepth 100000 in
theorem g_t_X11_feed_1_c_fullBytes : GoodIn w_t_X11_feed (([.methodLink RX11 97 yX10_fullBytes, .static yX10_fullBytes, .initialized RX10] : List Cond) ++ w_c_fullBytes) := goodIn_r _ [2, 3, 4, 1] rfl (by decide +kernel)
set_option maxRecDepth 100000 in
theorem g_t_X11_feed_5_c_fullBytes : GoodIn w_t_X11_feed (([.methodLink RX11 97 yX10_fullBytes, .static yX10_fullBytes, .initialized RX10] : List Cond) ++ w_c_fullBytes) := goodIn_r _ [2, 3, 4, 1] rfl (by decide +kernel)
set_option maxRecDepth 100000 in
theorem g_t_X11_feed_10_c_fullBytes : GoodIn w_t_X11_feed (([.methodLink RX11 97 yX10_fullBytes, .static yX10_fullBytes, .initialized RX10] : List Cond) ++ w_c_fullBytes) := goodIn_r _ [2, 3, 4, 1] rfl (by decide +kernel)
set_option maxRecDepth 100000 in
theorem g_t_X11_feed_16_c_fullBytes : GoodIn w_t_X11_feed (([.methodLink RX11 97 yX10_fullBytes, .static yX10_fullBytes, .initialized RX10] : List Cond) ++ w_c_fullBytes) := goodIn_r _ [2, 3, 4, 1] rfl (by decide +kernel)
set_option maxRecDepth 100000 in
theorem g_t_X11_feed_22_c_fullBytes : GoodIn w_t_X11_feed (([.methodLink RX11 97 yX10_fullBytes, .static yX10_fullBytes, .initialized RX10] : List Cond) ++ w_c_fullBytes) := goodIn_r _ [2, 3, 4, 1] rfl (by decide +kernel)
set_option maxRecDepth 100000 in
theorem g_t_X11_feed_51_c_append : GoodIn w_t_X11_feed (([.methodLink RX11 104 yX10_append, .instanceMethod yX10_append, .selects RX10 yX10_append yX10_append, .initialized RX10] : List Cond) ++ w_c_append) := goodIn_r _ [10, 11, 12, 4, 9, 7, 8, 30, 31, 32, 33] rfl (by decide +kernel)
set_option maxRecDepth 100000 in
theorem g_t_X11_feed_59_c_append : GoodIn w_t_X11_feed (([.methodLink RX11 104 yX10_append, .instanceMethod yX10_append, .selects RX10 yX10_append yX10_append, .initialized RX10] : List Cond) ++ w_c_append) := goodIn_r _ [10, 11, 12, 4, 9, 7, 8, 30, 31, 32, 33] rfl (by decide +kernel)
set_option maxRecDepth 100000 in
theorem g_t_X11_feed_67_c_append : GoodIn w_t_X11_feed (([.methodLink RX11 104 yX10_append, .instanceMethod yX10_append, .selects RX10 yX10_append yX10_append, .initialized RX10] : List Cond) ++ w_c_append) := goodIn_r _ [10, 11, 12, 4, 9, 7, 8, 30, 31, 32, 33] rfl (by decide +kernel)
set_option maxRecDepth 100000 in
theorem g_t_X11_feed_76_c_append : GoodIn w_t_X11_feed (([.methodLink RX11 104 yX10_append, .instanceMethod yX10_append, .selects RX10 yX10_append yX10_append, .initialized RX10] : List Cond) ++ w_c_append) := goodIn_r _ [10, 11, 12, 4, 9, 7, 8, 30, 31, 32, 33] rfl (by decide +kernel)
set_option maxRecDepth 100000 in
theorem g_t_X11_feed_85_c_append : GoodIn w_t_X11_feed (([.methodLink RX11 104 yX10_append, .instanceMethod yX10_append, .selects RX10 yX10_append yX10_append, .initialized RX10] : List Cond) ++ w_c_append) := goodIn_r _ [10, 11, 12, 4, 9, 7, 8, 30, 31, 32, 33] rfl (by decide +kernel)
set_option maxHeartbeats 8000000 in
set_option maxRecDepth 100000 in
theorem t_X11_feed (l : Launch) (dC : Nat → ClassId) (dI : Nat → Nat → Nat) (h0 : Nat) (p1 : Int32) (p2 : Int32) (p3 : Int32) (p4 : Int32) (p5 : Int32) (q_1 : Nat) (q_5 : Nat) (q_7 : Nat) (q_65 : Nat) (q_67 : Nat) (q_89 : Nat) (q_100 : Nat) (q_106 : Nat) (q_108 : Nat) (q_113 : Nat) (q_73 : Nat) (q_81 : Nat) (q_3 : Nat) (cy_4 : ClassId) (sz : Nat) : Met l yX11_feed w_t_X11_feed ({ frames := 1, cells := 0, slots := 0, locals := 23 }) (va_Pc [.ref h0, .int p1, .int p2, .int p3, .int p4, .int p5] (fun U => U.heap.size = sz ∧ va_P (dC, dI) vwCl [(h0, .inr (11, [.ref q_1, .ref q_5, .ref q_7, .ref q_65, .ref q_67, .ref q_89, .ref q_100, .ref q_106, .ref q_108, .ref q_113, .ref q_73, .ref q_81, .int 0, .int 0, .int (-1), .int 0, .long 0])), (q_1, .inr (10, [.ref q_3, .int 0, .int 0, .int 0])), (q_3, .inl (cy_4, 240, .inl (fun _ => 0)))] U.heap ∧ va_K (dC, dI) vwCl [(cy_4, .int)] U ∧ va_D (fun _ => True) [(h0, .inr (11, [.ref q_1, .ref q_5, .ref q_7, .ref q_65, .ref q_67, .ref q_89, .ref q_100, .ref q_106, .ref q_108, .ref q_113, .ref q_73, .ref q_81, .int 0, .int 0, .int (-1), .int 0, .long 0])), (q_1, .inr (10, [.ref q_3, .int 0, .int 0, .int 0])), (q_3, .inl (cy_4, 240, .inl (fun _ => 0)))])) (va_Qi (fun (r : Int32) (_ : Unit) => r = F_feed p1 p2 p3 p4 p5) (fun _ _ => True) (va_A [(h0, .inr (11, [.ref q_1, .ref q_5, .ref q_7, .ref q_65, .ref q_67, .ref q_89, .ref q_100, .ref q_106, .ref q_108, .ref q_113, .ref q_73, .ref q_81, .int 0, .int 0, .int (-1), .int 0, .long 0])), (q_1, .inr (10, [.ref q_3, .int 0, .int 0, .int 0])), (q_3, .inl (cy_4, 240, .inl (fun _ => 0)))] sz)) 0 0 (va_A [(h0, .inr (11, [.ref q_1, .ref q_5, .ref q_7, .ref q_65, .ref q_67, .ref q_89, .ref q_100, .ref q_106, .ref q_108, .ref q_113, .ref q_73, .ref q_81, .int 0, .int 0, .int (-1), .int 0, .long 0])), (q_1, .inr (10, [.ref q_3, .int 0, .int 0, .int 0])), (q_3, .inl (cy_4, 240, .inl (fun _ => 0)))] sz) := by
  refine Met.ofW (cc := cX11_feed) (maxL := 7) (ret := (some .int)) (by decide) rfl ?_
  intro p e s m args below meth c s₁ B hml hv
  obtain ⟨rfl, hsz, hP, hK, hD0⟩ := hv
  have hx := B.exec
  have hb := B.bytes
  have hr := B.returns
  have hts := atoms_spec (ws := w_t_X11_feed) B.pre
  have hown : s.vm.findClass RX11 = some m.cls := findClass_of_methodNamed B.named
  have hlocks := B.notSynchronized
  subst hsz
  have hD := hD0.self (sz := s.heap.size)
  generalize hAe : va_A [(h0, .inr (11, [.ref q_1, .ref q_5, .ref q_7, .ref q_65, .ref q_67, .ref q_89, .ref q_100, .ref q_106, .ref q_108, .ref q_113, .ref q_73, .ref q_81, .int 0, .int 0, .int (-1), .int 0, .long 0])), (q_1, .inr (10, [.ref q_3, .int 0, .int 0, .int 0])), (q_3, .inl (cy_4, 240, .inl (fun _ => 0)))] s.heap.size = A at hD ⊢
  have hA : ∀ q : Nat, s.heap.size ≤ q → A q := fun q h => by rw [← hAe]; exact Or.inr h
  have hS : va_S A s.heap s.heap [] := va_S.rf
  have hP : va_P (dC, dI) vwCl [(h0, .inr (11, [.ref q_1, .ref q_5, .ref q_7, .ref q_65, .ref q_67, .ref q_89, .ref q_100, .ref q_106, .ref q_108, .ref q_113, .ref q_73, .ref q_81, .int 0, .int 0, .int (-1), .int 0, .long 0])), (q_1, .inr (10, [.ref q_3, .int 0, .int 0, .int 0])), (q_3, .inl (cy_4, 240, .inl (fun _ => 0)))] s.heap := hP
  have hl := lv_entry ([.ref h0, .int p1, .int p2, .int p3, .int p4, .int p5]) (n := 7) (Nat.le_of_ble_eq_true rfl)
  rw [lg_entry_eq]
  generalize (lg_sl ([.ref h0, .int p1, .int p2, .int p3, .int p4, .int p5]) ++ List.replicate (7 - (lg_sl ([.ref h0, .int p1, .int p2, .int p3, .int p4, .int p5])).length) Slot.unset).toArray = ls at hl ⊢
  have hl : lv_has ls 7 [(0, .ref h0), (1, .int p1), (2, .int p2), (3, .int p3), (4, .int p4), (5, .int p5)] := hl
  refine lv_iload_n hx hb dX11_feed_0 rfl (lv_at hl 1 rfl) ?_
  have hPc := hP.sub (ws' := []) [] rfl
  have hDc := hD.sub (ws' := []) [] (by decide) rfl
  have hKc := hK.sub (tys' := []) [] rfl
  have hFc := va_free (wc := []) hD hS hA [] rfl
  refine va_calli (va_runS (As := [.int p1]) (rest := []) ⟨hx, hb, hml, hown, hts⟩ (c_fullBytes l dC dI p1 s.heap.size) (va_cwS 1 hts g_t_X11_feed_1_c_fullBytes rfl rfl rfl (by decide +kernel) ⟨Nat.le_of_ble_eq_true rfl, Nat.le_of_ble_eq_true rfl⟩) ⟨fun a U g mk q => by obtain ⟨q0, q1, qP, qK, qD⟩ := q; exact ⟨q0, q1, qP, va_K.moved (u := U) (U := U.calling g mk a) (Vm.Alike.refl U.vm) qK, qD⟩, fun U hU hW => ⟨rfl, by rw [hU], by rw [hU]; exact hPc, va_K.moved hW.alike hKc, hDc.weaken (fun _ _ _ _ => trivial)⟩⟩ rfl rfl hl.1 rfl (lv_room (Nat.le_of_ble_eq_true rfl)) dX11_feed_1 ⟨Nat.le_of_ble_eq_true rfl, Nat.le_of_ble_eq_true rfl⟩) hS (fun q _ h => hFc q h) hFc (fun r_1 u t H1 locs ht hvm hw hB hz1 hk1 hS => ?_)
  obtain ⟨hP1, hK1, hD1⟩ := hB
  rw [ht] at hP1
  have hK1 := va_K.moved hvm.symm hK1
  try dsimp only at hw
  obtain ⟨hP, hD⟩ := va_join (wr := [(h0, .inr (11, [.ref q_1, .ref q_5, .ref q_7, .ref q_65, .ref q_67, .ref q_89, .ref q_100, .ref q_106, .ref q_108, .ref q_113, .ref q_73, .ref q_81, .int 0, .int 0, .int (-1), .int 0, .long 0])), (q_1, .inr (10, [.ref q_3, .int 0, .int 0, .int 0])), (q_3, .inl (cy_4, 240, .inl (fun _ => 0)))]) (w1 := []) hP hD [] [0, 1, 2] rfl rfl (by decide) (by decide) hk1 hFc hP1 hD1
  have hK := hK.app hK1
  generalize H1 = H at hP hS ⊢
  have hP : va_P (dC, dI) vwCl [(h0, .inr (11, [.ref q_1, .ref q_5, .ref q_7, .ref q_65, .ref q_67, .ref q_89, .ref q_100, .ref q_106, .ref q_108, .ref q_113, .ref q_73, .ref q_81, .int 0, .int 0, .int (-1), .int 0, .long 0])), (q_1, .inr (10, [.ref q_3, .int 0, .int 0, .int 0])), (q_3, .inl (cy_4, 240, .inl (fun _ => 0)))] H := hP
  have hD : va_D A [(h0, .inr (11, [.ref q_1, .ref q_5, .ref q_7, .ref q_65, .ref q_67, .ref q_89, .ref q_100, .ref q_106, .ref q_108, .ref q_113, .ref q_73, .ref q_81, .int 0, .int 0, .int (-1), .int 0, .long 0])), (q_1, .inr (10, [.ref q_3, .int 0, .int 0, .int 0])), (q_3, .inl (cy_4, 240, .inl (fun _ => 0)))] := hD
  have hK : va_K (dC, dI) vwCl [(cy_4, .int)] s := hK
  refine W.widen (k := 0) (n := 0) (Nat.le_of_ble_eq_true rfl) (Nat.le_of_ble_eq_true rfl) ?_
  obtain rfl : r_1 = nI (fbN p1) := hw
  refine lv_iload_n hx hb dX11_feed_4 rfl (lv_at hl 2 rfl) ?_
  have hPc := hP.sub (ws' := []) [] rfl
  have hDc := hD.sub (ws' := []) [] (by decide) rfl
  have hKc := hK.sub (tys' := []) [] rfl
  have hFc := va_free (wc := []) hD hS hA [] rfl
  refine va_calli (va_runS (As := [.int p2]) (rest := [.int (nI (fbN p1))]) ⟨hx, hb, hml, hown, hts⟩ (c_fullBytes l dC dI p2 H.size) (va_cwS 1 hts g_t_X11_feed_5_c_fullBytes rfl rfl rfl (by decide +kernel) ⟨Nat.le_of_ble_eq_true rfl, Nat.le_of_ble_eq_true rfl⟩) ⟨fun a U g mk q => by obtain ⟨q0, q1, qP, qK, qD⟩ := q; exact ⟨q0, q1, qP, va_K.moved (u := U) (U := U.calling g mk a) (Vm.Alike.refl U.vm) qK, qD⟩, fun U hU hW => ⟨rfl, by rw [hU], by rw [hU]; exact hPc, va_K.moved hW.alike hKc, hDc.weaken (fun _ _ _ _ => trivial)⟩⟩ rfl rfl hl.1 rfl (lv_room (Nat.le_of_ble_eq_true rfl)) dX11_feed_5 ⟨Nat.le_of_ble_eq_true rfl, Nat.le_of_ble_eq_true rfl⟩) hS (fun q _ h => hFc q h) hFc (fun r_2 u t H1 locs ht hvm hw hB hz1 hk1 hS => ?_)
  obtain ⟨hP1, hK1, hD1⟩ := hB
  rw [ht] at hP1
  have hK1 := va_K.moved hvm.symm hK1
  try dsimp only at hw
  obtain ⟨hP, hD⟩ := va_join (wr := [(h0, .inr (11, [.ref q_1, .ref q_5, .ref q_7, .ref q_65, .ref q_67, .ref q_89, .ref q_100, .ref q_106, .ref q_108, .ref q_113, .ref q_73, .ref q_81, .int 0, .int 0, .int (-1), .int 0, .long 0])), (q_1, .inr (10, [.ref q_3, .int 0, .int 0, .int 0])), (q_3, .inl (cy_4, 240, .inl (fun _ => 0)))]) (w1 := []) hP hD [] [0, 1, 2] rfl rfl (by decide) (by decide) hk1 hFc hP1 hD1
  have hK := hK.app hK1
  generalize H1 = H at hP hS ⊢
  have hP : va_P (dC, dI) vwCl [(h0, .inr (11, [.ref q_1, .ref q_5, .ref q_7, .ref q_65, .ref q_67, .ref q_89, .ref q_100, .ref q_106, .ref q_108, .ref q_113, .ref q_73, .ref q_81, .int 0, .int 0, .int (-1), .int 0, .long 0])), (q_1, .inr (10, [.ref q_3, .int 0, .int 0, .int 0])), (q_3, .inl (cy_4, 240, .inl (fun _ => 0)))] H := hP
  have hD : va_D A [(h0, .inr (11, [.ref q_1, .ref q_5, .ref q_7, .ref q_65, .ref q_67, .ref q_89, .ref q_100, .ref q_106, .ref q_108, .ref q_113, .ref q_73, .ref q_81, .int 0, .int 0, .int (-1), .int 0, .long 0])), (q_1, .inr (10, [.ref q_3, .int 0, .int 0, .int 0])), (q_3, .inl (cy_4, 240, .inl (fun _ => 0)))] := hD
  have hK : va_K (dC, dI) vwCl [(cy_4, .int)] s := hK
  refine W.widen (k := 0) (n := 0) (Nat.le_of_ble_eq_true rfl) (Nat.le_of_ble_eq_true rfl) ?_
  obtain rfl : r_2 = nI (fbN p2) := hw
  refine lv_iadd hx hb dX11_feed_8 ?_
  refine lv_topi (fun f_3 ef_3 => ?_)
  obtain rfl : f_3 = nI ((fbN p1) + (fbN p2)) := ef_3.trans (nI_add (fbN p1) (fbN p2))
  refine lv_iload_n hx hb dX11_feed_9 rfl (lv_at hl 3 rfl) ?_
  have hPc := hP.sub (ws' := []) [] rfl
  have hDc := hD.sub (ws' := []) [] (by decide) rfl
  have hKc := hK.sub (tys' := []) [] rfl
  have hFc := va_free (wc := []) hD hS hA [] rfl
  refine va_calli (va_runS (As := [.int p3]) (rest := [.int (nI ((fbN p1) + (fbN p2)))]) ⟨hx, hb, hml, hown, hts⟩ (c_fullBytes l dC dI p3 H.size) (va_cwS 1 hts g_t_X11_feed_10_c_fullBytes rfl rfl rfl (by decide +kernel) ⟨Nat.le_of_ble_eq_true rfl, Nat.le_of_ble_eq_true rfl⟩) ⟨fun a U g mk q => by obtain ⟨q0, q1, qP, qK, qD⟩ := q; exact ⟨q0, q1, qP, va_K.moved (u := U) (U := U.calling g mk a) (Vm.Alike.refl U.vm) qK, qD⟩, fun U hU hW => ⟨rfl, by rw [hU], by rw [hU]; exact hPc, va_K.moved hW.alike hKc, hDc.weaken (fun _ _ _ _ => trivial)⟩⟩ rfl rfl hl.1 rfl (lv_room (Nat.le_of_ble_eq_true rfl)) dX11_feed_10 ⟨Nat.le_of_ble_eq_true rfl, Nat.le_of_ble_eq_true rfl⟩) hS (fun q _ h => hFc q h) hFc (fun r_4 u t H1 locs ht hvm hw hB hz1 hk1 hS => ?_)
  obtain ⟨hP1, hK1, hD1⟩ := hB
  rw [ht] at hP1
  have hK1 := va_K.moved hvm.symm hK1
  try dsimp only at hw
  obtain ⟨hP, hD⟩ := va_join (wr := [(h0, .inr (11, [.ref q_1, .ref q_5, .ref q_7, .ref q_65, .ref q_67, .ref q_89, .ref q_100, .ref q_106, .ref q_108, .ref q_113, .ref q_73, .ref q_81, .int 0, .int 0, .int (-1), .int 0, .long 0])), (q_1, .inr (10, [.ref q_3, .int 0, .int 0, .int 0])), (q_3, .inl (cy_4, 240, .inl (fun _ => 0)))]) (w1 := []) hP hD [] [0, 1, 2] rfl rfl (by decide) (by decide) hk1 hFc hP1 hD1
  have hK := hK.app hK1
  generalize H1 = H at hP hS ⊢
  have hP : va_P (dC, dI) vwCl [(h0, .inr (11, [.ref q_1, .ref q_5, .ref q_7, .ref q_65, .ref q_67, .ref q_89, .ref q_100, .ref q_106, .ref q_108, .ref q_113, .ref q_73, .ref q_81, .int 0, .int 0, .int (-1), .int 0, .long 0])), (q_1, .inr (10, [.ref q_3, .int 0, .int 0, .int 0])), (q_3, .inl (cy_4, 240, .inl (fun _ => 0)))] H := hP
  have hD : va_D A [(h0, .inr (11, [.ref q_1, .ref q_5, .ref q_7, .ref q_65, .ref q_67, .ref q_89, .ref q_100, .ref q_106, .ref q_108, .ref q_113, .ref q_73, .ref q_81, .int 0, .int 0, .int (-1), .int 0, .long 0])), (q_1, .inr (10, [.ref q_3, .int 0, .int 0, .int 0])), (q_3, .inl (cy_4, 240, .inl (fun _ => 0)))] := hD
  have hK : va_K (dC, dI) vwCl [(cy_4, .int)] s := hK
  refine W.widen (k := 0) (n := 0) (Nat.le_of_ble_eq_true rfl) (Nat.le_of_ble_eq_true rfl) ?_
  obtain rfl : r_4 = nI (fbN p3) := hw
  refine lv_iadd hx hb dX11_feed_13 ?_
  refine lv_topi (fun f_5 ef_5 => ?_)
  obtain rfl : f_5 = nI (((fbN p1) + (fbN p2)) + (fbN p3)) := ef_5.trans (nI_add ((fbN p1) + (fbN p2)) (fbN p3))
  refine lv_iload hx hb dX11_feed_14 (lv_at hl 4 rfl) ?_
  have hPc := hP.sub (ws' := []) [] rfl
  have hDc := hD.sub (ws' := []) [] (by decide) rfl
  have hKc := hK.sub (tys' := []) [] rfl
  have hFc := va_free (wc := []) hD hS hA [] rfl
  refine va_calli (va_runS (As := [.int p4]) (rest := [.int (nI (((fbN p1) + (fbN p2)) + (fbN p3)))]) ⟨hx, hb, hml, hown, hts⟩ (c_fullBytes l dC dI p4 H.size) (va_cwS 1 hts g_t_X11_feed_16_c_fullBytes rfl rfl rfl (by decide +kernel) ⟨Nat.le_of_ble_eq_true rfl, Nat.le_of_ble_eq_true rfl⟩) ⟨fun a U g mk q => by obtain ⟨q0, q1, qP, qK, qD⟩ := q; exact ⟨q0, q1, qP, va_K.moved (u := U) (U := U.calling g mk a) (Vm.Alike.refl U.vm) qK, qD⟩, fun U hU hW => ⟨rfl, by rw [hU], by rw [hU]; exact hPc, va_K.moved hW.alike hKc, hDc.weaken (fun _ _ _ _ => trivial)⟩⟩ rfl rfl hl.1 rfl (lv_room (Nat.le_of_ble_eq_true rfl)) dX11_feed_16 ⟨Nat.le_of_ble_eq_true rfl, Nat.le_of_ble_eq_true rfl⟩) hS (fun q _ h => hFc q h) hFc (fun r_6 u t H1 locs ht hvm hw hB hz1 hk1 hS => ?_)
  obtain ⟨hP1, hK1, hD1⟩ := hB
  rw [ht] at hP1
  have hK1 := va_K.moved hvm.symm hK1
  try dsimp only at hw
  obtain ⟨hP, hD⟩ := va_join (wr := [(h0, .inr (11, [.ref q_1, .ref q_5, .ref q_7, .ref q_65, .ref q_67, .ref q_89, .ref q_100, .ref q_106, .ref q_108, .ref q_113, .ref q_73, .ref q_81, .int 0, .int 0, .int (-1), .int 0, .long 0])), (q_1, .inr (10, [.ref q_3, .int 0, .int 0, .int 0])), (q_3, .inl (cy_4, 240, .inl (fun _ => 0)))]) (w1 := []) hP hD [] [0, 1, 2] rfl rfl (by decide) (by decide) hk1 hFc hP1 hD1
  have hK := hK.app hK1
  generalize H1 = H at hP hS ⊢
  have hP : va_P (dC, dI) vwCl [(h0, .inr (11, [.ref q_1, .ref q_5, .ref q_7, .ref q_65, .ref q_67, .ref q_89, .ref q_100, .ref q_106, .ref q_108, .ref q_113, .ref q_73, .ref q_81, .int 0, .int 0, .int (-1), .int 0, .long 0])), (q_1, .inr (10, [.ref q_3, .int 0, .int 0, .int 0])), (q_3, .inl (cy_4, 240, .inl (fun _ => 0)))] H := hP
  have hD : va_D A [(h0, .inr (11, [.ref q_1, .ref q_5, .ref q_7, .ref q_65, .ref q_67, .ref q_89, .ref q_100, .ref q_106, .ref q_108, .ref q_113, .ref q_73, .ref q_81, .int 0, .int 0, .int (-1), .int 0, .long 0])), (q_1, .inr (10, [.ref q_3, .int 0, .int 0, .int 0])), (q_3, .inl (cy_4, 240, .inl (fun _ => 0)))] := hD
  have hK : va_K (dC, dI) vwCl [(cy_4, .int)] s := hK
  refine W.widen (k := 0) (n := 0) (Nat.le_of_ble_eq_true rfl) (Nat.le_of_ble_eq_true rfl) ?_
  obtain rfl : r_6 = nI (fbN p4) := hw
  refine lv_iadd hx hb dX11_feed_19 ?_
  refine lv_topi (fun f_7 ef_7 => ?_)
  obtain rfl : f_7 = nI ((((fbN p1) + (fbN p2)) + (fbN p3)) + (fbN p4)) := ef_7.trans (nI_add (((fbN p1) + (fbN p2)) + (fbN p3)) (fbN p4))
  refine lv_iload hx hb dX11_feed_20 (lv_at hl 5 rfl) ?_
  have hPc := hP.sub (ws' := []) [] rfl
  have hDc := hD.sub (ws' := []) [] (by decide) rfl
  have hKc := hK.sub (tys' := []) [] rfl
  have hFc := va_free (wc := []) hD hS hA [] rfl
  refine va_calli (va_runS (As := [.int p5]) (rest := [.int (nI ((((fbN p1) + (fbN p2)) + (fbN p3)) + (fbN p4)))]) ⟨hx, hb, hml, hown, hts⟩ (c_fullBytes l dC dI p5 H.size) (va_cwS 1 hts g_t_X11_feed_22_c_fullBytes rfl rfl rfl (by decide +kernel) ⟨Nat.le_of_ble_eq_true rfl, Nat.le_of_ble_eq_true rfl⟩) ⟨fun a U g mk q => by obtain ⟨q0, q1, qP, qK, qD⟩ := q; exact ⟨q0, q1, qP, va_K.moved (u := U) (U := U.calling g mk a) (Vm.Alike.refl U.vm) qK, qD⟩, fun U hU hW => ⟨rfl, by rw [hU], by rw [hU]; exact hPc, va_K.moved hW.alike hKc, hDc.weaken (fun _ _ _ _ => trivial)⟩⟩ rfl rfl hl.1 rfl (lv_room (Nat.le_of_ble_eq_true rfl)) dX11_feed_22 ⟨Nat.le_of_ble_eq_true rfl, Nat.le_of_ble_eq_true rfl⟩) hS (fun q _ h => hFc q h) hFc (fun r_8 u t H1 locs ht hvm hw hB hz1 hk1 hS => ?_)
  obtain ⟨hP1, hK1, hD1⟩ := hB
  rw [ht] at hP1
  have hK1 := va_K.moved hvm.symm hK1
  try dsimp only at hw
  obtain ⟨hP, hD⟩ := va_join (wr := [(h0, .inr (11, [.ref q_1, .ref q_5, .ref q_7, .ref q_65, .ref q_67, .ref q_89, .ref q_100, .ref q_106, .ref q_108, .ref q_113, .ref q_73, .ref q_81, .int 0, .int 0, .int (-1), .int 0, .long 0])), (q_1, .inr (10, [.ref q_3, .int 0, .int 0, .int 0])), (q_3, .inl (cy_4, 240, .inl (fun _ => 0)))]) (w1 := []) hP hD [] [0, 1, 2] rfl rfl (by decide) (by decide) hk1 hFc hP1 hD1
  have hK := hK.app hK1
  generalize H1 = H at hP hS ⊢
  have hP : va_P (dC, dI) vwCl [(h0, .inr (11, [.ref q_1, .ref q_5, .ref q_7, .ref q_65, .ref q_67, .ref q_89, .ref q_100, .ref q_106, .ref q_108, .ref q_113, .ref q_73, .ref q_81, .int 0, .int 0, .int (-1), .int 0, .long 0])), (q_1, .inr (10, [.ref q_3, .int 0, .int 0, .int 0])), (q_3, .inl (cy_4, 240, .inl (fun _ => 0)))] H := hP
  have hD : va_D A [(h0, .inr (11, [.ref q_1, .ref q_5, .ref q_7, .ref q_65, .ref q_67, .ref q_89, .ref q_100, .ref q_106, .ref q_108, .ref q_113, .ref q_73, .ref q_81, .int 0, .int 0, .int (-1), .int 0, .long 0])), (q_1, .inr (10, [.ref q_3, .int 0, .int 0, .int 0])), (q_3, .inl (cy_4, 240, .inl (fun _ => 0)))] := hD
  have hK : va_K (dC, dI) vwCl [(cy_4, .int)] s := hK
  refine W.widen (k := 0) (n := 0) (Nat.le_of_ble_eq_true rfl) (Nat.le_of_ble_eq_true rfl) ?_
  obtain rfl : r_8 = nI (fbN p5) := hw
  refine lv_iadd hx hb dX11_feed_25 ?_
  refine lv_topi (fun f_9 ef_9 => ?_)
  obtain rfl : f_9 = nI (((((fbN p1) + (fbN p2)) + (fbN p3)) + (fbN p4)) + (fbN p5)) := ef_9.trans (nI_add ((((fbN p1) + (fbN p2)) + (fbN p3)) + (fbN p4)) (fbN p5))
  refine lv_istore (lv' := [(6, .int (nI (((((fbN p1) + (fbN p2)) + (fbN p3)) + (fbN p4)) + (fbN p5)))), (0, .ref h0), (1, .int p1), (2, .int p2), (3, .int p3), (4, .int p4), (5, .int p5)]) hx hb dX11_feed_26 hl (by decide) rfl (fun ls hl => ?_)
  refine lv_aload_n hx hb dX11_feed_28 rfl (lv_at hl 1 rfl) ?_
  refine va_get (D := (dC, dI)) (ci := 11) (v := .ref q_1) (C := RX11) (T := TX11) (N := 17) hx hb hts in_t_X11_feed_X11 hown hK hP 0 rfl rfl 0 (by decide) (hts (.fieldLink RX11 10 "LawnAhead" "tape" "LLawnAhead$Tape;") (List.mem_of_getElem? (i := 5) rfl)) (fun _ h9 => h9) rfl dX11_feed_29 ?_
  refine va_get (D := (dC, dI)) (ci := 10) (v := .int 0) (C := RX10) (T := TX10) (N := 4) hx hb hts in_t_X11_feed_X10 hown hK hP 1 rfl rfl 1 (by decide) (hts (.fieldLink RX11 101 "LawnAhead$Tape" "length" "I") (List.mem_of_getElem? (i := 6) rfl)) (fun _ h9 => h9) rfl dX11_feed_32 ?_
  refine lv_iload hx hb dX11_feed_35 (lv_at hl 0 rfl) ?_
  refine lv_iadd hx hb dX11_feed_37 ?_
  refine lv_topi (fun f_10 ef_10 => ?_)
  obtain rfl : f_10 = nI (0 + (((((fbN p1) + (fbN p2)) + (fbN p3)) + (fbN p4)) + (fbN p5))) := ef_10.trans (nI_add 0 (((((fbN p1) + (fbN p2)) + (fbN p3)) + (fbN p4)) + (fbN p5)))
  refine lv_sipush (v := 240) hx hb dX11_feed_38 (by decide +kernel) ?_
  refine lv_icmp_le (tgt := 46) hx hb dX11_feed_41 (by decide) (fun c_11 => ?_) (fun c_11 => absurd (nI_le (b := 240) (by have := fbN_le p1; have := fbN_le p2; have := fbN_le p3; have := fbN_le p4; have := fbN_le p5; omega) (by decide)) c_11)
  refine lv_aload_n hx hb dX11_feed_46 rfl (lv_at hl 1 rfl) ?_
  refine va_get (D := (dC, dI)) (ci := 11) (v := .ref q_1) (C := RX11) (T := TX11) (N := 17) hx hb hts in_t_X11_feed_X11 hown hK hP 0 rfl rfl 0 (by decide) (hts (.fieldLink RX11 10 "LawnAhead" "tape" "LLawnAhead$Tape;") (List.mem_of_getElem? (i := 5) rfl)) (fun _ h9 => h9) rfl dX11_feed_47 ?_
  refine lv_iload_n hx hb dX11_feed_50 rfl (lv_at hl 2 rfl) ?_
  have hPc := hP.sub (ws' := [(q_1, .inr (10, [.ref q_3, .int 0, .int 0, .int 0])), (q_3, .inl (cy_4, 240, .inl (fun _ => 0)))]) [1, 2] rfl
  have hDc := hD.sub (ws' := [(q_1, .inr (10, [.ref q_3, .int 0, .int 0, .int 0])), (q_3, .inl (cy_4, 240, .inl (fun _ => 0)))]) [1, 2] (by decide) rfl
  have hKc := hK.sub (tys' := [(cy_4, .int)]) [0] rfl
  have hFc := va_free (wc := [(q_1, .inr (10, [.ref q_3, .int 0, .int 0, .int 0])), (q_3, .inl (cy_4, 240, .inl (fun _ => 0)))]) hD hS hA [1, 2] rfl
  refine va_callv (va_runV (As := [.int p1]) (rest := []) ⟨hx, hb, hml, hown, hts⟩ (c_append l dC dI q_1 p1 q_3 cy_4 (fun _ => 0) 0 H.size (by have := fbN_le p1; have := fbN_le p2; have := fbN_le p3; have := fbN_le p4; have := fbN_le p5; omega)) (cwV 1 hts g_t_X11_feed_51_c_append rfl rfl rfl (by decide +kernel) ⟨Nat.le_of_ble_eq_true rfl, Nat.le_of_ble_eq_true rfl⟩) ⟨fun a U g mk q => by obtain ⟨q0, q1, qP, qK, qD⟩ := q; exact ⟨q0, q1, qP, va_K.moved (u := U) (U := U.calling g mk a) (Vm.Alike.refl U.vm) qK, qD⟩, va_recv hK hP (ci := 10) (q0 := 1) rfl rfl, fun U hU hW => ⟨rfl, by rw [hU], by rw [hU]; exact hPc, va_K.moved hW.alike hKc, hDc.weaken (fun _ _ _ _ => trivial)⟩⟩ rfl rfl hl.1 rfl (lv_room (Nat.le_of_ble_eq_true rfl)) dX11_feed_51 ⟨Nat.le_of_ble_eq_true rfl, Nat.le_of_ble_eq_true rfl⟩) hS (fun q _ h => hFc q h) hFc (fun u t H1 locs ht hvm hw hB hz1 hk1 hS => ?_)
  obtain ⟨g_13, hP1, hK1, hD1⟩ := hB
  rw [ht] at hP1
  have hK1 := va_K.moved hvm.symm hK1
  try dsimp only at hw
  obtain ⟨hP, hD⟩ := va_join (wr := [(h0, .inr (11, [.ref q_1, .ref q_5, .ref q_7, .ref q_65, .ref q_67, .ref q_89, .ref q_100, .ref q_106, .ref q_108, .ref q_113, .ref q_73, .ref q_81, .int 0, .int 0, .int (-1), .int 0, .long 0]))]) (w1 := [(q_1, .inr (10, [.ref q_3, .int (nI (0 + fbN p1)), .int 0, .int 0])), (q_3, .inl (cy_4, 240, .inl g_13))]) hP hD [1, 2] [0] rfl rfl (by decide) (by decide) hk1 hFc hP1 hD1
  have hK := hK.app hK1
  generalize H1 = H at hP hS ⊢
  have hP : va_P (dC, dI) vwCl [(h0, .inr (11, [.ref q_1, .ref q_5, .ref q_7, .ref q_65, .ref q_67, .ref q_89, .ref q_100, .ref q_106, .ref q_108, .ref q_113, .ref q_73, .ref q_81, .int 0, .int 0, .int (-1), .int 0, .long 0])), (q_1, .inr (10, [.ref q_3, .int (nI (0 + fbN p1)), .int 0, .int 0])), (q_3, .inl (cy_4, 240, .inl g_13))] H := hP
  have hD : va_D A [(h0, .inr (11, [.ref q_1, .ref q_5, .ref q_7, .ref q_65, .ref q_67, .ref q_89, .ref q_100, .ref q_106, .ref q_108, .ref q_113, .ref q_73, .ref q_81, .int 0, .int 0, .int (-1), .int 0, .long 0])), (q_1, .inr (10, [.ref q_3, .int (nI (0 + fbN p1)), .int 0, .int 0])), (q_3, .inl (cy_4, 240, .inl g_13))] := hD
  have hK : va_K (dC, dI) vwCl [(cy_4, .int)] s := hK
  refine W.widen (k := 0) (n := 0) (Nat.le_of_ble_eq_true rfl) (Nat.le_of_ble_eq_true rfl) ?_
  refine lv_aload_n hx hb dX11_feed_54 rfl (lv_at hl 1 rfl) ?_
  refine va_get (D := (dC, dI)) (ci := 11) (v := .ref q_1) (C := RX11) (T := TX11) (N := 17) hx hb hts in_t_X11_feed_X11 hown hK hP 0 rfl rfl 0 (by decide) (hts (.fieldLink RX11 10 "LawnAhead" "tape" "LLawnAhead$Tape;") (List.mem_of_getElem? (i := 5) rfl)) (fun _ h9 => h9) rfl dX11_feed_55 ?_
  refine lv_iload_n hx hb dX11_feed_58 rfl (lv_at hl 3 rfl) ?_
  have hPc := hP.sub (ws' := [(q_1, .inr (10, [.ref q_3, .int (nI (0 + fbN p1)), .int 0, .int 0])), (q_3, .inl (cy_4, 240, .inl g_13))]) [1, 2] rfl
  have hDc := hD.sub (ws' := [(q_1, .inr (10, [.ref q_3, .int (nI (0 + fbN p1)), .int 0, .int 0])), (q_3, .inl (cy_4, 240, .inl g_13))]) [1, 2] (by decide) rfl
  have hKc := hK.sub (tys' := [(cy_4, .int)]) [0] rfl
  have hFc := va_free (wc := [(q_1, .inr (10, [.ref q_3, .int (nI (0 + fbN p1)), .int 0, .int 0])), (q_3, .inl (cy_4, 240, .inl g_13))]) hD hS hA [1, 2] rfl
  refine va_callv (va_runV (As := [.int p2]) (rest := []) ⟨hx, hb, hml, hown, hts⟩ (c_append l dC dI q_1 p2 q_3 cy_4 g_13 (0 + fbN p1) H.size (by have := fbN_le p1; have := fbN_le p2; have := fbN_le p3; have := fbN_le p4; have := fbN_le p5; omega)) (cwV 1 hts g_t_X11_feed_59_c_append rfl rfl rfl (by decide +kernel) ⟨Nat.le_of_ble_eq_true rfl, Nat.le_of_ble_eq_true rfl⟩) ⟨fun a U g mk q => by obtain ⟨q0, q1, qP, qK, qD⟩ := q; exact ⟨q0, q1, qP, va_K.moved (u := U) (U := U.calling g mk a) (Vm.Alike.refl U.vm) qK, qD⟩, va_recv hK hP (ci := 10) (q0 := 1) rfl rfl, fun U hU hW => ⟨rfl, by rw [hU], by rw [hU]; exact hPc, va_K.moved hW.alike hKc, hDc.weaken (fun _ _ _ _ => trivial)⟩⟩ rfl rfl hl.1 rfl (lv_room (Nat.le_of_ble_eq_true rfl)) dX11_feed_59 ⟨Nat.le_of_ble_eq_true rfl, Nat.le_of_ble_eq_true rfl⟩) hS (fun q _ h => hFc q h) hFc (fun u t H1 locs ht hvm hw hB hz1 hk1 hS => ?_)
  obtain ⟨g_15, hP1, hK1, hD1⟩ := hB
  rw [ht] at hP1
  have hK1 := va_K.moved hvm.symm hK1
  try dsimp only at hw
  obtain ⟨hP, hD⟩ := va_join (wr := [(h0, .inr (11, [.ref q_1, .ref q_5, .ref q_7, .ref q_65, .ref q_67, .ref q_89, .ref q_100, .ref q_106, .ref q_108, .ref q_113, .ref q_73, .ref q_81, .int 0, .int 0, .int (-1), .int 0, .long 0]))]) (w1 := [(q_1, .inr (10, [.ref q_3, .int (nI ((0 + fbN p1) + fbN p2)), .int 0, .int 0])), (q_3, .inl (cy_4, 240, .inl g_15))]) hP hD [1, 2] [0] rfl rfl (by decide) (by decide) hk1 hFc hP1 hD1
  have hK := hK.app hK1
  generalize H1 = H at hP hS ⊢
  have hP : va_P (dC, dI) vwCl [(h0, .inr (11, [.ref q_1, .ref q_5, .ref q_7, .ref q_65, .ref q_67, .ref q_89, .ref q_100, .ref q_106, .ref q_108, .ref q_113, .ref q_73, .ref q_81, .int 0, .int 0, .int (-1), .int 0, .long 0])), (q_1, .inr (10, [.ref q_3, .int (nI ((0 + fbN p1) + fbN p2)), .int 0, .int 0])), (q_3, .inl (cy_4, 240, .inl g_15))] H := hP
  have hD : va_D A [(h0, .inr (11, [.ref q_1, .ref q_5, .ref q_7, .ref q_65, .ref q_67, .ref q_89, .ref q_100, .ref q_106, .ref q_108, .ref q_113, .ref q_73, .ref q_81, .int 0, .int 0, .int (-1), .int 0, .long 0])), (q_1, .inr (10, [.ref q_3, .int (nI ((0 + fbN p1) + fbN p2)), .int 0, .int 0])), (q_3, .inl (cy_4, 240, .inl g_15))] := hD
  have hK : va_K (dC, dI) vwCl [(cy_4, .int)] s := hK
  refine W.widen (k := 0) (n := 0) (Nat.le_of_ble_eq_true rfl) (Nat.le_of_ble_eq_true rfl) ?_
  refine lv_aload_n hx hb dX11_feed_62 rfl (lv_at hl 1 rfl) ?_
  refine va_get (D := (dC, dI)) (ci := 11) (v := .ref q_1) (C := RX11) (T := TX11) (N := 17) hx hb hts in_t_X11_feed_X11 hown hK hP 0 rfl rfl 0 (by decide) (hts (.fieldLink RX11 10 "LawnAhead" "tape" "LLawnAhead$Tape;") (List.mem_of_getElem? (i := 5) rfl)) (fun _ h9 => h9) rfl dX11_feed_63 ?_
  refine lv_iload_n hx hb dX11_feed_66 rfl (lv_at hl 4 rfl) ?_
  have hPc := hP.sub (ws' := [(q_1, .inr (10, [.ref q_3, .int (nI ((0 + fbN p1) + fbN p2)), .int 0, .int 0])), (q_3, .inl (cy_4, 240, .inl g_15))]) [1, 2] rfl
  have hDc := hD.sub (ws' := [(q_1, .inr (10, [.ref q_3, .int (nI ((0 + fbN p1) + fbN p2)), .int 0, .int 0])), (q_3, .inl (cy_4, 240, .inl g_15))]) [1, 2] (by decide) rfl
  have hKc := hK.sub (tys' := [(cy_4, .int)]) [0] rfl
  have hFc := va_free (wc := [(q_1, .inr (10, [.ref q_3, .int (nI ((0 + fbN p1) + fbN p2)), .int 0, .int 0])), (q_3, .inl (cy_4, 240, .inl g_15))]) hD hS hA [1, 2] rfl
  refine va_callv (va_runV (As := [.int p3]) (rest := []) ⟨hx, hb, hml, hown, hts⟩ (c_append l dC dI q_1 p3 q_3 cy_4 g_15 ((0 + fbN p1) + fbN p2) H.size (by have := fbN_le p1; have := fbN_le p2; have := fbN_le p3; have := fbN_le p4; have := fbN_le p5; omega)) (cwV 1 hts g_t_X11_feed_67_c_append rfl rfl rfl (by decide +kernel) ⟨Nat.le_of_ble_eq_true rfl, Nat.le_of_ble_eq_true rfl⟩) ⟨fun a U g mk q => by obtain ⟨q0, q1, qP, qK, qD⟩ := q; exact ⟨q0, q1, qP, va_K.moved (u := U) (U := U.calling g mk a) (Vm.Alike.refl U.vm) qK, qD⟩, va_recv hK hP (ci := 10) (q0 := 1) rfl rfl, fun U hU hW => ⟨rfl, by rw [hU], by rw [hU]; exact hPc, va_K.moved hW.alike hKc, hDc.weaken (fun _ _ _ _ => trivial)⟩⟩ rfl rfl hl.1 rfl (lv_room (Nat.le_of_ble_eq_true rfl)) dX11_feed_67 ⟨Nat.le_of_ble_eq_true rfl, Nat.le_of_ble_eq_true rfl⟩) hS (fun q _ h => hFc q h) hFc (fun u t H1 locs ht hvm hw hB hz1 hk1 hS => ?_)
  obtain ⟨g_17, hP1, hK1, hD1⟩ := hB
  rw [ht] at hP1
  have hK1 := va_K.moved hvm.symm hK1
  try dsimp only at hw
  obtain ⟨hP, hD⟩ := va_join (wr := [(h0, .inr (11, [.ref q_1, .ref q_5, .ref q_7, .ref q_65, .ref q_67, .ref q_89, .ref q_100, .ref q_106, .ref q_108, .ref q_113, .ref q_73, .ref q_81, .int 0, .int 0, .int (-1), .int 0, .long 0]))]) (w1 := [(q_1, .inr (10, [.ref q_3, .int (nI (((0 + fbN p1) + fbN p2) + fbN p3)), .int 0, .int 0])), (q_3, .inl (cy_4, 240, .inl g_17))]) hP hD [1, 2] [0] rfl rfl (by decide) (by decide) hk1 hFc hP1 hD1
  have hK := hK.app hK1
  generalize H1 = H at hP hS ⊢
  have hP : va_P (dC, dI) vwCl [(h0, .inr (11, [.ref q_1, .ref q_5, .ref q_7, .ref q_65, .ref q_67, .ref q_89, .ref q_100, .ref q_106, .ref q_108, .ref q_113, .ref q_73, .ref q_81, .int 0, .int 0, .int (-1), .int 0, .long 0])), (q_1, .inr (10, [.ref q_3, .int (nI (((0 + fbN p1) + fbN p2) + fbN p3)), .int 0, .int 0])), (q_3, .inl (cy_4, 240, .inl g_17))] H := hP
  have hD : va_D A [(h0, .inr (11, [.ref q_1, .ref q_5, .ref q_7, .ref q_65, .ref q_67, .ref q_89, .ref q_100, .ref q_106, .ref q_108, .ref q_113, .ref q_73, .ref q_81, .int 0, .int 0, .int (-1), .int 0, .long 0])), (q_1, .inr (10, [.ref q_3, .int (nI (((0 + fbN p1) + fbN p2) + fbN p3)), .int 0, .int 0])), (q_3, .inl (cy_4, 240, .inl g_17))] := hD
  have hK : va_K (dC, dI) vwCl [(cy_4, .int)] s := hK
  refine W.widen (k := 0) (n := 0) (Nat.le_of_ble_eq_true rfl) (Nat.le_of_ble_eq_true rfl) ?_
  refine lv_aload_n hx hb dX11_feed_70 rfl (lv_at hl 1 rfl) ?_
  refine va_get (D := (dC, dI)) (ci := 11) (v := .ref q_1) (C := RX11) (T := TX11) (N := 17) hx hb hts in_t_X11_feed_X11 hown hK hP 0 rfl rfl 0 (by decide) (hts (.fieldLink RX11 10 "LawnAhead" "tape" "LLawnAhead$Tape;") (List.mem_of_getElem? (i := 5) rfl)) (fun _ h9 => h9) rfl dX11_feed_71 ?_
  refine lv_iload hx hb dX11_feed_74 (lv_at hl 5 rfl) ?_
  have hPc := hP.sub (ws' := [(q_1, .inr (10, [.ref q_3, .int (nI (((0 + fbN p1) + fbN p2) + fbN p3)), .int 0, .int 0])), (q_3, .inl (cy_4, 240, .inl g_17))]) [1, 2] rfl
  have hDc := hD.sub (ws' := [(q_1, .inr (10, [.ref q_3, .int (nI (((0 + fbN p1) + fbN p2) + fbN p3)), .int 0, .int 0])), (q_3, .inl (cy_4, 240, .inl g_17))]) [1, 2] (by decide) rfl
  have hKc := hK.sub (tys' := [(cy_4, .int)]) [0] rfl
  have hFc := va_free (wc := [(q_1, .inr (10, [.ref q_3, .int (nI (((0 + fbN p1) + fbN p2) + fbN p3)), .int 0, .int 0])), (q_3, .inl (cy_4, 240, .inl g_17))]) hD hS hA [1, 2] rfl
  refine va_callv (va_runV (As := [.int p4]) (rest := []) ⟨hx, hb, hml, hown, hts⟩ (c_append l dC dI q_1 p4 q_3 cy_4 g_17 (((0 + fbN p1) + fbN p2) + fbN p3) H.size (by have := fbN_le p1; have := fbN_le p2; have := fbN_le p3; have := fbN_le p4; have := fbN_le p5; omega)) (cwV 1 hts g_t_X11_feed_76_c_append rfl rfl rfl (by decide +kernel) ⟨Nat.le_of_ble_eq_true rfl, Nat.le_of_ble_eq_true rfl⟩) ⟨fun a U g mk q => by obtain ⟨q0, q1, qP, qK, qD⟩ := q; exact ⟨q0, q1, qP, va_K.moved (u := U) (U := U.calling g mk a) (Vm.Alike.refl U.vm) qK, qD⟩, va_recv hK hP (ci := 10) (q0 := 1) rfl rfl, fun U hU hW => ⟨rfl, by rw [hU], by rw [hU]; exact hPc, va_K.moved hW.alike hKc, hDc.weaken (fun _ _ _ _ => trivial)⟩⟩ rfl rfl hl.1 rfl (lv_room (Nat.le_of_ble_eq_true rfl)) dX11_feed_76 ⟨Nat.le_of_ble_eq_true rfl, Nat.le_of_ble_eq_true rfl⟩) hS (fun q _ h => hFc q h) hFc (fun u t H1 locs ht hvm hw hB hz1 hk1 hS => ?_)
  obtain ⟨g_19, hP1, hK1, hD1⟩ := hB
  rw [ht] at hP1
  have hK1 := va_K.moved hvm.symm hK1
  try dsimp only at hw
  obtain ⟨hP, hD⟩ := va_join (wr := [(h0, .inr (11, [.ref q_1, .ref q_5, .ref q_7, .ref q_65, .ref q_67, .ref q_89, .ref q_100, .ref q_106, .ref q_108, .ref q_113, .ref q_73, .ref q_81, .int 0, .int 0, .int (-1), .int 0, .long 0]))]) (w1 := [(q_1, .inr (10, [.ref q_3, .int (nI ((((0 + fbN p1) + fbN p2) + fbN p3) + fbN p4)), .int 0, .int 0])), (q_3, .inl (cy_4, 240, .inl g_19))]) hP hD [1, 2] [0] rfl rfl (by decide) (by decide) hk1 hFc hP1 hD1
  have hK := hK.app hK1
  generalize H1 = H at hP hS ⊢
  have hP : va_P (dC, dI) vwCl [(h0, .inr (11, [.ref q_1, .ref q_5, .ref q_7, .ref q_65, .ref q_67, .ref q_89, .ref q_100, .ref q_106, .ref q_108, .ref q_113, .ref q_73, .ref q_81, .int 0, .int 0, .int (-1), .int 0, .long 0])), (q_1, .inr (10, [.ref q_3, .int (nI ((((0 + fbN p1) + fbN p2) + fbN p3) + fbN p4)), .int 0, .int 0])), (q_3, .inl (cy_4, 240, .inl g_19))] H := hP
  have hD : va_D A [(h0, .inr (11, [.ref q_1, .ref q_5, .ref q_7, .ref q_65, .ref q_67, .ref q_89, .ref q_100, .ref q_106, .ref q_108, .ref q_113, .ref q_73, .ref q_81, .int 0, .int 0, .int (-1), .int 0, .long 0])), (q_1, .inr (10, [.ref q_3, .int (nI ((((0 + fbN p1) + fbN p2) + fbN p3) + fbN p4)), .int 0, .int 0])), (q_3, .inl (cy_4, 240, .inl g_19))] := hD
  have hK : va_K (dC, dI) vwCl [(cy_4, .int)] s := hK
  refine W.widen (k := 0) (n := 0) (Nat.le_of_ble_eq_true rfl) (Nat.le_of_ble_eq_true rfl) ?_
  refine lv_aload_n hx hb dX11_feed_79 rfl (lv_at hl 1 rfl) ?_
  refine va_get (D := (dC, dI)) (ci := 11) (v := .ref q_1) (C := RX11) (T := TX11) (N := 17) hx hb hts in_t_X11_feed_X11 hown hK hP 0 rfl rfl 0 (by decide) (hts (.fieldLink RX11 10 "LawnAhead" "tape" "LLawnAhead$Tape;") (List.mem_of_getElem? (i := 5) rfl)) (fun _ h9 => h9) rfl dX11_feed_80 ?_
  refine lv_iload hx hb dX11_feed_83 (lv_at hl 6 rfl) ?_
  have hPc := hP.sub (ws' := [(q_1, .inr (10, [.ref q_3, .int (nI ((((0 + fbN p1) + fbN p2) + fbN p3) + fbN p4)), .int 0, .int 0])), (q_3, .inl (cy_4, 240, .inl g_19))]) [1, 2] rfl
  have hDc := hD.sub (ws' := [(q_1, .inr (10, [.ref q_3, .int (nI ((((0 + fbN p1) + fbN p2) + fbN p3) + fbN p4)), .int 0, .int 0])), (q_3, .inl (cy_4, 240, .inl g_19))]) [1, 2] (by decide) rfl
  have hKc := hK.sub (tys' := [(cy_4, .int)]) [0] rfl
  have hFc := va_free (wc := [(q_1, .inr (10, [.ref q_3, .int (nI ((((0 + fbN p1) + fbN p2) + fbN p3) + fbN p4)), .int 0, .int 0])), (q_3, .inl (cy_4, 240, .inl g_19))]) hD hS hA [1, 2] rfl
  refine va_callv (va_runV (As := [.int p5]) (rest := []) ⟨hx, hb, hml, hown, hts⟩ (c_append l dC dI q_1 p5 q_3 cy_4 g_19 ((((0 + fbN p1) + fbN p2) + fbN p3) + fbN p4) H.size (by have := fbN_le p1; have := fbN_le p2; have := fbN_le p3; have := fbN_le p4; have := fbN_le p5; omega)) (cwV 1 hts g_t_X11_feed_85_c_append rfl rfl rfl (by decide +kernel) ⟨Nat.le_of_ble_eq_true rfl, Nat.le_of_ble_eq_true rfl⟩) ⟨fun a U g mk q => by obtain ⟨q0, q1, qP, qK, qD⟩ := q; exact ⟨q0, q1, qP, va_K.moved (u := U) (U := U.calling g mk a) (Vm.Alike.refl U.vm) qK, qD⟩, va_recv hK hP (ci := 10) (q0 := 1) rfl rfl, fun U hU hW => ⟨rfl, by rw [hU], by rw [hU]; exact hPc, va_K.moved hW.alike hKc, hDc.weaken (fun _ _ _ _ => trivial)⟩⟩ rfl rfl hl.1 rfl (lv_room (Nat.le_of_ble_eq_true rfl)) dX11_feed_85 ⟨Nat.le_of_ble_eq_true rfl, Nat.le_of_ble_eq_true rfl⟩) hS (fun q _ h => hFc q h) hFc (fun u t H1 locs ht hvm hw hB hz1 hk1 hS => ?_)
  obtain ⟨g_21, hP1, hK1, hD1⟩ := hB
  rw [ht] at hP1
  have hK1 := va_K.moved hvm.symm hK1
  try dsimp only at hw
  obtain ⟨hP, hD⟩ := va_join (wr := [(h0, .inr (11, [.ref q_1, .ref q_5, .ref q_7, .ref q_65, .ref q_67, .ref q_89, .ref q_100, .ref q_106, .ref q_108, .ref q_113, .ref q_73, .ref q_81, .int 0, .int 0, .int (-1), .int 0, .long 0]))]) (w1 := [(q_1, .inr (10, [.ref q_3, .int (nI (((((0 + fbN p1) + fbN p2) + fbN p3) + fbN p4) + fbN p5)), .int 0, .int 0])), (q_3, .inl (cy_4, 240, .inl g_21))]) hP hD [1, 2] [0] rfl rfl (by decide) (by decide) hk1 hFc hP1 hD1
  have hK := hK.app hK1
  generalize H1 = H at hP hS ⊢
  have hP : va_P (dC, dI) vwCl [(h0, .inr (11, [.ref q_1, .ref q_5, .ref q_7, .ref q_65, .ref q_67, .ref q_89, .ref q_100, .ref q_106, .ref q_108, .ref q_113, .ref q_73, .ref q_81, .int 0, .int 0, .int (-1), .int 0, .long 0])), (q_1, .inr (10, [.ref q_3, .int (nI (((((0 + fbN p1) + fbN p2) + fbN p3) + fbN p4) + fbN p5)), .int 0, .int 0])), (q_3, .inl (cy_4, 240, .inl g_21))] H := hP
  have hD : va_D A [(h0, .inr (11, [.ref q_1, .ref q_5, .ref q_7, .ref q_65, .ref q_67, .ref q_89, .ref q_100, .ref q_106, .ref q_108, .ref q_113, .ref q_73, .ref q_81, .int 0, .int 0, .int (-1), .int 0, .long 0])), (q_1, .inr (10, [.ref q_3, .int (nI (((((0 + fbN p1) + fbN p2) + fbN p3) + fbN p4) + fbN p5)), .int 0, .int 0])), (q_3, .inl (cy_4, 240, .inl g_21))] := hD
  have hK : va_K (dC, dI) vwCl [(cy_4, .int)] s := hK
  refine W.widen (k := 0) (n := 0) (Nat.le_of_ble_eq_true rfl) (Nat.le_of_ble_eq_true rfl) ?_
  refine lv_aload_n hx hb dX11_feed_88 rfl (lv_at hl 1 rfl) ?_
  refine va_get (D := (dC, dI)) (ci := 11) (v := .ref q_1) (C := RX11) (T := TX11) (N := 17) hx hb hts in_t_X11_feed_X11 hown hK hP 0 rfl rfl 0 (by decide) (hts (.fieldLink RX11 10 "LawnAhead" "tape" "LLawnAhead$Tape;") (List.mem_of_getElem? (i := 5) rfl)) (fun _ h9 => h9) rfl dX11_feed_89 ?_
  refine va_get (D := (dC, dI)) (ci := 10) (v := .int (nI (((((0 + fbN p1) + fbN p2) + fbN p3) + fbN p4) + fbN p5))) (C := RX10) (T := TX10) (N := 4) hx hb hts in_t_X11_feed_X10 hown hK hP 1 rfl rfl 1 (by decide) (hts (.fieldLink RX11 101 "LawnAhead$Tape" "length" "I") (List.mem_of_getElem? (i := 6) rfl)) (fun _ h9 => h9) rfl dX11_feed_92 ?_
  refine W.widen (k := 0) (n := 0) (Nat.le_of_ble_eq_true rfl) (Nat.le_of_ble_eq_true rfl) ?_
  exact W.iret (v := (nI (((((0 + fbN p1) + fbN p2) + fbN p3) + fbN p4) + fbN p5))) hx hb hr (fun t ht hW => ⟨⟨(nI (((((0 + fbN p1) + fbN p2) + fbN p3) + fbN p4) + fbN p5)), (), rfl, rfl, trivial⟩, hS.F ht⟩) hS.2.2 dX11_feed_95

def w_t_X12_feed : List Cond := .code yX12_feed cX12_feed 6 (some .int) :: ([.fieldLink RX12 94 "LawnAheadModel" "thrown" "I", .fieldLink RX12 107 "LawnAheadModel" "length" "I", .code yX12_bytesIn cX12_bytesIn 3 (some .int), .methodLink RX12 109 yX12_bytesIn, .static yX12_bytesIn, .initialized RX12, .fieldLink RX12 9 "LawnAheadModel" "tape" "[B", .code yX12_put cX12_put 3 none, .methodLink RX12 113 yX12_put, .instanceMethod yX12_put, .selects RX12 yX12_put yX12_put] ++ (wsX120 ++ []))
theorem in_t_X12_feed_X12 : ∀ w ∈ wsX120, w ∈ w_t_X12_feed := fun w h => List.mem_cons_of_mem _ (List.mem_append_right _ (List.mem_append_left _ h))
set_option maxRecDepth 100000 in
theorem g_t_X12_feed_10_c_bytesIn : GoodIn w_t_X12_feed (([.methodLink RX12 109 yX12_bytesIn, .static yX12_bytesIn, .initialized RX12] : List Cond) ++ w_c_bytesIn) := goodIn_r _ [4, 5, 6, 3] rfl (by decide +kernel)
set_option maxRecDepth 100000 in
theorem g_t_X12_feed_15_c_bytesIn : GoodIn w_t_X12_feed (([.methodLink RX12 109 yX12_bytesIn, .static yX12_bytesIn, .initialized RX12] : List Cond) ++ w_c_bytesIn) := goodIn_r _ [4, 5, 6, 3] rfl (by decide +kernel)
set_option maxRecDepth 100000 in
theorem g_t_X12_feed_20_c_bytesIn : GoodIn w_t_X12_feed (([.methodLink RX12 109 yX12_bytesIn, .static yX12_bytesIn, .initialized RX12] : List Cond) ++ w_c_bytesIn) := goodIn_r _ [4, 5, 6, 3] rfl (by decide +kernel)
set_option maxRecDepth 100000 in
theorem g_t_X12_feed_26_c_bytesIn : GoodIn w_t_X12_feed (([.methodLink RX12 109 yX12_bytesIn, .static yX12_bytesIn, .initialized RX12] : List Cond) ++ w_c_bytesIn) := goodIn_r _ [4, 5, 6, 3] rfl (by decide +kernel)
set_option maxRecDepth 100000 in
theorem g_t_X12_feed_32_c_bytesIn : GoodIn w_t_X12_feed (([.methodLink RX12 109 yX12_bytesIn, .static yX12_bytesIn, .initialized RX12] : List Cond) ++ w_c_bytesIn) := goodIn_r _ [4, 5, 6, 3] rfl (by decide +kernel)
set_option maxRecDepth 100000 in
theorem g_t_X12_feed_46_c_put : GoodIn w_t_X12_feed (([.methodLink RX12 113 yX12_put, .instanceMethod yX12_put, .selects RX12 yX12_put yX12_put, .initialized RX12] : List Cond) ++ w_c_put) := goodIn_r _ [9, 10, 11, 6, 8, 7, 2, 12, 13, 14, 15, 16, 17, 18, 19, 20, 21, 22, 23, 24, 25, 26, 27, 28, 29, 30, 31, 32, 33, 34, 35, 36, 37, 38, 39, 40, 41, 42, 43, 44, 45, 46, 47, 48, 49, 50, 51, 52, 53, 54, 55, 56, 57, 58, 59, 60, 61, 62, 63, 64] rfl (by decide +kernel)
set_option maxRecDepth 100000 in
theorem g_t_X12_feed_51_c_put : GoodIn w_t_X12_feed (([.methodLink RX12 113 yX12_put, .instanceMethod yX12_put, .selects RX12 yX12_put yX12_put, .initialized RX12] : List Cond) ++ w_c_put) := goodIn_r _ [9, 10, 11, 6, 8, 7, 2, 12, 13, 14, 15, 16, 17, 18, 19, 20, 21, 22, 23, 24, 25, 26, 27, 28, 29, 30, 31, 32, 33, 34, 35, 36, 37, 38, 39, 40, 41, 42, 43, 44, 45, 46, 47, 48, 49, 50, 51, 52, 53, 54, 55, 56, 57, 58, 59, 60, 61, 62, 63, 64] rfl (by decide +kernel)
set_option maxRecDepth 100000 in
theorem g_t_X12_feed_56_c_put : GoodIn w_t_X12_feed (([.methodLink RX12 113 yX12_put, .instanceMethod yX12_put, .selects RX12 yX12_put yX12_put, .initialized RX12] : List Cond) ++ w_c_put) := goodIn_r _ [9, 10, 11, 6, 8, 7, 2, 12, 13, 14, 15, 16, 17, 18, 19, 20, 21, 22, 23, 24, 25, 26, 27, 28, 29, 30, 31, 32, 33, 34, 35, 36, 37, 38, 39, 40, 41, 42, 43, 44, 45, 46, 47, 48, 49, 50, 51, 52, 53, 54, 55, 56, 57, 58, 59, 60, 61, 62, 63, 64] rfl (by decide +kernel)
set_option maxRecDepth 100000 in
theorem g_t_X12_feed_62_c_put : GoodIn w_t_X12_feed (([.methodLink RX12 113 yX12_put, .instanceMethod yX12_put, .selects RX12 yX12_put yX12_put, .initialized RX12] : List Cond) ++ w_c_put) := goodIn_r _ [9, 10, 11, 6, 8, 7, 2, 12, 13, 14, 15, 16, 17, 18, 19, 20, 21, 22, 23, 24, 25, 26, 27, 28, 29, 30, 31, 32, 33, 34, 35, 36, 37, 38, 39, 40, 41, 42, 43, 44, 45, 46, 47, 48, 49, 50, 51, 52, 53, 54, 55, 56, 57, 58, 59, 60, 61, 62, 63, 64] rfl (by decide +kernel)
set_option maxRecDepth 100000 in
theorem g_t_X12_feed_68_c_put : GoodIn w_t_X12_feed (([.methodLink RX12 113 yX12_put, .instanceMethod yX12_put, .selects RX12 yX12_put yX12_put, .initialized RX12] : List Cond) ++ w_c_put) := goodIn_r _ [9, 10, 11, 6, 8, 7, 2, 12, 13, 14, 15, 16, 17, 18, 19, 20, 21, 22, 23, 24, 25, 26, 27, 28, 29, 30, 31, 32, 33, 34, 35, 36, 37, 38, 39, 40, 41, 42, 43, 44, 45, 46, 47, 48, 49, 50, 51, 52, 53, 54, 55, 56, 57, 58, 59, 60, 61, 62, 63, 64] rfl (by decide +kernel)
set_option maxHeartbeats 8000000 in
set_option maxRecDepth 100000 in
theorem t_X12_feed (l : Launch) (dC : Nat → ClassId) (dI : Nat → Nat → Nat) (h0 : Nat) (p1 : Int32) (p2 : Int32) (p3 : Int32) (p4 : Int32) (p5 : Int32) (q_1 : Nat) (q_3 : Nat) (q_5 : Nat) (q_7 : Nat) (aY : Nat) (aT : Nat) (q_9 : Nat) (q_11 : Nat) (q_13 : Nat) (q_15 : Nat) (q_17 : Nat) (q_19 : Nat) (q_21 : Nat) (q_23 : Nat) (q_25 : Nat) (q_27 : Nat) (q_29 : Nat) (q_31 : Nat) (q_33 : Nat) (q_35 : Nat) (q_37 : Nat) (q_39 : Nat) (q_41 : Nat) (cy_2 : ClassId) (sz : Nat) : Met l yX12_feed w_t_X12_feed ({ frames := 1, cells := 0, slots := 0, locals := 22 }) (va_Pc [.ref h0, .int p1, .int p2, .int p3, .int p4, .int p5] (fun U => U.heap.size = sz ∧ va_P (dC, dI) vwCl [(h0, .inr (12, [.int 0, .ref q_1, .ref q_3, .ref q_5, .ref q_7, .ref q_1, .int 0, .int 0, .int 0, .int 0, .int 0, .int 0, .int 0, .int 0, .int 0, .ref aY, .ref aT, .int 0, .ref q_9, .ref q_11, .ref q_13, .ref q_15, .ref q_17, .int 0, .int 0, .int 0, .int 0, .int 0, .int 0, .int 0, .int 0, .int 0, .ref q_19, .ref q_21, .int (-1), .int 0, .ref q_23, .ref q_25, .ref q_27, .int 0, .long 0, .ref q_29, .int 0, .int 0, .ref q_31, .ref q_33, .ref q_35, .int 0, .ref q_37, .ref q_39, .int 0, .ref q_41, .int 0])), (q_1, .inl (cy_2, 240, .inl (fun _ => 0)))] U.heap ∧ va_K (dC, dI) vwCl [(cy_2, .byte)] U ∧ va_D (fun _ => True) [(h0, .inr (12, [.int 0, .ref q_1, .ref q_3, .ref q_5, .ref q_7, .ref q_1, .int 0, .int 0, .int 0, .int 0, .int 0, .int 0, .int 0, .int 0, .int 0, .ref aY, .ref aT, .int 0, .ref q_9, .ref q_11, .ref q_13, .ref q_15, .ref q_17, .int 0, .int 0, .int 0, .int 0, .int 0, .int 0, .int 0, .int 0, .int 0, .ref q_19, .ref q_21, .int (-1), .int 0, .ref q_23, .ref q_25, .ref q_27, .int 0, .long 0, .ref q_29, .int 0, .int 0, .ref q_31, .ref q_33, .ref q_35, .int 0, .ref q_37, .ref q_39, .int 0, .ref q_41, .int 0])), (q_1, .inl (cy_2, 240, .inl (fun _ => 0)))])) (va_Qi (fun (r : Int32) (_ : Unit) => r = F_feed p1 p2 p3 p4 p5) (fun _ _ => True) (va_A [(h0, .inr (12, [.int 0, .ref q_1, .ref q_3, .ref q_5, .ref q_7, .ref q_1, .int 0, .int 0, .int 0, .int 0, .int 0, .int 0, .int 0, .int 0, .int 0, .ref aY, .ref aT, .int 0, .ref q_9, .ref q_11, .ref q_13, .ref q_15, .ref q_17, .int 0, .int 0, .int 0, .int 0, .int 0, .int 0, .int 0, .int 0, .int 0, .ref q_19, .ref q_21, .int (-1), .int 0, .ref q_23, .ref q_25, .ref q_27, .int 0, .long 0, .ref q_29, .int 0, .int 0, .ref q_31, .ref q_33, .ref q_35, .int 0, .ref q_37, .ref q_39, .int 0, .ref q_41, .int 0])), (q_1, .inl (cy_2, 240, .inl (fun _ => 0)))] sz)) 0 0 (va_A [(h0, .inr (12, [.int 0, .ref q_1, .ref q_3, .ref q_5, .ref q_7, .ref q_1, .int 0, .int 0, .int 0, .int 0, .int 0, .int 0, .int 0, .int 0, .int 0, .ref aY, .ref aT, .int 0, .ref q_9, .ref q_11, .ref q_13, .ref q_15, .ref q_17, .int 0, .int 0, .int 0, .int 0, .int 0, .int 0, .int 0, .int 0, .int 0, .ref q_19, .ref q_21, .int (-1), .int 0, .ref q_23, .ref q_25, .ref q_27, .int 0, .long 0, .ref q_29, .int 0, .int 0, .ref q_31, .ref q_33, .ref q_35, .int 0, .ref q_37, .ref q_39, .int 0, .ref q_41, .int 0])), (q_1, .inl (cy_2, 240, .inl (fun _ => 0)))] sz) := by
  refine Met.ofW (cc := cX12_feed) (maxL := 6) (ret := (some .int)) (by decide) rfl ?_
  intro p e s m args below meth c s₁ B hml hv
  obtain ⟨rfl, hsz, hP, hK, hD0⟩ := hv
  have hx := B.exec
  have hb := B.bytes
  have hr := B.returns
  have hts := atoms_spec (ws := w_t_X12_feed) B.pre
  have hown : s.vm.findClass RX12 = some m.cls := findClass_of_methodNamed B.named
  have hlocks := B.notSynchronized
  subst hsz
  have hD := hD0.self (sz := s.heap.size)
  generalize hAe : va_A [(h0, .inr (12, [.int 0, .ref q_1, .ref q_3, .ref q_5, .ref q_7, .ref q_1, .int 0, .int 0, .int 0, .int 0, .int 0, .int 0, .int 0, .int 0, .int 0, .ref aY, .ref aT, .int 0, .ref q_9, .ref q_11, .ref q_13, .ref q_15, .ref q_17, .int 0, .int 0, .int 0, .int 0, .int 0, .int 0, .int 0, .int 0, .int 0, .ref q_19, .ref q_21, .int (-1), .int 0, .ref q_23, .ref q_25, .ref q_27, .int 0, .long 0, .ref q_29, .int 0, .int 0, .ref q_31, .ref q_33, .ref q_35, .int 0, .ref q_37, .ref q_39, .int 0, .ref q_41, .int 0])), (q_1, .inl (cy_2, 240, .inl (fun _ => 0)))] s.heap.size = A at hD ⊢
  have hA : ∀ q : Nat, s.heap.size ≤ q → A q := fun q h => by rw [← hAe]; exact Or.inr h
  have hS : va_S A s.heap s.heap [] := va_S.rf
  have hP : va_P (dC, dI) vwCl [(h0, .inr (12, [.int 0, .ref q_1, .ref q_3, .ref q_5, .ref q_7, .ref q_1, .int 0, .int 0, .int 0, .int 0, .int 0, .int 0, .int 0, .int 0, .int 0, .ref aY, .ref aT, .int 0, .ref q_9, .ref q_11, .ref q_13, .ref q_15, .ref q_17, .int 0, .int 0, .int 0, .int 0, .int 0, .int 0, .int 0, .int 0, .int 0, .ref q_19, .ref q_21, .int (-1), .int 0, .ref q_23, .ref q_25, .ref q_27, .int 0, .long 0, .ref q_29, .int 0, .int 0, .ref q_31, .ref q_33, .ref q_35, .int 0, .ref q_37, .ref q_39, .int 0, .ref q_41, .int 0])), (q_1, .inl (cy_2, 240, .inl (fun _ => 0)))] s.heap := hP
  have hl := lv_entry ([.ref h0, .int p1, .int p2, .int p3, .int p4, .int p5]) (n := 6) (Nat.le_of_ble_eq_true rfl)
  rw [lg_entry_eq]
  generalize (lg_sl ([.ref h0, .int p1, .int p2, .int p3, .int p4, .int p5]) ++ List.replicate (6 - (lg_sl ([.ref h0, .int p1, .int p2, .int p3, .int p4, .int p5])).length) Slot.unset).toArray = ls at hl ⊢
  have hl : lv_has ls 6 [(0, .ref h0), (1, .int p1), (2, .int p2), (3, .int p3), (4, .int p4), (5, .int p5)] := hl
  refine lv_aload_n hx hb dX12_feed_0 rfl (lv_at hl 0 rfl) ?_
  refine lv_iconst (v := 0) hx hb dX12_feed_1 (by decide +kernel) ?_
  refine va_put (D := (dC, dI)) (ci := 12) (v := .int 0) (ty := .int) (C := RX12) (T := TX12) (N := 53) hx hb hts in_t_X12_feed_X12 tyX12 tyX12_ok nmX12 hown hK hP hD hS 0 rfl rfl 0 (by decide) (hts (.fieldLink RX12 94 "LawnAheadModel" "thrown" "I") (List.mem_of_getElem? (i := 1) rfl)) (fun _ h9 => h9) rfl (by decide +kernel) rfl rfl (Nat.le_of_ble_eq_true rfl) dX12_feed_2 (fun H locs hP hD hS => ?_)
  have hP : va_P (dC, dI) vwCl [(h0, .inr (12, [.int 0, .ref q_1, .ref q_3, .ref q_5, .ref q_7, .ref q_1, .int 0, .int 0, .int 0, .int 0, .int 0, .int 0, .int 0, .int 0, .int 0, .ref aY, .ref aT, .int 0, .ref q_9, .ref q_11, .ref q_13, .ref q_15, .ref q_17, .int 0, .int 0, .int 0, .int 0, .int 0, .int 0, .int 0, .int 0, .int 0, .ref q_19, .ref q_21, .int (-1), .int 0, .ref q_23, .ref q_25, .ref q_27, .int 0, .long 0, .ref q_29, .int 0, .int 0, .ref q_31, .ref q_33, .ref q_35, .int 0, .ref q_37, .ref q_39, .int 0, .ref q_41, .int 0])), (q_1, .inl (cy_2, 240, .inl (fun _ => 0)))] H := hP
  have hD : va_D A [(h0, .inr (12, [.int 0, .ref q_1, .ref q_3, .ref q_5, .ref q_7, .ref q_1, .int 0, .int 0, .int 0, .int 0, .int 0, .int 0, .int 0, .int 0, .int 0, .ref aY, .ref aT, .int 0, .ref q_9, .ref q_11, .ref q_13, .ref q_15, .ref q_17, .int 0, .int 0, .int 0, .int 0, .int 0, .int 0, .int 0, .int 0, .int 0, .ref q_19, .ref q_21, .int (-1), .int 0, .ref q_23, .ref q_25, .ref q_27, .int 0, .long 0, .ref q_29, .int 0, .int 0, .ref q_31, .ref q_33, .ref q_35, .int 0, .ref q_37, .ref q_39, .int 0, .ref q_41, .int 0])), (q_1, .inl (cy_2, 240, .inl (fun _ => 0)))] := hD
  refine lv_aload_n hx hb dX12_feed_5 rfl (lv_at hl 0 rfl) ?_
  refine va_get (D := (dC, dI)) (ci := 12) (v := .int 0) (C := RX12) (T := TX12) (N := 53) hx hb hts in_t_X12_feed_X12 hown hK hP 0 rfl rfl 6 (by decide) (hts (.fieldLink RX12 107 "LawnAheadModel" "length" "I") (List.mem_of_getElem? (i := 2) rfl)) (fun _ h9 => h9) rfl dX12_feed_6 ?_
  refine lv_iload_n hx hb dX12_feed_9 rfl (lv_at hl 1 rfl) ?_
  have hPc := hP.sub (ws' := []) [] rfl
  have hDc := hD.sub (ws' := []) [] (by decide) rfl
  have hKc := hK.sub (tys' := []) [] rfl
  have hFc := va_free (wc := []) hD hS hA [] rfl
  refine va_calli (va_runS (As := [.int p1]) (rest := [.int 0]) ⟨hx, hb, hml, hown, hts⟩ (c_bytesIn l dC dI p1 H.size) (va_cwS 1 hts g_t_X12_feed_10_c_bytesIn rfl rfl rfl (by decide +kernel) ⟨Nat.le_of_ble_eq_true rfl, Nat.le_of_ble_eq_true rfl⟩) ⟨fun a U g mk q => by obtain ⟨q0, q1, qP, qK, qD⟩ := q; exact ⟨q0, q1, qP, va_K.moved (u := U) (U := U.calling g mk a) (Vm.Alike.refl U.vm) qK, qD⟩, fun U hU hW => ⟨rfl, by rw [hU], by rw [hU]; exact hPc, va_K.moved hW.alike hKc, hDc.weaken (fun _ _ _ _ => trivial)⟩⟩ rfl rfl hl.1 rfl (lv_room (Nat.le_of_ble_eq_true rfl)) dX12_feed_10 ⟨Nat.le_of_ble_eq_true rfl, Nat.le_of_ble_eq_true rfl⟩) hS (fun q _ h => hFc q h) hFc (fun r_1 u t H1 locs ht hvm hw hB hz1 hk1 hS => ?_)
  obtain ⟨hP1, hK1, hD1⟩ := hB
  rw [ht] at hP1
  have hK1 := va_K.moved hvm.symm hK1
  try dsimp only at hw
  obtain ⟨hP, hD⟩ := va_join (wr := [(h0, .inr (12, [.int 0, .ref q_1, .ref q_3, .ref q_5, .ref q_7, .ref q_1, .int 0, .int 0, .int 0, .int 0, .int 0, .int 0, .int 0, .int 0, .int 0, .ref aY, .ref aT, .int 0, .ref q_9, .ref q_11, .ref q_13, .ref q_15, .ref q_17, .int 0, .int 0, .int 0, .int 0, .int 0, .int 0, .int 0, .int 0, .int 0, .ref q_19, .ref q_21, .int (-1), .int 0, .ref q_23, .ref q_25, .ref q_27, .int 0, .long 0, .ref q_29, .int 0, .int 0, .ref q_31, .ref q_33, .ref q_35, .int 0, .ref q_37, .ref q_39, .int 0, .ref q_41, .int 0])), (q_1, .inl (cy_2, 240, .inl (fun _ => 0)))]) (w1 := []) hP hD [] [0, 1] rfl rfl (by decide) (by decide) hk1 hFc hP1 hD1
  have hK := hK.app hK1
  generalize H1 = H at hP hS ⊢
  have hP : va_P (dC, dI) vwCl [(h0, .inr (12, [.int 0, .ref q_1, .ref q_3, .ref q_5, .ref q_7, .ref q_1, .int 0, .int 0, .int 0, .int 0, .int 0, .int 0, .int 0, .int 0, .int 0, .ref aY, .ref aT, .int 0, .ref q_9, .ref q_11, .ref q_13, .ref q_15, .ref q_17, .int 0, .int 0, .int 0, .int 0, .int 0, .int 0, .int 0, .int 0, .int 0, .ref q_19, .ref q_21, .int (-1), .int 0, .ref q_23, .ref q_25, .ref q_27, .int 0, .long 0, .ref q_29, .int 0, .int 0, .ref q_31, .ref q_33, .ref q_35, .int 0, .ref q_37, .ref q_39, .int 0, .ref q_41, .int 0])), (q_1, .inl (cy_2, 240, .inl (fun _ => 0)))] H := hP
  have hD : va_D A [(h0, .inr (12, [.int 0, .ref q_1, .ref q_3, .ref q_5, .ref q_7, .ref q_1, .int 0, .int 0, .int 0, .int 0, .int 0, .int 0, .int 0, .int 0, .int 0, .ref aY, .ref aT, .int 0, .ref q_9, .ref q_11, .ref q_13, .ref q_15, .ref q_17, .int 0, .int 0, .int 0, .int 0, .int 0, .int 0, .int 0, .int 0, .int 0, .ref q_19, .ref q_21, .int (-1), .int 0, .ref q_23, .ref q_25, .ref q_27, .int 0, .long 0, .ref q_29, .int 0, .int 0, .ref q_31, .ref q_33, .ref q_35, .int 0, .ref q_37, .ref q_39, .int 0, .ref q_41, .int 0])), (q_1, .inl (cy_2, 240, .inl (fun _ => 0)))] := hD
  have hK : va_K (dC, dI) vwCl [(cy_2, .byte)] s := hK
  refine W.widen (k := 0) (n := 0) (Nat.le_of_ble_eq_true rfl) (Nat.le_of_ble_eq_true rfl) ?_
  obtain rfl : r_1 = nI (fbN p1) := hw
  refine lv_iadd hx hb dX12_feed_13 ?_
  refine lv_topi (fun f_2 ef_2 => ?_)
  obtain rfl : f_2 = nI (0 + (fbN p1)) := ef_2.trans (nI_add 0 (fbN p1))
  refine lv_iload_n hx hb dX12_feed_14 rfl (lv_at hl 2 rfl) ?_
  have hPc := hP.sub (ws' := []) [] rfl
  have hDc := hD.sub (ws' := []) [] (by decide) rfl
  have hKc := hK.sub (tys' := []) [] rfl
  have hFc := va_free (wc := []) hD hS hA [] rfl
  refine va_calli (va_runS (As := [.int p2]) (rest := [.int (nI (0 + (fbN p1)))]) ⟨hx, hb, hml, hown, hts⟩ (c_bytesIn l dC dI p2 H.size) (va_cwS 1 hts g_t_X12_feed_15_c_bytesIn rfl rfl rfl (by decide +kernel) ⟨Nat.le_of_ble_eq_true rfl, Nat.le_of_ble_eq_true rfl⟩) ⟨fun a U g mk q => by obtain ⟨q0, q1, qP, qK, qD⟩ := q; exact ⟨q0, q1, qP, va_K.moved (u := U) (U := U.calling g mk a) (Vm.Alike.refl U.vm) qK, qD⟩, fun U hU hW => ⟨rfl, by rw [hU], by rw [hU]; exact hPc, va_K.moved hW.alike hKc, hDc.weaken (fun _ _ _ _ => trivial)⟩⟩ rfl rfl hl.1 rfl (lv_room (Nat.le_of_ble_eq_true rfl)) dX12_feed_15 ⟨Nat.le_of_ble_eq_true rfl, Nat.le_of_ble_eq_true rfl⟩) hS (fun q _ h => hFc q h) hFc (fun r_3 u t H1 locs ht hvm hw hB hz1 hk1 hS => ?_)
  obtain ⟨hP1, hK1, hD1⟩ := hB
  rw [ht] at hP1
  have hK1 := va_K.moved hvm.symm hK1
  try dsimp only at hw
  obtain ⟨hP, hD⟩ := va_join (wr := [(h0, .inr (12, [.int 0, .ref q_1, .ref q_3, .ref q_5, .ref q_7, .ref q_1, .int 0, .int 0, .int 0, .int 0, .int 0, .int 0, .int 0, .int 0, .int 0, .ref aY, .ref aT, .int 0, .ref q_9, .ref q_11, .ref q_13, .ref q_15, .ref q_17, .int 0, .int 0, .int 0, .int 0, .int 0, .int 0, .int 0, .int 0, .int 0, .ref q_19, .ref q_21, .int (-1), .int 0, .ref q_23, .ref q_25, .ref q_27, .int 0, .long 0, .ref q_29, .int 0, .int 0, .ref q_31, .ref q_33, .ref q_35, .int 0, .ref q_37, .ref q_39, .int 0, .ref q_41, .int 0])), (q_1, .inl (cy_2, 240, .inl (fun _ => 0)))]) (w1 := []) hP hD [] [0, 1] rfl rfl (by decide) (by decide) hk1 hFc hP1 hD1
  have hK := hK.app hK1
  generalize H1 = H at hP hS ⊢
  have hP : va_P (dC, dI) vwCl [(h0, .inr (12, [.int 0, .ref q_1, .ref q_3, .ref q_5, .ref q_7, .ref q_1, .int 0, .int 0, .int 0, .int 0, .int 0, .int 0, .int 0, .int 0, .int 0, .ref aY, .ref aT, .int 0, .ref q_9, .ref q_11, .ref q_13, .ref q_15, .ref q_17, .int 0, .int 0, .int 0, .int 0, .int 0, .int 0, .int 0, .int 0, .int 0, .ref q_19, .ref q_21, .int (-1), .int 0, .ref q_23, .ref q_25, .ref q_27, .int 0, .long 0, .ref q_29, .int 0, .int 0, .ref q_31, .ref q_33, .ref q_35, .int 0, .ref q_37, .ref q_39, .int 0, .ref q_41, .int 0])), (q_1, .inl (cy_2, 240, .inl (fun _ => 0)))] H := hP
  have hD : va_D A [(h0, .inr (12, [.int 0, .ref q_1, .ref q_3, .ref q_5, .ref q_7, .ref q_1, .int 0, .int 0, .int 0, .int 0, .int 0, .int 0, .int 0, .int 0, .int 0, .ref aY, .ref aT, .int 0, .ref q_9, .ref q_11, .ref q_13, .ref q_15, .ref q_17, .int 0, .int 0, .int 0, .int 0, .int 0, .int 0, .int 0, .int 0, .int 0, .ref q_19, .ref q_21, .int (-1), .int 0, .ref q_23, .ref q_25, .ref q_27, .int 0, .long 0, .ref q_29, .int 0, .int 0, .ref q_31, .ref q_33, .ref q_35, .int 0, .ref q_37, .ref q_39, .int 0, .ref q_41, .int 0])), (q_1, .inl (cy_2, 240, .inl (fun _ => 0)))] := hD
  have hK : va_K (dC, dI) vwCl [(cy_2, .byte)] s := hK
  refine W.widen (k := 0) (n := 0) (Nat.le_of_ble_eq_true rfl) (Nat.le_of_ble_eq_true rfl) ?_
  obtain rfl : r_3 = nI (fbN p2) := hw
  refine lv_iadd hx hb dX12_feed_18 ?_
  refine lv_topi (fun f_4 ef_4 => ?_)
  obtain rfl : f_4 = nI ((0 + (fbN p1)) + (fbN p2)) := ef_4.trans (nI_add (0 + (fbN p1)) (fbN p2))
  refine lv_iload_n hx hb dX12_feed_19 rfl (lv_at hl 3 rfl) ?_
  have hPc := hP.sub (ws' := []) [] rfl
  have hDc := hD.sub (ws' := []) [] (by decide) rfl
  have hKc := hK.sub (tys' := []) [] rfl
  have hFc := va_free (wc := []) hD hS hA [] rfl
  refine va_calli (va_runS (As := [.int p3]) (rest := [.int (nI ((0 + (fbN p1)) + (fbN p2)))]) ⟨hx, hb, hml, hown, hts⟩ (c_bytesIn l dC dI p3 H.size) (va_cwS 1 hts g_t_X12_feed_20_c_bytesIn rfl rfl rfl (by decide +kernel) ⟨Nat.le_of_ble_eq_true rfl, Nat.le_of_ble_eq_true rfl⟩) ⟨fun a U g mk q => by obtain ⟨q0, q1, qP, qK, qD⟩ := q; exact ⟨q0, q1, qP, va_K.moved (u := U) (U := U.calling g mk a) (Vm.Alike.refl U.vm) qK, qD⟩, fun U hU hW => ⟨rfl, by rw [hU], by rw [hU]; exact hPc, va_K.moved hW.alike hKc, hDc.weaken (fun _ _ _ _ => trivial)⟩⟩ rfl rfl hl.1 rfl (lv_room (Nat.le_of_ble_eq_true rfl)) dX12_feed_20 ⟨Nat.le_of_ble_eq_true rfl, Nat.le_of_ble_eq_true rfl⟩) hS (fun q _ h => hFc q h) hFc (fun r_5 u t H1 locs ht hvm hw hB hz1 hk1 hS => ?_)
  obtain ⟨hP1, hK1, hD1⟩ := hB
  rw [ht] at hP1
  have hK1 := va_K.moved hvm.symm hK1
  try dsimp only at hw
  obtain ⟨hP, hD⟩ := va_join (wr := [(h0, .inr (12, [.int 0, .ref q_1, .ref q_3, .ref q_5, .ref q_7, .ref q_1, .int 0, .int 0, .int 0, .int 0, .int 0, .int 0, .int 0, .int 0, .int 0, .ref aY, .ref aT, .int 0, .ref q_9, .ref q_11, .ref q_13, .ref q_15, .ref q_17, .int 0, .int 0, .int 0, .int 0, .int 0, .int 0, .int 0, .int 0, .int 0, .ref q_19, .ref q_21, .int (-1), .int 0, .ref q_23, .ref q_25, .ref q_27, .int 0, .long 0, .ref q_29, .int 0, .int 0, .ref q_31, .ref q_33, .ref q_35, .int 0, .ref q_37, .ref q_39, .int 0, .ref q_41, .int 0])), (q_1, .inl (cy_2, 240, .inl (fun _ => 0)))]) (w1 := []) hP hD [] [0, 1] rfl rfl (by decide) (by decide) hk1 hFc hP1 hD1
  have hK := hK.app hK1
  generalize H1 = H at hP hS ⊢
  have hP : va_P (dC, dI) vwCl [(h0, .inr (12, [.int 0, .ref q_1, .ref q_3, .ref q_5, .ref q_7, .ref q_1, .int 0, .int 0, .int 0, .int 0, .int 0, .int 0, .int 0, .int 0, .int 0, .ref aY, .ref aT, .int 0, .ref q_9, .ref q_11, .ref q_13, .ref q_15, .ref q_17, .int 0, .int 0, .int 0, .int 0, .int 0, .int 0, .int 0, .int 0, .int 0, .ref q_19, .ref q_21, .int (-1), .int 0, .ref q_23, .ref q_25, .ref q_27, .int 0, .long 0, .ref q_29, .int 0, .int 0, .ref q_31, .ref q_33, .ref q_35, .int 0, .ref q_37, .ref q_39, .int 0, .ref q_41, .int 0])), (q_1, .inl (cy_2, 240, .inl (fun _ => 0)))] H := hP
  have hD : va_D A [(h0, .inr (12, [.int 0, .ref q_1, .ref q_3, .ref q_5, .ref q_7, .ref q_1, .int 0, .int 0, .int 0, .int 0, .int 0, .int 0, .int 0, .int 0, .int 0, .ref aY, .ref aT, .int 0, .ref q_9, .ref q_11, .ref q_13, .ref q_15, .ref q_17, .int 0, .int 0, .int 0, .int 0, .int 0, .int 0, .int 0, .int 0, .int 0, .ref q_19, .ref q_21, .int (-1), .int 0, .ref q_23, .ref q_25, .ref q_27, .int 0, .long 0, .ref q_29, .int 0, .int 0, .ref q_31, .ref q_33, .ref q_35, .int 0, .ref q_37, .ref q_39, .int 0, .ref q_41, .int 0])), (q_1, .inl (cy_2, 240, .inl (fun _ => 0)))] := hD
  have hK : va_K (dC, dI) vwCl [(cy_2, .byte)] s := hK
  refine W.widen (k := 0) (n := 0) (Nat.le_of_ble_eq_true rfl) (Nat.le_of_ble_eq_true rfl) ?_
  obtain rfl : r_5 = nI (fbN p3) := hw
  refine lv_iadd hx hb dX12_feed_23 ?_
  refine lv_topi (fun f_6 ef_6 => ?_)
  obtain rfl : f_6 = nI (((0 + (fbN p1)) + (fbN p2)) + (fbN p3)) := ef_6.trans (nI_add ((0 + (fbN p1)) + (fbN p2)) (fbN p3))
  refine lv_iload hx hb dX12_feed_24 (lv_at hl 4 rfl) ?_
  have hPc := hP.sub (ws' := []) [] rfl
  have hDc := hD.sub (ws' := []) [] (by decide) rfl
  have hKc := hK.sub (tys' := []) [] rfl
  have hFc := va_free (wc := []) hD hS hA [] rfl
  refine va_calli (va_runS (As := [.int p4]) (rest := [.int (nI (((0 + (fbN p1)) + (fbN p2)) + (fbN p3)))]) ⟨hx, hb, hml, hown, hts⟩ (c_bytesIn l dC dI p4 H.size) (va_cwS 1 hts g_t_X12_feed_26_c_bytesIn rfl rfl rfl (by decide +kernel) ⟨Nat.le_of_ble_eq_true rfl, Nat.le_of_ble_eq_true rfl⟩) ⟨fun a U g mk q => by obtain ⟨q0, q1, qP, qK, qD⟩ := q; exact ⟨q0, q1, qP, va_K.moved (u := U) (U := U.calling g mk a) (Vm.Alike.refl U.vm) qK, qD⟩, fun U hU hW => ⟨rfl, by rw [hU], by rw [hU]; exact hPc, va_K.moved hW.alike hKc, hDc.weaken (fun _ _ _ _ => trivial)⟩⟩ rfl rfl hl.1 rfl (lv_room (Nat.le_of_ble_eq_true rfl)) dX12_feed_26 ⟨Nat.le_of_ble_eq_true rfl, Nat.le_of_ble_eq_true rfl⟩) hS (fun q _ h => hFc q h) hFc (fun r_7 u t H1 locs ht hvm hw hB hz1 hk1 hS => ?_)
  obtain ⟨hP1, hK1, hD1⟩ := hB
  rw [ht] at hP1
  have hK1 := va_K.moved hvm.symm hK1
  try dsimp only at hw
  obtain ⟨hP, hD⟩ := va_join (wr := [(h0, .inr (12, [.int 0, .ref q_1, .ref q_3, .ref q_5, .ref q_7, .ref q_1, .int 0, .int 0, .int 0, .int 0, .int 0, .int 0, .int 0, .int 0, .int 0, .ref aY, .ref aT, .int 0, .ref q_9, .ref q_11, .ref q_13, .ref q_15, .ref q_17, .int 0, .int 0, .int 0, .int 0, .int 0, .int 0, .int 0, .int 0, .int 0, .ref q_19, .ref q_21, .int (-1), .int 0, .ref q_23, .ref q_25, .ref q_27, .int 0, .long 0, .ref q_29, .int 0, .int 0, .ref q_31, .ref q_33, .ref q_35, .int 0, .ref q_37, .ref q_39, .int 0, .ref q_41, .int 0])), (q_1, .inl (cy_2, 240, .inl (fun _ => 0)))]) (w1 := []) hP hD [] [0, 1] rfl rfl (by decide) (by decide) hk1 hFc hP1 hD1
  have hK := hK.app hK1
  generalize H1 = H at hP hS ⊢
  have hP : va_P (dC, dI) vwCl [(h0, .inr (12, [.int 0, .ref q_1, .ref q_3, .ref q_5, .ref q_7, .ref q_1, .int 0, .int 0, .int 0, .int 0, .int 0, .int 0, .int 0, .int 0, .int 0, .ref aY, .ref aT, .int 0, .ref q_9, .ref q_11, .ref q_13, .ref q_15, .ref q_17, .int 0, .int 0, .int 0, .int 0, .int 0, .int 0, .int 0, .int 0, .int 0, .ref q_19, .ref q_21, .int (-1), .int 0, .ref q_23, .ref q_25, .ref q_27, .int 0, .long 0, .ref q_29, .int 0, .int 0, .ref q_31, .ref q_33, .ref q_35, .int 0, .ref q_37, .ref q_39, .int 0, .ref q_41, .int 0])), (q_1, .inl (cy_2, 240, .inl (fun _ => 0)))] H := hP
  have hD : va_D A [(h0, .inr (12, [.int 0, .ref q_1, .ref q_3, .ref q_5, .ref q_7, .ref q_1, .int 0, .int 0, .int 0, .int 0, .int 0, .int 0, .int 0, .int 0, .int 0, .ref aY, .ref aT, .int 0, .ref q_9, .ref q_11, .ref q_13, .ref q_15, .ref q_17, .int 0, .int 0, .int 0, .int 0, .int 0, .int 0, .int 0, .int 0, .int 0, .ref q_19, .ref q_21, .int (-1), .int 0, .ref q_23, .ref q_25, .ref q_27, .int 0, .long 0, .ref q_29, .int 0, .int 0, .ref q_31, .ref q_33, .ref q_35, .int 0, .ref q_37, .ref q_39, .int 0, .ref q_41, .int 0])), (q_1, .inl (cy_2, 240, .inl (fun _ => 0)))] := hD
  have hK : va_K (dC, dI) vwCl [(cy_2, .byte)] s := hK
  refine W.widen (k := 0) (n := 0) (Nat.le_of_ble_eq_true rfl) (Nat.le_of_ble_eq_true rfl) ?_
  obtain rfl : r_7 = nI (fbN p4) := hw
  refine lv_iadd hx hb dX12_feed_29 ?_
  refine lv_topi (fun f_8 ef_8 => ?_)
  obtain rfl : f_8 = nI ((((0 + (fbN p1)) + (fbN p2)) + (fbN p3)) + (fbN p4)) := ef_8.trans (nI_add (((0 + (fbN p1)) + (fbN p2)) + (fbN p3)) (fbN p4))
  refine lv_iload hx hb dX12_feed_30 (lv_at hl 5 rfl) ?_
  have hPc := hP.sub (ws' := []) [] rfl
  have hDc := hD.sub (ws' := []) [] (by decide) rfl
  have hKc := hK.sub (tys' := []) [] rfl
  have hFc := va_free (wc := []) hD hS hA [] rfl
  refine va_calli (va_runS (As := [.int p5]) (rest := [.int (nI ((((0 + (fbN p1)) + (fbN p2)) + (fbN p3)) + (fbN p4)))]) ⟨hx, hb, hml, hown, hts⟩ (c_bytesIn l dC dI p5 H.size) (va_cwS 1 hts g_t_X12_feed_32_c_bytesIn rfl rfl rfl (by decide +kernel) ⟨Nat.le_of_ble_eq_true rfl, Nat.le_of_ble_eq_true rfl⟩) ⟨fun a U g mk q => by obtain ⟨q0, q1, qP, qK, qD⟩ := q; exact ⟨q0, q1, qP, va_K.moved (u := U) (U := U.calling g mk a) (Vm.Alike.refl U.vm) qK, qD⟩, fun U hU hW => ⟨rfl, by rw [hU], by rw [hU]; exact hPc, va_K.moved hW.alike hKc, hDc.weaken (fun _ _ _ _ => trivial)⟩⟩ rfl rfl hl.1 rfl (lv_room (Nat.le_of_ble_eq_true rfl)) dX12_feed_32 ⟨Nat.le_of_ble_eq_true rfl, Nat.le_of_ble_eq_true rfl⟩) hS (fun q _ h => hFc q h) hFc (fun r_9 u t H1 locs ht hvm hw hB hz1 hk1 hS => ?_)
  obtain ⟨hP1, hK1, hD1⟩ := hB
  rw [ht] at hP1
  have hK1 := va_K.moved hvm.symm hK1
  try dsimp only at hw
  obtain ⟨hP, hD⟩ := va_join (wr := [(h0, .inr (12, [.int 0, .ref q_1, .ref q_3, .ref q_5, .ref q_7, .ref q_1, .int 0, .int 0, .int 0, .int 0, .int 0, .int 0, .int 0, .int 0, .int 0, .ref aY, .ref aT, .int 0, .ref q_9, .ref q_11, .ref q_13, .ref q_15, .ref q_17, .int 0, .int 0, .int 0, .int 0, .int 0, .int 0, .int 0, .int 0, .int 0, .ref q_19, .ref q_21, .int (-1), .int 0, .ref q_23, .ref q_25, .ref q_27, .int 0, .long 0, .ref q_29, .int 0, .int 0, .ref q_31, .ref q_33, .ref q_35, .int 0, .ref q_37, .ref q_39, .int 0, .ref q_41, .int 0])), (q_1, .inl (cy_2, 240, .inl (fun _ => 0)))]) (w1 := []) hP hD [] [0, 1] rfl rfl (by decide) (by decide) hk1 hFc hP1 hD1
  have hK := hK.app hK1
  generalize H1 = H at hP hS ⊢
  have hP : va_P (dC, dI) vwCl [(h0, .inr (12, [.int 0, .ref q_1, .ref q_3, .ref q_5, .ref q_7, .ref q_1, .int 0, .int 0, .int 0, .int 0, .int 0, .int 0, .int 0, .int 0, .int 0, .ref aY, .ref aT, .int 0, .ref q_9, .ref q_11, .ref q_13, .ref q_15, .ref q_17, .int 0, .int 0, .int 0, .int 0, .int 0, .int 0, .int 0, .int 0, .int 0, .ref q_19, .ref q_21, .int (-1), .int 0, .ref q_23, .ref q_25, .ref q_27, .int 0, .long 0, .ref q_29, .int 0, .int 0, .ref q_31, .ref q_33, .ref q_35, .int 0, .ref q_37, .ref q_39, .int 0, .ref q_41, .int 0])), (q_1, .inl (cy_2, 240, .inl (fun _ => 0)))] H := hP
  have hD : va_D A [(h0, .inr (12, [.int 0, .ref q_1, .ref q_3, .ref q_5, .ref q_7, .ref q_1, .int 0, .int 0, .int 0, .int 0, .int 0, .int 0, .int 0, .int 0, .int 0, .ref aY, .ref aT, .int 0, .ref q_9, .ref q_11, .ref q_13, .ref q_15, .ref q_17, .int 0, .int 0, .int 0, .int 0, .int 0, .int 0, .int 0, .int 0, .int 0, .ref q_19, .ref q_21, .int (-1), .int 0, .ref q_23, .ref q_25, .ref q_27, .int 0, .long 0, .ref q_29, .int 0, .int 0, .ref q_31, .ref q_33, .ref q_35, .int 0, .ref q_37, .ref q_39, .int 0, .ref q_41, .int 0])), (q_1, .inl (cy_2, 240, .inl (fun _ => 0)))] := hD
  have hK : va_K (dC, dI) vwCl [(cy_2, .byte)] s := hK
  refine W.widen (k := 0) (n := 0) (Nat.le_of_ble_eq_true rfl) (Nat.le_of_ble_eq_true rfl) ?_
  obtain rfl : r_9 = nI (fbN p5) := hw
  refine lv_iadd hx hb dX12_feed_35 ?_
  refine lv_topi (fun f_10 ef_10 => ?_)
  obtain rfl : f_10 = nI (((((0 + (fbN p1)) + (fbN p2)) + (fbN p3)) + (fbN p4)) + (fbN p5)) := ef_10.trans (nI_add ((((0 + (fbN p1)) + (fbN p2)) + (fbN p3)) + (fbN p4)) (fbN p5))
  refine lv_sipush (v := 240) hx hb dX12_feed_36 (by decide +kernel) ?_
  refine lv_icmp_le (tgt := 44) hx hb dX12_feed_39 (by decide) (fun c_11 => ?_) (fun c_11 => absurd (nI_le (b := 240) (by have := fbN_le p1; have := fbN_le p2; have := fbN_le p3; have := fbN_le p4; have := fbN_le p5; omega) (by decide)) c_11)
  refine lv_aload_n hx hb dX12_feed_44 rfl (lv_at hl 0 rfl) ?_
  refine lv_iload_n hx hb dX12_feed_45 rfl (lv_at hl 1 rfl) ?_
  have hPc := hP.sub (ws' := [(h0, .inr (12, [.int 0, .ref q_1, .ref q_3, .ref q_5, .ref q_7, .ref q_1, .int 0, .int 0, .int 0, .int 0, .int 0, .int 0, .int 0, .int 0, .int 0, .ref aY, .ref aT, .int 0, .ref q_9, .ref q_11, .ref q_13, .ref q_15, .ref q_17, .int 0, .int 0, .int 0, .int 0, .int 0, .int 0, .int 0, .int 0, .int 0, .ref q_19, .ref q_21, .int (-1), .int 0, .ref q_23, .ref q_25, .ref q_27, .int 0, .long 0, .ref q_29, .int 0, .int 0, .ref q_31, .ref q_33, .ref q_35, .int 0, .ref q_37, .ref q_39, .int 0, .ref q_41, .int 0])), (q_1, .inl (cy_2, 240, .inl (fun _ => 0)))]) [0, 1] rfl
  have hDc := hD.sub (ws' := [(h0, .inr (12, [.int 0, .ref q_1, .ref q_3, .ref q_5, .ref q_7, .ref q_1, .int 0, .int 0, .int 0, .int 0, .int 0, .int 0, .int 0, .int 0, .int 0, .ref aY, .ref aT, .int 0, .ref q_9, .ref q_11, .ref q_13, .ref q_15, .ref q_17, .int 0, .int 0, .int 0, .int 0, .int 0, .int 0, .int 0, .int 0, .int 0, .ref q_19, .ref q_21, .int (-1), .int 0, .ref q_23, .ref q_25, .ref q_27, .int 0, .long 0, .ref q_29, .int 0, .int 0, .ref q_31, .ref q_33, .ref q_35, .int 0, .ref q_37, .ref q_39, .int 0, .ref q_41, .int 0])), (q_1, .inl (cy_2, 240, .inl (fun _ => 0)))]) [0, 1] (by decide) rfl
  have hKc := hK.sub (tys' := [(cy_2, .byte)]) [0] rfl
  have hFc := va_free (wc := [(h0, .inr (12, [.int 0, .ref q_1, .ref q_3, .ref q_5, .ref q_7, .ref q_1, .int 0, .int 0, .int 0, .int 0, .int 0, .int 0, .int 0, .int 0, .int 0, .ref aY, .ref aT, .int 0, .ref q_9, .ref q_11, .ref q_13, .ref q_15, .ref q_17, .int 0, .int 0, .int 0, .int 0, .int 0, .int 0, .int 0, .int 0, .int 0, .ref q_19, .ref q_21, .int (-1), .int 0, .ref q_23, .ref q_25, .ref q_27, .int 0, .long 0, .ref q_29, .int 0, .int 0, .ref q_31, .ref q_33, .ref q_35, .int 0, .ref q_37, .ref q_39, .int 0, .ref q_41, .int 0])), (q_1, .inl (cy_2, 240, .inl (fun _ => 0)))]) hD hS hA [0, 1] rfl
  refine va_callv (va_runV (As := [.int p1]) (rest := []) ⟨hx, hb, hml, hown, hts⟩ (c_put l dC dI h0 p1 q_1 q_3 q_5 q_7 aY aT q_9 q_11 q_13 q_15 q_17 q_19 q_21 q_23 q_25 q_27 q_29 q_31 q_33 q_35 q_37 q_39 q_41 cy_2 (fun _ => 0) 0 H.size (by have := fbN_le p1; have := fbN_le p2; have := fbN_le p3; have := fbN_le p4; have := fbN_le p5; omega)) (cwV 1 hts g_t_X12_feed_46_c_put rfl rfl rfl (by decide +kernel) ⟨Nat.le_of_ble_eq_true rfl, Nat.le_of_ble_eq_true rfl⟩) ⟨fun a U g mk q => by obtain ⟨q0, q1, qP, qK, qD⟩ := q; exact ⟨q0, q1, qP, va_K.moved (u := U) (U := U.calling g mk a) (Vm.Alike.refl U.vm) qK, qD⟩, va_recv hK hP (ci := 12) (q0 := 0) rfl rfl, fun U hU hW => ⟨rfl, by rw [hU], by rw [hU]; exact hPc, va_K.moved hW.alike hKc, hDc.weaken (fun _ _ _ _ => trivial)⟩⟩ rfl rfl hl.1 rfl (lv_room (Nat.le_of_ble_eq_true rfl)) dX12_feed_46 ⟨Nat.le_of_ble_eq_true rfl, Nat.le_of_ble_eq_true rfl⟩) hS (fun q _ h => hFc q h) hFc (fun u t H1 locs ht hvm hw hB hz1 hk1 hS => ?_)
  obtain ⟨g_13, hP1, hK1, hD1⟩ := hB
  rw [ht] at hP1
  have hK1 := va_K.moved hvm.symm hK1
  try dsimp only at hw
  obtain ⟨hP, hD⟩ := va_join (wr := []) (w1 := [(h0, .inr (12, [.int 0, .ref q_1, .ref q_3, .ref q_5, .ref q_7, .ref q_1, .int (nI (0 + fbN p1)), .int 0, .int 0, .int 0, .int 0, .int 0, .int 0, .int 0, .int 0, .ref aY, .ref aT, .int 0, .ref q_9, .ref q_11, .ref q_13, .ref q_15, .ref q_17, .int 0, .int 0, .int 0, .int 0, .int 0, .int 0, .int 0, .int 0, .int 0, .ref q_19, .ref q_21, .int (-1), .int 0, .ref q_23, .ref q_25, .ref q_27, .int 0, .long 0, .ref q_29, .int 0, .int 0, .ref q_31, .ref q_33, .ref q_35, .int 0, .ref q_37, .ref q_39, .int 0, .ref q_41, .int 0])), (q_1, .inl (cy_2, 240, .inl g_13))]) hP hD [0, 1] [] rfl rfl (by decide) (by decide) hk1 hFc hP1 hD1
  have hK := hK.app hK1
  generalize H1 = H at hP hS ⊢
  have hP : va_P (dC, dI) vwCl [(h0, .inr (12, [.int 0, .ref q_1, .ref q_3, .ref q_5, .ref q_7, .ref q_1, .int (nI (0 + fbN p1)), .int 0, .int 0, .int 0, .int 0, .int 0, .int 0, .int 0, .int 0, .ref aY, .ref aT, .int 0, .ref q_9, .ref q_11, .ref q_13, .ref q_15, .ref q_17, .int 0, .int 0, .int 0, .int 0, .int 0, .int 0, .int 0, .int 0, .int 0, .ref q_19, .ref q_21, .int (-1), .int 0, .ref q_23, .ref q_25, .ref q_27, .int 0, .long 0, .ref q_29, .int 0, .int 0, .ref q_31, .ref q_33, .ref q_35, .int 0, .ref q_37, .ref q_39, .int 0, .ref q_41, .int 0])), (q_1, .inl (cy_2, 240, .inl g_13))] H := hP
  have hD : va_D A [(h0, .inr (12, [.int 0, .ref q_1, .ref q_3, .ref q_5, .ref q_7, .ref q_1, .int (nI (0 + fbN p1)), .int 0, .int 0, .int 0, .int 0, .int 0, .int 0, .int 0, .int 0, .ref aY, .ref aT, .int 0, .ref q_9, .ref q_11, .ref q_13, .ref q_15, .ref q_17, .int 0, .int 0, .int 0, .int 0, .int 0, .int 0, .int 0, .int 0, .int 0, .ref q_19, .ref q_21, .int (-1), .int 0, .ref q_23, .ref q_25, .ref q_27, .int 0, .long 0, .ref q_29, .int 0, .int 0, .ref q_31, .ref q_33, .ref q_35, .int 0, .ref q_37, .ref q_39, .int 0, .ref q_41, .int 0])), (q_1, .inl (cy_2, 240, .inl g_13))] := hD
  have hK : va_K (dC, dI) vwCl [(cy_2, .byte)] s := hK
  refine W.widen (k := 0) (n := 0) (Nat.le_of_ble_eq_true rfl) (Nat.le_of_ble_eq_true rfl) ?_
  refine lv_aload_n hx hb dX12_feed_49 rfl (lv_at hl 0 rfl) ?_
  refine lv_iload_n hx hb dX12_feed_50 rfl (lv_at hl 2 rfl) ?_
  have hPc := hP.sub (ws' := [(h0, .inr (12, [.int 0, .ref q_1, .ref q_3, .ref q_5, .ref q_7, .ref q_1, .int (nI (0 + fbN p1)), .int 0, .int 0, .int 0, .int 0, .int 0, .int 0, .int 0, .int 0, .ref aY, .ref aT, .int 0, .ref q_9, .ref q_11, .ref q_13, .ref q_15, .ref q_17, .int 0, .int 0, .int 0, .int 0, .int 0, .int 0, .int 0, .int 0, .int 0, .ref q_19, .ref q_21, .int (-1), .int 0, .ref q_23, .ref q_25, .ref q_27, .int 0, .long 0, .ref q_29, .int 0, .int 0, .ref q_31, .ref q_33, .ref q_35, .int 0, .ref q_37, .ref q_39, .int 0, .ref q_41, .int 0])), (q_1, .inl (cy_2, 240, .inl g_13))]) [0, 1] rfl
  have hDc := hD.sub (ws' := [(h0, .inr (12, [.int 0, .ref q_1, .ref q_3, .ref q_5, .ref q_7, .ref q_1, .int (nI (0 + fbN p1)), .int 0, .int 0, .int 0, .int 0, .int 0, .int 0, .int 0, .int 0, .ref aY, .ref aT, .int 0, .ref q_9, .ref q_11, .ref q_13, .ref q_15, .ref q_17, .int 0, .int 0, .int 0, .int 0, .int 0, .int 0, .int 0, .int 0, .int 0, .ref q_19, .ref q_21, .int (-1), .int 0, .ref q_23, .ref q_25, .ref q_27, .int 0, .long 0, .ref q_29, .int 0, .int 0, .ref q_31, .ref q_33, .ref q_35, .int 0, .ref q_37, .ref q_39, .int 0, .ref q_41, .int 0])), (q_1, .inl (cy_2, 240, .inl g_13))]) [0, 1] (by decide) rfl
  have hKc := hK.sub (tys' := [(cy_2, .byte)]) [0] rfl
  have hFc := va_free (wc := [(h0, .inr (12, [.int 0, .ref q_1, .ref q_3, .ref q_5, .ref q_7, .ref q_1, .int (nI (0 + fbN p1)), .int 0, .int 0, .int 0, .int 0, .int 0, .int 0, .int 0, .int 0, .ref aY, .ref aT, .int 0, .ref q_9, .ref q_11, .ref q_13, .ref q_15, .ref q_17, .int 0, .int 0, .int 0, .int 0, .int 0, .int 0, .int 0, .int 0, .int 0, .ref q_19, .ref q_21, .int (-1), .int 0, .ref q_23, .ref q_25, .ref q_27, .int 0, .long 0, .ref q_29, .int 0, .int 0, .ref q_31, .ref q_33, .ref q_35, .int 0, .ref q_37, .ref q_39, .int 0, .ref q_41, .int 0])), (q_1, .inl (cy_2, 240, .inl g_13))]) hD hS hA [0, 1] rfl
  refine va_callv (va_runV (As := [.int p2]) (rest := []) ⟨hx, hb, hml, hown, hts⟩ (c_put l dC dI h0 p2 q_1 q_3 q_5 q_7 aY aT q_9 q_11 q_13 q_15 q_17 q_19 q_21 q_23 q_25 q_27 q_29 q_31 q_33 q_35 q_37 q_39 q_41 cy_2 g_13 (0 + fbN p1) H.size (by have := fbN_le p1; have := fbN_le p2; have := fbN_le p3; have := fbN_le p4; have := fbN_le p5; omega)) (cwV 1 hts g_t_X12_feed_51_c_put rfl rfl rfl (by decide +kernel) ⟨Nat.le_of_ble_eq_true rfl, Nat.le_of_ble_eq_true rfl⟩) ⟨fun a U g mk q => by obtain ⟨q0, q1, qP, qK, qD⟩ := q; exact ⟨q0, q1, qP, va_K.moved (u := U) (U := U.calling g mk a) (Vm.Alike.refl U.vm) qK, qD⟩, va_recv hK hP (ci := 12) (q0 := 0) rfl rfl, fun U hU hW => ⟨rfl, by rw [hU], by rw [hU]; exact hPc, va_K.moved hW.alike hKc, hDc.weaken (fun _ _ _ _ => trivial)⟩⟩ rfl rfl hl.1 rfl (lv_room (Nat.le_of_ble_eq_true rfl)) dX12_feed_51 ⟨Nat.le_of_ble_eq_true rfl, Nat.le_of_ble_eq_true rfl⟩) hS (fun q _ h => hFc q h) hFc (fun u t H1 locs ht hvm hw hB hz1 hk1 hS => ?_)
  obtain ⟨g_15, hP1, hK1, hD1⟩ := hB
  rw [ht] at hP1
  have hK1 := va_K.moved hvm.symm hK1
  try dsimp only at hw
  obtain ⟨hP, hD⟩ := va_join (wr := []) (w1 := [(h0, .inr (12, [.int 0, .ref q_1, .ref q_3, .ref q_5, .ref q_7, .ref q_1, .int (nI ((0 + fbN p1) + fbN p2)), .int 0, .int 0, .int 0, .int 0, .int 0, .int 0, .int 0, .int 0, .ref aY, .ref aT, .int 0, .ref q_9, .ref q_11, .ref q_13, .ref q_15, .ref q_17, .int 0, .int 0, .int 0, .int 0, .int 0, .int 0, .int 0, .int 0, .int 0, .ref q_19, .ref q_21, .int (-1), .int 0, .ref q_23, .ref q_25, .ref q_27, .int 0, .long 0, .ref q_29, .int 0, .int 0, .ref q_31, .ref q_33, .ref q_35, .int 0, .ref q_37, .ref q_39, .int 0, .ref q_41, .int 0])), (q_1, .inl (cy_2, 240, .inl g_15))]) hP hD [0, 1] [] rfl rfl (by decide) (by decide) hk1 hFc hP1 hD1
  have hK := hK.app hK1
  generalize H1 = H at hP hS ⊢
  have hP : va_P (dC, dI) vwCl [(h0, .inr (12, [.int 0, .ref q_1, .ref q_3, .ref q_5, .ref q_7, .ref q_1, .int (nI ((0 + fbN p1) + fbN p2)), .int 0, .int 0, .int 0, .int 0, .int 0, .int 0, .int 0, .int 0, .ref aY, .ref aT, .int 0, .ref q_9, .ref q_11, .ref q_13, .ref q_15, .ref q_17, .int 0, .int 0, .int 0, .int 0, .int 0, .int 0, .int 0, .int 0, .int 0, .ref q_19, .ref q_21, .int (-1), .int 0, .ref q_23, .ref q_25, .ref q_27, .int 0, .long 0, .ref q_29, .int 0, .int 0, .ref q_31, .ref q_33, .ref q_35, .int 0, .ref q_37, .ref q_39, .int 0, .ref q_41, .int 0])), (q_1, .inl (cy_2, 240, .inl g_15))] H := hP
  have hD : va_D A [(h0, .inr (12, [.int 0, .ref q_1, .ref q_3, .ref q_5, .ref q_7, .ref q_1, .int (nI ((0 + fbN p1) + fbN p2)), .int 0, .int 0, .int 0, .int 0, .int 0, .int 0, .int 0, .int 0, .ref aY, .ref aT, .int 0, .ref q_9, .ref q_11, .ref q_13, .ref q_15, .ref q_17, .int 0, .int 0, .int 0, .int 0, .int 0, .int 0, .int 0, .int 0, .int 0, .ref q_19, .ref q_21, .int (-1), .int 0, .ref q_23, .ref q_25, .ref q_27, .int 0, .long 0, .ref q_29, .int 0, .int 0, .ref q_31, .ref q_33, .ref q_35, .int 0, .ref q_37, .ref q_39, .int 0, .ref q_41, .int 0])), (q_1, .inl (cy_2, 240, .inl g_15))] := hD
  have hK : va_K (dC, dI) vwCl [(cy_2, .byte)] s := hK
  refine W.widen (k := 0) (n := 0) (Nat.le_of_ble_eq_true rfl) (Nat.le_of_ble_eq_true rfl) ?_
  refine lv_aload_n hx hb dX12_feed_54 rfl (lv_at hl 0 rfl) ?_
  refine lv_iload_n hx hb dX12_feed_55 rfl (lv_at hl 3 rfl) ?_
  have hPc := hP.sub (ws' := [(h0, .inr (12, [.int 0, .ref q_1, .ref q_3, .ref q_5, .ref q_7, .ref q_1, .int (nI ((0 + fbN p1) + fbN p2)), .int 0, .int 0, .int 0, .int 0, .int 0, .int 0, .int 0, .int 0, .ref aY, .ref aT, .int 0, .ref q_9, .ref q_11, .ref q_13, .ref q_15, .ref q_17, .int 0, .int 0, .int 0, .int 0, .int 0, .int 0, .int 0, .int 0, .int 0, .ref q_19, .ref q_21, .int (-1), .int 0, .ref q_23, .ref q_25, .ref q_27, .int 0, .long 0, .ref q_29, .int 0, .int 0, .ref q_31, .ref q_33, .ref q_35, .int 0, .ref q_37, .ref q_39, .int 0, .ref q_41, .int 0])), (q_1, .inl (cy_2, 240, .inl g_15))]) [0, 1] rfl
  have hDc := hD.sub (ws' := [(h0, .inr (12, [.int 0, .ref q_1, .ref q_3, .ref q_5, .ref q_7, .ref q_1, .int (nI ((0 + fbN p1) + fbN p2)), .int 0, .int 0, .int 0, .int 0, .int 0, .int 0, .int 0, .int 0, .ref aY, .ref aT, .int 0, .ref q_9, .ref q_11, .ref q_13, .ref q_15, .ref q_17, .int 0, .int 0, .int 0, .int 0, .int 0, .int 0, .int 0, .int 0, .int 0, .ref q_19, .ref q_21, .int (-1), .int 0, .ref q_23, .ref q_25, .ref q_27, .int 0, .long 0, .ref q_29, .int 0, .int 0, .ref q_31, .ref q_33, .ref q_35, .int 0, .ref q_37, .ref q_39, .int 0, .ref q_41, .int 0])), (q_1, .inl (cy_2, 240, .inl g_15))]) [0, 1] (by decide) rfl
  have hKc := hK.sub (tys' := [(cy_2, .byte)]) [0] rfl
  have hFc := va_free (wc := [(h0, .inr (12, [.int 0, .ref q_1, .ref q_3, .ref q_5, .ref q_7, .ref q_1, .int (nI ((0 + fbN p1) + fbN p2)), .int 0, .int 0, .int 0, .int 0, .int 0, .int 0, .int 0, .int 0, .ref aY, .ref aT, .int 0, .ref q_9, .ref q_11, .ref q_13, .ref q_15, .ref q_17, .int 0, .int 0, .int 0, .int 0, .int 0, .int 0, .int 0, .int 0, .int 0, .ref q_19, .ref q_21, .int (-1), .int 0, .ref q_23, .ref q_25, .ref q_27, .int 0, .long 0, .ref q_29, .int 0, .int 0, .ref q_31, .ref q_33, .ref q_35, .int 0, .ref q_37, .ref q_39, .int 0, .ref q_41, .int 0])), (q_1, .inl (cy_2, 240, .inl g_15))]) hD hS hA [0, 1] rfl
  refine va_callv (va_runV (As := [.int p3]) (rest := []) ⟨hx, hb, hml, hown, hts⟩ (c_put l dC dI h0 p3 q_1 q_3 q_5 q_7 aY aT q_9 q_11 q_13 q_15 q_17 q_19 q_21 q_23 q_25 q_27 q_29 q_31 q_33 q_35 q_37 q_39 q_41 cy_2 g_15 ((0 + fbN p1) + fbN p2) H.size (by have := fbN_le p1; have := fbN_le p2; have := fbN_le p3; have := fbN_le p4; have := fbN_le p5; omega)) (cwV 1 hts g_t_X12_feed_56_c_put rfl rfl rfl (by decide +kernel) ⟨Nat.le_of_ble_eq_true rfl, Nat.le_of_ble_eq_true rfl⟩) ⟨fun a U g mk q => by obtain ⟨q0, q1, qP, qK, qD⟩ := q; exact ⟨q0, q1, qP, va_K.moved (u := U) (U := U.calling g mk a) (Vm.Alike.refl U.vm) qK, qD⟩, va_recv hK hP (ci := 12) (q0 := 0) rfl rfl, fun U hU hW => ⟨rfl, by rw [hU], by rw [hU]; exact hPc, va_K.moved hW.alike hKc, hDc.weaken (fun _ _ _ _ => trivial)⟩⟩ rfl rfl hl.1 rfl (lv_room (Nat.le_of_ble_eq_true rfl)) dX12_feed_56 ⟨Nat.le_of_ble_eq_true rfl, Nat.le_of_ble_eq_true rfl⟩) hS (fun q _ h => hFc q h) hFc (fun u t H1 locs ht hvm hw hB hz1 hk1 hS => ?_)
  obtain ⟨g_17, hP1, hK1, hD1⟩ := hB
  rw [ht] at hP1
  have hK1 := va_K.moved hvm.symm hK1
  try dsimp only at hw
  obtain ⟨hP, hD⟩ := va_join (wr := []) (w1 := [(h0, .inr (12, [.int 0, .ref q_1, .ref q_3, .ref q_5, .ref q_7, .ref q_1, .int (nI (((0 + fbN p1) + fbN p2) + fbN p3)), .int 0, .int 0, .int 0, .int 0, .int 0, .int 0, .int 0, .int 0, .ref aY, .ref aT, .int 0, .ref q_9, .ref q_11, .ref q_13, .ref q_15, .ref q_17, .int 0, .int 0, .int 0, .int 0, .int 0, .int 0, .int 0, .int 0, .int 0, .ref q_19, .ref q_21, .int (-1), .int 0, .ref q_23, .ref q_25, .ref q_27, .int 0, .long 0, .ref q_29, .int 0, .int 0, .ref q_31, .ref q_33, .ref q_35, .int 0, .ref q_37, .ref q_39, .int 0, .ref q_41, .int 0])), (q_1, .inl (cy_2, 240, .inl g_17))]) hP hD [0, 1] [] rfl rfl (by decide) (by decide) hk1 hFc hP1 hD1
  have hK := hK.app hK1
  generalize H1 = H at hP hS ⊢
  have hP : va_P (dC, dI) vwCl [(h0, .inr (12, [.int 0, .ref q_1, .ref q_3, .ref q_5, .ref q_7, .ref q_1, .int (nI (((0 + fbN p1) + fbN p2) + fbN p3)), .int 0, .int 0, .int 0, .int 0, .int 0, .int 0, .int 0, .int 0, .ref aY, .ref aT, .int 0, .ref q_9, .ref q_11, .ref q_13, .ref q_15, .ref q_17, .int 0, .int 0, .int 0, .int 0, .int 0, .int 0, .int 0, .int 0, .int 0, .ref q_19, .ref q_21, .int (-1), .int 0, .ref q_23, .ref q_25, .ref q_27, .int 0, .long 0, .ref q_29, .int 0, .int 0, .ref q_31, .ref q_33, .ref q_35, .int 0, .ref q_37, .ref q_39, .int 0, .ref q_41, .int 0])), (q_1, .inl (cy_2, 240, .inl g_17))] H := hP
  have hD : va_D A [(h0, .inr (12, [.int 0, .ref q_1, .ref q_3, .ref q_5, .ref q_7, .ref q_1, .int (nI (((0 + fbN p1) + fbN p2) + fbN p3)), .int 0, .int 0, .int 0, .int 0, .int 0, .int 0, .int 0, .int 0, .ref aY, .ref aT, .int 0, .ref q_9, .ref q_11, .ref q_13, .ref q_15, .ref q_17, .int 0, .int 0, .int 0, .int 0, .int 0, .int 0, .int 0, .int 0, .int 0, .ref q_19, .ref q_21, .int (-1), .int 0, .ref q_23, .ref q_25, .ref q_27, .int 0, .long 0, .ref q_29, .int 0, .int 0, .ref q_31, .ref q_33, .ref q_35, .int 0, .ref q_37, .ref q_39, .int 0, .ref q_41, .int 0])), (q_1, .inl (cy_2, 240, .inl g_17))] := hD
  have hK : va_K (dC, dI) vwCl [(cy_2, .byte)] s := hK
  refine W.widen (k := 0) (n := 0) (Nat.le_of_ble_eq_true rfl) (Nat.le_of_ble_eq_true rfl) ?_
  refine lv_aload_n hx hb dX12_feed_59 rfl (lv_at hl 0 rfl) ?_
  refine lv_iload hx hb dX12_feed_60 (lv_at hl 4 rfl) ?_
  have hPc := hP.sub (ws' := [(h0, .inr (12, [.int 0, .ref q_1, .ref q_3, .ref q_5, .ref q_7, .ref q_1, .int (nI (((0 + fbN p1) + fbN p2) + fbN p3)), .int 0, .int 0, .int 0, .int 0, .int 0, .int 0, .int 0, .int 0, .ref aY, .ref aT, .int 0, .ref q_9, .ref q_11, .ref q_13, .ref q_15, .ref q_17, .int 0, .int 0, .int 0, .int 0, .int 0, .int 0, .int 0, .int 0, .int 0, .ref q_19, .ref q_21, .int (-1), .int 0, .ref q_23, .ref q_25, .ref q_27, .int 0, .long 0, .ref q_29, .int 0, .int 0, .ref q_31, .ref q_33, .ref q_35, .int 0, .ref q_37, .ref q_39, .int 0, .ref q_41, .int 0])), (q_1, .inl (cy_2, 240, .inl g_17))]) [0, 1] rfl
  have hDc := hD.sub (ws' := [(h0, .inr (12, [.int 0, .ref q_1, .ref q_3, .ref q_5, .ref q_7, .ref q_1, .int (nI (((0 + fbN p1) + fbN p2) + fbN p3)), .int 0, .int 0, .int 0, .int 0, .int 0, .int 0, .int 0, .int 0, .ref aY, .ref aT, .int 0, .ref q_9, .ref q_11, .ref q_13, .ref q_15, .ref q_17, .int 0, .int 0, .int 0, .int 0, .int 0, .int 0, .int 0, .int 0, .int 0, .ref q_19, .ref q_21, .int (-1), .int 0, .ref q_23, .ref q_25, .ref q_27, .int 0, .long 0, .ref q_29, .int 0, .int 0, .ref q_31, .ref q_33, .ref q_35, .int 0, .ref q_37, .ref q_39, .int 0, .ref q_41, .int 0])), (q_1, .inl (cy_2, 240, .inl g_17))]) [0, 1] (by decide) rfl
  have hKc := hK.sub (tys' := [(cy_2, .byte)]) [0] rfl
  have hFc := va_free (wc := [(h0, .inr (12, [.int 0, .ref q_1, .ref q_3, .ref q_5, .ref q_7, .ref q_1, .int (nI (((0 + fbN p1) + fbN p2) + fbN p3)), .int 0, .int 0, .int 0, .int 0, .int 0, .int 0, .int 0, .int 0, .ref aY, .ref aT, .int 0, .ref q_9, .ref q_11, .ref q_13, .ref q_15, .ref q_17, .int 0, .int 0, .int 0, .int 0, .int 0, .int 0, .int 0, .int 0, .int 0, .ref q_19, .ref q_21, .int (-1), .int 0, .ref q_23, .ref q_25, .ref q_27, .int 0, .long 0, .ref q_29, .int 0, .int 0, .ref q_31, .ref q_33, .ref q_35, .int 0, .ref q_37, .ref q_39, .int 0, .ref q_41, .int 0])), (q_1, .inl (cy_2, 240, .inl g_17))]) hD hS hA [0, 1] rfl
  refine va_callv (va_runV (As := [.int p4]) (rest := []) ⟨hx, hb, hml, hown, hts⟩ (c_put l dC dI h0 p4 q_1 q_3 q_5 q_7 aY aT q_9 q_11 q_13 q_15 q_17 q_19 q_21 q_23 q_25 q_27 q_29 q_31 q_33 q_35 q_37 q_39 q_41 cy_2 g_17 (((0 + fbN p1) + fbN p2) + fbN p3) H.size (by have := fbN_le p1; have := fbN_le p2; have := fbN_le p3; have := fbN_le p4; have := fbN_le p5; omega)) (cwV 1 hts g_t_X12_feed_62_c_put rfl rfl rfl (by decide +kernel) ⟨Nat.le_of_ble_eq_true rfl, Nat.le_of_ble_eq_true rfl⟩) ⟨fun a U g mk q => by obtain ⟨q0, q1, qP, qK, qD⟩ := q; exact ⟨q0, q1, qP, va_K.moved (u := U) (U := U.calling g mk a) (Vm.Alike.refl U.vm) qK, qD⟩, va_recv hK hP (ci := 12) (q0 := 0) rfl rfl, fun U hU hW => ⟨rfl, by rw [hU], by rw [hU]; exact hPc, va_K.moved hW.alike hKc, hDc.weaken (fun _ _ _ _ => trivial)⟩⟩ rfl rfl hl.1 rfl (lv_room (Nat.le_of_ble_eq_true rfl)) dX12_feed_62 ⟨Nat.le_of_ble_eq_true rfl, Nat.le_of_ble_eq_true rfl⟩) hS (fun q _ h => hFc q h) hFc (fun u t H1 locs ht hvm hw hB hz1 hk1 hS => ?_)
  obtain ⟨g_19, hP1, hK1, hD1⟩ := hB
  rw [ht] at hP1
  have hK1 := va_K.moved hvm.symm hK1
  try dsimp only at hw
  obtain ⟨hP, hD⟩ := va_join (wr := []) (w1 := [(h0, .inr (12, [.int 0, .ref q_1, .ref q_3, .ref q_5, .ref q_7, .ref q_1, .int (nI ((((0 + fbN p1) + fbN p2) + fbN p3) + fbN p4)), .int 0, .int 0, .int 0, .int 0, .int 0, .int 0, .int 0, .int 0, .ref aY, .ref aT, .int 0, .ref q_9, .ref q_11, .ref q_13, .ref q_15, .ref q_17, .int 0, .int 0, .int 0, .int 0, .int 0, .int 0, .int 0, .int 0, .int 0, .ref q_19, .ref q_21, .int (-1), .int 0, .ref q_23, .ref q_25, .ref q_27, .int 0, .long 0, .ref q_29, .int 0, .int 0, .ref q_31, .ref q_33, .ref q_35, .int 0, .ref q_37, .ref q_39, .int 0, .ref q_41, .int 0])), (q_1, .inl (cy_2, 240, .inl g_19))]) hP hD [0, 1] [] rfl rfl (by decide) (by decide) hk1 hFc hP1 hD1
  have hK := hK.app hK1
  generalize H1 = H at hP hS ⊢
  have hP : va_P (dC, dI) vwCl [(h0, .inr (12, [.int 0, .ref q_1, .ref q_3, .ref q_5, .ref q_7, .ref q_1, .int (nI ((((0 + fbN p1) + fbN p2) + fbN p3) + fbN p4)), .int 0, .int 0, .int 0, .int 0, .int 0, .int 0, .int 0, .int 0, .ref aY, .ref aT, .int 0, .ref q_9, .ref q_11, .ref q_13, .ref q_15, .ref q_17, .int 0, .int 0, .int 0, .int 0, .int 0, .int 0, .int 0, .int 0, .int 0, .ref q_19, .ref q_21, .int (-1), .int 0, .ref q_23, .ref q_25, .ref q_27, .int 0, .long 0, .ref q_29, .int 0, .int 0, .ref q_31, .ref q_33, .ref q_35, .int 0, .ref q_37, .ref q_39, .int 0, .ref q_41, .int 0])), (q_1, .inl (cy_2, 240, .inl g_19))] H := hP
  have hD : va_D A [(h0, .inr (12, [.int 0, .ref q_1, .ref q_3, .ref q_5, .ref q_7, .ref q_1, .int (nI ((((0 + fbN p1) + fbN p2) + fbN p3) + fbN p4)), .int 0, .int 0, .int 0, .int 0, .int 0, .int 0, .int 0, .int 0, .ref aY, .ref aT, .int 0, .ref q_9, .ref q_11, .ref q_13, .ref q_15, .ref q_17, .int 0, .int 0, .int 0, .int 0, .int 0, .int 0, .int 0, .int 0, .int 0, .ref q_19, .ref q_21, .int (-1), .int 0, .ref q_23, .ref q_25, .ref q_27, .int 0, .long 0, .ref q_29, .int 0, .int 0, .ref q_31, .ref q_33, .ref q_35, .int 0, .ref q_37, .ref q_39, .int 0, .ref q_41, .int 0])), (q_1, .inl (cy_2, 240, .inl g_19))] := hD
  have hK : va_K (dC, dI) vwCl [(cy_2, .byte)] s := hK
  refine W.widen (k := 0) (n := 0) (Nat.le_of_ble_eq_true rfl) (Nat.le_of_ble_eq_true rfl) ?_
  refine lv_aload_n hx hb dX12_feed_65 rfl (lv_at hl 0 rfl) ?_
  refine lv_iload hx hb dX12_feed_66 (lv_at hl 5 rfl) ?_
  have hPc := hP.sub (ws' := [(h0, .inr (12, [.int 0, .ref q_1, .ref q_3, .ref q_5, .ref q_7, .ref q_1, .int (nI ((((0 + fbN p1) + fbN p2) + fbN p3) + fbN p4)), .int 0, .int 0, .int 0, .int 0, .int 0, .int 0, .int 0, .int 0, .ref aY, .ref aT, .int 0, .ref q_9, .ref q_11, .ref q_13, .ref q_15, .ref q_17, .int 0, .int 0, .int 0, .int 0, .int 0, .int 0, .int 0, .int 0, .int 0, .ref q_19, .ref q_21, .int (-1), .int 0, .ref q_23, .ref q_25, .ref q_27, .int 0, .long 0, .ref q_29, .int 0, .int 0, .ref q_31, .ref q_33, .ref q_35, .int 0, .ref q_37, .ref q_39, .int 0, .ref q_41, .int 0])), (q_1, .inl (cy_2, 240, .inl g_19))]) [0, 1] rfl
  have hDc := hD.sub (ws' := [(h0, .inr (12, [.int 0, .ref q_1, .ref q_3, .ref q_5, .ref q_7, .ref q_1, .int (nI ((((0 + fbN p1) + fbN p2) + fbN p3) + fbN p4)), .int 0, .int 0, .int 0, .int 0, .int 0, .int 0, .int 0, .int 0, .ref aY, .ref aT, .int 0, .ref q_9, .ref q_11, .ref q_13, .ref q_15, .ref q_17, .int 0, .int 0, .int 0, .int 0, .int 0, .int 0, .int 0, .int 0, .int 0, .ref q_19, .ref q_21, .int (-1), .int 0, .ref q_23, .ref q_25, .ref q_27, .int 0, .long 0, .ref q_29, .int 0, .int 0, .ref q_31, .ref q_33, .ref q_35, .int 0, .ref q_37, .ref q_39, .int 0, .ref q_41, .int 0])), (q_1, .inl (cy_2, 240, .inl g_19))]) [0, 1] (by decide) rfl
  have hKc := hK.sub (tys' := [(cy_2, .byte)]) [0] rfl
  have hFc := va_free (wc := [(h0, .inr (12, [.int 0, .ref q_1, .ref q_3, .ref q_5, .ref q_7, .ref q_1, .int (nI ((((0 + fbN p1) + fbN p2) + fbN p3) + fbN p4)), .int 0, .int 0, .int 0, .int 0, .int 0, .int 0, .int 0, .int 0, .ref aY, .ref aT, .int 0, .ref q_9, .ref q_11, .ref q_13, .ref q_15, .ref q_17, .int 0, .int 0, .int 0, .int 0, .int 0, .int 0, .int 0, .int 0, .int 0, .ref q_19, .ref q_21, .int (-1), .int 0, .ref q_23, .ref q_25, .ref q_27, .int 0, .long 0, .ref q_29, .int 0, .int 0, .ref q_31, .ref q_33, .ref q_35, .int 0, .ref q_37, .ref q_39, .int 0, .ref q_41, .int 0])), (q_1, .inl (cy_2, 240, .inl g_19))]) hD hS hA [0, 1] rfl
  refine va_callv (va_runV (As := [.int p5]) (rest := []) ⟨hx, hb, hml, hown, hts⟩ (c_put l dC dI h0 p5 q_1 q_3 q_5 q_7 aY aT q_9 q_11 q_13 q_15 q_17 q_19 q_21 q_23 q_25 q_27 q_29 q_31 q_33 q_35 q_37 q_39 q_41 cy_2 g_19 ((((0 + fbN p1) + fbN p2) + fbN p3) + fbN p4) H.size (by have := fbN_le p1; have := fbN_le p2; have := fbN_le p3; have := fbN_le p4; have := fbN_le p5; omega)) (cwV 1 hts g_t_X12_feed_68_c_put rfl rfl rfl (by decide +kernel) ⟨Nat.le_of_ble_eq_true rfl, Nat.le_of_ble_eq_true rfl⟩) ⟨fun a U g mk q => by obtain ⟨q0, q1, qP, qK, qD⟩ := q; exact ⟨q0, q1, qP, va_K.moved (u := U) (U := U.calling g mk a) (Vm.Alike.refl U.vm) qK, qD⟩, va_recv hK hP (ci := 12) (q0 := 0) rfl rfl, fun U hU hW => ⟨rfl, by rw [hU], by rw [hU]; exact hPc, va_K.moved hW.alike hKc, hDc.weaken (fun _ _ _ _ => trivial)⟩⟩ rfl rfl hl.1 rfl (lv_room (Nat.le_of_ble_eq_true rfl)) dX12_feed_68 ⟨Nat.le_of_ble_eq_true rfl, Nat.le_of_ble_eq_true rfl⟩) hS (fun q _ h => hFc q h) hFc (fun u t H1 locs ht hvm hw hB hz1 hk1 hS => ?_)
  obtain ⟨g_21, hP1, hK1, hD1⟩ := hB
  rw [ht] at hP1
  have hK1 := va_K.moved hvm.symm hK1
  try dsimp only at hw
  obtain ⟨hP, hD⟩ := va_join (wr := []) (w1 := [(h0, .inr (12, [.int 0, .ref q_1, .ref q_3, .ref q_5, .ref q_7, .ref q_1, .int (nI (((((0 + fbN p1) + fbN p2) + fbN p3) + fbN p4) + fbN p5)), .int 0, .int 0, .int 0, .int 0, .int 0, .int 0, .int 0, .int 0, .ref aY, .ref aT, .int 0, .ref q_9, .ref q_11, .ref q_13, .ref q_15, .ref q_17, .int 0, .int 0, .int 0, .int 0, .int 0, .int 0, .int 0, .int 0, .int 0, .ref q_19, .ref q_21, .int (-1), .int 0, .ref q_23, .ref q_25, .ref q_27, .int 0, .long 0, .ref q_29, .int 0, .int 0, .ref q_31, .ref q_33, .ref q_35, .int 0, .ref q_37, .ref q_39, .int 0, .ref q_41, .int 0])), (q_1, .inl (cy_2, 240, .inl g_21))]) hP hD [0, 1] [] rfl rfl (by decide) (by decide) hk1 hFc hP1 hD1
  have hK := hK.app hK1
  generalize H1 = H at hP hS ⊢
  have hP : va_P (dC, dI) vwCl [(h0, .inr (12, [.int 0, .ref q_1, .ref q_3, .ref q_5, .ref q_7, .ref q_1, .int (nI (((((0 + fbN p1) + fbN p2) + fbN p3) + fbN p4) + fbN p5)), .int 0, .int 0, .int 0, .int 0, .int 0, .int 0, .int 0, .int 0, .ref aY, .ref aT, .int 0, .ref q_9, .ref q_11, .ref q_13, .ref q_15, .ref q_17, .int 0, .int 0, .int 0, .int 0, .int 0, .int 0, .int 0, .int 0, .int 0, .ref q_19, .ref q_21, .int (-1), .int 0, .ref q_23, .ref q_25, .ref q_27, .int 0, .long 0, .ref q_29, .int 0, .int 0, .ref q_31, .ref q_33, .ref q_35, .int 0, .ref q_37, .ref q_39, .int 0, .ref q_41, .int 0])), (q_1, .inl (cy_2, 240, .inl g_21))] H := hP
  have hD : va_D A [(h0, .inr (12, [.int 0, .ref q_1, .ref q_3, .ref q_5, .ref q_7, .ref q_1, .int (nI (((((0 + fbN p1) + fbN p2) + fbN p3) + fbN p4) + fbN p5)), .int 0, .int 0, .int 0, .int 0, .int 0, .int 0, .int 0, .int 0, .ref aY, .ref aT, .int 0, .ref q_9, .ref q_11, .ref q_13, .ref q_15, .ref q_17, .int 0, .int 0, .int 0, .int 0, .int 0, .int 0, .int 0, .int 0, .int 0, .ref q_19, .ref q_21, .int (-1), .int 0, .ref q_23, .ref q_25, .ref q_27, .int 0, .long 0, .ref q_29, .int 0, .int 0, .ref q_31, .ref q_33, .ref q_35, .int 0, .ref q_37, .ref q_39, .int 0, .ref q_41, .int 0])), (q_1, .inl (cy_2, 240, .inl g_21))] := hD
  have hK : va_K (dC, dI) vwCl [(cy_2, .byte)] s := hK
  refine W.widen (k := 0) (n := 0) (Nat.le_of_ble_eq_true rfl) (Nat.le_of_ble_eq_true rfl) ?_
  refine lv_aload_n hx hb dX12_feed_71 rfl (lv_at hl 0 rfl) ?_
  refine va_get (D := (dC, dI)) (ci := 12) (v := .int (nI (((((0 + fbN p1) + fbN p2) + fbN p3) + fbN p4) + fbN p5))) (C := RX12) (T := TX12) (N := 53) hx hb hts in_t_X12_feed_X12 hown hK hP 0 rfl rfl 6 (by decide) (hts (.fieldLink RX12 107 "LawnAheadModel" "length" "I") (List.mem_of_getElem? (i := 2) rfl)) (fun _ h9 => h9) rfl dX12_feed_72 ?_
  refine W.widen (k := 0) (n := 0) (Nat.le_of_ble_eq_true rfl) (Nat.le_of_ble_eq_true rfl) ?_
  exact W.iret (v := (nI (((((0 + fbN p1) + fbN p2) + fbN p3) + fbN p4) + fbN p5))) hx hb hr (fun t ht hW => ⟨⟨(nI (((((0 + fbN p1) + fbN p2) + fbN p3) + fbN p4) + fbN p5)), (), rfl, rfl, trivial⟩, hS.F ht⟩) hS.2.2 dX12_feed_75
