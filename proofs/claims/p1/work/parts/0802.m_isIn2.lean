def w_m_isIn2 : List Cond := .code yX12_isIn cX12_isIn 6 (some .boolean) :: ([] ++ [])
set_option maxHeartbeats 8000000 in
set_option maxRecDepth 100000 in
theorem m_isIn2 (l : Launch) (dC : Nat → ClassId) (dI : Nat → Nat → Nat) (p1 : Int32) (sz : Nat) : Met l yX12_isIn w_m_isIn2 ({ frames := 0, cells := 0, slots := 0, locals := 0 }) (va_Pc [.long p1.toInt64, .long 0, .long 2] (fun U => U.heap.size = sz ∧ va_P (dC, dI) vwCl [] U.heap ∧ va_K (dC, dI) vwCl [] U ∧ va_D (fun _ => True) [])) (va_Qi (fun (r : Int32) (_ : Unit) => r = F_in2 p1) (fun _ t => va_P (dC, dI) vwCl [] t.heap ∧ va_K (dC, dI) vwCl [] t ∧ va_D (va_A [] sz) []) (va_A [] sz)) 0 0 (va_A [] sz) := by
  refine Met.ofW (cc := cX12_isIn) (maxL := 6) (ret := (some .boolean)) (by decide) rfl ?_
  intro p e s m args below meth c s₁ B hml hv
  obtain ⟨rfl, hsz, hP, hK, hD0⟩ := hv
  have hx := B.exec
  have hb := B.bytes
  have hr := B.returns
  have hts := atoms_spec (ws := w_m_isIn2) B.pre
  have hown : s.vm.findClass RX12 = some m.cls := findClass_of_methodNamed B.named
  have hlocks := B.notSynchronized
  subst hsz
  have hD := hD0.self (sz := s.heap.size)
  generalize hAe : va_A [] s.heap.size = A at hD ⊢
  have hA : ∀ q : Nat, s.heap.size ≤ q → A q := fun q h => by rw [← hAe]; exact Or.inr h
  have hS : va_S A s.heap s.heap [] := va_S.rf
  have hP : va_P (dC, dI) vwCl [] s.heap := hP
  have hl := lv_entry ([.long p1.toInt64, .long 0, .long 2]) (n := 6) (Nat.le_of_ble_eq_true rfl)
  rw [lg_entry_eq]
  generalize (lg_sl ([.long p1.toInt64, .long 0, .long 2]) ++ List.replicate (6 - (lg_sl ([.long p1.toInt64, .long 0, .long 2])).length) Slot.unset).toArray = ls at hl ⊢
  have hl : lv_has ls 6 [(0, .long p1.toInt64), (2, .long 0), (4, .long 2)] := hl
  refine lv_lload_n hx hb dX12_isIn_0 rfl (lv_at hl 0 rfl) ?_
  refine lv_lload_n hx hb dX12_isIn_1 rfl (lv_at hl 1 rfl) ?_
  refine W.lcmp hx hb dX12_isIn_2 ?_
  refine lv_topi (fun f_1 ef_1 => ?_)
  have hf_1 : (f_1 < 0 ↔ (p1.toInt64 : Int64).toInt < (0 : Int64).toInt) ∧ (0 < f_1 ↔ (0 : Int64).toInt < (p1.toInt64 : Int64).toInt) := by rw [ef_1]; exact cmp_iff _ _
  refine lv_if_lt (tgt := 17) hx hb dX12_isIn_3 (by decide) (fun c_2 => ?_) (fun c_2 => ?_)
  · refine lv_iconst (v := 0) hx hb dX12_isIn_17 (by decide +kernel) ?_
    refine W.widen (k := 0) (n := 0) (Nat.le_of_ble_eq_true rfl) (Nat.le_of_ble_eq_true rfl) ?_
    have hP9 := hP.sub (ws' := []) [] rfl
    have hD9 := hD.sub (ws' := []) [] (by decide) rfl
    have hK9 := hK.sub (tys' := []) [] rfl
    exact W.zret (ty := .boolean) (v := 0) hx hb hr (by decide +kernel) (fun t ht hW => ⟨⟨0, (), rfl, (by unfold F_in2; split <;> first | rfl | (exfalso; rename_i q; have l0 : (0 : Int32).toInt = 0 := (by decide +kernel); have l1 : ((-1) : Int32).toInt = -1 := (by decide +kernel); have l2 : (1 : Int32).toInt = 1 := (by decide +kernel); have l3 : (2 : Int32).toInt = 2 := (by decide +kernel); have l4 : (3 : Int32).toInt = 3 := (by decide +kernel); have l5 : (4 : Int32).toInt = 4 := (by decide +kernel); have l6 : (5 : Int32).toInt = 5 := (by decide +kernel); have l7 : (10 : Int32).toInt = 10 := (by decide +kernel); have l8 : (12 : Int32).toInt = 12 := (by decide +kernel); have l9 : (15 : Int32).toInt = 15 := (by decide +kernel); have l10 : (30 : Int32).toInt = 30 := (by decide +kernel); have l11 : (99 : Int32).toInt = 99 := (by decide +kernel); have l12 : (100 : Int32).toInt = 100 := (by decide +kernel); have l13 : (240 : Int32).toInt = 240 := (by decide +kernel); have m0 : (0 : Int64).toInt = 0 := (by decide +kernel); have m1 : ((-1) : Int64).toInt = -1 := (by decide +kernel); have m2 : (2 : Int64).toInt = 2 := (by decide +kernel); have m3 : (99 : Int64).toInt = 99 := (by decide +kernel); simp only [Int32.lt_iff_toInt_lt, Int32.le_iff_toInt_le, ← Int32.toInt_inj, l0, l1, l2, l3, l4, l5, l6, l7, l8, l9, l10, l11, l12, l13, Int32.toInt_toInt64, m0, m1, m2, m3] at q hf_1 c_2; omega)), by rw [ht]; exact hP9, va_K.moved hW.alike hK9, hD9⟩, hS.F ht⟩) hS.2.2 dX12_isIn_18
  · refine lv_lload_n hx hb dX12_isIn_6 rfl (lv_at hl 0 rfl) ?_
    refine lv_lload hx hb dX12_isIn_7 (lv_at hl 2 rfl) ?_
    refine W.lcmp hx hb dX12_isIn_9 ?_
    refine lv_topi (fun f_3 ef_3 => ?_)
    have hf_3 : (f_3 < 0 ↔ (p1.toInt64 : Int64).toInt < (2 : Int64).toInt) ∧ (0 < f_3 ↔ (2 : Int64).toInt < (p1.toInt64 : Int64).toInt) := by rw [ef_3]; exact cmp_iff _ _
    refine lv_if_gt (tgt := 17) hx hb dX12_isIn_10 (by decide) (fun c_4 => ?_) (fun c_4 => ?_)
    · refine lv_iconst (v := 0) hx hb dX12_isIn_17 (by decide +kernel) ?_
      refine W.widen (k := 0) (n := 0) (Nat.le_of_ble_eq_true rfl) (Nat.le_of_ble_eq_true rfl) ?_
      have hP9 := hP.sub (ws' := []) [] rfl
      have hD9 := hD.sub (ws' := []) [] (by decide) rfl
      have hK9 := hK.sub (tys' := []) [] rfl
      exact W.zret (ty := .boolean) (v := 0) hx hb hr (by decide +kernel) (fun t ht hW => ⟨⟨0, (), rfl, (by unfold F_in2; split <;> first | rfl | (exfalso; rename_i q; have l0 : (0 : Int32).toInt = 0 := (by decide +kernel); have l1 : ((-1) : Int32).toInt = -1 := (by decide +kernel); have l2 : (1 : Int32).toInt = 1 := (by decide +kernel); have l3 : (2 : Int32).toInt = 2 := (by decide +kernel); have l4 : (3 : Int32).toInt = 3 := (by decide +kernel); have l5 : (4 : Int32).toInt = 4 := (by decide +kernel); have l6 : (5 : Int32).toInt = 5 := (by decide +kernel); have l7 : (10 : Int32).toInt = 10 := (by decide +kernel); have l8 : (12 : Int32).toInt = 12 := (by decide +kernel); have l9 : (15 : Int32).toInt = 15 := (by decide +kernel); have l10 : (30 : Int32).toInt = 30 := (by decide +kernel); have l11 : (99 : Int32).toInt = 99 := (by decide +kernel); have l12 : (100 : Int32).toInt = 100 := (by decide +kernel); have l13 : (240 : Int32).toInt = 240 := (by decide +kernel); have m0 : (0 : Int64).toInt = 0 := (by decide +kernel); have m1 : ((-1) : Int64).toInt = -1 := (by decide +kernel); have m2 : (2 : Int64).toInt = 2 := (by decide +kernel); have m3 : (99 : Int64).toInt = 99 := (by decide +kernel); simp only [Int32.lt_iff_toInt_lt, Int32.le_iff_toInt_le, ← Int32.toInt_inj, l0, l1, l2, l3, l4, l5, l6, l7, l8, l9, l10, l11, l12, l13, Int32.toInt_toInt64, m0, m1, m2, m3] at q hf_1 c_2 hf_3 c_4; omega)), by rw [ht]; exact hP9, va_K.moved hW.alike hK9, hD9⟩, hS.F ht⟩) hS.2.2 dX12_isIn_18
    · refine lv_iconst (v := 1) hx hb dX12_isIn_13 (by decide +kernel) ?_
      refine lv_goto (tgt := 18) hx hb dX12_isIn_14 (by decide) ?_
      refine W.widen (k := 0) (n := 0) (Nat.le_of_ble_eq_true rfl) (Nat.le_of_ble_eq_true rfl) ?_
      have hP9 := hP.sub (ws' := []) [] rfl
      have hD9 := hD.sub (ws' := []) [] (by decide) rfl
      have hK9 := hK.sub (tys' := []) [] rfl
      exact W.zret (ty := .boolean) (v := 1) hx hb hr (by decide +kernel) (fun t ht hW => ⟨⟨1, (), rfl, (by unfold F_in2; split <;> first | rfl | (exfalso; rename_i q; have l0 : (0 : Int32).toInt = 0 := (by decide +kernel); have l1 : ((-1) : Int32).toInt = -1 := (by decide +kernel); have l2 : (1 : Int32).toInt = 1 := (by decide +kernel); have l3 : (2 : Int32).toInt = 2 := (by decide +kernel); have l4 : (3 : Int32).toInt = 3 := (by decide +kernel); have l5 : (4 : Int32).toInt = 4 := (by decide +kernel); have l6 : (5 : Int32).toInt = 5 := (by decide +kernel); have l7 : (10 : Int32).toInt = 10 := (by decide +kernel); have l8 : (12 : Int32).toInt = 12 := (by decide +kernel); have l9 : (15 : Int32).toInt = 15 := (by decide +kernel); have l10 : (30 : Int32).toInt = 30 := (by decide +kernel); have l11 : (99 : Int32).toInt = 99 := (by decide +kernel); have l12 : (100 : Int32).toInt = 100 := (by decide +kernel); have l13 : (240 : Int32).toInt = 240 := (by decide +kernel); have m0 : (0 : Int64).toInt = 0 := (by decide +kernel); have m1 : ((-1) : Int64).toInt = -1 := (by decide +kernel); have m2 : (2 : Int64).toInt = 2 := (by decide +kernel); have m3 : (99 : Int64).toInt = 99 := (by decide +kernel); simp only [Int32.lt_iff_toInt_lt, Int32.le_iff_toInt_le, ← Int32.toInt_inj, l0, l1, l2, l3, l4, l5, l6, l7, l8, l9, l10, l11, l12, l13, Int32.toInt_toInt64, m0, m1, m2, m3] at q hf_1 c_2 hf_3 c_4; omega)), by rw [ht]; exact hP9, va_K.moved hW.alike hK9, hD9⟩, hS.F ht⟩) hS.2.2 dX12_isIn_18

def w_m_isIn99 : List Cond := .code yX12_isIn cX12_isIn 6 (some .boolean) :: ([] ++ [])
set_option maxHeartbeats 8000000 in
set_option maxRecDepth 100000 in
theorem m_isIn99 (l : Launch) (dC : Nat → ClassId) (dI : Nat → Nat → Nat) (p1 : Int32) (sz : Nat) : Met l yX12_isIn w_m_isIn99 ({ frames := 0, cells := 0, slots := 0, locals := 0 }) (va_Pc [.long p1.toInt64, .long 0, .long 99] (fun U => U.heap.size = sz ∧ va_P (dC, dI) vwCl [] U.heap ∧ va_K (dC, dI) vwCl [] U ∧ va_D (fun _ => True) [])) (va_Qi (fun (r : Int32) (_ : Unit) => r = F_in99 p1) (fun _ t => va_P (dC, dI) vwCl [] t.heap ∧ va_K (dC, dI) vwCl [] t ∧ va_D (va_A [] sz) []) (va_A [] sz)) 0 0 (va_A [] sz) := by
  refine Met.ofW (cc := cX12_isIn) (maxL := 6) (ret := (some .boolean)) (by decide) rfl ?_
  intro p e s m args below meth c s₁ B hml hv
  obtain ⟨rfl, hsz, hP, hK, hD0⟩ := hv
  have hx := B.exec
  have hb := B.bytes
  have hr := B.returns
  have hts := atoms_spec (ws := w_m_isIn99) B.pre
  have hown : s.vm.findClass RX12 = some m.cls := findClass_of_methodNamed B.named
  have hlocks := B.notSynchronized
  subst hsz
  have hD := hD0.self (sz := s.heap.size)
  generalize hAe : va_A [] s.heap.size = A at hD ⊢
  have hA : ∀ q : Nat, s.heap.size ≤ q → A q := fun q h => by rw [← hAe]; exact Or.inr h
  have hS : va_S A s.heap s.heap [] := va_S.rf
  have hP : va_P (dC, dI) vwCl [] s.heap := hP
  have hl := lv_entry ([.long p1.toInt64, .long 0, .long 99]) (n := 6) (Nat.le_of_ble_eq_true rfl)
  rw [lg_entry_eq]
  generalize (lg_sl ([.long p1.toInt64, .long 0, .long 99]) ++ List.replicate (6 - (lg_sl ([.long p1.toInt64, .long 0, .long 99])).length) Slot.unset).toArray = ls at hl ⊢
  have hl : lv_has ls 6 [(0, .long p1.toInt64), (2, .long 0), (4, .long 99)] := hl
  refine lv_lload_n hx hb dX12_isIn_0 rfl (lv_at hl 0 rfl) ?_
  refine lv_lload_n hx hb dX12_isIn_1 rfl (lv_at hl 1 rfl) ?_
  refine W.lcmp hx hb dX12_isIn_2 ?_
  refine lv_topi (fun f_1 ef_1 => ?_)
  have hf_1 : (f_1 < 0 ↔ (p1.toInt64 : Int64).toInt < (0 : Int64).toInt) ∧ (0 < f_1 ↔ (0 : Int64).toInt < (p1.toInt64 : Int64).toInt) := by rw [ef_1]; exact cmp_iff _ _
  refine lv_if_lt (tgt := 17) hx hb dX12_isIn_3 (by decide) (fun c_2 => ?_) (fun c_2 => ?_)
  · refine lv_iconst (v := 0) hx hb dX12_isIn_17 (by decide +kernel) ?_
    refine W.widen (k := 0) (n := 0) (Nat.le_of_ble_eq_true rfl) (Nat.le_of_ble_eq_true rfl) ?_
    have hP9 := hP.sub (ws' := []) [] rfl
    have hD9 := hD.sub (ws' := []) [] (by decide) rfl
    have hK9 := hK.sub (tys' := []) [] rfl
    exact W.zret (ty := .boolean) (v := 0) hx hb hr (by decide +kernel) (fun t ht hW => ⟨⟨0, (), rfl, (by unfold F_in99; split <;> first | rfl | (exfalso; rename_i q; have l0 : (0 : Int32).toInt = 0 := (by decide +kernel); have l1 : ((-1) : Int32).toInt = -1 := (by decide +kernel); have l2 : (1 : Int32).toInt = 1 := (by decide +kernel); have l3 : (2 : Int32).toInt = 2 := (by decide +kernel); have l4 : (3 : Int32).toInt = 3 := (by decide +kernel); have l5 : (4 : Int32).toInt = 4 := (by decide +kernel); have l6 : (5 : Int32).toInt = 5 := (by decide +kernel); have l7 : (10 : Int32).toInt = 10 := (by decide +kernel); have l8 : (12 : Int32).toInt = 12 := (by decide +kernel); have l9 : (15 : Int32).toInt = 15 := (by decide +kernel); have l10 : (30 : Int32).toInt = 30 := (by decide +kernel); have l11 : (99 : Int32).toInt = 99 := (by decide +kernel); have l12 : (100 : Int32).toInt = 100 := (by decide +kernel); have l13 : (240 : Int32).toInt = 240 := (by decide +kernel); have m0 : (0 : Int64).toInt = 0 := (by decide +kernel); have m1 : ((-1) : Int64).toInt = -1 := (by decide +kernel); have m2 : (2 : Int64).toInt = 2 := (by decide +kernel); have m3 : (99 : Int64).toInt = 99 := (by decide +kernel); simp only [Int32.lt_iff_toInt_lt, Int32.le_iff_toInt_le, ← Int32.toInt_inj, l0, l1, l2, l3, l4, l5, l6, l7, l8, l9, l10, l11, l12, l13, Int32.toInt_toInt64, m0, m1, m2, m3] at q hf_1 c_2; omega)), by rw [ht]; exact hP9, va_K.moved hW.alike hK9, hD9⟩, hS.F ht⟩) hS.2.2 dX12_isIn_18
  · refine lv_lload_n hx hb dX12_isIn_6 rfl (lv_at hl 0 rfl) ?_
    refine lv_lload hx hb dX12_isIn_7 (lv_at hl 2 rfl) ?_
    refine W.lcmp hx hb dX12_isIn_9 ?_
    refine lv_topi (fun f_3 ef_3 => ?_)
    have hf_3 : (f_3 < 0 ↔ (p1.toInt64 : Int64).toInt < (99 : Int64).toInt) ∧ (0 < f_3 ↔ (99 : Int64).toInt < (p1.toInt64 : Int64).toInt) := by rw [ef_3]; exact cmp_iff _ _
    refine lv_if_gt (tgt := 17) hx hb dX12_isIn_10 (by decide) (fun c_4 => ?_) (fun c_4 => ?_)
    · refine lv_iconst (v := 0) hx hb dX12_isIn_17 (by decide +kernel) ?_
      refine W.widen (k := 0) (n := 0) (Nat.le_of_ble_eq_true rfl) (Nat.le_of_ble_eq_true rfl) ?_
      have hP9 := hP.sub (ws' := []) [] rfl
      have hD9 := hD.sub (ws' := []) [] (by decide) rfl
      have hK9 := hK.sub (tys' := []) [] rfl
      exact W.zret (ty := .boolean) (v := 0) hx hb hr (by decide +kernel) (fun t ht hW => ⟨⟨0, (), rfl, (by unfold F_in99; split <;> first | rfl | (exfalso; rename_i q; have l0 : (0 : Int32).toInt = 0 := (by decide +kernel); have l1 : ((-1) : Int32).toInt = -1 := (by decide +kernel); have l2 : (1 : Int32).toInt = 1 := (by decide +kernel); have l3 : (2 : Int32).toInt = 2 := (by decide +kernel); have l4 : (3 : Int32).toInt = 3 := (by decide +kernel); have l5 : (4 : Int32).toInt = 4 := (by decide +kernel); have l6 : (5 : Int32).toInt = 5 := (by decide +kernel); have l7 : (10 : Int32).toInt = 10 := (by decide +kernel); have l8 : (12 : Int32).toInt = 12 := (by decide +kernel); have l9 : (15 : Int32).toInt = 15 := (by decide +kernel); have l10 : (30 : Int32).toInt = 30 := (by decide +kernel); have l11 : (99 : Int32).toInt = 99 := (by decide +kernel); have l12 : (100 : Int32).toInt = 100 := (by decide +kernel); have l13 : (240 : Int32).toInt = 240 := (by decide +kernel); have m0 : (0 : Int64).toInt = 0 := (by decide +kernel); have m1 : ((-1) : Int64).toInt = -1 := (by decide +kernel); have m2 : (2 : Int64).toInt = 2 := (by decide +kernel); have m3 : (99 : Int64).toInt = 99 := (by decide +kernel); simp only [Int32.lt_iff_toInt_lt, Int32.le_iff_toInt_le, ← Int32.toInt_inj, l0, l1, l2, l3, l4, l5, l6, l7, l8, l9, l10, l11, l12, l13, Int32.toInt_toInt64, m0, m1, m2, m3] at q hf_1 c_2 hf_3 c_4; omega)), by rw [ht]; exact hP9, va_K.moved hW.alike hK9, hD9⟩, hS.F ht⟩) hS.2.2 dX12_isIn_18
    · refine lv_iconst (v := 1) hx hb dX12_isIn_13 (by decide +kernel) ?_
      refine lv_goto (tgt := 18) hx hb dX12_isIn_14 (by decide) ?_
      refine W.widen (k := 0) (n := 0) (Nat.le_of_ble_eq_true rfl) (Nat.le_of_ble_eq_true rfl) ?_
      have hP9 := hP.sub (ws' := []) [] rfl
      have hD9 := hD.sub (ws' := []) [] (by decide) rfl
      have hK9 := hK.sub (tys' := []) [] rfl
      exact W.zret (ty := .boolean) (v := 1) hx hb hr (by decide +kernel) (fun t ht hW => ⟨⟨1, (), rfl, (by unfold F_in99; split <;> first | rfl | (exfalso; rename_i q; have l0 : (0 : Int32).toInt = 0 := (by decide +kernel); have l1 : ((-1) : Int32).toInt = -1 := (by decide +kernel); have l2 : (1 : Int32).toInt = 1 := (by decide +kernel); have l3 : (2 : Int32).toInt = 2 := (by decide +kernel); have l4 : (3 : Int32).toInt = 3 := (by decide +kernel); have l5 : (4 : Int32).toInt = 4 := (by decide +kernel); have l6 : (5 : Int32).toInt = 5 := (by decide +kernel); have l7 : (10 : Int32).toInt = 10 := (by decide +kernel); have l8 : (12 : Int32).toInt = 12 := (by decide +kernel); have l9 : (15 : Int32).toInt = 15 := (by decide +kernel); have l10 : (30 : Int32).toInt = 30 := (by decide +kernel); have l11 : (99 : Int32).toInt = 99 := (by decide +kernel); have l12 : (100 : Int32).toInt = 100 := (by decide +kernel); have l13 : (240 : Int32).toInt = 240 := (by decide +kernel); have m0 : (0 : Int64).toInt = 0 := (by decide +kernel); have m1 : ((-1) : Int64).toInt = -1 := (by decide +kernel); have m2 : (2 : Int64).toInt = 2 := (by decide +kernel); have m3 : (99 : Int64).toInt = 99 := (by decide +kernel); simp only [Int32.lt_iff_toInt_lt, Int32.le_iff_toInt_le, ← Int32.toInt_inj, l0, l1, l2, l3, l4, l5, l6, l7, l8, l9, l10, l11, l12, l13, Int32.toInt_toInt64, m0, m1, m2, m3] at q hf_1 c_2 hf_3 c_4; omega)), by rw [ht]; exact hP9, va_K.moved hW.alike hK9, hD9⟩, hS.F ht⟩) hS.2.2 dX12_isIn_18

def w_m_isInN : List Cond := .code yX12_isIn cX12_isIn 6 (some .boolean) :: ([] ++ [])
set_option maxHeartbeats 8000000 in
set_option maxRecDepth 100000 in
theorem m_isInN (l : Launch) (dC : Nat → ClassId) (dI : Nat → Nat → Nat) (p1 : Int32) (sz : Nat) : Met l yX12_isIn w_m_isInN ({ frames := 0, cells := 0, slots := 0, locals := 0 }) (va_Pc [.long p1.toInt64, .long 0, .long (-1)] (fun U => U.heap.size = sz ∧ va_P (dC, dI) vwCl [] U.heap ∧ va_K (dC, dI) vwCl [] U ∧ va_D (fun _ => True) [])) (va_Qi (fun (r : Int32) (_ : Unit) => r = 0) (fun _ t => va_P (dC, dI) vwCl [] t.heap ∧ va_K (dC, dI) vwCl [] t ∧ va_D (va_A [] sz) []) (va_A [] sz)) 0 0 (va_A [] sz) := by
  refine Met.ofW (cc := cX12_isIn) (maxL := 6) (ret := (some .boolean)) (by decide) rfl ?_
  intro p e s m args below meth c s₁ B hml hv
  obtain ⟨rfl, hsz, hP, hK, hD0⟩ := hv
  have hx := B.exec
  have hb := B.bytes
  have hr := B.returns
  have hts := atoms_spec (ws := w_m_isInN) B.pre
  have hown : s.vm.findClass RX12 = some m.cls := findClass_of_methodNamed B.named
  have hlocks := B.notSynchronized
  subst hsz
  have hD := hD0.self (sz := s.heap.size)
  generalize hAe : va_A [] s.heap.size = A at hD ⊢
  have hA : ∀ q : Nat, s.heap.size ≤ q → A q := fun q h => by rw [← hAe]; exact Or.inr h
  have hS : va_S A s.heap s.heap [] := va_S.rf
  have hP : va_P (dC, dI) vwCl [] s.heap := hP
  have hl := lv_entry ([.long p1.toInt64, .long 0, .long (-1)]) (n := 6) (Nat.le_of_ble_eq_true rfl)
  rw [lg_entry_eq]
  generalize (lg_sl ([.long p1.toInt64, .long 0, .long (-1)]) ++ List.replicate (6 - (lg_sl ([.long p1.toInt64, .long 0, .long (-1)])).length) Slot.unset).toArray = ls at hl ⊢
  have hl : lv_has ls 6 [(0, .long p1.toInt64), (2, .long 0), (4, .long (-1))] := hl
  refine lv_lload_n hx hb dX12_isIn_0 rfl (lv_at hl 0 rfl) ?_
  refine lv_lload_n hx hb dX12_isIn_1 rfl (lv_at hl 1 rfl) ?_
  refine W.lcmp hx hb dX12_isIn_2 ?_
  refine lv_topi (fun f_1 ef_1 => ?_)
  have hf_1 : (f_1 < 0 ↔ (p1.toInt64 : Int64).toInt < (0 : Int64).toInt) ∧ (0 < f_1 ↔ (0 : Int64).toInt < (p1.toInt64 : Int64).toInt) := by rw [ef_1]; exact cmp_iff _ _
  refine lv_if_lt (tgt := 17) hx hb dX12_isIn_3 (by decide) (fun c_2 => ?_) (fun c_2 => ?_)
  · refine lv_iconst (v := 0) hx hb dX12_isIn_17 (by decide +kernel) ?_
    refine W.widen (k := 0) (n := 0) (Nat.le_of_ble_eq_true rfl) (Nat.le_of_ble_eq_true rfl) ?_
    have hP9 := hP.sub (ws' := []) [] rfl
    have hD9 := hD.sub (ws' := []) [] (by decide) rfl
    have hK9 := hK.sub (tys' := []) [] rfl
    exact W.zret (ty := .boolean) (v := 0) hx hb hr (by decide +kernel) (fun t ht hW => ⟨⟨0, (), rfl, rfl, by rw [ht]; exact hP9, va_K.moved hW.alike hK9, hD9⟩, hS.F ht⟩) hS.2.2 dX12_isIn_18
  · refine lv_lload_n hx hb dX12_isIn_6 rfl (lv_at hl 0 rfl) ?_
    refine lv_lload hx hb dX12_isIn_7 (lv_at hl 2 rfl) ?_
    refine W.lcmp hx hb dX12_isIn_9 ?_
    refine lv_topi (fun f_3 ef_3 => ?_)
    have hf_3 : (f_3 < 0 ↔ (p1.toInt64 : Int64).toInt < ((-1) : Int64).toInt) ∧ (0 < f_3 ↔ ((-1) : Int64).toInt < (p1.toInt64 : Int64).toInt) := by rw [ef_3]; exact cmp_iff _ _
    refine lv_if_gt (tgt := 17) hx hb dX12_isIn_10 (by decide) (fun c_4 => ?_) (fun c_4 => ?_)
    · refine lv_iconst (v := 0) hx hb dX12_isIn_17 (by decide +kernel) ?_
      refine W.widen (k := 0) (n := 0) (Nat.le_of_ble_eq_true rfl) (Nat.le_of_ble_eq_true rfl) ?_
      have hP9 := hP.sub (ws' := []) [] rfl
      have hD9 := hD.sub (ws' := []) [] (by decide) rfl
      have hK9 := hK.sub (tys' := []) [] rfl
      exact W.zret (ty := .boolean) (v := 0) hx hb hr (by decide +kernel) (fun t ht hW => ⟨⟨0, (), rfl, rfl, by rw [ht]; exact hP9, va_K.moved hW.alike hK9, hD9⟩, hS.F ht⟩) hS.2.2 dX12_isIn_18
    · refine lv_iconst (v := 1) hx hb dX12_isIn_13 (by decide +kernel) ?_
      refine lv_goto (tgt := 18) hx hb dX12_isIn_14 (by decide) ?_
      refine W.widen (k := 0) (n := 0) (Nat.le_of_ble_eq_true rfl) (Nat.le_of_ble_eq_true rfl) ?_
      have hP9 := hP.sub (ws' := []) [] rfl
      have hD9 := hD.sub (ws' := []) [] (by decide) rfl
      have hK9 := hK.sub (tys' := []) [] rfl
      exact W.zret (ty := .boolean) (v := 1) hx hb hr (by decide +kernel) (fun t ht hW => ⟨⟨1, (), rfl, (by exfalso; have l0 : (0 : Int32).toInt = 0 := (by decide +kernel); have l1 : ((-1) : Int32).toInt = -1 := (by decide +kernel); have l2 : (1 : Int32).toInt = 1 := (by decide +kernel); have l3 : (2 : Int32).toInt = 2 := (by decide +kernel); have l4 : (3 : Int32).toInt = 3 := (by decide +kernel); have l5 : (4 : Int32).toInt = 4 := (by decide +kernel); have l6 : (5 : Int32).toInt = 5 := (by decide +kernel); have l7 : (10 : Int32).toInt = 10 := (by decide +kernel); have l8 : (12 : Int32).toInt = 12 := (by decide +kernel); have l9 : (15 : Int32).toInt = 15 := (by decide +kernel); have l10 : (30 : Int32).toInt = 30 := (by decide +kernel); have l11 : (99 : Int32).toInt = 99 := (by decide +kernel); have l12 : (100 : Int32).toInt = 100 := (by decide +kernel); have l13 : (240 : Int32).toInt = 240 := (by decide +kernel); have m0 : (0 : Int64).toInt = 0 := (by decide +kernel); have m1 : ((-1) : Int64).toInt = -1 := (by decide +kernel); have m2 : (2 : Int64).toInt = 2 := (by decide +kernel); have m3 : (99 : Int64).toInt = 99 := (by decide +kernel); simp only [Int32.lt_iff_toInt_lt, Int32.le_iff_toInt_le, ← Int32.toInt_inj, l0, l1, l2, l3, l4, l5, l6, l7, l8, l9, l10, l11, l12, l13, Int32.toInt_toInt64, m0, m1, m2, m3] at hf_1 c_2 hf_3 c_4; omega), by rw [ht]; exact hP9, va_K.moved hW.alike hK9, hD9⟩, hS.F ht⟩) hS.2.2 dX12_isIn_18

def w_m_look : List Cond := .code yX12_look cX12_look 1 (some .int) :: ([.fieldLink RX12 117 "LawnAheadModel" "at" "I", .fieldLink RX12 120 "LawnAheadModel" "ends" "I"] ++ (wsX120 ++ []))
theorem in_m_look_X12 : ∀ w ∈ wsX120, w ∈ w_m_look := fun w h => List.mem_cons_of_mem _ (List.mem_append_right _ (List.mem_append_left _ h))
set_option maxHeartbeats 8000000 in
set_option maxRecDepth 100000 in
theorem m_look (l : Launch) (dC : Nat → ClassId) (dI : Nat → Nat → Nat) (h0 : Nat) (q_1 : Nat) (q_3 : Nat) (q_5 : Nat) (q_7 : Nat) (vf : Int32) (vl : Int32) (aY : Nat) (aT : Nat) (q_9 : Nat) (q_11 : Nat) (q_13 : Nat) (q_15 : Nat) (q_17 : Nat) (q_19 : Nat) (q_21 : Nat) (q_23 : Nat) (q_25 : Nat) (q_27 : Nat) (q_29 : Nat) (q_31 : Nat) (q_33 : Nat) (q_35 : Nat) (q_37 : Nat) (q_39 : Nat) (q_41 : Nat) (sz : Nat) : Met l yX12_look w_m_look ({ frames := 0, cells := 0, slots := 0, locals := 0 }) (va_Pc [.ref h0] (fun U => U.heap.size = sz ∧ va_P (dC, dI) vwCl [(h0, .inr (12, [.int 0, .ref q_1, .ref q_3, .ref q_5, .ref q_7, .ref q_1, .int 0, .int 0, .int 0, .int 0, .int 0, .int vf, .int 0, .int vl, .int 0, .ref aY, .ref aT, .int 0, .ref q_9, .ref q_11, .ref q_13, .ref q_15, .ref q_17, .int 0, .int 0, .int 0, .int 0, .int 0, .int 0, .int 0, .int 0, .int 0, .ref q_19, .ref q_21, .int (-1), .int 0, .ref q_23, .ref q_25, .ref q_27, .int 0, .long 0, .ref q_29, .int 0, .int 0, .ref q_31, .ref q_33, .ref q_35, .int 0, .ref q_37, .ref q_39, .int 0, .ref q_41, .int 0]))] U.heap ∧ va_K (dC, dI) vwCl [] U ∧ va_D (fun _ => True) [(h0, .inr (12, [.int 0, .ref q_1, .ref q_3, .ref q_5, .ref q_7, .ref q_1, .int 0, .int 0, .int 0, .int 0, .int 0, .int vf, .int 0, .int vl, .int 0, .ref aY, .ref aT, .int 0, .ref q_9, .ref q_11, .ref q_13, .ref q_15, .ref q_17, .int 0, .int 0, .int 0, .int 0, .int 0, .int 0, .int 0, .int 0, .int 0, .ref q_19, .ref q_21, .int (-1), .int 0, .ref q_23, .ref q_25, .ref q_27, .int 0, .long 0, .ref q_29, .int 0, .int 0, .ref q_31, .ref q_33, .ref q_35, .int 0, .ref q_37, .ref q_39, .int 0, .ref q_41, .int 0]))])) (va_Qi (fun (r : Int32) (_ : Unit) => r = (-1)) (fun _ t => va_P (dC, dI) vwCl [(h0, .inr (12, [.int 0, .ref q_1, .ref q_3, .ref q_5, .ref q_7, .ref q_1, .int 0, .int 0, .int 0, .int 0, .int 0, .int vf, .int 0, .int vl, .int 0, .ref aY, .ref aT, .int 0, .ref q_9, .ref q_11, .ref q_13, .ref q_15, .ref q_17, .int 0, .int 0, .int 0, .int 0, .int 0, .int 0, .int 0, .int 0, .int 0, .ref q_19, .ref q_21, .int (-1), .int 0, .ref q_23, .ref q_25, .ref q_27, .int 0, .long 0, .ref q_29, .int 0, .int 0, .ref q_31, .ref q_33, .ref q_35, .int 0, .ref q_37, .ref q_39, .int 0, .ref q_41, .int 0]))] t.heap ∧ va_K (dC, dI) vwCl [] t ∧ va_D (va_A [(h0, .inr (12, [.int 0, .ref q_1, .ref q_3, .ref q_5, .ref q_7, .ref q_1, .int 0, .int 0, .int 0, .int 0, .int 0, .int vf, .int 0, .int vl, .int 0, .ref aY, .ref aT, .int 0, .ref q_9, .ref q_11, .ref q_13, .ref q_15, .ref q_17, .int 0, .int 0, .int 0, .int 0, .int 0, .int 0, .int 0, .int 0, .int 0, .ref q_19, .ref q_21, .int (-1), .int 0, .ref q_23, .ref q_25, .ref q_27, .int 0, .long 0, .ref q_29, .int 0, .int 0, .ref q_31, .ref q_33, .ref q_35, .int 0, .ref q_37, .ref q_39, .int 0, .ref q_41, .int 0]))] sz) [(h0, .inr (12, [.int 0, .ref q_1, .ref q_3, .ref q_5, .ref q_7, .ref q_1, .int 0, .int 0, .int 0, .int 0, .int 0, .int vf, .int 0, .int vl, .int 0, .ref aY, .ref aT, .int 0, .ref q_9, .ref q_11, .ref q_13, .ref q_15, .ref q_17, .int 0, .int 0, .int 0, .int 0, .int 0, .int 0, .int 0, .int 0, .int 0, .ref q_19, .ref q_21, .int (-1), .int 0, .ref q_23, .ref q_25, .ref q_27, .int 0, .long 0, .ref q_29, .int 0, .int 0, .ref q_31, .ref q_33, .ref q_35, .int 0, .ref q_37, .ref q_39, .int 0, .ref q_41, .int 0]))]) (va_A [(h0, .inr (12, [.int 0, .ref q_1, .ref q_3, .ref q_5, .ref q_7, .ref q_1, .int 0, .int 0, .int 0, .int 0, .int 0, .int vf, .int 0, .int vl, .int 0, .ref aY, .ref aT, .int 0, .ref q_9, .ref q_11, .ref q_13, .ref q_15, .ref q_17, .int 0, .int 0, .int 0, .int 0, .int 0, .int 0, .int 0, .int 0, .int 0, .ref q_19, .ref q_21, .int (-1), .int 0, .ref q_23, .ref q_25, .ref q_27, .int 0, .long 0, .ref q_29, .int 0, .int 0, .ref q_31, .ref q_33, .ref q_35, .int 0, .ref q_37, .ref q_39, .int 0, .ref q_41, .int 0]))] sz)) 0 0 (va_A [(h0, .inr (12, [.int 0, .ref q_1, .ref q_3, .ref q_5, .ref q_7, .ref q_1, .int 0, .int 0, .int 0, .int 0, .int 0, .int vf, .int 0, .int vl, .int 0, .ref aY, .ref aT, .int 0, .ref q_9, .ref q_11, .ref q_13, .ref q_15, .ref q_17, .int 0, .int 0, .int 0, .int 0, .int 0, .int 0, .int 0, .int 0, .int 0, .ref q_19, .ref q_21, .int (-1), .int 0, .ref q_23, .ref q_25, .ref q_27, .int 0, .long 0, .ref q_29, .int 0, .int 0, .ref q_31, .ref q_33, .ref q_35, .int 0, .ref q_37, .ref q_39, .int 0, .ref q_41, .int 0]))] sz) := by
  refine Met.ofW (cc := cX12_look) (maxL := 1) (ret := (some .int)) (by decide) rfl ?_
  intro p e s m args below meth c s₁ B hml hv
  obtain ⟨rfl, hsz, hP, hK, hD0⟩ := hv
  have hx := B.exec
  have hb := B.bytes
  have hr := B.returns
  have hts := atoms_spec (ws := w_m_look) B.pre
  have hown : s.vm.findClass RX12 = some m.cls := findClass_of_methodNamed B.named
  have hlocks := B.notSynchronized
  subst hsz
  have hD := hD0.self (sz := s.heap.size)
  generalize hAe : va_A [(h0, .inr (12, [.int 0, .ref q_1, .ref q_3, .ref q_5, .ref q_7, .ref q_1, .int 0, .int 0, .int 0, .int 0, .int 0, .int vf, .int 0, .int vl, .int 0, .ref aY, .ref aT, .int 0, .ref q_9, .ref q_11, .ref q_13, .ref q_15, .ref q_17, .int 0, .int 0, .int 0, .int 0, .int 0, .int 0, .int 0, .int 0, .int 0, .ref q_19, .ref q_21, .int (-1), .int 0, .ref q_23, .ref q_25, .ref q_27, .int 0, .long 0, .ref q_29, .int 0, .int 0, .ref q_31, .ref q_33, .ref q_35, .int 0, .ref q_37, .ref q_39, .int 0, .ref q_41, .int 0]))] s.heap.size = A at hD ⊢
  have hA : ∀ q : Nat, s.heap.size ≤ q → A q := fun q h => by rw [← hAe]; exact Or.inr h
  have hS : va_S A s.heap s.heap [] := va_S.rf
  have hP : va_P (dC, dI) vwCl [(h0, .inr (12, [.int 0, .ref q_1, .ref q_3, .ref q_5, .ref q_7, .ref q_1, .int 0, .int 0, .int 0, .int 0, .int 0, .int vf, .int 0, .int vl, .int 0, .ref aY, .ref aT, .int 0, .ref q_9, .ref q_11, .ref q_13, .ref q_15, .ref q_17, .int 0, .int 0, .int 0, .int 0, .int 0, .int 0, .int 0, .int 0, .int 0, .ref q_19, .ref q_21, .int (-1), .int 0, .ref q_23, .ref q_25, .ref q_27, .int 0, .long 0, .ref q_29, .int 0, .int 0, .ref q_31, .ref q_33, .ref q_35, .int 0, .ref q_37, .ref q_39, .int 0, .ref q_41, .int 0]))] s.heap := hP
  have hl := lv_entry ([.ref h0]) (n := 1) (Nat.le_of_ble_eq_true rfl)
  rw [lg_entry_eq]
  generalize (lg_sl ([.ref h0]) ++ List.replicate (1 - (lg_sl ([.ref h0])).length) Slot.unset).toArray = ls at hl ⊢
  have hl : lv_has ls 1 [(0, .ref h0)] := hl
  refine lv_aload_n hx hb dX12_look_0 rfl (lv_at hl 0 rfl) ?_
  refine va_get (D := (dC, dI)) (ci := 12) (v := .int 0) (C := RX12) (T := TX12) (N := 53) hx hb hts in_m_look_X12 hown hK hP 0 rfl rfl 10 (by decide) (hts (.fieldLink RX12 117 "LawnAheadModel" "at" "I") (List.mem_of_getElem? (i := 1) rfl)) (fun _ h9 => h9) rfl dX12_look_1 ?_
  refine lv_aload_n hx hb dX12_look_4 rfl (lv_at hl 0 rfl) ?_
  refine va_get (D := (dC, dI)) (ci := 12) (v := .int 0) (C := RX12) (T := TX12) (N := 53) hx hb hts in_m_look_X12 hown hK hP 0 rfl rfl 9 (by decide) (hts (.fieldLink RX12 120 "LawnAheadModel" "ends" "I") (List.mem_of_getElem? (i := 2) rfl)) (fun _ h9 => h9) rfl dX12_look_5 ?_
  refine lv_icmp_ge (tgt := 43) hx hb dX12_look_8 (by decide) (fun c_1 => ?_) (fun c_1 => absurd (by decide +kernel) c_1)
  refine lv_aload_n hx hb dX12_look_43 rfl (lv_at hl 0 rfl) ?_
  refine va_get (D := (dC, dI)) (ci := 12) (v := .int 0) (C := RX12) (T := TX12) (N := 53) hx hb hts in_m_look_X12 hown hK hP 0 rfl rfl 10 (by decide) (hts (.fieldLink RX12 117 "LawnAheadModel" "at" "I") (List.mem_of_getElem? (i := 1) rfl)) (fun _ h9 => h9) rfl dX12_look_44 ?_
  refine lv_aload_n hx hb dX12_look_47 rfl (lv_at hl 0 rfl) ?_
  refine va_get (D := (dC, dI)) (ci := 12) (v := .int 0) (C := RX12) (T := TX12) (N := 53) hx hb hts in_m_look_X12 hown hK hP 0 rfl rfl 9 (by decide) (hts (.fieldLink RX12 120 "LawnAheadModel" "ends" "I") (List.mem_of_getElem? (i := 2) rfl)) (fun _ h9 => h9) rfl dX12_look_48 ?_
  refine lv_icmp_ge (tgt := 75) hx hb dX12_look_51 (by decide) (fun c_2 => ?_) (fun c_2 => absurd (by decide +kernel) c_2)
  refine lv_iconst (v := -1) hx hb dX12_look_75 (by decide +kernel) ?_
  refine W.widen (k := 0) (n := 0) (Nat.le_of_ble_eq_true rfl) (Nat.le_of_ble_eq_true rfl) ?_
  have hP9 := hP.sub (ws' := [(h0, .inr (12, [.int 0, .ref q_1, .ref q_3, .ref q_5, .ref q_7, .ref q_1, .int 0, .int 0, .int 0, .int 0, .int 0, .int vf, .int 0, .int vl, .int 0, .ref aY, .ref aT, .int 0, .ref q_9, .ref q_11, .ref q_13, .ref q_15, .ref q_17, .int 0, .int 0, .int 0, .int 0, .int 0, .int 0, .int 0, .int 0, .int 0, .ref q_19, .ref q_21, .int (-1), .int 0, .ref q_23, .ref q_25, .ref q_27, .int 0, .long 0, .ref q_29, .int 0, .int 0, .ref q_31, .ref q_33, .ref q_35, .int 0, .ref q_37, .ref q_39, .int 0, .ref q_41, .int 0]))]) [0] rfl
  have hD9 := hD.sub (ws' := [(h0, .inr (12, [.int 0, .ref q_1, .ref q_3, .ref q_5, .ref q_7, .ref q_1, .int 0, .int 0, .int 0, .int 0, .int 0, .int vf, .int 0, .int vl, .int 0, .ref aY, .ref aT, .int 0, .ref q_9, .ref q_11, .ref q_13, .ref q_15, .ref q_17, .int 0, .int 0, .int 0, .int 0, .int 0, .int 0, .int 0, .int 0, .int 0, .ref q_19, .ref q_21, .int (-1), .int 0, .ref q_23, .ref q_25, .ref q_27, .int 0, .long 0, .ref q_29, .int 0, .int 0, .ref q_31, .ref q_33, .ref q_35, .int 0, .ref q_37, .ref q_39, .int 0, .ref q_41, .int 0]))]) [0] (by decide) rfl
  have hK9 := hK.sub (tys' := []) [] rfl
  exact W.iret (v := (-1)) hx hb hr (fun t ht hW => ⟨⟨(-1), (), rfl, rfl, by rw [ht]; exact hP9, va_K.moved hW.alike hK9, hD9⟩, hS.F ht⟩) hS.2.2 dX12_look_76

def w_m_fails : List Cond := .code yX12_fails cX12_fails 1 (some .boolean) :: ([.fieldLink RX12 126 "LawnAheadModel" "fault" "I", .fieldLink RX12 117 "LawnAheadModel" "at" "I"] ++ (wsX120 ++ []))
theorem in_m_fails_X12 : ∀ w ∈ wsX120, w ∈ w_m_fails := fun w h => List.mem_cons_of_mem _ (List.mem_append_right _ (List.mem_append_left _ h))
set_option maxHeartbeats 8000000 in
set_option maxRecDepth 100000 in
theorem m_fails (l : Launch) (dC : Nat → ClassId) (dI : Nat → Nat → Nat) (h0 : Nat) (q_1 : Nat) (q_3 : Nat) (q_5 : Nat) (q_7 : Nat) (vl : Int32) (aY : Nat) (aT : Nat) (q_9 : Nat) (q_11 : Nat) (q_13 : Nat) (q_15 : Nat) (q_17 : Nat) (q_19 : Nat) (q_21 : Nat) (q_23 : Nat) (q_25 : Nat) (q_27 : Nat) (q_29 : Nat) (q_31 : Nat) (q_33 : Nat) (q_35 : Nat) (q_37 : Nat) (q_39 : Nat) (q_41 : Nat) (sz : Nat) : Met l yX12_fails w_m_fails ({ frames := 0, cells := 0, slots := 0, locals := 0 }) (va_Pc [.ref h0] (fun U => U.heap.size = sz ∧ va_P (dC, dI) vwCl [(h0, .inr (12, [.int 0, .ref q_1, .ref q_3, .ref q_5, .ref q_7, .ref q_1, .int 0, .int 0, .int 0, .int 0, .int 0, .int (-1), .int 0, .int vl, .int 0, .ref aY, .ref aT, .int 0, .ref q_9, .ref q_11, .ref q_13, .ref q_15, .ref q_17, .int 0, .int 0, .int 0, .int 0, .int 0, .int 0, .int 0, .int 0, .int 0, .ref q_19, .ref q_21, .int (-1), .int 0, .ref q_23, .ref q_25, .ref q_27, .int 0, .long 0, .ref q_29, .int 0, .int 0, .ref q_31, .ref q_33, .ref q_35, .int 0, .ref q_37, .ref q_39, .int 0, .ref q_41, .int 0]))] U.heap ∧ va_K (dC, dI) vwCl [] U ∧ va_D (fun _ => True) [(h0, .inr (12, [.int 0, .ref q_1, .ref q_3, .ref q_5, .ref q_7, .ref q_1, .int 0, .int 0, .int 0, .int 0, .int 0, .int (-1), .int 0, .int vl, .int 0, .ref aY, .ref aT, .int 0, .ref q_9, .ref q_11, .ref q_13, .ref q_15, .ref q_17, .int 0, .int 0, .int 0, .int 0, .int 0, .int 0, .int 0, .int 0, .int 0, .ref q_19, .ref q_21, .int (-1), .int 0, .ref q_23, .ref q_25, .ref q_27, .int 0, .long 0, .ref q_29, .int 0, .int 0, .ref q_31, .ref q_33, .ref q_35, .int 0, .ref q_37, .ref q_39, .int 0, .ref q_41, .int 0]))])) (va_Qi (fun (r : Int32) (_ : Unit) => r = 0) (fun _ t => va_P (dC, dI) vwCl [(h0, .inr (12, [.int 0, .ref q_1, .ref q_3, .ref q_5, .ref q_7, .ref q_1, .int 0, .int 0, .int 0, .int 0, .int 0, .int 0, .int 0, .int vl, .int 0, .ref aY, .ref aT, .int 0, .ref q_9, .ref q_11, .ref q_13, .ref q_15, .ref q_17, .int 0, .int 0, .int 0, .int 0, .int 0, .int 0, .int 0, .int 0, .int 0, .ref q_19, .ref q_21, .int (-1), .int 0, .ref q_23, .ref q_25, .ref q_27, .int 0, .long 0, .ref q_29, .int 0, .int 0, .ref q_31, .ref q_33, .ref q_35, .int 0, .ref q_37, .ref q_39, .int 0, .ref q_41, .int 0]))] t.heap ∧ va_K (dC, dI) vwCl [] t ∧ va_D (va_A [(h0, .inr (12, [.int 0, .ref q_1, .ref q_3, .ref q_5, .ref q_7, .ref q_1, .int 0, .int 0, .int 0, .int 0, .int 0, .int (-1), .int 0, .int vl, .int 0, .ref aY, .ref aT, .int 0, .ref q_9, .ref q_11, .ref q_13, .ref q_15, .ref q_17, .int 0, .int 0, .int 0, .int 0, .int 0, .int 0, .int 0, .int 0, .int 0, .ref q_19, .ref q_21, .int (-1), .int 0, .ref q_23, .ref q_25, .ref q_27, .int 0, .long 0, .ref q_29, .int 0, .int 0, .ref q_31, .ref q_33, .ref q_35, .int 0, .ref q_37, .ref q_39, .int 0, .ref q_41, .int 0]))] sz) [(h0, .inr (12, [.int 0, .ref q_1, .ref q_3, .ref q_5, .ref q_7, .ref q_1, .int 0, .int 0, .int 0, .int 0, .int 0, .int 0, .int 0, .int vl, .int 0, .ref aY, .ref aT, .int 0, .ref q_9, .ref q_11, .ref q_13, .ref q_15, .ref q_17, .int 0, .int 0, .int 0, .int 0, .int 0, .int 0, .int 0, .int 0, .int 0, .ref q_19, .ref q_21, .int (-1), .int 0, .ref q_23, .ref q_25, .ref q_27, .int 0, .long 0, .ref q_29, .int 0, .int 0, .ref q_31, .ref q_33, .ref q_35, .int 0, .ref q_37, .ref q_39, .int 0, .ref q_41, .int 0]))]) (va_A [(h0, .inr (12, [.int 0, .ref q_1, .ref q_3, .ref q_5, .ref q_7, .ref q_1, .int 0, .int 0, .int 0, .int 0, .int 0, .int (-1), .int 0, .int vl, .int 0, .ref aY, .ref aT, .int 0, .ref q_9, .ref q_11, .ref q_13, .ref q_15, .ref q_17, .int 0, .int 0, .int 0, .int 0, .int 0, .int 0, .int 0, .int 0, .int 0, .ref q_19, .ref q_21, .int (-1), .int 0, .ref q_23, .ref q_25, .ref q_27, .int 0, .long 0, .ref q_29, .int 0, .int 0, .ref q_31, .ref q_33, .ref q_35, .int 0, .ref q_37, .ref q_39, .int 0, .ref q_41, .int 0]))] sz)) 0 0 (va_A [(h0, .inr (12, [.int 0, .ref q_1, .ref q_3, .ref q_5, .ref q_7, .ref q_1, .int 0, .int 0, .int 0, .int 0, .int 0, .int (-1), .int 0, .int vl, .int 0, .ref aY, .ref aT, .int 0, .ref q_9, .ref q_11, .ref q_13, .ref q_15, .ref q_17, .int 0, .int 0, .int 0, .int 0, .int 0, .int 0, .int 0, .int 0, .int 0, .ref q_19, .ref q_21, .int (-1), .int 0, .ref q_23, .ref q_25, .ref q_27, .int 0, .long 0, .ref q_29, .int 0, .int 0, .ref q_31, .ref q_33, .ref q_35, .int 0, .ref q_37, .ref q_39, .int 0, .ref q_41, .int 0]))] sz) := by
  refine Met.ofW (cc := cX12_fails) (maxL := 1) (ret := (some .boolean)) (by decide) rfl ?_
  intro p e s m args below meth c s₁ B hml hv
  obtain ⟨rfl, hsz, hP, hK, hD0⟩ := hv
  have hx := B.exec
  have hb := B.bytes
  have hr := B.returns
  have hts := atoms_spec (ws := w_m_fails) B.pre
  have hown : s.vm.findClass RX12 = some m.cls := findClass_of_methodNamed B.named
  have hlocks := B.notSynchronized
  subst hsz
  have hD := hD0.self (sz := s.heap.size)
  generalize hAe : va_A [(h0, .inr (12, [.int 0, .ref q_1, .ref q_3, .ref q_5, .ref q_7, .ref q_1, .int 0, .int 0, .int 0, .int 0, .int 0, .int (-1), .int 0, .int vl, .int 0, .ref aY, .ref aT, .int 0, .ref q_9, .ref q_11, .ref q_13, .ref q_15, .ref q_17, .int 0, .int 0, .int 0, .int 0, .int 0, .int 0, .int 0, .int 0, .int 0, .ref q_19, .ref q_21, .int (-1), .int 0, .ref q_23, .ref q_25, .ref q_27, .int 0, .long 0, .ref q_29, .int 0, .int 0, .ref q_31, .ref q_33, .ref q_35, .int 0, .ref q_37, .ref q_39, .int 0, .ref q_41, .int 0]))] s.heap.size = A at hD ⊢
  have hA : ∀ q : Nat, s.heap.size ≤ q → A q := fun q h => by rw [← hAe]; exact Or.inr h
  have hS : va_S A s.heap s.heap [] := va_S.rf
  have hP : va_P (dC, dI) vwCl [(h0, .inr (12, [.int 0, .ref q_1, .ref q_3, .ref q_5, .ref q_7, .ref q_1, .int 0, .int 0, .int 0, .int 0, .int 0, .int (-1), .int 0, .int vl, .int 0, .ref aY, .ref aT, .int 0, .ref q_9, .ref q_11, .ref q_13, .ref q_15, .ref q_17, .int 0, .int 0, .int 0, .int 0, .int 0, .int 0, .int 0, .int 0, .int 0, .ref q_19, .ref q_21, .int (-1), .int 0, .ref q_23, .ref q_25, .ref q_27, .int 0, .long 0, .ref q_29, .int 0, .int 0, .ref q_31, .ref q_33, .ref q_35, .int 0, .ref q_37, .ref q_39, .int 0, .ref q_41, .int 0]))] s.heap := hP
  have hl := lv_entry ([.ref h0]) (n := 1) (Nat.le_of_ble_eq_true rfl)
  rw [lg_entry_eq]
  generalize (lg_sl ([.ref h0]) ++ List.replicate (1 - (lg_sl ([.ref h0])).length) Slot.unset).toArray = ls at hl ⊢
  have hl : lv_has ls 1 [(0, .ref h0)] := hl
  refine lv_aload_n hx hb dX12_fails_0 rfl (lv_at hl 0 rfl) ?_
  refine va_get (D := (dC, dI)) (ci := 12) (v := .int (-1)) (C := RX12) (T := TX12) (N := 53) hx hb hts in_m_fails_X12 hown hK hP 0 rfl rfl 11 (by decide) (hts (.fieldLink RX12 126 "LawnAheadModel" "fault" "I") (List.mem_of_getElem? (i := 1) rfl)) (fun _ h9 => h9) rfl dX12_fails_1 ?_
  refine lv_iconst (v := -1) hx hb dX12_fails_4 (by decide +kernel) ?_
  refine lv_icmp_ne (tgt := 16) hx hb dX12_fails_5 (by decide) (fun c_1 => absurd (by decide +kernel) c_1) (fun c_1 => ?_)
  refine lv_aload_n hx hb dX12_fails_8 rfl (lv_at hl 0 rfl) ?_
  refine lv_aload_n hx hb dX12_fails_9 rfl (lv_at hl 0 rfl) ?_
  refine va_get (D := (dC, dI)) (ci := 12) (v := .int 0) (C := RX12) (T := TX12) (N := 53) hx hb hts in_m_fails_X12 hown hK hP 0 rfl rfl 10 (by decide) (hts (.fieldLink RX12 117 "LawnAheadModel" "at" "I") (List.mem_of_getElem? (i := 2) rfl)) (fun _ h9 => h9) rfl dX12_fails_10 ?_
  refine va_put (D := (dC, dI)) (ci := 12) (v := .int 0) (ty := .int) (C := RX12) (T := TX12) (N := 53) hx hb hts in_m_fails_X12 tyX12 tyX12_ok nmX12 hown hK hP hD hS 0 rfl rfl 11 (by decide) (hts (.fieldLink RX12 126 "LawnAheadModel" "fault" "I") (List.mem_of_getElem? (i := 1) rfl)) (fun _ h9 => h9) rfl (by decide +kernel) rfl rfl (Nat.le_of_ble_eq_true rfl) dX12_fails_13 (fun H locs hP hD hS => ?_)
  have hP : va_P (dC, dI) vwCl [(h0, .inr (12, [.int 0, .ref q_1, .ref q_3, .ref q_5, .ref q_7, .ref q_1, .int 0, .int 0, .int 0, .int 0, .int 0, .int 0, .int 0, .int vl, .int 0, .ref aY, .ref aT, .int 0, .ref q_9, .ref q_11, .ref q_13, .ref q_15, .ref q_17, .int 0, .int 0, .int 0, .int 0, .int 0, .int 0, .int 0, .int 0, .int 0, .ref q_19, .ref q_21, .int (-1), .int 0, .ref q_23, .ref q_25, .ref q_27, .int 0, .long 0, .ref q_29, .int 0, .int 0, .ref q_31, .ref q_33, .ref q_35, .int 0, .ref q_37, .ref q_39, .int 0, .ref q_41, .int 0]))] H := hP
  have hD : va_D A [(h0, .inr (12, [.int 0, .ref q_1, .ref q_3, .ref q_5, .ref q_7, .ref q_1, .int 0, .int 0, .int 0, .int 0, .int 0, .int 0, .int 0, .int vl, .int 0, .ref aY, .ref aT, .int 0, .ref q_9, .ref q_11, .ref q_13, .ref q_15, .ref q_17, .int 0, .int 0, .int 0, .int 0, .int 0, .int 0, .int 0, .int 0, .int 0, .ref q_19, .ref q_21, .int (-1), .int 0, .ref q_23, .ref q_25, .ref q_27, .int 0, .long 0, .ref q_29, .int 0, .int 0, .ref q_31, .ref q_33, .ref q_35, .int 0, .ref q_37, .ref q_39, .int 0, .ref q_41, .int 0]))] := hD
  refine lv_iconst (v := 0) hx hb dX12_fails_16 (by decide +kernel) ?_
  refine W.widen (k := 0) (n := 0) (Nat.le_of_ble_eq_true rfl) (Nat.le_of_ble_eq_true rfl) ?_
  have hP9 := hP.sub (ws' := [(h0, .inr (12, [.int 0, .ref q_1, .ref q_3, .ref q_5, .ref q_7, .ref q_1, .int 0, .int 0, .int 0, .int 0, .int 0, .int 0, .int 0, .int vl, .int 0, .ref aY, .ref aT, .int 0, .ref q_9, .ref q_11, .ref q_13, .ref q_15, .ref q_17, .int 0, .int 0, .int 0, .int 0, .int 0, .int 0, .int 0, .int 0, .int 0, .ref q_19, .ref q_21, .int (-1), .int 0, .ref q_23, .ref q_25, .ref q_27, .int 0, .long 0, .ref q_29, .int 0, .int 0, .ref q_31, .ref q_33, .ref q_35, .int 0, .ref q_37, .ref q_39, .int 0, .ref q_41, .int 0]))]) [0] rfl
  have hD9 := hD.sub (ws' := [(h0, .inr (12, [.int 0, .ref q_1, .ref q_3, .ref q_5, .ref q_7, .ref q_1, .int 0, .int 0, .int 0, .int 0, .int 0, .int 0, .int 0, .int vl, .int 0, .ref aY, .ref aT, .int 0, .ref q_9, .ref q_11, .ref q_13, .ref q_15, .ref q_17, .int 0, .int 0, .int 0, .int 0, .int 0, .int 0, .int 0, .int 0, .int 0, .ref q_19, .ref q_21, .int (-1), .int 0, .ref q_23, .ref q_25, .ref q_27, .int 0, .long 0, .ref q_29, .int 0, .int 0, .ref q_31, .ref q_33, .ref q_35, .int 0, .ref q_37, .ref q_39, .int 0, .ref q_41, .int 0]))]) [0] (by decide) rfl
  have hK9 := hK.sub (tys' := []) [] rfl
  exact W.zret (ty := .boolean) (v := 0) hx hb hr (by decide +kernel) (fun t ht hW => ⟨⟨0, (), rfl, rfl, by rw [ht]; exact hP9, va_K.moved hW.alike hK9, hD9⟩, hS.F ht⟩) hS.2.2 dX12_fails_17

def w_m_starts : List Cond := .code yX12_starts cX12_starts 4 none :: ([.fieldLink RX12 23 "LawnAheadModel" "text" "[B", .fieldLink RX12 123 "LawnAheadModel" "begins" "I", .fieldLink RX12 120 "LawnAheadModel" "ends" "I", .fieldLink RX12 117 "LawnAheadModel" "at" "I", .fieldLink RX12 126 "LawnAheadModel" "fault" "I"] ++ (wsX120 ++ []))
theorem in_m_starts_X12 : ∀ w ∈ wsX120, w ∈ w_m_starts := fun w h => List.mem_cons_of_mem _ (List.mem_append_right _ (List.mem_append_left _ h))
set_option maxHeartbeats 8000000 in
set_option maxRecDepth 100000 in
theorem m_starts (l : Launch) (dC : Nat → ClassId) (dI : Nat → Nat → Nat) (h0 : Nat) (q_1 : Nat) (q_3 : Nat) (q_5 : Nat) (q_7 : Nat) (aY : Nat) (aT : Nat) (q_9 : Nat) (q_11 : Nat) (q_13 : Nat) (q_15 : Nat) (q_17 : Nat) (q_19 : Nat) (q_21 : Nat) (q_23 : Nat) (q_25 : Nat) (q_27 : Nat) (q_29 : Nat) (q_31 : Nat) (q_33 : Nat) (q_35 : Nat) (q_37 : Nat) (q_39 : Nat) (q_41 : Nat) (sz : Nat) : Met l yX12_starts w_m_starts ({ frames := 0, cells := 0, slots := 0, locals := 0 }) (va_Pc [.ref h0, .ref q_1, .int 0, .int 0] (fun U => U.heap.size = sz ∧ va_P (dC, dI) vwCl [(h0, .inr (12, [.int 0, .ref q_1, .ref q_3, .ref q_5, .ref q_7, .ref q_1, .int 0, .int 0, .int 0, .int 0, .int 0, .int 0, .int 0, .int 0, .int 0, .ref aY, .ref aT, .int 0, .ref q_9, .ref q_11, .ref q_13, .ref q_15, .ref q_17, .int 0, .int 0, .int 0, .int 0, .int 0, .int 0, .int 0, .int 0, .int 0, .ref q_19, .ref q_21, .int (-1), .int 0, .ref q_23, .ref q_25, .ref q_27, .int 0, .long 0, .ref q_29, .int 0, .int 0, .ref q_31, .ref q_33, .ref q_35, .int 0, .ref q_37, .ref q_39, .int 0, .ref q_41, .int 0]))] U.heap ∧ va_K (dC, dI) vwCl [] U ∧ va_D (fun _ => True) [(h0, .inr (12, [.int 0, .ref q_1, .ref q_3, .ref q_5, .ref q_7, .ref q_1, .int 0, .int 0, .int 0, .int 0, .int 0, .int 0, .int 0, .int 0, .int 0, .ref aY, .ref aT, .int 0, .ref q_9, .ref q_11, .ref q_13, .ref q_15, .ref q_17, .int 0, .int 0, .int 0, .int 0, .int 0, .int 0, .int 0, .int 0, .int 0, .ref q_19, .ref q_21, .int (-1), .int 0, .ref q_23, .ref q_25, .ref q_27, .int 0, .long 0, .ref q_29, .int 0, .int 0, .ref q_31, .ref q_33, .ref q_35, .int 0, .ref q_37, .ref q_39, .int 0, .ref q_41, .int 0]))])) (va_Qv (fun (_ : Unit) => True) (fun _ t => va_P (dC, dI) vwCl [(h0, .inr (12, [.int 0, .ref q_1, .ref q_3, .ref q_5, .ref q_7, .ref q_1, .int 0, .int 0, .int 0, .int 0, .int 0, .int (-1), .int 0, .int 0, .int 0, .ref aY, .ref aT, .int 0, .ref q_9, .ref q_11, .ref q_13, .ref q_15, .ref q_17, .int 0, .int 0, .int 0, .int 0, .int 0, .int 0, .int 0, .int 0, .int 0, .ref q_19, .ref q_21, .int (-1), .int 0, .ref q_23, .ref q_25, .ref q_27, .int 0, .long 0, .ref q_29, .int 0, .int 0, .ref q_31, .ref q_33, .ref q_35, .int 0, .ref q_37, .ref q_39, .int 0, .ref q_41, .int 0]))] t.heap ∧ va_K (dC, dI) vwCl [] t ∧ va_D (va_A [(h0, .inr (12, [.int 0, .ref q_1, .ref q_3, .ref q_5, .ref q_7, .ref q_1, .int 0, .int 0, .int 0, .int 0, .int 0, .int 0, .int 0, .int 0, .int 0, .ref aY, .ref aT, .int 0, .ref q_9, .ref q_11, .ref q_13, .ref q_15, .ref q_17, .int 0, .int 0, .int 0, .int 0, .int 0, .int 0, .int 0, .int 0, .int 0, .ref q_19, .ref q_21, .int (-1), .int 0, .ref q_23, .ref q_25, .ref q_27, .int 0, .long 0, .ref q_29, .int 0, .int 0, .ref q_31, .ref q_33, .ref q_35, .int 0, .ref q_37, .ref q_39, .int 0, .ref q_41, .int 0]))] sz) [(h0, .inr (12, [.int 0, .ref q_1, .ref q_3, .ref q_5, .ref q_7, .ref q_1, .int 0, .int 0, .int 0, .int 0, .int 0, .int (-1), .int 0, .int 0, .int 0, .ref aY, .ref aT, .int 0, .ref q_9, .ref q_11, .ref q_13, .ref q_15, .ref q_17, .int 0, .int 0, .int 0, .int 0, .int 0, .int 0, .int 0, .int 0, .int 0, .ref q_19, .ref q_21, .int (-1), .int 0, .ref q_23, .ref q_25, .ref q_27, .int 0, .long 0, .ref q_29, .int 0, .int 0, .ref q_31, .ref q_33, .ref q_35, .int 0, .ref q_37, .ref q_39, .int 0, .ref q_41, .int 0]))]) (va_A [(h0, .inr (12, [.int 0, .ref q_1, .ref q_3, .ref q_5, .ref q_7, .ref q_1, .int 0, .int 0, .int 0, .int 0, .int 0, .int 0, .int 0, .int 0, .int 0, .ref aY, .ref aT, .int 0, .ref q_9, .ref q_11, .ref q_13, .ref q_15, .ref q_17, .int 0, .int 0, .int 0, .int 0, .int 0, .int 0, .int 0, .int 0, .int 0, .ref q_19, .ref q_21, .int (-1), .int 0, .ref q_23, .ref q_25, .ref q_27, .int 0, .long 0, .ref q_29, .int 0, .int 0, .ref q_31, .ref q_33, .ref q_35, .int 0, .ref q_37, .ref q_39, .int 0, .ref q_41, .int 0]))] sz)) 0 0 (va_A [(h0, .inr (12, [.int 0, .ref q_1, .ref q_3, .ref q_5, .ref q_7, .ref q_1, .int 0, .int 0, .int 0, .int 0, .int 0, .int 0, .int 0, .int 0, .int 0, .ref aY, .ref aT, .int 0, .ref q_9, .ref q_11, .ref q_13, .ref q_15, .ref q_17, .int 0, .int 0, .int 0, .int 0, .int 0, .int 0, .int 0, .int 0, .int 0, .ref q_19, .ref q_21, .int (-1), .int 0, .ref q_23, .ref q_25, .ref q_27, .int 0, .long 0, .ref q_29, .int 0, .int 0, .ref q_31, .ref q_33, .ref q_35, .int 0, .ref q_37, .ref q_39, .int 0, .ref q_41, .int 0]))] sz) := by
  refine Met.ofW (cc := cX12_starts) (maxL := 4) (ret := none) (by decide) rfl ?_
  intro p e s m args below meth c s₁ B hml hv
  obtain ⟨rfl, hsz, hP, hK, hD0⟩ := hv
  have hx := B.exec
  have hb := B.bytes
  have hr := B.returns
  have hts := atoms_spec (ws := w_m_starts) B.pre
  have hown : s.vm.findClass RX12 = some m.cls := findClass_of_methodNamed B.named
  have hlocks := B.notSynchronized
  subst hsz
  have hD := hD0.self (sz := s.heap.size)
  generalize hAe : va_A [(h0, .inr (12, [.int 0, .ref q_1, .ref q_3, .ref q_5, .ref q_7, .ref q_1, .int 0, .int 0, .int 0, .int 0, .int 0, .int 0, .int 0, .int 0, .int 0, .ref aY, .ref aT, .int 0, .ref q_9, .ref q_11, .ref q_13, .ref q_15, .ref q_17, .int 0, .int 0, .int 0, .int 0, .int 0, .int 0, .int 0, .int 0, .int 0, .ref q_19, .ref q_21, .int (-1), .int 0, .ref q_23, .ref q_25, .ref q_27, .int 0, .long 0, .ref q_29, .int 0, .int 0, .ref q_31, .ref q_33, .ref q_35, .int 0, .ref q_37, .ref q_39, .int 0, .ref q_41, .int 0]))] s.heap.size = A at hD ⊢
  have hA : ∀ q : Nat, s.heap.size ≤ q → A q := fun q h => by rw [← hAe]; exact Or.inr h
  have hS : va_S A s.heap s.heap [] := va_S.rf
  have hP : va_P (dC, dI) vwCl [(h0, .inr (12, [.int 0, .ref q_1, .ref q_3, .ref q_5, .ref q_7, .ref q_1, .int 0, .int 0, .int 0, .int 0, .int 0, .int 0, .int 0, .int 0, .int 0, .ref aY, .ref aT, .int 0, .ref q_9, .ref q_11, .ref q_13, .ref q_15, .ref q_17, .int 0, .int 0, .int 0, .int 0, .int 0, .int 0, .int 0, .int 0, .int 0, .ref q_19, .ref q_21, .int (-1), .int 0, .ref q_23, .ref q_25, .ref q_27, .int 0, .long 0, .ref q_29, .int 0, .int 0, .ref q_31, .ref q_33, .ref q_35, .int 0, .ref q_37, .ref q_39, .int 0, .ref q_41, .int 0]))] s.heap := hP
  have hl := lv_entry ([.ref h0, .ref q_1, .int 0, .int 0]) (n := 4) (Nat.le_of_ble_eq_true rfl)
  rw [lg_entry_eq]
  generalize (lg_sl ([.ref h0, .ref q_1, .int 0, .int 0]) ++ List.replicate (4 - (lg_sl ([.ref h0, .ref q_1, .int 0, .int 0])).length) Slot.unset).toArray = ls at hl ⊢
  have hl : lv_has ls 4 [(0, .ref h0), (1, .ref q_1), (2, .int 0), (3, .int 0)] := hl
  refine lv_aload_n hx hb dX12_starts_0 rfl (lv_at hl 0 rfl) ?_
  refine lv_aload_n hx hb dX12_starts_1 rfl (lv_at hl 1 rfl) ?_
  refine va_put (D := (dC, dI)) (ci := 12) (v := .ref q_1) (ty := (tyX12 5)) (C := RX12) (T := TX12) (N := 53) hx hb hts in_m_starts_X12 tyX12 tyX12_ok nmX12 hown hK hP hD hS 0 rfl rfl 5 (by decide) (hts (.fieldLink RX12 23 "LawnAheadModel" "text" "[B") (List.mem_of_getElem? (i := 1) rfl)) (fun _ h9 => h9) rfl (by decide +kernel) rfl rfl (Nat.le_of_ble_eq_true rfl) dX12_starts_2 (fun H locs hP hD hS => ?_)
  have hP : va_P (dC, dI) vwCl [(h0, .inr (12, [.int 0, .ref q_1, .ref q_3, .ref q_5, .ref q_7, .ref q_1, .int 0, .int 0, .int 0, .int 0, .int 0, .int 0, .int 0, .int 0, .int 0, .ref aY, .ref aT, .int 0, .ref q_9, .ref q_11, .ref q_13, .ref q_15, .ref q_17, .int 0, .int 0, .int 0, .int 0, .int 0, .int 0, .int 0, .int 0, .int 0, .ref q_19, .ref q_21, .int (-1), .int 0, .ref q_23, .ref q_25, .ref q_27, .int 0, .long 0, .ref q_29, .int 0, .int 0, .ref q_31, .ref q_33, .ref q_35, .int 0, .ref q_37, .ref q_39, .int 0, .ref q_41, .int 0]))] H := hP
  have hD : va_D A [(h0, .inr (12, [.int 0, .ref q_1, .ref q_3, .ref q_5, .ref q_7, .ref q_1, .int 0, .int 0, .int 0, .int 0, .int 0, .int 0, .int 0, .int 0, .int 0, .ref aY, .ref aT, .int 0, .ref q_9, .ref q_11, .ref q_13, .ref q_15, .ref q_17, .int 0, .int 0, .int 0, .int 0, .int 0, .int 0, .int 0, .int 0, .int 0, .ref q_19, .ref q_21, .int (-1), .int 0, .ref q_23, .ref q_25, .ref q_27, .int 0, .long 0, .ref q_29, .int 0, .int 0, .ref q_31, .ref q_33, .ref q_35, .int 0, .ref q_37, .ref q_39, .int 0, .ref q_41, .int 0]))] := hD
  refine lv_aload_n hx hb dX12_starts_5 rfl (lv_at hl 0 rfl) ?_
  refine lv_iload_n hx hb dX12_starts_6 rfl (lv_at hl 2 rfl) ?_
  refine va_put (D := (dC, dI)) (ci := 12) (v := .int 0) (ty := .int) (C := RX12) (T := TX12) (N := 53) hx hb hts in_m_starts_X12 tyX12 tyX12_ok nmX12 hown hK hP hD hS 0 rfl rfl 8 (by decide) (hts (.fieldLink RX12 123 "LawnAheadModel" "begins" "I") (List.mem_of_getElem? (i := 2) rfl)) (fun _ h9 => h9) rfl (by decide +kernel) rfl rfl (Nat.le_of_ble_eq_true rfl) dX12_starts_7 (fun H locs hP hD hS => ?_)
  have hP : va_P (dC, dI) vwCl [(h0, .inr (12, [.int 0, .ref q_1, .ref q_3, .ref q_5, .ref q_7, .ref q_1, .int 0, .int 0, .int 0, .int 0, .int 0, .int 0, .int 0, .int 0, .int 0, .ref aY, .ref aT, .int 0, .ref q_9, .ref q_11, .ref q_13, .ref q_15, .ref q_17, .int 0, .int 0, .int 0, .int 0, .int 0, .int 0, .int 0, .int 0, .int 0, .ref q_19, .ref q_21, .int (-1), .int 0, .ref q_23, .ref q_25, .ref q_27, .int 0, .long 0, .ref q_29, .int 0, .int 0, .ref q_31, .ref q_33, .ref q_35, .int 0, .ref q_37, .ref q_39, .int 0, .ref q_41, .int 0]))] H := hP
  have hD : va_D A [(h0, .inr (12, [.int 0, .ref q_1, .ref q_3, .ref q_5, .ref q_7, .ref q_1, .int 0, .int 0, .int 0, .int 0, .int 0, .int 0, .int 0, .int 0, .int 0, .ref aY, .ref aT, .int 0, .ref q_9, .ref q_11, .ref q_13, .ref q_15, .ref q_17, .int 0, .int 0, .int 0, .int 0, .int 0, .int 0, .int 0, .int 0, .int 0, .ref q_19, .ref q_21, .int (-1), .int 0, .ref q_23, .ref q_25, .ref q_27, .int 0, .long 0, .ref q_29, .int 0, .int 0, .ref q_31, .ref q_33, .ref q_35, .int 0, .ref q_37, .ref q_39, .int 0, .ref q_41, .int 0]))] := hD
  refine lv_aload_n hx hb dX12_starts_10 rfl (lv_at hl 0 rfl) ?_
  refine lv_iload_n hx hb dX12_starts_11 rfl (lv_at hl 3 rfl) ?_
  refine va_put (D := (dC, dI)) (ci := 12) (v := .int 0) (ty := .int) (C := RX12) (T := TX12) (N := 53) hx hb hts in_m_starts_X12 tyX12 tyX12_ok nmX12 hown hK hP hD hS 0 rfl rfl 9 (by decide) (hts (.fieldLink RX12 120 "LawnAheadModel" "ends" "I") (List.mem_of_getElem? (i := 3) rfl)) (fun _ h9 => h9) rfl (by decide +kernel) rfl rfl (Nat.le_of_ble_eq_true rfl) dX12_starts_12 (fun H locs hP hD hS => ?_)
  have hP : va_P (dC, dI) vwCl [(h0, .inr (12, [.int 0, .ref q_1, .ref q_3, .ref q_5, .ref q_7, .ref q_1, .int 0, .int 0, .int 0, .int 0, .int 0, .int 0, .int 0, .int 0, .int 0, .ref aY, .ref aT, .int 0, .ref q_9, .ref q_11, .ref q_13, .ref q_15, .ref q_17, .int 0, .int 0, .int 0, .int 0, .int 0, .int 0, .int 0, .int 0, .int 0, .ref q_19, .ref q_21, .int (-1), .int 0, .ref q_23, .ref q_25, .ref q_27, .int 0, .long 0, .ref q_29, .int 0, .int 0, .ref q_31, .ref q_33, .ref q_35, .int 0, .ref q_37, .ref q_39, .int 0, .ref q_41, .int 0]))] H := hP
  have hD : va_D A [(h0, .inr (12, [.int 0, .ref q_1, .ref q_3, .ref q_5, .ref q_7, .ref q_1, .int 0, .int 0, .int 0, .int 0, .int 0, .int 0, .int 0, .int 0, .int 0, .ref aY, .ref aT, .int 0, .ref q_9, .ref q_11, .ref q_13, .ref q_15, .ref q_17, .int 0, .int 0, .int 0, .int 0, .int 0, .int 0, .int 0, .int 0, .int 0, .ref q_19, .ref q_21, .int (-1), .int 0, .ref q_23, .ref q_25, .ref q_27, .int 0, .long 0, .ref q_29, .int 0, .int 0, .ref q_31, .ref q_33, .ref q_35, .int 0, .ref q_37, .ref q_39, .int 0, .ref q_41, .int 0]))] := hD
  refine lv_aload_n hx hb dX12_starts_15 rfl (lv_at hl 0 rfl) ?_
  refine lv_iconst (v := 0) hx hb dX12_starts_16 (by decide +kernel) ?_
  refine va_put (D := (dC, dI)) (ci := 12) (v := .int 0) (ty := .int) (C := RX12) (T := TX12) (N := 53) hx hb hts in_m_starts_X12 tyX12 tyX12_ok nmX12 hown hK hP hD hS 0 rfl rfl 10 (by decide) (hts (.fieldLink RX12 117 "LawnAheadModel" "at" "I") (List.mem_of_getElem? (i := 4) rfl)) (fun _ h9 => h9) rfl (by decide +kernel) rfl rfl (Nat.le_of_ble_eq_true rfl) dX12_starts_17 (fun H locs hP hD hS => ?_)
  have hP : va_P (dC, dI) vwCl [(h0, .inr (12, [.int 0, .ref q_1, .ref q_3, .ref q_5, .ref q_7, .ref q_1, .int 0, .int 0, .int 0, .int 0, .int 0, .int 0, .int 0, .int 0, .int 0, .ref aY, .ref aT, .int 0, .ref q_9, .ref q_11, .ref q_13, .ref q_15, .ref q_17, .int 0, .int 0, .int 0, .int 0, .int 0, .int 0, .int 0, .int 0, .int 0, .ref q_19, .ref q_21, .int (-1), .int 0, .ref q_23, .ref q_25, .ref q_27, .int 0, .long 0, .ref q_29, .int 0, .int 0, .ref q_31, .ref q_33, .ref q_35, .int 0, .ref q_37, .ref q_39, .int 0, .ref q_41, .int 0]))] H := hP
  have hD : va_D A [(h0, .inr (12, [.int 0, .ref q_1, .ref q_3, .ref q_5, .ref q_7, .ref q_1, .int 0, .int 0, .int 0, .int 0, .int 0, .int 0, .int 0, .int 0, .int 0, .ref aY, .ref aT, .int 0, .ref q_9, .ref q_11, .ref q_13, .ref q_15, .ref q_17, .int 0, .int 0, .int 0, .int 0, .int 0, .int 0, .int 0, .int 0, .int 0, .ref q_19, .ref q_21, .int (-1), .int 0, .ref q_23, .ref q_25, .ref q_27, .int 0, .long 0, .ref q_29, .int 0, .int 0, .ref q_31, .ref q_33, .ref q_35, .int 0, .ref q_37, .ref q_39, .int 0, .ref q_41, .int 0]))] := hD
  refine lv_aload_n hx hb dX12_starts_20 rfl (lv_at hl 0 rfl) ?_
  refine lv_iconst (v := -1) hx hb dX12_starts_21 (by decide +kernel) ?_
  refine va_put (D := (dC, dI)) (ci := 12) (v := .int (-1)) (ty := .int) (C := RX12) (T := TX12) (N := 53) hx hb hts in_m_starts_X12 tyX12 tyX12_ok nmX12 hown hK hP hD hS 0 rfl rfl 11 (by decide) (hts (.fieldLink RX12 126 "LawnAheadModel" "fault" "I") (List.mem_of_getElem? (i := 5) rfl)) (fun _ h9 => h9) rfl (by decide +kernel) rfl rfl (Nat.le_of_ble_eq_true rfl) dX12_starts_22 (fun H locs hP hD hS => ?_)
  have hP : va_P (dC, dI) vwCl [(h0, .inr (12, [.int 0, .ref q_1, .ref q_3, .ref q_5, .ref q_7, .ref q_1, .int 0, .int 0, .int 0, .int 0, .int 0, .int (-1), .int 0, .int 0, .int 0, .ref aY, .ref aT, .int 0, .ref q_9, .ref q_11, .ref q_13, .ref q_15, .ref q_17, .int 0, .int 0, .int 0, .int 0, .int 0, .int 0, .int 0, .int 0, .int 0, .ref q_19, .ref q_21, .int (-1), .int 0, .ref q_23, .ref q_25, .ref q_27, .int 0, .long 0, .ref q_29, .int 0, .int 0, .ref q_31, .ref q_33, .ref q_35, .int 0, .ref q_37, .ref q_39, .int 0, .ref q_41, .int 0]))] H := hP
  have hD : va_D A [(h0, .inr (12, [.int 0, .ref q_1, .ref q_3, .ref q_5, .ref q_7, .ref q_1, .int 0, .int 0, .int 0, .int 0, .int 0, .int (-1), .int 0, .int 0, .int 0, .ref aY, .ref aT, .int 0, .ref q_9, .ref q_11, .ref q_13, .ref q_15, .ref q_17, .int 0, .int 0, .int 0, .int 0, .int 0, .int 0, .int 0, .int 0, .int 0, .ref q_19, .ref q_21, .int (-1), .int 0, .ref q_23, .ref q_25, .ref q_27, .int 0, .long 0, .ref q_29, .int 0, .int 0, .ref q_31, .ref q_33, .ref q_35, .int 0, .ref q_37, .ref q_39, .int 0, .ref q_41, .int 0]))] := hD
  refine W.widen (k := 0) (n := 0) (Nat.le_of_ble_eq_true rfl) (Nat.le_of_ble_eq_true rfl) ?_
  have hP9 := hP.sub (ws' := [(h0, .inr (12, [.int 0, .ref q_1, .ref q_3, .ref q_5, .ref q_7, .ref q_1, .int 0, .int 0, .int 0, .int 0, .int 0, .int (-1), .int 0, .int 0, .int 0, .ref aY, .ref aT, .int 0, .ref q_9, .ref q_11, .ref q_13, .ref q_15, .ref q_17, .int 0, .int 0, .int 0, .int 0, .int 0, .int 0, .int 0, .int 0, .int 0, .ref q_19, .ref q_21, .int (-1), .int 0, .ref q_23, .ref q_25, .ref q_27, .int 0, .long 0, .ref q_29, .int 0, .int 0, .ref q_31, .ref q_33, .ref q_35, .int 0, .ref q_37, .ref q_39, .int 0, .ref q_41, .int 0]))]) [0] rfl
  have hD9 := hD.sub (ws' := [(h0, .inr (12, [.int 0, .ref q_1, .ref q_3, .ref q_5, .ref q_7, .ref q_1, .int 0, .int 0, .int 0, .int 0, .int 0, .int (-1), .int 0, .int 0, .int 0, .ref aY, .ref aT, .int 0, .ref q_9, .ref q_11, .ref q_13, .ref q_15, .ref q_17, .int 0, .int 0, .int 0, .int 0, .int 0, .int 0, .int 0, .int 0, .int 0, .ref q_19, .ref q_21, .int (-1), .int 0, .ref q_23, .ref q_25, .ref q_27, .int 0, .long 0, .ref q_29, .int 0, .int 0, .ref q_31, .ref q_33, .ref q_35, .int 0, .ref q_37, .ref q_39, .int 0, .ref q_41, .int 0]))]) [0] (by decide) rfl
  have hK9 := hK.sub (tys' := []) [] rfl
  exact W.vret hx hb hr (fun t ht hW => ⟨⟨(), rfl, trivial, by rw [ht]; exact hP9, va_K.moved hW.alike hK9, hD9⟩, hS.F ht⟩) hS.2.2 dX12_starts_25

def w_m_usual0 : List Cond := .code yX12_usual cX12_usual 2 (some .int) :: ([] ++ [])
set_option maxHeartbeats 8000000 in
set_option maxRecDepth 100000 in
theorem m_usual0 (l : Launch) (dC : Nat → ClassId) (dI : Nat → Nat → Nat) (sz : Nat) : Met l yX12_usual w_m_usual0 ({ frames := 0, cells := 0, slots := 0, locals := 0 }) (va_Pc [.int 115, .int 0] (fun U => U.heap.size = sz ∧ va_P (dC, dI) vwCl [] U.heap ∧ va_K (dC, dI) vwCl [] U ∧ va_D (fun _ => True) [])) (va_Qi (fun (r : Int32) (_ : Unit) => r = 5) (fun _ t => va_P (dC, dI) vwCl [] t.heap ∧ va_K (dC, dI) vwCl [] t ∧ va_D (va_A [] sz) []) (va_A [] sz)) 0 0 (va_A [] sz) := by
  refine Met.ofW (cc := cX12_usual) (maxL := 2) (ret := (some .int)) (by decide) rfl ?_
  intro p e s m args below meth c s₁ B hml hv
  obtain ⟨rfl, hsz, hP, hK, hD0⟩ := hv
  have hx := B.exec
  have hb := B.bytes
  have hr := B.returns
  have hts := atoms_spec (ws := w_m_usual0) B.pre
  have hown : s.vm.findClass RX12 = some m.cls := findClass_of_methodNamed B.named
  have hlocks := B.notSynchronized
  subst hsz
  have hD := hD0.self (sz := s.heap.size)
  generalize hAe : va_A [] s.heap.size = A at hD ⊢
  have hA : ∀ q : Nat, s.heap.size ≤ q → A q := fun q h => by rw [← hAe]; exact Or.inr h
  have hS : va_S A s.heap s.heap [] := va_S.rf
  have hP : va_P (dC, dI) vwCl [] s.heap := hP
  have hl := lv_entry ([.int 115, .int 0]) (n := 2) (Nat.le_of_ble_eq_true rfl)
  rw [lg_entry_eq]
  generalize (lg_sl ([.int 115, .int 0]) ++ List.replicate (2 - (lg_sl ([.int 115, .int 0])).length) Slot.unset).toArray = ls at hl ⊢
  have hl : lv_has ls 2 [(0, .int 115), (1, .int 0)] := hl
  refine lv_iload_n hx hb dX12_usual_0 rfl (lv_at hl 0 rfl) ?_
  refine lv_bipush (v := 115) hx hb dX12_usual_1 (by decide +kernel) ?_
  refine lv_icmp_eq (tgt := 8) hx hb dX12_usual_3 (by decide) (fun c_1 => ?_) (fun c_1 => absurd (by decide +kernel) c_1)
  refine lv_iload_n hx hb dX12_usual_8 rfl (lv_at hl 1 rfl) ?_
  refine lv_if_ne (tgt := 16) hx hb dX12_usual_9 (by decide) (fun c_2 => absurd (by decide +kernel) c_2) (fun c_2 => ?_)
  refine lv_iconst (v := 5) hx hb dX12_usual_12 (by decide +kernel) ?_
  refine lv_goto (tgt := 54) hx hb dX12_usual_13 (by decide) ?_
  refine W.widen (k := 0) (n := 0) (Nat.le_of_ble_eq_true rfl) (Nat.le_of_ble_eq_true rfl) ?_
  have hP9 := hP.sub (ws' := []) [] rfl
  have hD9 := hD.sub (ws' := []) [] (by decide) rfl
  have hK9 := hK.sub (tys' := []) [] rfl
  exact W.iret (v := 5) hx hb hr (fun t ht hW => ⟨⟨5, (), rfl, rfl, by rw [ht]; exact hP9, va_K.moved hW.alike hK9, hD9⟩, hS.F ht⟩) hS.2.2 dX12_usual_54

def w_m_usual1 : List Cond := .code yX12_usual cX12_usual 2 (some .int) :: ([] ++ [])
set_option maxHeartbeats 8000000 in
set_option maxRecDepth 100000 in
theorem m_usual1 (l : Launch) (dC : Nat → ClassId) (dI : Nat → Nat → Nat) (sz : Nat) : Met l yX12_usual w_m_usual1 ({ frames := 0, cells := 0, slots := 0, locals := 0 }) (va_Pc [.int 115, .int 1] (fun U => U.heap.size = sz ∧ va_P (dC, dI) vwCl [] U.heap ∧ va_K (dC, dI) vwCl [] U ∧ va_D (fun _ => True) [])) (va_Qi (fun (r : Int32) (_ : Unit) => r = 4) (fun _ t => va_P (dC, dI) vwCl [] t.heap ∧ va_K (dC, dI) vwCl [] t ∧ va_D (va_A [] sz) []) (va_A [] sz)) 0 0 (va_A [] sz) := by
  refine Met.ofW (cc := cX12_usual) (maxL := 2) (ret := (some .int)) (by decide) rfl ?_
  intro p e s m args below meth c s₁ B hml hv
  obtain ⟨rfl, hsz, hP, hK, hD0⟩ := hv
  have hx := B.exec
  have hb := B.bytes
  have hr := B.returns
  have hts := atoms_spec (ws := w_m_usual1) B.pre
  have hown : s.vm.findClass RX12 = some m.cls := findClass_of_methodNamed B.named
  have hlocks := B.notSynchronized
  subst hsz
  have hD := hD0.self (sz := s.heap.size)
  generalize hAe : va_A [] s.heap.size = A at hD ⊢
  have hA : ∀ q : Nat, s.heap.size ≤ q → A q := fun q h => by rw [← hAe]; exact Or.inr h
  have hS : va_S A s.heap s.heap [] := va_S.rf
  have hP : va_P (dC, dI) vwCl [] s.heap := hP
  have hl := lv_entry ([.int 115, .int 1]) (n := 2) (Nat.le_of_ble_eq_true rfl)
  rw [lg_entry_eq]
  generalize (lg_sl ([.int 115, .int 1]) ++ List.replicate (2 - (lg_sl ([.int 115, .int 1])).length) Slot.unset).toArray = ls at hl ⊢
  have hl : lv_has ls 2 [(0, .int 115), (1, .int 1)] := hl
  refine lv_iload_n hx hb dX12_usual_0 rfl (lv_at hl 0 rfl) ?_
  refine lv_bipush (v := 115) hx hb dX12_usual_1 (by decide +kernel) ?_
  refine lv_icmp_eq (tgt := 8) hx hb dX12_usual_3 (by decide) (fun c_1 => ?_) (fun c_1 => absurd (by decide +kernel) c_1)
  refine lv_iload_n hx hb dX12_usual_8 rfl (lv_at hl 1 rfl) ?_
  refine lv_if_ne (tgt := 16) hx hb dX12_usual_9 (by decide) (fun c_2 => ?_) (fun c_2 => absurd c_2 (by decide +kernel))
  refine lv_iload_n hx hb dX12_usual_16 rfl (lv_at hl 1 rfl) ?_
  refine lv_iconst (v := 1) hx hb dX12_usual_17 (by decide +kernel) ?_
  refine lv_icmp_ne (tgt := 25) hx hb dX12_usual_18 (by decide) (fun c_3 => absurd (by decide +kernel) c_3) (fun c_3 => ?_)
  refine lv_iconst (v := 4) hx hb dX12_usual_21 (by decide +kernel) ?_
  refine lv_goto (tgt := 54) hx hb dX12_usual_22 (by decide) ?_
  refine W.widen (k := 0) (n := 0) (Nat.le_of_ble_eq_true rfl) (Nat.le_of_ble_eq_true rfl) ?_
  have hP9 := hP.sub (ws' := []) [] rfl
  have hD9 := hD.sub (ws' := []) [] (by decide) rfl
  have hK9 := hK.sub (tys' := []) [] rfl
  exact W.iret (v := 4) hx hb hr (fun t ht hW => ⟨⟨4, (), rfl, rfl, by rw [ht]; exact hP9, va_K.moved hW.alike hK9, hD9⟩, hS.F ht⟩) hS.2.2 dX12_usual_54

def w_m_usual2 : List Cond := .code yX12_usual cX12_usual 2 (some .int) :: ([] ++ [])
set_option maxHeartbeats 8000000 in
set_option maxRecDepth 100000 in
theorem m_usual2 (l : Launch) (dC : Nat → ClassId) (dI : Nat → Nat → Nat) (sz : Nat) : Met l yX12_usual w_m_usual2 ({ frames := 0, cells := 0, slots := 0, locals := 0 }) (va_Pc [.int 115, .int 2] (fun U => U.heap.size = sz ∧ va_P (dC, dI) vwCl [] U.heap ∧ va_K (dC, dI) vwCl [] U ∧ va_D (fun _ => True) [])) (va_Qi (fun (r : Int32) (_ : Unit) => r = 3) (fun _ t => va_P (dC, dI) vwCl [] t.heap ∧ va_K (dC, dI) vwCl [] t ∧ va_D (va_A [] sz) []) (va_A [] sz)) 0 0 (va_A [] sz) := by
  refine Met.ofW (cc := cX12_usual) (maxL := 2) (ret := (some .int)) (by decide) rfl ?_
  intro p e s m args below meth c s₁ B hml hv
  obtain ⟨rfl, hsz, hP, hK, hD0⟩ := hv
  have hx := B.exec
  have hb := B.bytes
  have hr := B.returns
  have hts := atoms_spec (ws := w_m_usual2) B.pre
  have hown : s.vm.findClass RX12 = some m.cls := findClass_of_methodNamed B.named
  have hlocks := B.notSynchronized
  subst hsz
  have hD := hD0.self (sz := s.heap.size)
  generalize hAe : va_A [] s.heap.size = A at hD ⊢
  have hA : ∀ q : Nat, s.heap.size ≤ q → A q := fun q h => by rw [← hAe]; exact Or.inr h
  have hS : va_S A s.heap s.heap [] := va_S.rf
  have hP : va_P (dC, dI) vwCl [] s.heap := hP
  have hl := lv_entry ([.int 115, .int 2]) (n := 2) (Nat.le_of_ble_eq_true rfl)
  rw [lg_entry_eq]
  generalize (lg_sl ([.int 115, .int 2]) ++ List.replicate (2 - (lg_sl ([.int 115, .int 2])).length) Slot.unset).toArray = ls at hl ⊢
  have hl : lv_has ls 2 [(0, .int 115), (1, .int 2)] := hl
  refine lv_iload_n hx hb dX12_usual_0 rfl (lv_at hl 0 rfl) ?_
  refine lv_bipush (v := 115) hx hb dX12_usual_1 (by decide +kernel) ?_
  refine lv_icmp_eq (tgt := 8) hx hb dX12_usual_3 (by decide) (fun c_1 => ?_) (fun c_1 => absurd (by decide +kernel) c_1)
  refine lv_iload_n hx hb dX12_usual_8 rfl (lv_at hl 1 rfl) ?_
  refine lv_if_ne (tgt := 16) hx hb dX12_usual_9 (by decide) (fun c_2 => ?_) (fun c_2 => absurd c_2 (by decide +kernel))
  refine lv_iload_n hx hb dX12_usual_16 rfl (lv_at hl 1 rfl) ?_
  refine lv_iconst (v := 1) hx hb dX12_usual_17 (by decide +kernel) ?_
  refine lv_icmp_ne (tgt := 25) hx hb dX12_usual_18 (by decide) (fun c_3 => ?_) (fun c_3 => absurd c_3 (by decide +kernel))
  refine lv_iload_n hx hb dX12_usual_25 rfl (lv_at hl 1 rfl) ?_
  refine lv_iconst (v := 2) hx hb dX12_usual_26 (by decide +kernel) ?_
  refine lv_icmp_ne (tgt := 34) hx hb dX12_usual_27 (by decide) (fun c_4 => absurd (by decide +kernel) c_4) (fun c_4 => ?_)
  refine lv_iconst (v := 3) hx hb dX12_usual_30 (by decide +kernel) ?_
  refine lv_goto (tgt := 54) hx hb dX12_usual_31 (by decide) ?_
  refine W.widen (k := 0) (n := 0) (Nat.le_of_ble_eq_true rfl) (Nat.le_of_ble_eq_true rfl) ?_
  have hP9 := hP.sub (ws' := []) [] rfl
  have hD9 := hD.sub (ws' := []) [] (by decide) rfl
  have hK9 := hK.sub (tys' := []) [] rfl
  exact W.iret (v := 3) hx hb hr (fun t ht hW => ⟨⟨3, (), rfl, rfl, by rw [ht]; exact hP9, va_K.moved hW.alike hK9, hD9⟩, hS.F ht⟩) hS.2.2 dX12_usual_54

def w_m_usual3 : List Cond := .code yX12_usual cX12_usual 2 (some .int) :: ([] ++ [])
set_option maxHeartbeats 8000000 in
set_option maxRecDepth 100000 in
theorem m_usual3 (l : Launch) (dC : Nat → ClassId) (dI : Nat → Nat → Nat) (sz : Nat) : Met l yX12_usual w_m_usual3 ({ frames := 0, cells := 0, slots := 0, locals := 0 }) (va_Pc [.int 115, .int 3] (fun U => U.heap.size = sz ∧ va_P (dC, dI) vwCl [] U.heap ∧ va_K (dC, dI) vwCl [] U ∧ va_D (fun _ => True) [])) (va_Qi (fun (r : Int32) (_ : Unit) => r = 2) (fun _ t => va_P (dC, dI) vwCl [] t.heap ∧ va_K (dC, dI) vwCl [] t ∧ va_D (va_A [] sz) []) (va_A [] sz)) 0 0 (va_A [] sz) := by
  refine Met.ofW (cc := cX12_usual) (maxL := 2) (ret := (some .int)) (by decide) rfl ?_
  intro p e s m args below meth c s₁ B hml hv
  obtain ⟨rfl, hsz, hP, hK, hD0⟩ := hv
  have hx := B.exec
  have hb := B.bytes
  have hr := B.returns
  have hts := atoms_spec (ws := w_m_usual3) B.pre
  have hown : s.vm.findClass RX12 = some m.cls := findClass_of_methodNamed B.named
  have hlocks := B.notSynchronized
  subst hsz
  have hD := hD0.self (sz := s.heap.size)
  generalize hAe : va_A [] s.heap.size = A at hD ⊢
  have hA : ∀ q : Nat, s.heap.size ≤ q → A q := fun q h => by rw [← hAe]; exact Or.inr h
  have hS : va_S A s.heap s.heap [] := va_S.rf
  have hP : va_P (dC, dI) vwCl [] s.heap := hP
  have hl := lv_entry ([.int 115, .int 3]) (n := 2) (Nat.le_of_ble_eq_true rfl)
  rw [lg_entry_eq]
  generalize (lg_sl ([.int 115, .int 3]) ++ List.replicate (2 - (lg_sl ([.int 115, .int 3])).length) Slot.unset).toArray = ls at hl ⊢
  have hl : lv_has ls 2 [(0, .int 115), (1, .int 3)] := hl
  refine lv_iload_n hx hb dX12_usual_0 rfl (lv_at hl 0 rfl) ?_
  refine lv_bipush (v := 115) hx hb dX12_usual_1 (by decide +kernel) ?_
  refine lv_icmp_eq (tgt := 8) hx hb dX12_usual_3 (by decide) (fun c_1 => ?_) (fun c_1 => absurd (by decide +kernel) c_1)
  refine lv_iload_n hx hb dX12_usual_8 rfl (lv_at hl 1 rfl) ?_
  refine lv_if_ne (tgt := 16) hx hb dX12_usual_9 (by decide) (fun c_2 => ?_) (fun c_2 => absurd c_2 (by decide +kernel))
  refine lv_iload_n hx hb dX12_usual_16 rfl (lv_at hl 1 rfl) ?_
  refine lv_iconst (v := 1) hx hb dX12_usual_17 (by decide +kernel) ?_
  refine lv_icmp_ne (tgt := 25) hx hb dX12_usual_18 (by decide) (fun c_3 => ?_) (fun c_3 => absurd c_3 (by decide +kernel))
  refine lv_iload_n hx hb dX12_usual_25 rfl (lv_at hl 1 rfl) ?_
  refine lv_iconst (v := 2) hx hb dX12_usual_26 (by decide +kernel) ?_
  refine lv_icmp_ne (tgt := 34) hx hb dX12_usual_27 (by decide) (fun c_4 => ?_) (fun c_4 => absurd c_4 (by decide +kernel))
  refine lv_iload_n hx hb dX12_usual_34 rfl (lv_at hl 1 rfl) ?_
  refine lv_iconst (v := 3) hx hb dX12_usual_35 (by decide +kernel) ?_
  refine lv_icmp_ne (tgt := 43) hx hb dX12_usual_36 (by decide) (fun c_5 => absurd (by decide +kernel) c_5) (fun c_5 => ?_)
  refine lv_iconst (v := 2) hx hb dX12_usual_39 (by decide +kernel) ?_
  refine lv_goto (tgt := 54) hx hb dX12_usual_40 (by decide) ?_
  refine W.widen (k := 0) (n := 0) (Nat.le_of_ble_eq_true rfl) (Nat.le_of_ble_eq_true rfl) ?_
  have hP9 := hP.sub (ws' := []) [] rfl
  have hD9 := hD.sub (ws' := []) [] (by decide) rfl
  have hK9 := hK.sub (tys' := []) [] rfl
  exact W.iret (v := 2) hx hb hr (fun t ht hW => ⟨⟨2, (), rfl, rfl, by rw [ht]; exact hP9, va_K.moved hW.alike hK9, hD9⟩, hS.F ht⟩) hS.2.2 dX12_usual_54

def w_m_usual4 : List Cond := .code yX12_usual cX12_usual 2 (some .int) :: ([] ++ [])
set_option maxHeartbeats 8000000 in
set_option maxRecDepth 100000 in
theorem m_usual4 (l : Launch) (dC : Nat → ClassId) (dI : Nat → Nat → Nat) (sz : Nat) : Met l yX12_usual w_m_usual4 ({ frames := 0, cells := 0, slots := 0, locals := 0 }) (va_Pc [.int 115, .int 4] (fun U => U.heap.size = sz ∧ va_P (dC, dI) vwCl [] U.heap ∧ va_K (dC, dI) vwCl [] U ∧ va_D (fun _ => True) [])) (va_Qi (fun (r : Int32) (_ : Unit) => r = 0) (fun _ t => va_P (dC, dI) vwCl [] t.heap ∧ va_K (dC, dI) vwCl [] t ∧ va_D (va_A [] sz) []) (va_A [] sz)) 0 0 (va_A [] sz) := by
  refine Met.ofW (cc := cX12_usual) (maxL := 2) (ret := (some .int)) (by decide) rfl ?_
  intro p e s m args below meth c s₁ B hml hv
  obtain ⟨rfl, hsz, hP, hK, hD0⟩ := hv
  have hx := B.exec
  have hb := B.bytes
  have hr := B.returns
  have hts := atoms_spec (ws := w_m_usual4) B.pre
  have hown : s.vm.findClass RX12 = some m.cls := findClass_of_methodNamed B.named
  have hlocks := B.notSynchronized
  subst hsz
  have hD := hD0.self (sz := s.heap.size)
  generalize hAe : va_A [] s.heap.size = A at hD ⊢
  have hA : ∀ q : Nat, s.heap.size ≤ q → A q := fun q h => by rw [← hAe]; exact Or.inr h
  have hS : va_S A s.heap s.heap [] := va_S.rf
  have hP : va_P (dC, dI) vwCl [] s.heap := hP
  have hl := lv_entry ([.int 115, .int 4]) (n := 2) (Nat.le_of_ble_eq_true rfl)
  rw [lg_entry_eq]
  generalize (lg_sl ([.int 115, .int 4]) ++ List.replicate (2 - (lg_sl ([.int 115, .int 4])).length) Slot.unset).toArray = ls at hl ⊢
  have hl : lv_has ls 2 [(0, .int 115), (1, .int 4)] := hl
  refine lv_iload_n hx hb dX12_usual_0 rfl (lv_at hl 0 rfl) ?_
  refine lv_bipush (v := 115) hx hb dX12_usual_1 (by decide +kernel) ?_
  refine lv_icmp_eq (tgt := 8) hx hb dX12_usual_3 (by decide) (fun c_1 => ?_) (fun c_1 => absurd (by decide +kernel) c_1)
  refine lv_iload_n hx hb dX12_usual_8 rfl (lv_at hl 1 rfl) ?_
  refine lv_if_ne (tgt := 16) hx hb dX12_usual_9 (by decide) (fun c_2 => ?_) (fun c_2 => absurd c_2 (by decide +kernel))
  refine lv_iload_n hx hb dX12_usual_16 rfl (lv_at hl 1 rfl) ?_
  refine lv_iconst (v := 1) hx hb dX12_usual_17 (by decide +kernel) ?_
  refine lv_icmp_ne (tgt := 25) hx hb dX12_usual_18 (by decide) (fun c_3 => ?_) (fun c_3 => absurd c_3 (by decide +kernel))
  refine lv_iload_n hx hb dX12_usual_25 rfl (lv_at hl 1 rfl) ?_
  refine lv_iconst (v := 2) hx hb dX12_usual_26 (by decide +kernel) ?_
  refine lv_icmp_ne (tgt := 34) hx hb dX12_usual_27 (by decide) (fun c_4 => ?_) (fun c_4 => absurd c_4 (by decide +kernel))
  refine lv_iload_n hx hb dX12_usual_34 rfl (lv_at hl 1 rfl) ?_
  refine lv_iconst (v := 3) hx hb dX12_usual_35 (by decide +kernel) ?_
  refine lv_icmp_ne (tgt := 43) hx hb dX12_usual_36 (by decide) (fun c_5 => ?_) (fun c_5 => absurd c_5 (by decide +kernel))
  refine lv_iload_n hx hb dX12_usual_43 rfl (lv_at hl 1 rfl) ?_
  refine lv_iconst (v := 5) hx hb dX12_usual_44 (by decide +kernel) ?_
  refine lv_icmp_ne (tgt := 53) hx hb dX12_usual_45 (by decide) (fun c_6 => ?_) (fun c_6 => absurd c_6 (by decide +kernel))
  refine lv_iconst (v := 0) hx hb dX12_usual_53 (by decide +kernel) ?_
  refine W.widen (k := 0) (n := 0) (Nat.le_of_ble_eq_true rfl) (Nat.le_of_ble_eq_true rfl) ?_
  have hP9 := hP.sub (ws' := []) [] rfl
  have hD9 := hD.sub (ws' := []) [] (by decide) rfl
  have hK9 := hK.sub (tys' := []) [] rfl
  exact W.iret (v := 0) hx hb hr (fun t ht hW => ⟨⟨0, (), rfl, rfl, by rw [ht]; exact hP9, va_K.moved hW.alike hK9, hD9⟩, hS.F ht⟩) hS.2.2 dX12_usual_54

def w_m_usual5 : List Cond := .code yX12_usual cX12_usual 2 (some .int) :: ([] ++ [])
set_option maxHeartbeats 8000000 in
set_option maxRecDepth 100000 in
theorem m_usual5 (l : Launch) (dC : Nat → ClassId) (dI : Nat → Nat → Nat) (sz : Nat) : Met l yX12_usual w_m_usual5 ({ frames := 0, cells := 0, slots := 0, locals := 0 }) (va_Pc [.int 115, .int 5] (fun U => U.heap.size = sz ∧ va_P (dC, dI) vwCl [] U.heap ∧ va_K (dC, dI) vwCl [] U ∧ va_D (fun _ => True) [])) (va_Qi (fun (r : Int32) (_ : Unit) => r = 8) (fun _ t => va_P (dC, dI) vwCl [] t.heap ∧ va_K (dC, dI) vwCl [] t ∧ va_D (va_A [] sz) []) (va_A [] sz)) 0 0 (va_A [] sz) := by
  refine Met.ofW (cc := cX12_usual) (maxL := 2) (ret := (some .int)) (by decide) rfl ?_
  intro p e s m args below meth c s₁ B hml hv
  obtain ⟨rfl, hsz, hP, hK, hD0⟩ := hv
  have hx := B.exec
  have hb := B.bytes
  have hr := B.returns
  have hts := atoms_spec (ws := w_m_usual5) B.pre
  have hown : s.vm.findClass RX12 = some m.cls := findClass_of_methodNamed B.named
  have hlocks := B.notSynchronized
  subst hsz
  have hD := hD0.self (sz := s.heap.size)
  generalize hAe : va_A [] s.heap.size = A at hD ⊢
  have hA : ∀ q : Nat, s.heap.size ≤ q → A q := fun q h => by rw [← hAe]; exact Or.inr h
  have hS : va_S A s.heap s.heap [] := va_S.rf
  have hP : va_P (dC, dI) vwCl [] s.heap := hP
  have hl := lv_entry ([.int 115, .int 5]) (n := 2) (Nat.le_of_ble_eq_true rfl)
  rw [lg_entry_eq]
  generalize (lg_sl ([.int 115, .int 5]) ++ List.replicate (2 - (lg_sl ([.int 115, .int 5])).length) Slot.unset).toArray = ls at hl ⊢
  have hl : lv_has ls 2 [(0, .int 115), (1, .int 5)] := hl
  refine lv_iload_n hx hb dX12_usual_0 rfl (lv_at hl 0 rfl) ?_
  refine lv_bipush (v := 115) hx hb dX12_usual_1 (by decide +kernel) ?_
  refine lv_icmp_eq (tgt := 8) hx hb dX12_usual_3 (by decide) (fun c_1 => ?_) (fun c_1 => absurd (by decide +kernel) c_1)
  refine lv_iload_n hx hb dX12_usual_8 rfl (lv_at hl 1 rfl) ?_
  refine lv_if_ne (tgt := 16) hx hb dX12_usual_9 (by decide) (fun c_2 => ?_) (fun c_2 => absurd c_2 (by decide +kernel))
  refine lv_iload_n hx hb dX12_usual_16 rfl (lv_at hl 1 rfl) ?_
  refine lv_iconst (v := 1) hx hb dX12_usual_17 (by decide +kernel) ?_
  refine lv_icmp_ne (tgt := 25) hx hb dX12_usual_18 (by decide) (fun c_3 => ?_) (fun c_3 => absurd c_3 (by decide +kernel))
  refine lv_iload_n hx hb dX12_usual_25 rfl (lv_at hl 1 rfl) ?_
  refine lv_iconst (v := 2) hx hb dX12_usual_26 (by decide +kernel) ?_
  refine lv_icmp_ne (tgt := 34) hx hb dX12_usual_27 (by decide) (fun c_4 => ?_) (fun c_4 => absurd c_4 (by decide +kernel))
  refine lv_iload_n hx hb dX12_usual_34 rfl (lv_at hl 1 rfl) ?_
  refine lv_iconst (v := 3) hx hb dX12_usual_35 (by decide +kernel) ?_
  refine lv_icmp_ne (tgt := 43) hx hb dX12_usual_36 (by decide) (fun c_5 => ?_) (fun c_5 => absurd c_5 (by decide +kernel))
  refine lv_iload_n hx hb dX12_usual_43 rfl (lv_at hl 1 rfl) ?_
  refine lv_iconst (v := 5) hx hb dX12_usual_44 (by decide +kernel) ?_
  refine lv_icmp_ne (tgt := 53) hx hb dX12_usual_45 (by decide) (fun c_6 => absurd (by decide +kernel) c_6) (fun c_6 => ?_)
  refine lv_bipush (v := 8) hx hb dX12_usual_48 (by decide +kernel) ?_
  refine lv_goto (tgt := 54) hx hb dX12_usual_50 (by decide) ?_
  refine W.widen (k := 0) (n := 0) (Nat.le_of_ble_eq_true rfl) (Nat.le_of_ble_eq_true rfl) ?_
  have hP9 := hP.sub (ws' := []) [] rfl
  have hD9 := hD.sub (ws' := []) [] (by decide) rfl
  have hK9 := hK.sub (tys' := []) [] rfl
  exact W.iret (v := 8) hx hb hr (fun t ht hW => ⟨⟨8, (), rfl, rfl, by rw [ht]; exact hP9, va_K.moved hW.alike hK9, hD9⟩, hS.F ht⟩) hS.2.2 dX12_usual_54

def w_m_usual6 : List Cond := .code yX12_usual cX12_usual 2 (some .int) :: ([] ++ [])
set_option maxHeartbeats 8000000 in
set_option maxRecDepth 100000 in
theorem m_usual6 (l : Launch) (dC : Nat → ClassId) (dI : Nat → Nat → Nat) (sz : Nat) : Met l yX12_usual w_m_usual6 ({ frames := 0, cells := 0, slots := 0, locals := 0 }) (va_Pc [.int 115, .int 6] (fun U => U.heap.size = sz ∧ va_P (dC, dI) vwCl [] U.heap ∧ va_K (dC, dI) vwCl [] U ∧ va_D (fun _ => True) [])) (va_Qi (fun (r : Int32) (_ : Unit) => r = 0) (fun _ t => va_P (dC, dI) vwCl [] t.heap ∧ va_K (dC, dI) vwCl [] t ∧ va_D (va_A [] sz) []) (va_A [] sz)) 0 0 (va_A [] sz) := by
  refine Met.ofW (cc := cX12_usual) (maxL := 2) (ret := (some .int)) (by decide) rfl ?_
  intro p e s m args below meth c s₁ B hml hv
  obtain ⟨rfl, hsz, hP, hK, hD0⟩ := hv
  have hx := B.exec
  have hb := B.bytes
  have hr := B.returns
  have hts := atoms_spec (ws := w_m_usual6) B.pre
  have hown : s.vm.findClass RX12 = some m.cls := findClass_of_methodNamed B.named
  have hlocks := B.notSynchronized
  subst hsz
  have hD := hD0.self (sz := s.heap.size)
  generalize hAe : va_A [] s.heap.size = A at hD ⊢
  have hA : ∀ q : Nat, s.heap.size ≤ q → A q := fun q h => by rw [← hAe]; exact Or.inr h
  have hS : va_S A s.heap s.heap [] := va_S.rf
  have hP : va_P (dC, dI) vwCl [] s.heap := hP
  have hl := lv_entry ([.int 115, .int 6]) (n := 2) (Nat.le_of_ble_eq_true rfl)
  rw [lg_entry_eq]
  generalize (lg_sl ([.int 115, .int 6]) ++ List.replicate (2 - (lg_sl ([.int 115, .int 6])).length) Slot.unset).toArray = ls at hl ⊢
  have hl : lv_has ls 2 [(0, .int 115), (1, .int 6)] := hl
  refine lv_iload_n hx hb dX12_usual_0 rfl (lv_at hl 0 rfl) ?_
  refine lv_bipush (v := 115) hx hb dX12_usual_1 (by decide +kernel) ?_
  refine lv_icmp_eq (tgt := 8) hx hb dX12_usual_3 (by decide) (fun c_1 => ?_) (fun c_1 => absurd (by decide +kernel) c_1)
  refine lv_iload_n hx hb dX12_usual_8 rfl (lv_at hl 1 rfl) ?_
  refine lv_if_ne (tgt := 16) hx hb dX12_usual_9 (by decide) (fun c_2 => ?_) (fun c_2 => absurd c_2 (by decide +kernel))
  refine lv_iload_n hx hb dX12_usual_16 rfl (lv_at hl 1 rfl) ?_
  refine lv_iconst (v := 1) hx hb dX12_usual_17 (by decide +kernel) ?_
  refine lv_icmp_ne (tgt := 25) hx hb dX12_usual_18 (by decide) (fun c_3 => ?_) (fun c_3 => absurd c_3 (by decide +kernel))
  refine lv_iload_n hx hb dX12_usual_25 rfl (lv_at hl 1 rfl) ?_
  refine lv_iconst (v := 2) hx hb dX12_usual_26 (by decide +kernel) ?_
  refine lv_icmp_ne (tgt := 34) hx hb dX12_usual_27 (by decide) (fun c_4 => ?_) (fun c_4 => absurd c_4 (by decide +kernel))
  refine lv_iload_n hx hb dX12_usual_34 rfl (lv_at hl 1 rfl) ?_
  refine lv_iconst (v := 3) hx hb dX12_usual_35 (by decide +kernel) ?_
  refine lv_icmp_ne (tgt := 43) hx hb dX12_usual_36 (by decide) (fun c_5 => ?_) (fun c_5 => absurd c_5 (by decide +kernel))
  refine lv_iload_n hx hb dX12_usual_43 rfl (lv_at hl 1 rfl) ?_
  refine lv_iconst (v := 5) hx hb dX12_usual_44 (by decide +kernel) ?_
  refine lv_icmp_ne (tgt := 53) hx hb dX12_usual_45 (by decide) (fun c_6 => ?_) (fun c_6 => absurd c_6 (by decide +kernel))
  refine lv_iconst (v := 0) hx hb dX12_usual_53 (by decide +kernel) ?_
  refine W.widen (k := 0) (n := 0) (Nat.le_of_ble_eq_true rfl) (Nat.le_of_ble_eq_true rfl) ?_
  have hP9 := hP.sub (ws' := []) [] rfl
  have hD9 := hD.sub (ws' := []) [] (by decide) rfl
  have hK9 := hK.sub (tys' := []) [] rfl
  exact W.iret (v := 0) hx hb hr (fun t ht hW => ⟨⟨0, (), rfl, rfl, by rw [ht]; exact hP9, va_K.moved hW.alike hK9, hD9⟩, hS.F ht⟩) hS.2.2 dX12_usual_54

def w_m_readClause : List Cond := .code yX12_readClause cX12_readClause 3 none :: ([.fieldLink RX12 117 "LawnAheadModel" "at" "I", .fieldLink RX12 120 "LawnAheadModel" "ends" "I", .code yX12_look cX12_look 1 (some .int), .methodLink RX12 136 yX12_look, .instanceMethod yX12_look, .selects RX12 yX12_look yX12_look, .initialized RX12, .fieldLink RX12 126 "LawnAheadModel" "fault" "I", .code yX12_fails cX12_fails 1 (some .boolean), .methodLink RX12 132 yX12_fails, .instanceMethod yX12_fails, .selects RX12 yX12_fails yX12_fails] ++ (wsX120 ++ []))
theorem in_m_readClause_X12 : ∀ w ∈ wsX120, w ∈ w_m_readClause := fun w h => List.mem_cons_of_mem _ (List.mem_append_right _ (List.mem_append_left _ h))
set_option maxRecDepth 100000 in
theorem g_m_readClause_1_m_look : GoodIn w_m_readClause (([.methodLink RX12 136 yX12_look, .instanceMethod yX12_look, .selects RX12 yX12_look yX12_look, .initialized RX12] : List Cond) ++ w_m_look) := goodIn_r _ [4, 5, 6, 7, 3, 1, 2, 13, 14, 15, 16, 17, 18, 19, 20, 21, 22, 23, 24, 25, 26, 27, 28, 29, 30, 31, 32, 33, 34, 35, 36, 37, 38, 39, 40, 41, 42, 43, 44, 45, 46, 47, 48, 49, 50, 51, 52, 53, 54, 55, 56, 57, 58, 59, 60, 61, 62, 63, 64, 65] rfl (by decide +kernel)
set_option maxRecDepth 100000 in
theorem g_m_readClause_59_m_fails : GoodIn w_m_readClause (([.methodLink RX12 132 yX12_fails, .instanceMethod yX12_fails, .selects RX12 yX12_fails yX12_fails, .initialized RX12] : List Cond) ++ w_m_fails) := goodIn_r _ [10, 11, 12, 7, 9, 8, 1, 13, 14, 15, 16, 17, 18, 19, 20, 21, 22, 23, 24, 25, 26, 27, 28, 29, 30, 31, 32, 33, 34, 35, 36, 37, 38, 39, 40, 41, 42, 43, 44, 45, 46, 47, 48, 49, 50, 51, 52, 53, 54, 55, 56, 57, 58, 59, 60, 61, 62, 63, 64, 65] rfl (by decide +kernel)
set_option maxHeartbeats 8000000 in
set_option maxRecDepth 100000 in
theorem m_readClause (l : Launch) (dC : Nat → ClassId) (dI : Nat → Nat → Nat) (h0 : Nat) (q_1 : Nat) (q_3 : Nat) (q_5 : Nat) (q_7 : Nat) (aY : Nat) (aT : Nat) (q_9 : Nat) (q_11 : Nat) (q_13 : Nat) (q_15 : Nat) (q_17 : Nat) (q_19 : Nat) (q_21 : Nat) (q_23 : Nat) (q_25 : Nat) (q_27 : Nat) (q_29 : Nat) (q_31 : Nat) (q_33 : Nat) (q_35 : Nat) (q_37 : Nat) (q_39 : Nat) (q_41 : Nat) (sz : Nat) : Met l yX12_readClause w_m_readClause ({ frames := 1, cells := 0, slots := 0, locals := 20 }) (va_Pc [.ref h0] (fun U => U.heap.size = sz ∧ va_P (dC, dI) vwCl [(h0, .inr (12, [.int 0, .ref q_1, .ref q_3, .ref q_5, .ref q_7, .ref q_1, .int 0, .int 0, .int 0, .int 0, .int 0, .int (-1), .int 0, .int 0, .int 0, .ref aY, .ref aT, .int 0, .ref q_9, .ref q_11, .ref q_13, .ref q_15, .ref q_17, .int 0, .int 0, .int 0, .int 0, .int 0, .int 0, .int 0, .int 0, .int 0, .ref q_19, .ref q_21, .int (-1), .int 0, .ref q_23, .ref q_25, .ref q_27, .int 0, .long 0, .ref q_29, .int 0, .int 0, .ref q_31, .ref q_33, .ref q_35, .int 0, .ref q_37, .ref q_39, .int 0, .ref q_41, .int 0]))] U.heap ∧ va_K (dC, dI) vwCl [] U ∧ va_D (fun _ => True) [(h0, .inr (12, [.int 0, .ref q_1, .ref q_3, .ref q_5, .ref q_7, .ref q_1, .int 0, .int 0, .int 0, .int 0, .int 0, .int (-1), .int 0, .int 0, .int 0, .ref aY, .ref aT, .int 0, .ref q_9, .ref q_11, .ref q_13, .ref q_15, .ref q_17, .int 0, .int 0, .int 0, .int 0, .int 0, .int 0, .int 0, .int 0, .int 0, .ref q_19, .ref q_21, .int (-1), .int 0, .ref q_23, .ref q_25, .ref q_27, .int 0, .long 0, .ref q_29, .int 0, .int 0, .ref q_31, .ref q_33, .ref q_35, .int 0, .ref q_37, .ref q_39, .int 0, .ref q_41, .int 0]))])) (va_Qv (fun (_ : Unit) => True) (fun _ t => va_P (dC, dI) vwCl [(h0, .inr (12, [.int 0, .ref q_1, .ref q_3, .ref q_5, .ref q_7, .ref q_1, .int 0, .int 0, .int 0, .int 0, .int 0, .int 0, .int 0, .int 0, .int 0, .ref aY, .ref aT, .int 0, .ref q_9, .ref q_11, .ref q_13, .ref q_15, .ref q_17, .int 0, .int 0, .int 0, .int 0, .int 0, .int 0, .int 0, .int 0, .int 0, .ref q_19, .ref q_21, .int (-1), .int 0, .ref q_23, .ref q_25, .ref q_27, .int 0, .long 0, .ref q_29, .int 0, .int 0, .ref q_31, .ref q_33, .ref q_35, .int 0, .ref q_37, .ref q_39, .int 0, .ref q_41, .int 0]))] t.heap ∧ va_K (dC, dI) vwCl [] t ∧ va_D (va_A [(h0, .inr (12, [.int 0, .ref q_1, .ref q_3, .ref q_5, .ref q_7, .ref q_1, .int 0, .int 0, .int 0, .int 0, .int 0, .int (-1), .int 0, .int 0, .int 0, .ref aY, .ref aT, .int 0, .ref q_9, .ref q_11, .ref q_13, .ref q_15, .ref q_17, .int 0, .int 0, .int 0, .int 0, .int 0, .int 0, .int 0, .int 0, .int 0, .ref q_19, .ref q_21, .int (-1), .int 0, .ref q_23, .ref q_25, .ref q_27, .int 0, .long 0, .ref q_29, .int 0, .int 0, .ref q_31, .ref q_33, .ref q_35, .int 0, .ref q_37, .ref q_39, .int 0, .ref q_41, .int 0]))] sz) [(h0, .inr (12, [.int 0, .ref q_1, .ref q_3, .ref q_5, .ref q_7, .ref q_1, .int 0, .int 0, .int 0, .int 0, .int 0, .int 0, .int 0, .int 0, .int 0, .ref aY, .ref aT, .int 0, .ref q_9, .ref q_11, .ref q_13, .ref q_15, .ref q_17, .int 0, .int 0, .int 0, .int 0, .int 0, .int 0, .int 0, .int 0, .int 0, .ref q_19, .ref q_21, .int (-1), .int 0, .ref q_23, .ref q_25, .ref q_27, .int 0, .long 0, .ref q_29, .int 0, .int 0, .ref q_31, .ref q_33, .ref q_35, .int 0, .ref q_37, .ref q_39, .int 0, .ref q_41, .int 0]))]) (va_A [(h0, .inr (12, [.int 0, .ref q_1, .ref q_3, .ref q_5, .ref q_7, .ref q_1, .int 0, .int 0, .int 0, .int 0, .int 0, .int (-1), .int 0, .int 0, .int 0, .ref aY, .ref aT, .int 0, .ref q_9, .ref q_11, .ref q_13, .ref q_15, .ref q_17, .int 0, .int 0, .int 0, .int 0, .int 0, .int 0, .int 0, .int 0, .int 0, .ref q_19, .ref q_21, .int (-1), .int 0, .ref q_23, .ref q_25, .ref q_27, .int 0, .long 0, .ref q_29, .int 0, .int 0, .ref q_31, .ref q_33, .ref q_35, .int 0, .ref q_37, .ref q_39, .int 0, .ref q_41, .int 0]))] sz)) 0 0 (va_A [(h0, .inr (12, [.int 0, .ref q_1, .ref q_3, .ref q_5, .ref q_7, .ref q_1, .int 0, .int 0, .int 0, .int 0, .int 0, .int (-1), .int 0, .int 0, .int 0, .ref aY, .ref aT, .int 0, .ref q_9, .ref q_11, .ref q_13, .ref q_15, .ref q_17, .int 0, .int 0, .int 0, .int 0, .int 0, .int 0, .int 0, .int 0, .int 0, .ref q_19, .ref q_21, .int (-1), .int 0, .ref q_23, .ref q_25, .ref q_27, .int 0, .long 0, .ref q_29, .int 0, .int 0, .ref q_31, .ref q_33, .ref q_35, .int 0, .ref q_37, .ref q_39, .int 0, .ref q_41, .int 0]))] sz) := by
  refine Met.ofW (cc := cX12_readClause) (maxL := 3) (ret := none) (by decide) rfl ?_
  intro p e s m args below meth c s₁ B hml hv
  obtain ⟨rfl, hsz, hP, hK, hD0⟩ := hv
  have hx := B.exec
  have hb := B.bytes
  have hr := B.returns
  have hts := atoms_spec (ws := w_m_readClause) B.pre
  have hown : s.vm.findClass RX12 = some m.cls := findClass_of_methodNamed B.named
  have hlocks := B.notSynchronized
  subst hsz
  have hD := hD0.self (sz := s.heap.size)
  generalize hAe : va_A [(h0, .inr (12, [.int 0, .ref q_1, .ref q_3, .ref q_5, .ref q_7, .ref q_1, .int 0, .int 0, .int 0, .int 0, .int 0, .int (-1), .int 0, .int 0, .int 0, .ref aY, .ref aT, .int 0, .ref q_9, .ref q_11, .ref q_13, .ref q_15, .ref q_17, .int 0, .int 0, .int 0, .int 0, .int 0, .int 0, .int 0, .int 0, .int 0, .ref q_19, .ref q_21, .int (-1), .int 0, .ref q_23, .ref q_25, .ref q_27, .int 0, .long 0, .ref q_29, .int 0, .int 0, .ref q_31, .ref q_33, .ref q_35, .int 0, .ref q_37, .ref q_39, .int 0, .ref q_41, .int 0]))] s.heap.size = A at hD ⊢
  have hA : ∀ q : Nat, s.heap.size ≤ q → A q := fun q h => by rw [← hAe]; exact Or.inr h
  have hS : va_S A s.heap s.heap [] := va_S.rf
  have hP : va_P (dC, dI) vwCl [(h0, .inr (12, [.int 0, .ref q_1, .ref q_3, .ref q_5, .ref q_7, .ref q_1, .int 0, .int 0, .int 0, .int 0, .int 0, .int (-1), .int 0, .int 0, .int 0, .ref aY, .ref aT, .int 0, .ref q_9, .ref q_11, .ref q_13, .ref q_15, .ref q_17, .int 0, .int 0, .int 0, .int 0, .int 0, .int 0, .int 0, .int 0, .int 0, .ref q_19, .ref q_21, .int (-1), .int 0, .ref q_23, .ref q_25, .ref q_27, .int 0, .long 0, .ref q_29, .int 0, .int 0, .ref q_31, .ref q_33, .ref q_35, .int 0, .ref q_37, .ref q_39, .int 0, .ref q_41, .int 0]))] s.heap := hP
  have hl := lv_entry ([.ref h0]) (n := 3) (Nat.le_of_ble_eq_true rfl)
  rw [lg_entry_eq]
  generalize (lg_sl ([.ref h0]) ++ List.replicate (3 - (lg_sl ([.ref h0])).length) Slot.unset).toArray = ls at hl ⊢
  have hl : lv_has ls 3 [(0, .ref h0)] := hl
  refine lv_aload_n hx hb dX12_readClause_0 rfl (lv_at hl 0 rfl) ?_
  have hPc := hP.sub (ws' := [(h0, .inr (12, [.int 0, .ref q_1, .ref q_3, .ref q_5, .ref q_7, .ref q_1, .int 0, .int 0, .int 0, .int 0, .int 0, .int (-1), .int 0, .int 0, .int 0, .ref aY, .ref aT, .int 0, .ref q_9, .ref q_11, .ref q_13, .ref q_15, .ref q_17, .int 0, .int 0, .int 0, .int 0, .int 0, .int 0, .int 0, .int 0, .int 0, .ref q_19, .ref q_21, .int (-1), .int 0, .ref q_23, .ref q_25, .ref q_27, .int 0, .long 0, .ref q_29, .int 0, .int 0, .ref q_31, .ref q_33, .ref q_35, .int 0, .ref q_37, .ref q_39, .int 0, .ref q_41, .int 0]))]) [0] rfl
  have hDc := hD.sub (ws' := [(h0, .inr (12, [.int 0, .ref q_1, .ref q_3, .ref q_5, .ref q_7, .ref q_1, .int 0, .int 0, .int 0, .int 0, .int 0, .int (-1), .int 0, .int 0, .int 0, .ref aY, .ref aT, .int 0, .ref q_9, .ref q_11, .ref q_13, .ref q_15, .ref q_17, .int 0, .int 0, .int 0, .int 0, .int 0, .int 0, .int 0, .int 0, .int 0, .ref q_19, .ref q_21, .int (-1), .int 0, .ref q_23, .ref q_25, .ref q_27, .int 0, .long 0, .ref q_29, .int 0, .int 0, .ref q_31, .ref q_33, .ref q_35, .int 0, .ref q_37, .ref q_39, .int 0, .ref q_41, .int 0]))]) [0] (by decide) rfl
  have hKc := hK.sub (tys' := []) [] rfl
  have hFc := va_free (wc := [(h0, .inr (12, [.int 0, .ref q_1, .ref q_3, .ref q_5, .ref q_7, .ref q_1, .int 0, .int 0, .int 0, .int 0, .int 0, .int (-1), .int 0, .int 0, .int 0, .ref aY, .ref aT, .int 0, .ref q_9, .ref q_11, .ref q_13, .ref q_15, .ref q_17, .int 0, .int 0, .int 0, .int 0, .int 0, .int 0, .int 0, .int 0, .int 0, .ref q_19, .ref q_21, .int (-1), .int 0, .ref q_23, .ref q_25, .ref q_27, .int 0, .long 0, .ref q_29, .int 0, .int 0, .ref q_31, .ref q_33, .ref q_35, .int 0, .ref q_37, .ref q_39, .int 0, .ref q_41, .int 0]))]) hD hS hA [0] rfl
  refine va_calli (va_runV (As := []) (rest := []) ⟨hx, hb, hml, hown, hts⟩ (m_look l dC dI h0 q_1 q_3 q_5 q_7 (-1) 0 aY aT q_9 q_11 q_13 q_15 q_17 q_19 q_21 q_23 q_25 q_27 q_29 q_31 q_33 q_35 q_37 q_39 q_41 s.heap.size) (cwV 0 hts g_m_readClause_1_m_look rfl rfl rfl (by decide +kernel) ⟨Nat.le_of_ble_eq_true rfl, Nat.le_of_ble_eq_true rfl⟩) ⟨fun a U g mk q => by obtain ⟨q0, q1, qP, qK, qD⟩ := q; exact ⟨q0, q1, qP, va_K.moved (u := U) (U := U.calling g mk a) (Vm.Alike.refl U.vm) qK, qD⟩, va_recv hK hP (ci := 12) (q0 := 0) rfl rfl, fun U hU hW => ⟨rfl, by rw [hU], by rw [hU]; exact hPc, va_K.moved hW.alike hKc, hDc.weaken (fun _ _ _ _ => trivial)⟩⟩ rfl rfl hl.1 rfl (lv_room (Nat.le_of_ble_eq_true rfl)) dX12_readClause_1 ⟨Nat.le_of_ble_eq_true rfl, Nat.le_of_ble_eq_true rfl⟩) hS (fun q _ h => hFc q h) hFc (fun r_1 u t H1 locs ht hvm hw hB hz1 hk1 hS => ?_)
  obtain ⟨hP1, hK1, hD1⟩ := hB
  rw [ht] at hP1
  have hK1 := va_K.moved hvm.symm hK1
  try dsimp only at hw
  obtain ⟨hP, hD⟩ := va_join (wr := []) (w1 := [(h0, .inr (12, [.int 0, .ref q_1, .ref q_3, .ref q_5, .ref q_7, .ref q_1, .int 0, .int 0, .int 0, .int 0, .int 0, .int (-1), .int 0, .int 0, .int 0, .ref aY, .ref aT, .int 0, .ref q_9, .ref q_11, .ref q_13, .ref q_15, .ref q_17, .int 0, .int 0, .int 0, .int 0, .int 0, .int 0, .int 0, .int 0, .int 0, .ref q_19, .ref q_21, .int (-1), .int 0, .ref q_23, .ref q_25, .ref q_27, .int 0, .long 0, .ref q_29, .int 0, .int 0, .ref q_31, .ref q_33, .ref q_35, .int 0, .ref q_37, .ref q_39, .int 0, .ref q_41, .int 0]))]) hP hD [0] [] rfl rfl (by decide) (by decide) hk1 hFc hP1 hD1
  have hK := hK.app hK1
  generalize H1 = H at hP hS ⊢
  have hP : va_P (dC, dI) vwCl [(h0, .inr (12, [.int 0, .ref q_1, .ref q_3, .ref q_5, .ref q_7, .ref q_1, .int 0, .int 0, .int 0, .int 0, .int 0, .int (-1), .int 0, .int 0, .int 0, .ref aY, .ref aT, .int 0, .ref q_9, .ref q_11, .ref q_13, .ref q_15, .ref q_17, .int 0, .int 0, .int 0, .int 0, .int 0, .int 0, .int 0, .int 0, .int 0, .ref q_19, .ref q_21, .int (-1), .int 0, .ref q_23, .ref q_25, .ref q_27, .int 0, .long 0, .ref q_29, .int 0, .int 0, .ref q_31, .ref q_33, .ref q_35, .int 0, .ref q_37, .ref q_39, .int 0, .ref q_41, .int 0]))] H := hP
  have hD : va_D A [(h0, .inr (12, [.int 0, .ref q_1, .ref q_3, .ref q_5, .ref q_7, .ref q_1, .int 0, .int 0, .int 0, .int 0, .int 0, .int (-1), .int 0, .int 0, .int 0, .ref aY, .ref aT, .int 0, .ref q_9, .ref q_11, .ref q_13, .ref q_15, .ref q_17, .int 0, .int 0, .int 0, .int 0, .int 0, .int 0, .int 0, .int 0, .int 0, .ref q_19, .ref q_21, .int (-1), .int 0, .ref q_23, .ref q_25, .ref q_27, .int 0, .long 0, .ref q_29, .int 0, .int 0, .ref q_31, .ref q_33, .ref q_35, .int 0, .ref q_37, .ref q_39, .int 0, .ref q_41, .int 0]))] := hD
  have hK : va_K (dC, dI) vwCl [] s := hK
  refine W.widen (k := 0) (n := 0) (Nat.le_of_ble_eq_true rfl) (Nat.le_of_ble_eq_true rfl) ?_
  obtain rfl : r_1 = (-1) := hw
  refine lv_istore_n (lv' := [(1, .int (-1)), (0, .ref h0)]) hx hb dX12_readClause_4 rfl hl (by decide) rfl (fun ls hl => ?_)
  refine lv_iload_n hx hb dX12_readClause_5 rfl (lv_at hl 0 rfl) ?_
  refine lv_bipush (v := 115) hx hb dX12_readClause_6 (by decide +kernel) ?_
  refine lv_icmp_ne (tgt := 18) hx hb dX12_readClause_8 (by decide) (fun c_2 => ?_) (fun c_2 => absurd c_2 (by decide +kernel))
  refine lv_iload_n hx hb dX12_readClause_18 rfl (lv_at hl 0 rfl) ?_
  refine lv_bipush (v := 116) hx hb dX12_readClause_19 (by decide +kernel) ?_
  refine lv_icmp_ne (tgt := 33) hx hb dX12_readClause_21 (by decide) (fun c_3 => ?_) (fun c_3 => absurd c_3 (by decide +kernel))
  refine lv_iload_n hx hb dX12_readClause_33 rfl (lv_at hl 0 rfl) ?_
  refine lv_bipush (v := 98) hx hb dX12_readClause_34 (by decide +kernel) ?_
  refine lv_icmp_ne (tgt := 52) hx hb dX12_readClause_36 (by decide) (fun c_4 => ?_) (fun c_4 => absurd c_4 (by decide +kernel))
  refine lv_iconst (v := 0) hx hb dX12_readClause_52 (by decide +kernel) ?_
  refine lv_istore_n (lv' := [(2, .int 0), (1, .int (-1)), (0, .ref h0)]) hx hb dX12_readClause_53 rfl hl (by decide) rfl (fun ls hl => ?_)
  refine lv_iload_n hx hb dX12_readClause_54 rfl (lv_at hl 0 rfl) ?_
  refine lv_if_ne (tgt := 64) hx hb dX12_readClause_55 (by decide) (fun c_5 => absurd (by decide +kernel) c_5) (fun c_5 => ?_)
  refine lv_aload_n hx hb dX12_readClause_58 rfl (lv_at hl 2 rfl) ?_
  have hPc := hP.sub (ws' := [(h0, .inr (12, [.int 0, .ref q_1, .ref q_3, .ref q_5, .ref q_7, .ref q_1, .int 0, .int 0, .int 0, .int 0, .int 0, .int (-1), .int 0, .int 0, .int 0, .ref aY, .ref aT, .int 0, .ref q_9, .ref q_11, .ref q_13, .ref q_15, .ref q_17, .int 0, .int 0, .int 0, .int 0, .int 0, .int 0, .int 0, .int 0, .int 0, .ref q_19, .ref q_21, .int (-1), .int 0, .ref q_23, .ref q_25, .ref q_27, .int 0, .long 0, .ref q_29, .int 0, .int 0, .ref q_31, .ref q_33, .ref q_35, .int 0, .ref q_37, .ref q_39, .int 0, .ref q_41, .int 0]))]) [0] rfl
  have hDc := hD.sub (ws' := [(h0, .inr (12, [.int 0, .ref q_1, .ref q_3, .ref q_5, .ref q_7, .ref q_1, .int 0, .int 0, .int 0, .int 0, .int 0, .int (-1), .int 0, .int 0, .int 0, .ref aY, .ref aT, .int 0, .ref q_9, .ref q_11, .ref q_13, .ref q_15, .ref q_17, .int 0, .int 0, .int 0, .int 0, .int 0, .int 0, .int 0, .int 0, .int 0, .ref q_19, .ref q_21, .int (-1), .int 0, .ref q_23, .ref q_25, .ref q_27, .int 0, .long 0, .ref q_29, .int 0, .int 0, .ref q_31, .ref q_33, .ref q_35, .int 0, .ref q_37, .ref q_39, .int 0, .ref q_41, .int 0]))]) [0] (by decide) rfl
  have hKc := hK.sub (tys' := []) [] rfl
  have hFc := va_free (wc := [(h0, .inr (12, [.int 0, .ref q_1, .ref q_3, .ref q_5, .ref q_7, .ref q_1, .int 0, .int 0, .int 0, .int 0, .int 0, .int (-1), .int 0, .int 0, .int 0, .ref aY, .ref aT, .int 0, .ref q_9, .ref q_11, .ref q_13, .ref q_15, .ref q_17, .int 0, .int 0, .int 0, .int 0, .int 0, .int 0, .int 0, .int 0, .int 0, .ref q_19, .ref q_21, .int (-1), .int 0, .ref q_23, .ref q_25, .ref q_27, .int 0, .long 0, .ref q_29, .int 0, .int 0, .ref q_31, .ref q_33, .ref q_35, .int 0, .ref q_37, .ref q_39, .int 0, .ref q_41, .int 0]))]) hD hS hA [0] rfl
  refine va_calli (va_runV (As := []) (rest := []) ⟨hx, hb, hml, hown, hts⟩ (m_fails l dC dI h0 q_1 q_3 q_5 q_7 0 aY aT q_9 q_11 q_13 q_15 q_17 q_19 q_21 q_23 q_25 q_27 q_29 q_31 q_33 q_35 q_37 q_39 q_41 H.size) (cwV 0 hts g_m_readClause_59_m_fails rfl rfl rfl (by decide +kernel) ⟨Nat.le_of_ble_eq_true rfl, Nat.le_of_ble_eq_true rfl⟩) ⟨fun a U g mk q => by obtain ⟨q0, q1, qP, qK, qD⟩ := q; exact ⟨q0, q1, qP, va_K.moved (u := U) (U := U.calling g mk a) (Vm.Alike.refl U.vm) qK, qD⟩, va_recv hK hP (ci := 12) (q0 := 0) rfl rfl, fun U hU hW => ⟨rfl, by rw [hU], by rw [hU]; exact hPc, va_K.moved hW.alike hKc, hDc.weaken (fun _ _ _ _ => trivial)⟩⟩ rfl rfl hl.1 rfl (lv_room (Nat.le_of_ble_eq_true rfl)) dX12_readClause_59 ⟨Nat.le_of_ble_eq_true rfl, Nat.le_of_ble_eq_true rfl⟩) hS (fun q _ h => hFc q h) hFc (fun r_6 u t H1 locs ht hvm hw hB hz1 hk1 hS => ?_)
  obtain ⟨hP1, hK1, hD1⟩ := hB
  rw [ht] at hP1
  have hK1 := va_K.moved hvm.symm hK1
  try dsimp only at hw
  obtain ⟨hP, hD⟩ := va_join (wr := []) (w1 := [(h0, .inr (12, [.int 0, .ref q_1, .ref q_3, .ref q_5, .ref q_7, .ref q_1, .int 0, .int 0, .int 0, .int 0, .int 0, .int 0, .int 0, .int 0, .int 0, .ref aY, .ref aT, .int 0, .ref q_9, .ref q_11, .ref q_13, .ref q_15, .ref q_17, .int 0, .int 0, .int 0, .int 0, .int 0, .int 0, .int 0, .int 0, .int 0, .ref q_19, .ref q_21, .int (-1), .int 0, .ref q_23, .ref q_25, .ref q_27, .int 0, .long 0, .ref q_29, .int 0, .int 0, .ref q_31, .ref q_33, .ref q_35, .int 0, .ref q_37, .ref q_39, .int 0, .ref q_41, .int 0]))]) hP hD [0] [] rfl rfl (by decide) (by decide) hk1 hFc hP1 hD1
  have hK := hK.app hK1
  generalize H1 = H at hP hS ⊢
  have hP : va_P (dC, dI) vwCl [(h0, .inr (12, [.int 0, .ref q_1, .ref q_3, .ref q_5, .ref q_7, .ref q_1, .int 0, .int 0, .int 0, .int 0, .int 0, .int 0, .int 0, .int 0, .int 0, .ref aY, .ref aT, .int 0, .ref q_9, .ref q_11, .ref q_13, .ref q_15, .ref q_17, .int 0, .int 0, .int 0, .int 0, .int 0, .int 0, .int 0, .int 0, .int 0, .ref q_19, .ref q_21, .int (-1), .int 0, .ref q_23, .ref q_25, .ref q_27, .int 0, .long 0, .ref q_29, .int 0, .int 0, .ref q_31, .ref q_33, .ref q_35, .int 0, .ref q_37, .ref q_39, .int 0, .ref q_41, .int 0]))] H := hP
  have hD : va_D A [(h0, .inr (12, [.int 0, .ref q_1, .ref q_3, .ref q_5, .ref q_7, .ref q_1, .int 0, .int 0, .int 0, .int 0, .int 0, .int 0, .int 0, .int 0, .int 0, .ref aY, .ref aT, .int 0, .ref q_9, .ref q_11, .ref q_13, .ref q_15, .ref q_17, .int 0, .int 0, .int 0, .int 0, .int 0, .int 0, .int 0, .int 0, .int 0, .ref q_19, .ref q_21, .int (-1), .int 0, .ref q_23, .ref q_25, .ref q_27, .int 0, .long 0, .ref q_29, .int 0, .int 0, .ref q_31, .ref q_33, .ref q_35, .int 0, .ref q_37, .ref q_39, .int 0, .ref q_41, .int 0]))] := hD
  have hK : va_K (dC, dI) vwCl [] s := hK
  refine W.widen (k := 0) (n := 0) (Nat.le_of_ble_eq_true rfl) (Nat.le_of_ble_eq_true rfl) ?_
  obtain rfl : r_6 = 0 := hw
  refine lv_pop hx hb dX12_readClause_62 rfl ?_
  refine W.widen (k := 0) (n := 0) (Nat.le_of_ble_eq_true rfl) (Nat.le_of_ble_eq_true rfl) ?_
  have hP9 := hP.sub (ws' := [(h0, .inr (12, [.int 0, .ref q_1, .ref q_3, .ref q_5, .ref q_7, .ref q_1, .int 0, .int 0, .int 0, .int 0, .int 0, .int 0, .int 0, .int 0, .int 0, .ref aY, .ref aT, .int 0, .ref q_9, .ref q_11, .ref q_13, .ref q_15, .ref q_17, .int 0, .int 0, .int 0, .int 0, .int 0, .int 0, .int 0, .int 0, .int 0, .ref q_19, .ref q_21, .int (-1), .int 0, .ref q_23, .ref q_25, .ref q_27, .int 0, .long 0, .ref q_29, .int 0, .int 0, .ref q_31, .ref q_33, .ref q_35, .int 0, .ref q_37, .ref q_39, .int 0, .ref q_41, .int 0]))]) [0] rfl
  have hD9 := hD.sub (ws' := [(h0, .inr (12, [.int 0, .ref q_1, .ref q_3, .ref q_5, .ref q_7, .ref q_1, .int 0, .int 0, .int 0, .int 0, .int 0, .int 0, .int 0, .int 0, .int 0, .ref aY, .ref aT, .int 0, .ref q_9, .ref q_11, .ref q_13, .ref q_15, .ref q_17, .int 0, .int 0, .int 0, .int 0, .int 0, .int 0, .int 0, .int 0, .int 0, .ref q_19, .ref q_21, .int (-1), .int 0, .ref q_23, .ref q_25, .ref q_27, .int 0, .long 0, .ref q_29, .int 0, .int 0, .ref q_31, .ref q_33, .ref q_35, .int 0, .ref q_37, .ref q_39, .int 0, .ref q_41, .int 0]))]) [0] (by decide) rfl
  have hK9 := hK.sub (tys' := []) [] rfl
  exact W.vret hx hb hr (fun t ht hW => ⟨⟨(), rfl, trivial, by rw [ht]; exact hP9, va_K.moved hW.alike hK9, hD9⟩, hS.F ht⟩) hS.2.2 dX12_readClause_63
