set_option maxHeartbeats 20000000 in
set_option maxRecDepth 1000000 in
theorem pr_usual {p : Program} {s : State} {m : MethodId} {meth : Method} {c : Code} {b L : Nat} {xs : Nat → Int32} (C0 : lw_At p s m meth c b L xs) : ∃ (tU : Nat) (fU : Nat → Int32), P_UT tU fU (fun q : Nat => s.heap.size ≤ q) s := by
  obtain ⟨hx, hb, hr, hml, hown, hts0, hX, hbl, hlocks, hgv⟩ := id C0
  have hAn : ∀ a : Nat, a < s.heap.size → ¬ (fun q : Nat => s.heap.size ≤ q) a := fun a h => Nat.not_le.mpr h
  have hfl := flat_of_before _ hgv
  obtain ⟨tU, hUe, hUt⟩ := va_Tof (args := #[Value.ref b]) (s := s) (tm := .static "LawnAhead$Ground" "USUAL" "[I") (ty := .int) (N := 7) (f := fun j => .int (([5, 4, 3, 2, 0, 8, 0] : List Int32).getD j 0)) (A := (fun q : Nat => s.heap.size ≤ q)) (by decide) (hfl _ (by decide +kernel)) (va_eqt (hfl _ (by decide +kernel)))
    (fun j hj => by rcases (show j = 0 ∨ j = 1 ∨ j = 2 ∨ j = 3 ∨ j = 4 ∨ j = 5 ∨ j = 6 by omega) with rfl | rfl | rfl | rfl | rfl | rfl | rfl <;> exact va_eqt (hfl _ (by decide +kernel))) hAn
  exact ⟨tU, fun j => ([5, 4, 3, 2, 0, 8, 0] : List Int32).getD j 0, va_Zref (hts0 (.laysStatic "LawnAhead$Ground" "USUAL" "[I") (List.mem_of_getElem? (i := 633) (by decide +kernel))) (hts0 (.initialized RX4) (List.mem_of_getElem? (i := 121) (by decide +kernel))) hUe hAn, hUt⟩

set_option maxHeartbeats 20000000 in
set_option maxRecDepth 1000000 in
theorem pr_throw {p : Program} {s : State} {m : MethodId} {meth : Method} {c : Code} {b L : Nat} {xs : Nat → Int32} (C0 : lw_At p s m meth c b L xs) : vx_Zq Bundle.tN "UNASSIGNED_STACK" Bundle.steD (fun q : Nat => s.heap.size ≤ q) s s.heap ∧ vx_Zq Bundle.tN "SUPPRESSED_SENTINEL" Bundle.listD (fun q : Nat => s.heap.size ≤ q) s s.heap ∧ va_Nw (.declares (Bundle.init0 "java/lang/RuntimeException")) s ∧ va_Nw (.declares (Bundle.init0 "java/lang/Exception")) s ∧ va_Nw (.declares (Bundle.init0 Bundle.tN)) s ∧ va_Nw (.castable "java/util/NoSuchElementException" "java/util/NoSuchElementException") s := by
  obtain ⟨hx, hb, hr, hml, hown, hts0, hX, hbl, hlocks, hgv⟩ := id C0
  have hAn : ∀ a : Nat, a < s.heap.size → ¬ (fun q : Nat => s.heap.size ≤ q) a := fun a h => Nat.not_le.mpr h
  have hfl := flat_of_before _ hgv
  exact ⟨vx_Zqof (hts0 (.laysStatic Bundle.tN "UNASSIGNED_STACK" Bundle.steD) (List.mem_of_getElem? (i := 1449) (by decide +kernel))) (hts0 (.initialized Bundle.tN) (List.mem_of_getElem? (i := 136) (by decide +kernel))) (hfl _ (by decide +kernel)) hAn, vx_Zqof (hts0 (.laysStatic Bundle.tN "SUPPRESSED_SENTINEL" Bundle.listD) (List.mem_of_getElem? (i := 1451) (by decide +kernel))) (hts0 (.initialized Bundle.tN) (List.mem_of_getElem? (i := 136) (by decide +kernel))) (hfl _ (by decide +kernel)) hAn, va_Nw.of rfl (hts0 (.declares (Bundle.init0 "java/lang/RuntimeException")) (List.mem_of_getElem? (i := 1425) (by decide +kernel))), va_Nw.of rfl (hts0 (.declares (Bundle.init0 "java/lang/Exception")) (List.mem_of_getElem? (i := 1427) (by decide +kernel))), va_Nw.of rfl (hts0 (.declares (Bundle.init0 Bundle.tN)) (List.mem_of_getElem? (i := 1429) (by decide +kernel))), va_Nw.of rfl (hts0 (.castable "java/util/NoSuchElementException" "java/util/NoSuchElementException") (List.mem_of_getElem? (i := 1424) (by decide +kernel)))⟩
