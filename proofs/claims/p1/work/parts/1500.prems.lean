set_option maxHeartbeats 20000000 in
set_option maxRecDepth 1000000 in
theorem pr_classes {p : Program} {s : State} {m : MethodId} {meth : Method} {c : Code} {b L : Nat} {xs : Nat → Int32} (C0 : lw_At p s m meth c b L xs) : ∃ (dC : Nat → ClassId) (dI : Nat → Nat → Nat), va_K (dC, dI) vwCl [] s := by
  obtain ⟨hx, hb, hr, hml, hown, hts0, hX, hbl, hlocks, hgv⟩ := id C0
  have hAn : ∀ a : Nat, a < s.heap.size → ¬ (fun q : Nat => s.heap.size ≤ q) a := fun a h => Nat.not_le.mpr h
  obtain ⟨c0, i0, k0⟩ := u_known (C := RX0) (T := TX0) (N := 5) (n := 5) hts0 inT_X0 (hts0 (.instantiable RX0 5) (List.mem_of_getElem? (i := 469) (by decide +kernel)))
  obtain ⟨c1, i1, k1⟩ := u_known (C := RX1) (T := TX1) (N := 3) (n := 3) hts0 inT_X1 (hts0 (.instantiable RX1 3) (List.mem_of_getElem? (i := 532) (by decide +kernel)))
  obtain ⟨c2, i2, k2⟩ := u_known (C := RX2) (T := TX2) (N := 10) (n := 10) hts0 inT_X2 (hts0 (.instantiable RX2 10) (List.mem_of_getElem? (i := 493) (by decide +kernel)))
  obtain ⟨c3, i3, k3⟩ := u_known (C := RX3) (T := TX3) (N := 3) (n := 3) hts0 inT_X3 (hts0 (.instantiable RX3 3) (List.mem_of_getElem? (i := 203) (by decide +kernel)))
  obtain ⟨c4, i4, k4⟩ := u_known (C := RX4) (T := TX4) (N := 15) (n := 15) hts0 inT_X4 (hts0 (.instantiable RX4 15) (List.mem_of_getElem? (i := 318) (by decide +kernel)))
  obtain ⟨c5, i5, k5⟩ := u_known (C := RX5) (T := TX5) (N := 11) (n := 11) hts0 inT_X5 (hts0 (.instantiable RX5 11) (List.mem_of_getElem? (i := 274) (by decide +kernel)))
  obtain ⟨c6, i6, k6⟩ := u_known (C := RX6) (T := TX6) (N := 7) (n := 7) hts0 inT_X6 (hts0 (.instantiable RX6 7) (List.mem_of_getElem? (i := 175) (by decide +kernel)))
  obtain ⟨c7, i7, k7⟩ := u_known (C := RX7) (T := TX7) (N := 9) (n := 9) hts0 inT_X7 (hts0 (.instantiable RX7 9) (List.mem_of_getElem? (i := 429) (by decide +kernel)))
  obtain ⟨c8, i8, k8⟩ := u_known (C := RX8) (T := TX8) (N := 9) (n := 9) hts0 inT_X8 (hts0 (.instantiable RX8 9) (List.mem_of_getElem? (i := 384) (by decide +kernel)))
  obtain ⟨c9, i9, k9⟩ := u_known (C := RX9) (T := TX9) (N := 8) (n := 8) hts0 inT_X9 (hts0 (.instantiable RX9 8) (List.mem_of_getElem? (i := 224) (by decide +kernel)))
  obtain ⟨c10, i10, k10⟩ := u_known (C := RX10) (T := TX10) (N := 4) (n := 4) hts0 inT_X10 (hts0 (.instantiable RX10 4) (List.mem_of_getElem? (i := 150) (by decide +kernel)))
  obtain ⟨c11, i11, k11⟩ := u_known (C := RX11) (T := TX11) (N := 17) (n := 17) hts0 inT_X11 (hts0 (.instantiable RX11 17) (List.mem_of_getElem? (i := 142) (by decide +kernel)))
  obtain ⟨c12, i12, k12⟩ := u_known (C := RX12) (T := TX12) (N := 53) (n := 53) hts0 inT_X12 (hts0 (.instantiable RX12 53) (List.mem_of_getElem? (i := 1485) (by decide +kernel)))
  refine ⟨fun k => [c0, c1, c2, c3, c4, c5, c6, c7, c8, c9, c10, c11, c12].getD k c0, fun k => [i0, i1, i2, i3, i4, i5, i6, i7, i8, i9, i10, i11, i12].getD k i0, ?_, fun k q h => by simp at h⟩
  intro k q hq
  match k, hq with
  | 0, hq => cases hq; exact k0
  | 1, hq => cases hq; exact k1
  | 2, hq => cases hq; exact k2
  | 3, hq => cases hq; exact k3
  | 4, hq => cases hq; exact k4
  | 5, hq => cases hq; exact k5
  | 6, hq => cases hq; exact k6
  | 7, hq => cases hq; exact k7
  | 8, hq => cases hq; exact k8
  | 9, hq => cases hq; exact k9
  | 10, hq => cases hq; exact k10
  | 11, hq => cases hq; exact k11
  | 12, hq => cases hq; exact k12
  | k + 13, hq => simp [vwCl] at hq

set_option maxHeartbeats 20000000 in
set_option maxRecDepth 1000000 in
theorem pr_nests {p : Program} {s : State} {m : MethodId} {meth : Method} {c : Code} {b L : Nat} {xs : Nat → Int32} (C0 : lw_At p s m meth c b L xs) : va_Nw (.methodLinkNest RX11 9 yX10_init RX11) s ∧ va_Nw (.methodLinkNest RX11 28 yX6_init RX11) s ∧ va_Nw (.methodLinkNest RX11 29 yX3_init RX11) s ∧ va_Nw (.methodLinkNest RX11 32 yX9_init RX11) s ∧ va_Nw (.methodLinkNest RX11 46 yX4_init RX11) s ∧ va_Nw (.methodLinkNest RX11 88 yX1_init RX11) s ∧ va_Nw (.methodLinkNest RX5 19 yX9_init RX11) s ∧ va_Nw (.methodLinkNest RX7 26 yX3_init RX11) s ∧ va_Nw (.methodLinkNest RX7 35 yX9_init RX11) s ∧ va_AO RX9 s ∧ va_AO RX6 s ∧ va_AO RX3 s := by
  obtain ⟨hx, hb, hr, hml, hown, hts0, hX, hbl, hlocks, hgv⟩ := id C0
  have hAn : ∀ a : Nat, a < s.heap.size → ¬ (fun q : Nat => s.heap.size ≤ q) a := fun a h => Nat.not_le.mpr h
  exact ⟨va_Nw.of rfl (hts0 (.methodLinkNest RX11 9 yX10_init RX11) (List.mem_of_getElem? (i := 151) (by decide +kernel))), va_Nw.of rfl (hts0 (.methodLinkNest RX11 28 yX6_init RX11) (List.mem_of_getElem? (i := 176) (by decide +kernel))), va_Nw.of rfl (hts0 (.methodLinkNest RX11 29 yX3_init RX11) (List.mem_of_getElem? (i := 204) (by decide +kernel))), va_Nw.of rfl (hts0 (.methodLinkNest RX11 32 yX9_init RX11) (List.mem_of_getElem? (i := 225) (by decide +kernel))), va_Nw.of rfl (hts0 (.methodLinkNest RX11 46 yX4_init RX11) (List.mem_of_getElem? (i := 319) (by decide +kernel))), va_Nw.of rfl (hts0 (.methodLinkNest RX11 88 yX1_init RX11) (List.mem_of_getElem? (i := 533) (by decide +kernel))), va_Nw.of rfl (hts0 (.methodLinkNest RX5 19 yX9_init RX11) (List.mem_of_getElem? (i := 281) (by decide +kernel))), va_Nw.of rfl (hts0 (.methodLinkNest RX7 26 yX3_init RX11) (List.mem_of_getElem? (i := 436) (by decide +kernel))), va_Nw.of rfl (hts0 (.methodLinkNest RX7 35 yX9_init RX11) (List.mem_of_getElem? (i := 437) (by decide +kernel))), va_AO.of (hts0 (.arrayOver (.object RX9)) (List.mem_of_getElem? (i := 280) (by decide +kernel))), va_AO.of (hts0 (.arrayOver (.object RX6)) (List.mem_of_getElem? (i := 172) (by decide +kernel))), va_AO.of (hts0 (.arrayOver (.object RX3)) (List.mem_of_getElem? (i := 174) (by decide +kernel)))⟩

set_option maxHeartbeats 20000000 in
set_option maxRecDepth 1000000 in
theorem pr_cs {p : Program} {s : State} {m : MethodId} {meth : Method} {c : Code} {b L : Nat} {xs : Nat → Int32} (C0 : lw_At p s m meth c b L xs) : va_Z "java/lang/String" "COMPACT_STRINGS" "Z" (.int 1) (fun q : Nat => s.heap.size ≤ q) s s.heap ∧ va_Zq "jdk/internal/util/Preconditions" "SIOOBE_FORMATTER" "Ljava/util/function/BiFunction;" (fun q : Nat => s.heap.size ≤ q) s s.heap := by
  obtain ⟨hx, hb, hr, hml, hown, hts0, hX, hbl, hlocks, hgv⟩ := id C0
  have hAn : ∀ a : Nat, a < s.heap.size → ¬ (fun q : Nat => s.heap.size ≤ q) a := fun a h => Nat.not_le.mpr h
  have hfl := flat_of_before _ hgv
  exact ⟨va_Zof (hts0 (.laysStatic "java/lang/String" "COMPACT_STRINGS" "Z") (List.mem_of_getElem? (i := 678) (by decide +kernel))) (hts0 (.initialized "java/lang/String") (List.mem_of_getElem? (i := 130) (by decide +kernel))) (va_eqi (hfl _ (by decide +kernel))) hAn, va_Zqof (hts0 (.laysStatic "jdk/internal/util/Preconditions" "SIOOBE_FORMATTER" "Ljava/util/function/BiFunction;") (List.mem_of_getElem? (i := 719) (by decide +kernel))) (hts0 (.initialized "jdk/internal/util/Preconditions") (List.mem_of_getElem? (i := 133) (by decide +kernel))) (hfl _ (by decide +kernel)) hAn⟩
