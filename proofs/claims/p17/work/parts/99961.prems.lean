def R_law : String := "LawnAheadLaw"
def lw_P (b : Addr) (xs : List Int32) (args : Array Value) (s : State) : Prop := args = #[.ref b] ∧ s.IntsAt b xs ∧ xs.length ≤ 3072 ∧ (Jvm.Cond.and given_1 narrow_1).before args s = true
def lw_Q (_ : Array Value) (s : State) (o : Outcome) (t : State) : Prop := o = .returned (some (.int 1)) ∧ Framed s o t [] 601024 7293034
def lw_Z (below : List Frame) (a : Array Value) (s : State) : State → Prop := fun t => ∃ o, t.status = .running ∧ Ended t below o ∧ lw_Q a s o t
/-- the law's own end, with 1 on the stack, nothing written that was there before, its room as the claim has it -/
theorem lw_ret {p : Program} {l : Launch} {e : Env} {s : State} {m : MethodId} {below : List Frame} {meth : Method} {c : Code} {b : Nat} (hx : p.tables.exec = Jvm.exec) (hb : c.code = code) (hr : meth.sig.returnType = ret) (hlocks : meth.locks = false) {pc : Nat} {H : Heap} {ls : Array Slot} (hdg : decode code pc = .ok (.ireturn, 1)) : W p l e room_1 s m #[Value.ref b] below meth c H [] 601024 7293034 (lw_Z below #[Value.ref b] s) (F0 m pc ls [.int 1]) := by
  intro T hT X
  obtain ⟨fs, hret, hrun, hended, hW, hframe⟩ := X.leave (v := some (.int 1)) (hlocks := hlocks) (fun h => by rw [hr] at h; cases h)
  have hmeth' : T.vm.method? m = some meth := X.method'
  refine ⟨T.setFrames fs, ?_, .returned (some (.int 1)), hrun, hended, rfl, ⟨_, rfl⟩, hW, hframe⟩
  jvm_step X.here [X.here.top, hx, hb, hdg, hmeth', hr, ret, narrow_b1]
  (try refine ⟨rfl, ?_⟩); (try refine ⟨rfl, ?_⟩)
  first | (intro acts; rw [hret _ acts rfl rfl rfl]) | rw [hret _ _ rfl rfl rfl]
  exact Steps.refl _
/-- what holds at the law's entry: the machine, the code, the tables' words (any of lw_tbl by 'hts w (by decide +kernel)'), the script of L ints xs at the cell b, what the Statement gives of the start (any of its parts by flat_of_before) -/
def lw_At (p : Program) (s : State) (m : MethodId) (meth : Method) (c : Code) (b L : Nat) (xs : Nat → Int32) : Prop :=
  p.tables.exec = Jvm.exec ∧ c.code = code ∧ meth.sig.returnType = ret ∧ c.maxLocals = 7 ∧ s.vm.findClass R_law = some m.cls ∧ (∀ w ∈ lw_tbl, w.before #[Value.ref b] s = true) ∧ va_X b L xs s s.heap ∧ b < s.heap.size ∧ meth.locks = false ∧ (Jvm.Cond.and given_1 narrow_1).before #[Value.ref b] s = true
theorem in_at {big : List Cond} (ws : List Cond) (ps : List Nat) (hp : ws = ps.filterMap (fun i => big[i]?)) : ∀ w ∈ ws, w ∈ big := by
  intro w hw
  rw [hp] at hw
  obtain ⟨i, -, hi⟩ := List.mem_filterMap.mp hw
  exact List.mem_of_getElem? hi

set_option maxRecDepth 1000000 in
theorem inT_X0 : ∀ w ∈ wsX00, w ∈ lw_tbl := in_at _ [481, 483, 485, 487, 489] (by decide +kernel)

set_option maxRecDepth 1000000 in
theorem inT_X1 : ∀ w ∈ wsX10, w ∈ lw_tbl := in_at _ [541, 543, 545] (by decide +kernel)

set_option maxRecDepth 1000000 in
theorem inT_X2 : ∀ w ∈ wsX20, w ∈ lw_tbl := in_at _ [510, 512, 514, 516, 518, 520, 522, 524, 526, 528] (by decide +kernel)

set_option maxRecDepth 1000000 in
theorem inT_X3 : ∀ w ∈ wsX30, w ∈ lw_tbl := in_at _ [216, 218, 220] (by decide +kernel)

set_option maxRecDepth 1000000 in
theorem inT_X4 : ∀ w ∈ wsX40, w ∈ lw_tbl := in_at _ [352, 354, 356, 358, 360, 362, 364, 366, 368, 370, 372, 374, 376, 378, 380] (by decide +kernel)

set_option maxRecDepth 1000000 in
theorem inT_X5 : ∀ w ∈ wsX50, w ∈ lw_tbl := in_at _ [294, 296, 298, 300, 302, 304, 306, 308, 310, 312, 314] (by decide +kernel)

set_option maxRecDepth 1000000 in
theorem inT_X6 : ∀ w ∈ wsX60, w ∈ lw_tbl := in_at _ [188, 190, 192, 194, 196, 198, 200] (by decide +kernel)

set_option maxRecDepth 1000000 in
theorem inT_X7 : ∀ w ∈ wsX70, w ∈ lw_tbl := in_at _ [449, 451, 453, 455, 457, 459, 461, 463, 465] (by decide +kernel)

set_option maxRecDepth 1000000 in
theorem inT_X8 : ∀ w ∈ wsX80, w ∈ lw_tbl := in_at _ [409, 411, 413, 415, 417, 419, 421, 423, 425] (by decide +kernel)

set_option maxRecDepth 1000000 in
theorem inT_X9 : ∀ w ∈ wsX90, w ∈ lw_tbl := in_at _ [256, 258, 260, 262, 264, 266, 268, 270] (by decide +kernel)

set_option maxRecDepth 1000000 in
theorem inT_X10 : ∀ w ∈ wsX100, w ∈ lw_tbl := in_at _ [161, 163, 165, 167] (by decide +kernel)

set_option maxRecDepth 1000000 in
theorem inT_X11 : ∀ w ∈ wsX110, w ∈ lw_tbl := in_at _ [566, 568, 570, 572, 574, 576, 578, 580, 582, 584, 586, 588, 590, 592, 594, 596, 598] (by decide +kernel)

set_option maxRecDepth 1000000 in
theorem inT_X12 : ∀ w ∈ wsX120, w ∈ lw_tbl := in_at _ [1545, 1547, 1549, 1551, 1553, 1555, 1557, 1559, 1561, 1563, 1565, 1567, 1569, 1571, 1573, 1575, 1577, 1579, 1581, 1583, 1585, 1587, 1589, 1591, 1593, 1595, 1597, 1599, 1601, 1603, 1605, 1607, 1609, 1611, 1613, 1615, 1617, 1619, 1621, 1623, 1625, 1627, 1629, 1631, 1633, 1635, 1637, 1639, 1641, 1643, 1645, 1647, 1649] (by decide +kernel)

set_option maxHeartbeats 20000000 in
set_option maxRecDepth 1000000 in
theorem pr_classes {p : Program} {s : State} {m : MethodId} {meth : Method} {c : Code} {b L : Nat} {xs : Nat → Int32} (C0 : lw_At p s m meth c b L xs) : ∃ (dC : Nat → ClassId) (dI : Nat → Nat → Nat), va_K (dC, dI) vwCl [] s := by
  obtain ⟨hx, hb, hr, hml, hown, hts0, hX, hbl, hlocks, hgv⟩ := id C0
  have hAn : ∀ a : Nat, a < s.heap.size → ¬ (fun q : Nat => s.heap.size ≤ q) a := fun a h => Nat.not_le.mpr h
  obtain ⟨c0, i0, k0⟩ := u_known (C := RX0) (T := TX0) (N := 5) (n := 5) hts0 inT_X0 (hts0 (.instantiable RX0 5) (List.mem_of_getElem? (i := 469) (by decide +kernel)))
  obtain ⟨c1, i1, k1⟩ := u_known (C := RX1) (T := TX1) (N := 3) (n := 3) hts0 inT_X1 (hts0 (.instantiable RX1 3) (List.mem_of_getElem? (i := 532) (by decide +kernel)))
  obtain ⟨c2, i2, k2⟩ := u_known (C := RX2) (T := TX2) (N := 10) (n := 10) hts0 inT_X2 (hts0 (.instantiable RX2 10) (List.mem_of_getElem? (i := 493) (by decide +kernel)))
  obtain ⟨c3, i3, k3⟩ := u_known (C := RX3) (T := TX3) (N := 3) (n := 3) hts0 inT_X3 (hts0 (.instantiable RX3 3) (List.mem_of_getElem? (i := 203) (by decide +kernel)))
  obtain ⟨c4, i4, k4⟩ := u_known (C := RX4) (T := TX4) (N := 15) (n := 15) hts0 inT_X4 (hts0 (.instantiable RX4 15) (List.mem_of_getElem? (i := 318) (by decide +kernel)))
  obtain ⟨c5, i5, k5⟩ := u_known (C := RX5) (T := TX5) (N := 11) (n := 11) hts0 inT_X5 (hts0 (.instantiable RX5 11) (List.mem_of_getElem? (i := 274) (by decide +kernel)))
  obtain ⟨c6, i6, k6⟩ := u_known (C := RX6) (T := TX6) (N := 7) (n := 7) hts0 inT_X6 (hts0 (.instantiable RX6 7) (List.mem_of_getElem? (i := 175) (by decide +kernel)))
  obtain ⟨c7, i7, k7⟩ := u_known (C := RX7) (T := TX7) (N := 9) (n := 9) hts0 inT_X7 (hts0 (.instantiable RX7 9) (List.mem_of_getElem? (i := 429) (by decide +kernel)))
  obtain ⟨c8, i8, k8⟩ := u_known (C := RX8) (T := TX8) (N := 9) (n := 9) hts0 inT_X8 (hts0 (.instantiable RX8 9) (List.mem_of_getElem? (i := 384) (by decide +kernel)))
  obtain ⟨c9, i9, k9⟩ := u_known (C := RX9) (T := TX9) (N := 8) (n := 8) hts0 inT_X9 (hts0 (.instantiable RX9 8) (List.mem_of_getElem? (i := 224) (by decide +kernel)))
  obtain ⟨c10, i10, k10⟩ := u_known (C := RX10) (T := TX10) (N := 4) (n := 4) hts0 inT_X10 (hts0 (.instantiable RX10 4) (List.mem_of_getElem? (i := 150) (by decide +kernel)))
  obtain ⟨c11, i11, k11⟩ := u_known (C := RX11) (T := TX11) (N := 17) (n := 17) hts0 inT_X11 (hts0 (.instantiable RX11 17) (List.mem_of_getElem? (i := 142) (by decide +kernel)))
  obtain ⟨c12, i12, k12⟩ := u_known (C := RX12) (T := TX12) (N := 53) (n := 53) hts0 inT_X12 (hts0 (.instantiable RX12 53) (List.mem_of_getElem? (i := 1485) (by decide +kernel)))
  refine ⟨fun k => [c0, c1, c2, c3, c4, c5, c6, c7, c8, c9, c10, c11, c12].getD k c0, fun k => [i0, i1, i2, i3, i4, i5, i6, i7, i8, i9, i10, i11, i12].getD k i0, ?_, fun k q h => by simp at h⟩
  intro k q hq
  match k, hq with
  | 0, hq => cases hq; exact k0
  | 1, hq => cases hq; exact k1
  | 2, hq => cases hq; exact k2
  | 3, hq => cases hq; exact k3
  | 4, hq => cases hq; exact k4
  | 5, hq => cases hq; exact k5
  | 6, hq => cases hq; exact k6
  | 7, hq => cases hq; exact k7
  | 8, hq => cases hq; exact k8
  | 9, hq => cases hq; exact k9
  | 10, hq => cases hq; exact k10
  | 11, hq => cases hq; exact k11
  | 12, hq => cases hq; exact k12
  | k + 13, hq => simp [vwCl] at hq

set_option maxHeartbeats 20000000 in
set_option maxRecDepth 1000000 in
theorem pr_nests {p : Program} {s : State} {m : MethodId} {meth : Method} {c : Code} {b L : Nat} {xs : Nat → Int32} (C0 : lw_At p s m meth c b L xs) : va_Nw (.methodLinkNest RX11 9 yX10_init RX11) s ∧ va_Nw (.methodLinkNest RX11 28 yX6_init RX11) s ∧ va_Nw (.methodLinkNest RX11 29 yX3_init RX11) s ∧ va_Nw (.methodLinkNest RX11 32 yX9_init RX11) s ∧ va_Nw (.methodLinkNest RX11 46 yX4_init RX11) s ∧ va_Nw (.methodLinkNest RX11 88 yX1_init RX11) s ∧ va_Nw (.methodLinkNest RX5 19 yX9_init RX11) s ∧ va_Nw (.methodLinkNest RX7 26 yX3_init RX11) s ∧ va_Nw (.methodLinkNest RX7 35 yX9_init RX11) s ∧ va_AO RX9 s ∧ va_AO RX6 s ∧ va_AO RX3 s := by
  obtain ⟨hx, hb, hr, hml, hown, hts0, hX, hbl, hlocks, hgv⟩ := id C0
  have hAn : ∀ a : Nat, a < s.heap.size → ¬ (fun q : Nat => s.heap.size ≤ q) a := fun a h => Nat.not_le.mpr h
  exact ⟨va_Nw.of rfl (hts0 (.methodLinkNest RX11 9 yX10_init RX11) (List.mem_of_getElem? (i := 151) (by decide +kernel))), va_Nw.of rfl (hts0 (.methodLinkNest RX11 28 yX6_init RX11) (List.mem_of_getElem? (i := 176) (by decide +kernel))), va_Nw.of rfl (hts0 (.methodLinkNest RX11 29 yX3_init RX11) (List.mem_of_getElem? (i := 204) (by decide +kernel))), va_Nw.of rfl (hts0 (.methodLinkNest RX11 32 yX9_init RX11) (List.mem_of_getElem? (i := 225) (by decide +kernel))), va_Nw.of rfl (hts0 (.methodLinkNest RX11 46 yX4_init RX11) (List.mem_of_getElem? (i := 319) (by decide +kernel))), va_Nw.of rfl (hts0 (.methodLinkNest RX11 88 yX1_init RX11) (List.mem_of_getElem? (i := 533) (by decide +kernel))), va_Nw.of rfl (hts0 (.methodLinkNest RX5 19 yX9_init RX11) (List.mem_of_getElem? (i := 281) (by decide +kernel))), va_Nw.of rfl (hts0 (.methodLinkNest RX7 26 yX3_init RX11) (List.mem_of_getElem? (i := 436) (by decide +kernel))), va_Nw.of rfl (hts0 (.methodLinkNest RX7 35 yX9_init RX11) (List.mem_of_getElem? (i := 437) (by decide +kernel))), va_AO.of (hts0 (.arrayOver (.object RX9)) (List.mem_of_getElem? (i := 280) (by decide +kernel))), va_AO.of (hts0 (.arrayOver (.object RX6)) (List.mem_of_getElem? (i := 172) (by decide +kernel))), va_AO.of (hts0 (.arrayOver (.object RX3)) (List.mem_of_getElem? (i := 174) (by decide +kernel)))⟩

set_option maxHeartbeats 20000000 in
set_option maxRecDepth 1000000 in
theorem pr_cs {p : Program} {s : State} {m : MethodId} {meth : Method} {c : Code} {b L : Nat} {xs : Nat → Int32} (C0 : lw_At p s m meth c b L xs) : va_Z "java/lang/String" "COMPACT_STRINGS" "Z" (.int 1) (fun q : Nat => s.heap.size ≤ q) s s.heap ∧ va_Zq "jdk/internal/util/Preconditions" "SIOOBE_FORMATTER" "Ljava/util/function/BiFunction;" (fun q : Nat => s.heap.size ≤ q) s s.heap := by
  obtain ⟨hx, hb, hr, hml, hown, hts0, hX, hbl, hlocks, hgv⟩ := id C0
  have hAn : ∀ a : Nat, a < s.heap.size → ¬ (fun q : Nat => s.heap.size ≤ q) a := fun a h => Nat.not_le.mpr h
  have hfl := flat_of_before _ hgv
  exact ⟨va_Zof (hts0 (.laysStatic "java/lang/String" "COMPACT_STRINGS" "Z") (List.mem_of_getElem? (i := 678) (by decide +kernel))) (hts0 (.initialized "java/lang/String") (List.mem_of_getElem? (i := 130) (by decide +kernel))) (va_eqi (hfl _ (by decide +kernel))) hAn, va_Zqof (hts0 (.laysStatic "jdk/internal/util/Preconditions" "SIOOBE_FORMATTER" "Ljava/util/function/BiFunction;") (List.mem_of_getElem? (i := 719) (by decide +kernel))) (hts0 (.initialized "jdk/internal/util/Preconditions") (List.mem_of_getElem? (i := 133) (by decide +kernel))) (hfl _ (by decide +kernel)) hAn⟩

set_option maxHeartbeats 20000000 in
set_option maxRecDepth 1000000 in
theorem pr_s_X4_99 {p : Program} {s : State} {m : MethodId} {meth : Method} {c : Code} {b L : Nat} {xs : Nat → Int32} (C0 : lw_At p s m meth c b L xs) : sgStr RX4 99 "whqklux" 7 [119, 104, 113, 107, 108, 117, 120] (fun q : Nat => s.heap.size ≤ q) s := by
  obtain ⟨hx, hb, hr, hml, hown, hts0, hX, hbl, hlocks, hgv⟩ := id C0
  have hAn : ∀ a : Nat, a < s.heap.size → ¬ (fun q : Nat => s.heap.size ≤ q) a := fun a h => Nat.not_le.mpr h
  have hfl := flat_of_before _ hgv
  obtain ⟨adK, adV, hSS, hSe⟩ := vk_Sof (args := #[Value.ref b]) (s := s) (N := 1) (tm := fun _ => .string RX4 99) (len := [7]) (byt := [[119, 104, 113, 107, 108, 117, 120]]) (A := (fun q : Nat => s.heap.size ≤ q))
    (fun i hi => by obtain rfl : i = 0 := by omega
                    decide)
    (fun i hi => by obtain rfl : i = 0 := by omega
                    exact hfl _ (by decide +kernel))
    (fun i hi => by obtain rfl : i = 0 := by omega
                    exact hfl _ (by decide +kernel))
    (fun i hi => by obtain rfl : i = 0 := by omega
                    exact hfl _ (by decide +kernel))
    (fun i hi => by obtain rfl : i = 0 := by omega
                    exact hfl _ (by decide +kernel))
    (fun i hi j hj => by obtain rfl : i = 0 := by omega
                         have hj2 : j < 7 := hj
                         rcases (show j = 0 ∨ j = 1 ∨ j = 2 ∨ j = 3 ∨ j = 4 ∨ j = 5 ∨ j = 6 by omega) with rfl | rfl | rfl | rfl | rfl | rfl | rfl <;> exact hfl _ (by decide +kernel))
    (fun i j hi hj hij => absurd (show i = j by omega) hij) hAn
  exact ⟨adK 0, adV 0, ⟨(hSS.1 0 (by decide)).1, (hSS.1 0 (by decide)).2.1, (hSS.1 0 (by decide)).2.2.1, (hSS.1 0 (by decide)).2.2.2, (pr_cs C0).1, (pr_cs C0).2⟩, vk_R.of (hts0 (.stringRef RX4 99 "whqklux") (List.mem_of_getElem? (i := 664) (by decide +kernel))) (hSe 0 (by decide))⟩

set_option maxHeartbeats 20000000 in
set_option maxRecDepth 1000000 in
theorem pr_s_X6_86 {p : Program} {s : State} {m : MethodId} {meth : Method} {c : Code} {b L : Nat} {xs : Nat → Int32} (C0 : lw_At p s m meth c b L xs) : sgStr RX6 86 "trcbdo" 6 [116, 114, 99, 98, 100, 111] (fun q : Nat => s.heap.size ≤ q) s := by
  obtain ⟨hx, hb, hr, hml, hown, hts0, hX, hbl, hlocks, hgv⟩ := id C0
  have hAn : ∀ a : Nat, a < s.heap.size → ¬ (fun q : Nat => s.heap.size ≤ q) a := fun a h => Nat.not_le.mpr h
  have hfl := flat_of_before _ hgv
  obtain ⟨adK, adV, hSS, hSe⟩ := vk_Sof (args := #[Value.ref b]) (s := s) (N := 1) (tm := fun _ => .string RX6 86) (len := [6]) (byt := [[116, 114, 99, 98, 100, 111]]) (A := (fun q : Nat => s.heap.size ≤ q))
    (fun i hi => by obtain rfl : i = 0 := by omega
                    decide)
    (fun i hi => by obtain rfl : i = 0 := by omega
                    exact hfl _ (by decide +kernel))
    (fun i hi => by obtain rfl : i = 0 := by omega
                    exact hfl _ (by decide +kernel))
    (fun i hi => by obtain rfl : i = 0 := by omega
                    exact hfl _ (by decide +kernel))
    (fun i hi => by obtain rfl : i = 0 := by omega
                    exact hfl _ (by decide +kernel))
    (fun i hi j hj => by obtain rfl : i = 0 := by omega
                         have hj2 : j < 6 := hj
                         rcases (show j = 0 ∨ j = 1 ∨ j = 2 ∨ j = 3 ∨ j = 4 ∨ j = 5 by omega) with rfl | rfl | rfl | rfl | rfl | rfl <;> exact hfl _ (by decide +kernel))
    (fun i j hi hj hij => absurd (show i = j by omega) hij) hAn
  exact ⟨adK 0, adV 0, ⟨(hSS.1 0 (by decide)).1, (hSS.1 0 (by decide)).2.1, (hSS.1 0 (by decide)).2.2.1, (hSS.1 0 (by decide)).2.2.2, (pr_cs C0).1, (pr_cs C0).2⟩, vk_R.of (hts0 (.stringRef RX6 86 "trcbdo") (List.mem_of_getElem? (i := 824) (by decide +kernel))) (hSe 0 (by decide))⟩

set_option maxHeartbeats 20000000 in
set_option maxRecDepth 1000000 in
theorem pr_s_X12_26 {p : Program} {s : State} {m : MethodId} {meth : Method} {c : Code} {b L : Nat} {xs : Nat → Int32} (C0 : lw_At p s m meth c b L xs) : sgStr RX12 26 "y" 1 [121] (fun q : Nat => s.heap.size ≤ q) s := by
  obtain ⟨hx, hb, hr, hml, hown, hts0, hX, hbl, hlocks, hgv⟩ := id C0
  have hAn : ∀ a : Nat, a < s.heap.size → ¬ (fun q : Nat => s.heap.size ≤ q) a := fun a h => Nat.not_le.mpr h
  have hfl := flat_of_before _ hgv
  obtain ⟨adK, adV, hSS, hSe⟩ := vk_Sof (args := #[Value.ref b]) (s := s) (N := 1) (tm := fun _ => .string RX12 26) (len := [1]) (byt := [[121]]) (A := (fun q : Nat => s.heap.size ≤ q))
    (fun i hi => by obtain rfl : i = 0 := by omega
                    decide)
    (fun i hi => by obtain rfl : i = 0 := by omega
                    exact hfl _ (by decide +kernel))
    (fun i hi => by obtain rfl : i = 0 := by omega
                    exact hfl _ (by decide +kernel))
    (fun i hi => by obtain rfl : i = 0 := by omega
                    exact hfl _ (by decide +kernel))
    (fun i hi => by obtain rfl : i = 0 := by omega
                    exact hfl _ (by decide +kernel))
    (fun i hi j hj => by obtain rfl : i = 0 := by omega
                         have hj2 : j < 1 := hj
                         obtain rfl : j = 0 := by omega
                         exact hfl _ (by decide +kernel))
    (fun i j hi hj hij => absurd (show i = j by omega) hij) hAn
  exact ⟨adK 0, adV 0, ⟨(hSS.1 0 (by decide)).1, (hSS.1 0 (by decide)).2.1, (hSS.1 0 (by decide)).2.2.1, (hSS.1 0 (by decide)).2.2.2, (pr_cs C0).1, (pr_cs C0).2⟩, vk_R.of (hts0 (.stringRef RX12 26 "y") (List.mem_of_getElem? (i := 1490) (by decide +kernel))) (hSe 0 (by decide))⟩

set_option maxHeartbeats 20000000 in
set_option maxRecDepth 1000000 in
theorem pr_s_X12_32 {p : Program} {s : State} {m : MethodId} {meth : Method} {c : Code} {b L : Nat} {xs : Nat → Int32} (C0 : lw_At p s m meth c b L xs) : sgStr RX12 32 "trcbdo" 6 [116, 114, 99, 98, 100, 111] (fun q : Nat => s.heap.size ≤ q) s := by
  obtain ⟨hx, hb, hr, hml, hown, hts0, hX, hbl, hlocks, hgv⟩ := id C0
  have hAn : ∀ a : Nat, a < s.heap.size → ¬ (fun q : Nat => s.heap.size ≤ q) a := fun a h => Nat.not_le.mpr h
  have hfl := flat_of_before _ hgv
  obtain ⟨adK, adV, hSS, hSe⟩ := vk_Sof (args := #[Value.ref b]) (s := s) (N := 1) (tm := fun _ => .string RX12 32) (len := [6]) (byt := [[116, 114, 99, 98, 100, 111]]) (A := (fun q : Nat => s.heap.size ≤ q))
    (fun i hi => by obtain rfl : i = 0 := by omega
                    decide)
    (fun i hi => by obtain rfl : i = 0 := by omega
                    exact hfl _ (by decide +kernel))
    (fun i hi => by obtain rfl : i = 0 := by omega
                    exact hfl _ (by decide +kernel))
    (fun i hi => by obtain rfl : i = 0 := by omega
                    exact hfl _ (by decide +kernel))
    (fun i hi => by obtain rfl : i = 0 := by omega
                    exact hfl _ (by decide +kernel))
    (fun i hi j hj => by obtain rfl : i = 0 := by omega
                         have hj2 : j < 6 := hj
                         rcases (show j = 0 ∨ j = 1 ∨ j = 2 ∨ j = 3 ∨ j = 4 ∨ j = 5 by omega) with rfl | rfl | rfl | rfl | rfl | rfl <;> exact hfl _ (by decide +kernel))
    (fun i j hi hj hij => absurd (show i = j by omega) hij) hAn
  exact ⟨adK 0, adV 0, ⟨(hSS.1 0 (by decide)).1, (hSS.1 0 (by decide)).2.1, (hSS.1 0 (by decide)).2.2.1, (hSS.1 0 (by decide)).2.2.2, (pr_cs C0).1, (pr_cs C0).2⟩, vk_R.of (hts0 (.stringRef RX12 32 "trcbdo") (List.mem_of_getElem? (i := 1491) (by decide +kernel))) (hSe 0 (by decide))⟩

set_option maxHeartbeats 20000000 in
set_option maxRecDepth 1000000 in
theorem pr_s_X12_249 {p : Program} {s : State} {m : MethodId} {meth : Method} {c : Code} {b L : Nat} {xs : Nat → Int32} (C0 : lw_At p s m meth c b L xs) : sgStr RX12 249 "whqklux" 7 [119, 104, 113, 107, 108, 117, 120] (fun q : Nat => s.heap.size ≤ q) s := by
  obtain ⟨hx, hb, hr, hml, hown, hts0, hX, hbl, hlocks, hgv⟩ := id C0
  have hAn : ∀ a : Nat, a < s.heap.size → ¬ (fun q : Nat => s.heap.size ≤ q) a := fun a h => Nat.not_le.mpr h
  have hfl := flat_of_before _ hgv
  obtain ⟨adK, adV, hSS, hSe⟩ := vk_Sof (args := #[Value.ref b]) (s := s) (N := 1) (tm := fun _ => .string RX12 249) (len := [7]) (byt := [[119, 104, 113, 107, 108, 117, 120]]) (A := (fun q : Nat => s.heap.size ≤ q))
    (fun i hi => by obtain rfl : i = 0 := by omega
                    decide)
    (fun i hi => by obtain rfl : i = 0 := by omega
                    exact hfl _ (by decide +kernel))
    (fun i hi => by obtain rfl : i = 0 := by omega
                    exact hfl _ (by decide +kernel))
    (fun i hi => by obtain rfl : i = 0 := by omega
                    exact hfl _ (by decide +kernel))
    (fun i hi => by obtain rfl : i = 0 := by omega
                    exact hfl _ (by decide +kernel))
    (fun i hi j hj => by obtain rfl : i = 0 := by omega
                         have hj2 : j < 7 := hj
                         rcases (show j = 0 ∨ j = 1 ∨ j = 2 ∨ j = 3 ∨ j = 4 ∨ j = 5 ∨ j = 6 by omega) with rfl | rfl | rfl | rfl | rfl | rfl | rfl <;> exact hfl _ (by decide +kernel))
    (fun i j hi hj hij => absurd (show i = j by omega) hij) hAn
  exact ⟨adK 0, adV 0, ⟨(hSS.1 0 (by decide)).1, (hSS.1 0 (by decide)).2.1, (hSS.1 0 (by decide)).2.2.1, (hSS.1 0 (by decide)).2.2.2, (pr_cs C0).1, (pr_cs C0).2⟩, vk_R.of (hts0 (.stringRef RX12 249 "whqklux") (List.mem_of_getElem? (i := 1699) (by decide +kernel))) (hSe 0 (by decide))⟩

set_option maxHeartbeats 20000000 in
set_option maxRecDepth 1000000 in
theorem pr_s_X12_255 {p : Program} {s : State} {m : MethodId} {meth : Method} {c : Code} {b L : Nat} {xs : Nat → Int32} (C0 : lw_At p s m meth c b L xs) : sgStr RX12 255 "c" 1 [99] (fun q : Nat => s.heap.size ≤ q) s := by
  obtain ⟨hx, hb, hr, hml, hown, hts0, hX, hbl, hlocks, hgv⟩ := id C0
  have hAn : ∀ a : Nat, a < s.heap.size → ¬ (fun q : Nat => s.heap.size ≤ q) a := fun a h => Nat.not_le.mpr h
  have hfl := flat_of_before _ hgv
  obtain ⟨adK, adV, hSS, hSe⟩ := vk_Sof (args := #[Value.ref b]) (s := s) (N := 1) (tm := fun _ => .string RX12 255) (len := [1]) (byt := [[99]]) (A := (fun q : Nat => s.heap.size ≤ q))
    (fun i hi => by obtain rfl : i = 0 := by omega
                    decide)
    (fun i hi => by obtain rfl : i = 0 := by omega
                    exact hfl _ (by decide +kernel))
    (fun i hi => by obtain rfl : i = 0 := by omega
                    exact hfl _ (by decide +kernel))
    (fun i hi => by obtain rfl : i = 0 := by omega
                    exact hfl _ (by decide +kernel))
    (fun i hi => by obtain rfl : i = 0 := by omega
                    exact hfl _ (by decide +kernel))
    (fun i hi j hj => by obtain rfl : i = 0 := by omega
                         have hj2 : j < 1 := hj
                         obtain rfl : j = 0 := by omega
                         exact hfl _ (by decide +kernel))
    (fun i j hi hj hij => absurd (show i = j by omega) hij) hAn
  exact ⟨adK 0, adV 0, ⟨(hSS.1 0 (by decide)).1, (hSS.1 0 (by decide)).2.1, (hSS.1 0 (by decide)).2.2.1, (hSS.1 0 (by decide)).2.2.2, (pr_cs C0).1, (pr_cs C0).2⟩, vk_R.of (hts0 (.stringRef RX12 255 "c") (List.mem_of_getElem? (i := 1749) (by decide +kernel))) (hSe 0 (by decide))⟩

set_option maxHeartbeats 20000000 in
set_option maxRecDepth 1000000 in
theorem pr_s_X12_273 {p : Program} {s : State} {m : MethodId} {meth : Method} {c : Code} {b L : Nat} {xs : Nat → Int32} (C0 : lw_At p s m meth c b L xs) : sgStr RX12 273 "gcmx" 4 [103, 99, 109, 120] (fun q : Nat => s.heap.size ≤ q) s := by
  obtain ⟨hx, hb, hr, hml, hown, hts0, hX, hbl, hlocks, hgv⟩ := id C0
  have hAn : ∀ a : Nat, a < s.heap.size → ¬ (fun q : Nat => s.heap.size ≤ q) a := fun a h => Nat.not_le.mpr h
  have hfl := flat_of_before _ hgv
  obtain ⟨adK, adV, hSS, hSe⟩ := vk_Sof (args := #[Value.ref b]) (s := s) (N := 1) (tm := fun _ => .string RX12 273) (len := [4]) (byt := [[103, 99, 109, 120]]) (A := (fun q : Nat => s.heap.size ≤ q))
    (fun i hi => by obtain rfl : i = 0 := by omega
                    decide)
    (fun i hi => by obtain rfl : i = 0 := by omega
                    exact hfl _ (by decide +kernel))
    (fun i hi => by obtain rfl : i = 0 := by omega
                    exact hfl _ (by decide +kernel))
    (fun i hi => by obtain rfl : i = 0 := by omega
                    exact hfl _ (by decide +kernel))
    (fun i hi => by obtain rfl : i = 0 := by omega
                    exact hfl _ (by decide +kernel))
    (fun i hi j hj => by obtain rfl : i = 0 := by omega
                         have hj2 : j < 4 := hj
                         rcases (show j = 0 ∨ j = 1 ∨ j = 2 ∨ j = 3 by omega) with rfl | rfl | rfl | rfl <;> exact hfl _ (by decide +kernel))
    (fun i j hi hj hij => absurd (show i = j by omega) hij) hAn
  exact ⟨adK 0, adV 0, ⟨(hSS.1 0 (by decide)).1, (hSS.1 0 (by decide)).2.1, (hSS.1 0 (by decide)).2.2.1, (hSS.1 0 (by decide)).2.2.2, (pr_cs C0).1, (pr_cs C0).2⟩, vk_R.of (hts0 (.stringRef RX12 273 "gcmx") (List.mem_of_getElem? (i := 1829) (by decide +kernel))) (hSe 0 (by decide))⟩

set_option maxHeartbeats 20000000 in
set_option maxRecDepth 1000000 in
theorem pr_s_X12_275 {p : Program} {s : State} {m : MethodId} {meth : Method} {c : Code} {b L : Nat} {xs : Nat → Int32} (C0 : lw_At p s m meth c b L xs) : sgStr RX12 275 "rd" 2 [114, 100] (fun q : Nat => s.heap.size ≤ q) s := by
  obtain ⟨hx, hb, hr, hml, hown, hts0, hX, hbl, hlocks, hgv⟩ := id C0
  have hAn : ∀ a : Nat, a < s.heap.size → ¬ (fun q : Nat => s.heap.size ≤ q) a := fun a h => Nat.not_le.mpr h
  have hfl := flat_of_before _ hgv
  obtain ⟨adK, adV, hSS, hSe⟩ := vk_Sof (args := #[Value.ref b]) (s := s) (N := 1) (tm := fun _ => .string RX12 275) (len := [2]) (byt := [[114, 100]]) (A := (fun q : Nat => s.heap.size ≤ q))
    (fun i hi => by obtain rfl : i = 0 := by omega
                    decide)
    (fun i hi => by obtain rfl : i = 0 := by omega
                    exact hfl _ (by decide +kernel))
    (fun i hi => by obtain rfl : i = 0 := by omega
                    exact hfl _ (by decide +kernel))
    (fun i hi => by obtain rfl : i = 0 := by omega
                    exact hfl _ (by decide +kernel))
    (fun i hi => by obtain rfl : i = 0 := by omega
                    exact hfl _ (by decide +kernel))
    (fun i hi j hj => by obtain rfl : i = 0 := by omega
                         have hj2 : j < 2 := hj
                         rcases (show j = 0 ∨ j = 1 by omega) with rfl | rfl <;> exact hfl _ (by decide +kernel))
    (fun i j hi hj hij => absurd (show i = j by omega) hij) hAn
  exact ⟨adK 0, adV 0, ⟨(hSS.1 0 (by decide)).1, (hSS.1 0 (by decide)).2.1, (hSS.1 0 (by decide)).2.2.1, (hSS.1 0 (by decide)).2.2.2, (pr_cs C0).1, (pr_cs C0).2⟩, vk_R.of (hts0 (.stringRef RX12 275 "rd") (List.mem_of_getElem? (i := 1830) (by decide +kernel))) (hSe 0 (by decide))⟩

set_option maxHeartbeats 20000000 in
set_option maxRecDepth 1000000 in
theorem pr_t_LEAST {p : Program} {s : State} {m : MethodId} {meth : Method} {c : Code} {b L : Nat} {xs : Nat → Int32} (C0 : lw_At p s m meth c b L xs) : sgTab RX4 "LEAST" 7 [1, 1, 2, 1, 0, 0, 0] (fun q : Nat => s.heap.size ≤ q) s := by
  obtain ⟨hx, hb, hr, hml, hown, hts0, hX, hbl, hlocks, hgv⟩ := id C0
  have hAn : ∀ a : Nat, a < s.heap.size → ¬ (fun q : Nat => s.heap.size ≤ q) a := fun a h => Nat.not_le.mpr h
  have hfl := flat_of_before _ hgv
  obtain ⟨tU, hUe, hUt⟩ := va_Tof (args := #[Value.ref b]) (s := s) (tm := .static "LawnAhead$Ground" "LEAST" "[I") (ty := .int) (N := 7) (f := fun j => .int (([1, 1, 2, 1, 0, 0, 0] : List Int32).getD j 0)) (A := (fun q : Nat => s.heap.size ≤ q)) (by decide) (hfl _ (by decide +kernel)) (va_eqt (hfl _ (by decide +kernel)))
    (fun j hj => by rcases (show j = 0 ∨ j = 1 ∨ j = 2 ∨ j = 3 ∨ j = 4 ∨ j = 5 ∨ j = 6 by omega) with rfl | rfl | rfl | rfl | rfl | rfl | rfl <;> exact va_eqt (hfl _ (by decide +kernel))) hAn
  exact ⟨tU, va_Zref (hts0 (.laysStatic "LawnAhead$Ground" "LEAST" "[I") (List.mem_of_getElem? (i := 750) (by decide +kernel))) (hts0 (.initialized RX4) (List.mem_of_getElem? (i := 121) (by decide +kernel))) hUe hAn, hUt⟩

set_option maxHeartbeats 20000000 in
set_option maxRecDepth 1000000 in
theorem pr_t_MOST {p : Program} {s : State} {m : MethodId} {meth : Method} {c : Code} {b L : Nat} {xs : Nat → Int32} (C0 : lw_At p s m meth c b L xs) : sgTab RX4 "MOST" 7 [6, 5, 5, 5, 8, 8, 1] (fun q : Nat => s.heap.size ≤ q) s := by
  obtain ⟨hx, hb, hr, hml, hown, hts0, hX, hbl, hlocks, hgv⟩ := id C0
  have hAn : ∀ a : Nat, a < s.heap.size → ¬ (fun q : Nat => s.heap.size ≤ q) a := fun a h => Nat.not_le.mpr h
  have hfl := flat_of_before _ hgv
  obtain ⟨tU, hUe, hUt⟩ := va_Tof (args := #[Value.ref b]) (s := s) (tm := .static "LawnAhead$Ground" "MOST" "[I") (ty := .int) (N := 7) (f := fun j => .int (([6, 5, 5, 5, 8, 8, 1] : List Int32).getD j 0)) (A := (fun q : Nat => s.heap.size ≤ q)) (by decide) (hfl _ (by decide +kernel)) (va_eqt (hfl _ (by decide +kernel)))
    (fun j hj => by rcases (show j = 0 ∨ j = 1 ∨ j = 2 ∨ j = 3 ∨ j = 4 ∨ j = 5 ∨ j = 6 by omega) with rfl | rfl | rfl | rfl | rfl | rfl | rfl <;> exact va_eqt (hfl _ (by decide +kernel))) hAn
  exact ⟨tU, va_Zref (hts0 (.laysStatic "LawnAhead$Ground" "MOST" "[I") (List.mem_of_getElem? (i := 752) (by decide +kernel))) (hts0 (.initialized RX4) (List.mem_of_getElem? (i := 121) (by decide +kernel))) hUe hAn, hUt⟩

set_option maxHeartbeats 20000000 in
set_option maxRecDepth 1000000 in
theorem pr_t_USUAL {p : Program} {s : State} {m : MethodId} {meth : Method} {c : Code} {b L : Nat} {xs : Nat → Int32} (C0 : lw_At p s m meth c b L xs) : sgTab RX4 "USUAL" 7 [5, 4, 3, 2, 0, 8, 0] (fun q : Nat => s.heap.size ≤ q) s := by
  obtain ⟨hx, hb, hr, hml, hown, hts0, hX, hbl, hlocks, hgv⟩ := id C0
  have hAn : ∀ a : Nat, a < s.heap.size → ¬ (fun q : Nat => s.heap.size ≤ q) a := fun a h => Nat.not_le.mpr h
  have hfl := flat_of_before _ hgv
  obtain ⟨tU, hUe, hUt⟩ := va_Tof (args := #[Value.ref b]) (s := s) (tm := .static "LawnAhead$Ground" "USUAL" "[I") (ty := .int) (N := 7) (f := fun j => .int (([5, 4, 3, 2, 0, 8, 0] : List Int32).getD j 0)) (A := (fun q : Nat => s.heap.size ≤ q)) (by decide) (hfl _ (by decide +kernel)) (va_eqt (hfl _ (by decide +kernel)))
    (fun j hj => by rcases (show j = 0 ∨ j = 1 ∨ j = 2 ∨ j = 3 ∨ j = 4 ∨ j = 5 ∨ j = 6 by omega) with rfl | rfl | rfl | rfl | rfl | rfl | rfl <;> exact va_eqt (hfl _ (by decide +kernel))) hAn
  exact ⟨tU, va_Zref (hts0 (.laysStatic "LawnAhead$Ground" "USUAL" "[I") (List.mem_of_getElem? (i := 633) (by decide +kernel))) (hts0 (.initialized RX4) (List.mem_of_getElem? (i := 121) (by decide +kernel))) hUe hAn, hUt⟩

set_option maxHeartbeats 20000000 in
set_option maxRecDepth 1000000 in
theorem pr_sgC {p : Program} {s : State} {m : MethodId} {meth : Method} {c : Code} {b L : Nat} {xs : Nat → Int32} (C0 : lw_At p s m meth c b L xs) : sgC s.heap.size s := by
  obtain ⟨hx, hb, hr, hml, hown, hts0, hX, hbl, hlocks, hgv⟩ := id C0
  have hAn : ∀ a : Nat, a < s.heap.size → ¬ (fun q : Nat => s.heap.size ≤ q) a := fun a h => Nat.not_le.mpr h
  exact ⟨⟨pr_s_X4_99 C0, pr_s_X6_86 C0, pr_t_LEAST C0, pr_t_MOST C0, pr_t_USUAL C0⟩, pr_s_X12_26 C0, pr_s_X12_32 C0, pr_s_X12_249 C0, pr_s_X12_255 C0, pr_s_X12_273 C0, pr_s_X12_275 C0⟩

set_option maxHeartbeats 20000000 in
set_option maxRecDepth 1000000 in
theorem pr_sgX {p : Program} {s : State} {m : MethodId} {meth : Method} {c : Code} {b L : Nat} {xs : Nat → Int32} (C0 : lw_At p s m meth c b L xs) : sgX s.heap.size s := by
  obtain ⟨hx, hb, hr, hml, hown, hts0, hX, hbl, hlocks, hgv⟩ := id C0
  have hAn : ∀ a : Nat, a < s.heap.size → ¬ (fun q : Nat => s.heap.size ≤ q) a := fun a h => Nat.not_le.mpr h
  have hfl := flat_of_before _ hgv
  exact ⟨vx_Zqof (hts0 (.laysStatic Bundle.tN "UNASSIGNED_STACK" Bundle.steD) (List.mem_of_getElem? (i := 1449) (by decide +kernel))) (hts0 (.initialized Bundle.tN) (List.mem_of_getElem? (i := 136) (by decide +kernel))) (hfl _ (by decide +kernel)) hAn, vx_Zqof (hts0 (.laysStatic Bundle.tN "SUPPRESSED_SENTINEL" Bundle.listD) (List.mem_of_getElem? (i := 1451) (by decide +kernel))) (hts0 (.initialized Bundle.tN) (List.mem_of_getElem? (i := 136) (by decide +kernel))) (hfl _ (by decide +kernel)) hAn, va_Nw.of rfl (hts0 (.declares (Bundle.init0 "java/lang/RuntimeException")) (List.mem_of_getElem? (i := 1425) (by decide +kernel))), va_Nw.of rfl (hts0 (.declares (Bundle.init0 "java/lang/Exception")) (List.mem_of_getElem? (i := 1427) (by decide +kernel))), va_Nw.of rfl (hts0 (.declares (Bundle.init0 Bundle.tN)) (List.mem_of_getElem? (i := 1429) (by decide +kernel))), va_Nw.of rfl (hts0 (.castable "java/util/NoSuchElementException" "java/util/NoSuchElementException") (List.mem_of_getElem? (i := 1424) (by decide +kernel)))⟩
