theorem sgInv_0 {g : Nat → sgT} : sgInv (sgGh p0 g) := ⟨⟨rfl, Int.le_refl _, fun j hj => absurd (show (j : Int) < 0 from hj) (by omega)⟩, (show (0 : Int) ≤ 240 by decide), rfl, rfl⟩
theorem sgHx_0 {G R S T : Nat} {L M : List Nat} (h1 : G ≠ S) (h2 : R ≠ T) (h3 : ∀ i j : Nat, i < 6 → j < 6 → i ≠ j → L.getD i 0 ≠ L.getD j 0 ∧ M.getD i 0 ≠ M.getD j 0) : sgHx (sgGh p0 (gm0 G R S T L M)) := ⟨⟨gm0_gi h1 h2, Or.inl ⟨rfl, rfl⟩⟩, ⟨gm0_gg h3, fun j hj => absurd hj (Nat.not_lt_zero j)⟩⟩
theorem dL_law_0 : decode cL_law 0 = .ok (.new 8, 3) := by decide +kernel
theorem dL_law_11 : decode cL_law 11 = .ok (.dup, 1) := by decide +kernel
theorem dL_law_12 : decode cL_law 12 = .ok (.invokespecial 18, 3) := by decide +kernel
theorem dL_law_15 : decode cL_law 15 = .ok (.astore_n 2, 1) := by decide +kernel
theorem dL_law_16 : decode cL_law 16 = .ok (.iconst 1, 1) := by decide +kernel
theorem dL_law_17 : decode cL_law 17 = .ok (.newarray .long, 2) := by decide +kernel
theorem dL_law_19 : decode cL_law 19 = .ok (.astore_n 3, 1) := by decide +kernel
theorem dL_law_20 : decode cL_law 20 = .ok (.iconst 0, 1) := by decide +kernel
theorem dL_law_21 : decode cL_law 21 = .ok (.istore 4, 2) := by decide +kernel
theorem dL_law_3 : decode cL_law 3 = .ok (.dup, 1) := by decide +kernel
theorem dL_law_4 : decode cL_law 4 = .ok (.invokespecial 15, 3) := by decide +kernel
theorem dL_law_7 : decode cL_law 7 = .ok (.astore_n 1, 1) := by decide +kernel
theorem dL_law_8 : decode cL_law 8 = .ok (.new 16, 3) := by decide +kernel
set_option maxRecDepth 1000000 in
theorem g_law_4_c_X11_init : GoodIn lw_tbl (w_c_X11_init) := goodIn_r _ [145, 146, 147, 148, 149, 150, 116, 154, 170, 155, 153, 152, 549, 171, 550, 173, 551, 175, 117, 179, 180, 181, 182, 183, 178, 177, 203, 118, 207, 208, 206, 205, 223, 224, 119, 228, 227, 226, 552, 273, 274, 120, 278, 279, 282, 283, 284, 285, 277, 276, 275, 553, 317, 318, 121, 322, 323, 326, 328, 329, 330, 321, 320, 559, 560, 383, 384, 122, 388, 394, 395, 396, 397, 398, 402, 389, 387, 386, 385, 554, 428, 429, 123, 433, 434, 439, 440, 441, 435, 442, 438, 432, 431, 430, 555, 468, 469, 124, 473, 474, 472, 471, 470, 556, 492, 493, 125, 497, 499, 501, 502, 498, 496, 495, 494, 557, 531, 532, 126, 536, 537, 548, 538, 535, 534, 558, 563, 161, 163, 165, 167, 566, 568, 570, 572, 574, 576, 578, 580, 582, 584, 586, 588, 590, 592, 594, 596, 598, 188, 190, 192, 194, 196, 198, 200, 216, 218, 220, 256, 258, 260, 262, 264, 266, 268, 270, 294, 296, 298, 300, 302, 304, 306, 308, 310, 312, 314, 352, 354, 356, 358, 360, 362, 364, 366, 368, 370, 372, 374, 376, 378, 380, 409, 411, 413, 415, 417, 419, 421, 423, 425, 449, 451, 453, 455, 457, 459, 461, 463, 465, 481, 483, 485, 487, 489, 510, 512, 514, 516, 518, 520, 522, 524, 526, 528, 541, 543, 545] (by decide +kernel) (by decide +kernel)
set_option maxRecDepth 1000000 in
theorem g_law_12_c_X12_init : GoodIn lw_tbl (w_c_X12_init) := goodIn_r _ [1488, 1489, 147, 148, 868, 1493, 1494, 170, 1495, 1496, 1497, 1507, 1508, 1510, 1511, 1512, 1513, 1514, 1524, 1525, 1526, 1652, 1528, 1529, 1530, 1533, 1536, 1537, 1538, 1540, 548, 1541, 1543, 1545, 1547, 1549, 1551, 1553, 1555, 1557, 1559, 1561, 1563, 1565, 1567, 1569, 1571, 1573, 1575, 1577, 1579, 1581, 1583, 1585, 1587, 1589, 1591, 1593, 1595, 1597, 1599, 1601, 1603, 1605, 1607, 1609, 1611, 1613, 1615, 1617, 1619, 1621, 1623, 1625, 1627, 1629, 1631, 1633, 1635, 1637, 1639, 1641, 1643, 1645, 1647, 1649] (by decide +kernel) (by decide +kernel)
set_option maxHeartbeats 40000000 in
set_option maxRecDepth 1000000 in
theorem whole_start {p : Program} {e : Env} {s : State} {m : MethodId} {below : List Frame} {meth : Method} {c : Code} (l : Launch) (hflags : l.flags = flags0) {b L : Nat} {xs : Nat → Int32} (hL : L ≤ 3072) (C0 : lw_At p s m meth c b L xs) : W p l e room_1 s m #[Value.ref b] below meth c s.heap [] 0 0 (lw_Z below #[Value.ref b] s) (entryFrame m ([Value.ref b] : List Value).toArray 7) := by
  have hst : l.stackTraces = false := by unfold Launch.stackTraces; rw [hflags]; decide +kernel
  obtain ⟨hx, hb, hr, hml, hown, hts0, hX, hbl, hlocks, hgv⟩ := id C0
  have hts := hts0
  have hown : s.vm.findClass RL = some m.cls := hown
  have hA : ∀ q : Nat, s.heap.size ≤ q → (fun q : Nat => s.heap.size ≤ q) q := fun _ h => h
  obtain ⟨dC, dI, hK⟩ := pr_classes C0
  obtain ⟨hNX11_X10, hNX11_X6, hNX11_X3, hNX11_X9, hNX11_X4, hNX11_X1, hNX5_X9, hNX7_X3, hNX7_X9, hAOX9, hAOX6, hAOX3⟩ := pr_nests C0
  obtain ⟨aY, vY, hPSy, hRy⟩ := pr_s_X12_26 C0
  obtain ⟨aT, vT, hPSt, hRt⟩ := pr_s_X12_32 C0
  have hS : va_S (fun q : Nat => s.heap.size ≤ q) s.heap s.heap [] := va_S.rf
  have hP : va_P (dC, dI) vwCl [] s.heap := fun k q h => by simp at h
  have hD : va_D (fun q : Nat => s.heap.size ≤ q) [] := ⟨fun i j p q h => by simp at h, fun k q h => by simp at h⟩
  have hl := lv_entry ([.ref b]) (n := 7) (Nat.le_of_ble_eq_true rfl)
  rw [lg_entry_eq]
  generalize (lg_sl ([.ref b]) ++ List.replicate (7 - (lg_sl ([.ref b])).length) Slot.unset).toArray = ls at hl ⊢
  have hl : lv_has ls 7 [(0, .ref b)] := hl
  refine va_new (ci := 11) (fs := [.null, .null, .null, .null, .null, .null, .null, .null, .null, .null, .null, .null, .int 0, .int 0, .int 0, .int 0, .long 0]) (C := RX11) (T := TX11) (N := 17) hx hb hts inT_X11 tyX11 tyX11_ok hown (hts (.classLink RL 8 RX11) (List.mem_of_getElem? (i := 141) (by decide +kernel))) (hts (.instantiable RX11 17) (List.mem_of_getElem? (i := 142) (by decide +kernel))) (hts (.initialized RX11) (List.mem_of_getElem? (i := 115) (by decide +kernel))) hK hP hD hS hA rfl (by decide +kernel) (Nat.le_of_ble_eq_true rfl) (Nat.le_of_ble_eq_true rfl) dL_law_0 (fun q_1 H hP hD hS => ?_)
  refine W.widen (k := 1) (n := 17) (Nat.le_of_ble_eq_true rfl) (Nat.le_of_ble_eq_true rfl) ?_
  refine lv_dup hx hb dL_law_3 rfl ?_
  have hPc := (va_P_of hP).2
  have hDc := (va_D_of hD).2.1
  have hKc := hK.sub (tys' := []) [] rfl
  have hFc := va_free1 hDc hS hA
  refine va_callv (va_runI (As := []) (rest := [.ref q_1]) ⟨hx, hb, hml, hown, hts⟩ (c_X11_init l dC dI q_1 H.size) (cwI 0 hts g_law_4_c_X11_init rfl rfl rfl (hts (.initialized RX11) (List.mem_of_getElem? (i := 115) (by decide +kernel))) (hts (.methodLink RL 15 yX11_init) (List.mem_of_getElem? (i := 143) (by decide +kernel))) (hts (.instanceMethod yX11_init) (List.mem_of_getElem? (i := 144) (by decide +kernel))) rfl (by decide +kernel) ⟨Nat.le_of_ble_eq_true rfl, Nat.le_of_ble_eq_true rfl⟩) ⟨fun a U g mk q => by obtain ⟨q0, q1, qP, qK, qD, n0, n1, n2, n3, n4, n5, n6, n7, n8, n9, n10, n11⟩ := q; exact ⟨q0, q1, qP, va_K.moved (u := U) (U := U.calling g mk a) (Vm.Alike.refl U.vm) qK, qD, va_Nw.same rfl rfl n0, va_Nw.same rfl rfl n1, va_Nw.same rfl rfl n2, va_Nw.same rfl rfl n3, va_Nw.same rfl rfl n4, va_Nw.same rfl rfl n5, va_Nw.same rfl rfl n6, va_Nw.same rfl rfl n7, va_Nw.same rfl rfl n8, va_AO.moved (Vm.Alike.refl _) n9, va_AO.moved (Vm.Alike.refl _) n10, va_AO.moved (Vm.Alike.refl _) n11⟩, fun U hU hW => ⟨rfl, by rw [hU], by rw [hU]; exact hPc, va_K.moved hW.alike hKc, hDc.weaken (fun _ _ _ _ => trivial), va_Nw.warmM hW hNX11_X10, va_Nw.warmM hW hNX11_X6, va_Nw.warmM hW hNX11_X3, va_Nw.warmM hW hNX11_X9, va_Nw.warmM hW hNX11_X4, va_Nw.warmM hW hNX11_X1, va_Nw.warmM hW hNX5_X9, va_Nw.warmM hW hNX7_X3, va_Nw.warmM hW hNX7_X9, va_AO.moved hW.alike hAOX9, va_AO.moved hW.alike hAOX6, va_AO.moved hW.alike hAOX3⟩⟩ rfl rfl hl.1 rfl (lv_room (Nat.le_of_ble_eq_true rfl)) dL_law_4 ⟨Nat.le_of_ble_eq_true rfl, Nat.le_of_ble_eq_true rfl⟩) hS (fun q _ h => hFc q h) hFc (fun u t H1 locs ht hvm hw hB hz1 hk1 hS => ?_)
  obtain ⟨wsX, tysX, oG, oR, oS, oT, oL, oM, hPX, hKX, hDX, hTX, h0X, hGS, hRT, hLM, hgX⟩ := hB
  rw [ht] at hPX
  have hKX := va_K.moved hvm.symm hKX
  obtain ⟨hP, hD⟩ := va_join2 (w1 := []) hP hD hk1 hFc hPX hDX
  have hK := hK.app hKX
  generalize H1 = H at hP hS ⊢
  have hP : va_P (dC, dI) vwCl wsX H := hP
  have hD : va_D (fun q : Nat => s.heap.size ≤ q) wsX := hD
  have hK : va_K (dC, dI) vwCl tysX s := hK
  refine W.widen (k := 123) (n := 6382) (Nat.le_of_ble_eq_true rfl) (Nat.le_of_ble_eq_true rfl) ?_
  refine lv_astore_n (lv' := [(1, .ref q_1), (0, .ref b)]) hx hb dL_law_7 rfl hl (by decide) rfl (fun ls hl => ?_)
  refine va_new (ci := 12) (fs := [.int 0, .null, .null, .null, .null, .null, .int 0, .int 0, .int 0, .int 0, .int 0, .int 0, .int 0, .int 0, .int 0, .null, .null, .int 0, .null, .null, .null, .null, .null, .int 0, .int 0, .int 0, .int 0, .int 0, .int 0, .int 0, .int 0, .int 0, .null, .null, .int 0, .int 0, .null, .null, .null, .int 0, .long 0, .null, .int 0, .int 0, .null, .null, .null, .int 0, .null, .null, .int 0, .null, .int 0]) (C := RX12) (T := TX12) (N := 53) hx hb hts inT_X12 tyX12 tyX12_ok hown (hts (.classLink RL 16 RX12) (List.mem_of_getElem? (i := 1484) (by decide +kernel))) (hts (.instantiable RX12 53) (List.mem_of_getElem? (i := 1485) (by decide +kernel))) (hts (.initialized RX12) (List.mem_of_getElem? (i := 127) (by decide +kernel))) hK hP hD hS hA rfl (by decide +kernel) (Nat.le_of_ble_eq_true rfl) (Nat.le_of_ble_eq_true rfl) dL_law_8 (fun q_181 H hP hD hS => ?_)
  refine W.widen (k := 124) (n := 6435) (Nat.le_of_ble_eq_true rfl) (Nat.le_of_ble_eq_true rfl) ?_
  refine lv_dup hx hb dL_law_11 rfl ?_
  have hPc := (va_P_of hP).2
  have hDc := (va_D_of hD).2.1
  have hKc := hK.sub (tys' := []) [] rfl
  have hFc := va_free1 hDc hS hA
  refine va_callv (va_runI (As := []) (rest := [.ref q_181]) ⟨hx, hb, hml, hown, hts⟩ (c_X12_init l dC dI q_181 aY aT H.size) (cwI 0 hts g_law_12_c_X12_init rfl rfl rfl (hts (.initialized RX12) (List.mem_of_getElem? (i := 127) (by decide +kernel))) (hts (.methodLink RL 18 yX12_init) (List.mem_of_getElem? (i := 1486) (by decide +kernel))) (hts (.instanceMethod yX12_init) (List.mem_of_getElem? (i := 1487) (by decide +kernel))) rfl (by decide +kernel) ⟨Nat.le_of_ble_eq_true rfl, Nat.le_of_ble_eq_true rfl⟩) ⟨fun a U g mk q => by obtain ⟨q0, q1, qP, qK, qD, n0, n1⟩ := q; exact ⟨q0, q1, qP, va_K.moved (u := U) (U := U.calling g mk a) (Vm.Alike.refl U.vm) qK, qD, vk_R.same rfl n0, vk_R.same rfl n1⟩, fun U hU hW => ⟨rfl, by rw [hU], by rw [hU]; exact hPc, va_K.moved hW.alike hKc, hDc.weaken (fun _ _ _ _ => trivial), vk_R.warm hW hRy, vk_R.warm hW hRt⟩⟩ rfl rfl hl.1 rfl (lv_room (Nat.le_of_ble_eq_true rfl)) dL_law_12 ⟨Nat.le_of_ble_eq_true rfl, Nat.le_of_ble_eq_true rfl⟩) hS (fun q _ h => hFc q h) hFc (fun u t H1 locs ht hvm hw hB hz1 hk1 hS => ?_)
  obtain ⟨wsM, tysM, hPM, hKM, hDM, hTM, h0M⟩ := hB
  rw [ht] at hPM
  have hKM := va_K.moved hvm.symm hKM
  obtain ⟨hP, hD⟩ := va_join2 hP hD hk1 hFc hPM hDM
  have hK := hK.app hKM
  generalize H1 = H at hP hS ⊢
  refine W.widen (k := 145) (n := 43427) (Nat.le_of_ble_eq_true rfl) (Nat.le_of_ble_eq_true rfl) ?_
  refine lv_astore_n (lv' := [(2, .ref q_181), (1, .ref q_1), (0, .ref b)]) hx hb dL_law_15 rfl hl (by decide) rfl (fun ls hl => ?_)
  refine lv_iconst (v := 1) hx hb dL_law_16 (by decide +kernel) ?_
  refine va_newa (atype := .long) (ty := .long) (a0 := (1, .inr (.inl (fun _ => 0)))) hx hb (hts (.arrayClass .long) (List.mem_of_getElem? (i := 1652) (by decide +kernel))) rfl hK hP hD hS hA (N' := 1) (fun _ => rfl) (by decide +kernel) rfl (Nat.le_of_ble_eq_true rfl) (Nat.le_of_ble_eq_true rfl) (Nat.le_of_ble_eq_true rfl) dL_law_17 (fun q_225 cy_226 H hK hP hD hS => ?_)
  refine W.widen (k := 146) (n := 43428) (Nat.le_of_ble_eq_true rfl) (Nat.le_of_ble_eq_true rfl) ?_
  refine lv_astore_n (lv' := [(3, .ref q_225), (2, .ref q_181), (1, .ref q_1), (0, .ref b)]) hx hb dL_law_19 rfl hl (by decide) rfl (fun ls hl => ?_)
  refine lv_iconst (v := 0) hx hb dL_law_20 (by decide +kernel) ?_
  refine lv_istore (lv' := [(4, .int 0), (3, .ref q_225), (2, .ref q_181), (1, .ref q_1), (0, .ref b)]) hx hb dL_law_21 hl (by decide) rfl (fun ls hl => ?_)
  have hT := TH_app (tys' := tysX ++ tysM ++ [(cy_226, .long)]) (TH_apps hTX hTM) (fun x hx => List.mem_append_left _ hx) (q := q_225) (k := 66) (K := KK66 p0) (e := .inl (cy_226, 1, .inr (.inl (fun _ => 0)))) rfl (okE_l (List.mem_append_right _ (List.mem_singleton.mpr rfl)) (fun _ _ => okv_l 0))
  have hlX : wsX.length = KSX.length := by have := hTX.2.1; rwa [List.length_map] at this
  have hgh := GH_0 (ws2 := wsM ++ [(q_225, .inl (cy_226, 1, .inr (.inl (fun _ => 0))))]) hgX hlX sgM_0
  rw [← List.append_assoc, ← List.append_assoc] at hgh
  have hG : sgG (KT (sgGh p0 (gm0 oG oR oS oT oL oM))) (dC, dI) vwCl (fun q : Nat => s.heap.size ≤ q) (tysX ++ tysM ++ [(cy_226, .long)]) ((wsX ++ wsM).map Prod.fst ++ [q_225]) ((KSX ++ KSM) ++ [66]) H := ⟨_, hP, hD, TH_gh sg67_0 hT, sgU_0, hgh⟩
  have lX := hTX.2.1
  have lXM := (TH_apps hTX hTM).2.1
  have ix : isK ((wsX ++ wsM).map Prod.fst ++ [q_225]) ((KSX ++ KSM) ++ [66]) 11 q_1 := isK_l (by rw [List.map_append]; exact isK_l ⟨0, h0X, rfl⟩)
  have im : isK ((wsX ++ wsM).map Prod.fst ++ [q_225]) ((KSX ++ KSM) ++ [66]) 12 q_181 := isK_l (by rw [List.map_append]; exact isK_r lX ⟨0, h0M, rfl⟩)
  have io : isK ((wsX ++ wsM).map Prod.fst ++ [q_225]) ((KSX ++ KSM) ++ [66]) 66 q_225 := isK_r lXM ⟨0, rfl, rfl⟩
  have Xc : CallFix p m c code 7 s #[.ref b] sg_tbl RL := ⟨hx, hb, hml, hown, fun w hw => hts0 w (List.mem_filter.mp hw).1⟩
  exact law_loop ⟨Xc, pr_sgC C0, hX, hbl, hL⟩ hst (pr_sgX C0) hr hlocks 512 0 (sgGh p0 (gm0 oG oR oS oT oL oM)) _ _ _ q_1 q_181 q_225 H _ 0 ls _ _ rfl ⟨hK, hG, ix, im, io, rfl, Nat.le_refl _, sgInv_0, sgHx_0 hGS hRT hLM⟩ hS rfl (lv_sub hl [0, 1, 2, 3, 4] rfl) (Nat.le_of_ble_eq_true rfl) (Nat.le_of_ble_eq_true rfl)
