set_option maxHeartbeats 20000000 in
set_option maxRecDepth 1000000 in
/-- THE LAW, from its entry -/
theorem whole_start {p : Program} {e : Env} {s : State} {m : MethodId} {below : List Frame} {meth : Method} {c : Code} (l : Launch) (hflags : l.flags = flags0) {b L : Nat} {xs : Nat → Int32} (hL : L ≤ 6) (C0 : lw_At p s m meth c b L xs) : W p l e room_1 s m #[Value.ref b] below meth c s.heap [] 0 0 (lw_Z below #[Value.ref b] s) (entryFrame m ([Value.ref b] : List Value).toArray 7) := by
  have hst : l.stackTraces = false := by unfold Launch.stackTraces; rw [hflags]; decide +kernel
  obtain ⟨hx, hb, hr, hml, hown, hts0, hX, hbl, hlocks, hgv⟩ := id C0
  have hts : ∀ w ∈ w_law, w.before #[Value.ref b] s = true := fun w h => hts0 w (w_law_in w h)
  have hown : s.vm.findClass RL = some m.cls := hown
  have hA : ∀ q : Nat, s.heap.size ≤ q → (fun q : Nat => s.heap.size ≤ q) q := fun _ h => h
  have hAn : ∀ a : Nat, a < s.heap.size → ¬ (fun q : Nat => s.heap.size ≤ q) a := fun a h => Nat.not_le.mpr h
  have hbA : ¬ (fun q : Nat => s.heap.size ≤ q) b := Nat.not_le.mpr hbl
  obtain ⟨dC, dI, hK⟩ := pr_classes C0
  obtain ⟨hNX11_X10, hNX11_X6, hNX11_X3, hNX11_X9, hNX11_X4, hNX11_X1, hNX5_X9, hNX7_X3, hNX7_X9, hAOX9, hAOX6, hAOX3⟩ := pr_nests C0
  obtain ⟨aY, vY, hPSy, hRy⟩ := pr_str_y C0
  obtain ⟨aG, vG, hPSg, hRg⟩ := pr_str_g C0
  obtain ⟨aT, hRt⟩ := pr_str_t C0
  obtain ⟨tU, fU, hUT⟩ := pr_usual C0
  obtain ⟨hTU, hTN, hB1, hB2, hB3, hB4⟩ := pr_throw C0
  have hS : va_S (fun q : Nat => s.heap.size ≤ q) s.heap s.heap [] := va_S.rf
  have hP : va_P (dC, dI) vwCl [] s.heap := fun k q h => by simp at h
  have hD : va_D (fun q : Nat => s.heap.size ≤ q) [] := ⟨fun i j p q h => by simp at h, fun k q h => by simp at h⟩
  have hl := lv_entry ([.ref b]) (n := 7) (Nat.le_of_ble_eq_true rfl)
  rw [lg_entry_eq]
  generalize (lg_sl ([.ref b]) ++ List.replicate (7 - (lg_sl ([.ref b])).length) Slot.unset).toArray = ls at hl ⊢
  have hl : lv_has ls 7 [(0, .ref b)] := hl
  refine va_new (ci := 11) (fs := [.null, .null, .null, .null, .null, .null, .null, .null, .null, .null, .null, .null, .int 0, .int 0, .int 0, .int 0, .long 0]) (C := RX11) (T := TX11) (N := 17) hx hb hts inW_X11 tyX11 tyX11_ok hown (hts (.classLink RL 8 RX11) wl_1) (hts (.instantiable RX11 17) wl_2) (hts (.initialized RX11) wl_3) hK hP hD hS hA rfl (by decide +kernel) (Nat.le_of_ble_eq_true rfl) (Nat.le_of_ble_eq_true rfl) dL_law_0 (fun q_1 H hP hD hS => ?_)
  have hP : va_P (dC, dI) vwCl [(q_1, .inr (11, [.null, .null, .null, .null, .null, .null, .null, .null, .null, .null, .null, .null, .int 0, .int 0, .int 0, .int 0, .long 0]))] H := hP
  have hD : va_D (fun q : Nat => s.heap.size ≤ q) [(q_1, .inr (11, [.null, .null, .null, .null, .null, .null, .null, .null, .null, .null, .null, .null, .int 0, .int 0, .int 0, .int 0, .long 0]))] := hD
  refine W.widen (k := 1) (n := 17) (Nat.le_of_ble_eq_true rfl) (Nat.le_of_ble_eq_true rfl) ?_
  refine lv_dup hx hb dL_law_3 rfl ?_
  have hPc := hP.sub (ws' := [(q_1, .inr (11, [.null, .null, .null, .null, .null, .null, .null, .null, .null, .null, .null, .null, .int 0, .int 0, .int 0, .int 0, .long 0]))]) [0] rfl
  have hDc := hD.sub (ws' := [(q_1, .inr (11, [.null, .null, .null, .null, .null, .null, .null, .null, .null, .null, .null, .null, .int 0, .int 0, .int 0, .int 0, .long 0]))]) [0] (by decide) rfl
  have hKc := hK.sub (tys' := []) [] rfl
  have hFc := va_free (wc := [(q_1, .inr (11, [.null, .null, .null, .null, .null, .null, .null, .null, .null, .null, .null, .null, .int 0, .int 0, .int 0, .int 0, .long 0]))]) hD hS hA [0] rfl
  refine va_callv (va_runI (As := []) (rest := [.ref q_1]) ⟨hx, hb, hml, hown, hts⟩ (c_X11_init l dC dI q_1 H.size) (cwI 0 hts g_law_4_c_X11_init rfl rfl rfl (hts (.initialized RX11) wl_3) (hts (.methodLink RL 15 yX11_init) wl_4) (hts (.instanceMethod yX11_init) wl_5) rfl (by decide +kernel) ⟨Nat.le_of_ble_eq_true rfl, Nat.le_of_ble_eq_true rfl⟩) ⟨fun a U g mk q => by obtain ⟨q0, q1, qP, qK, qD, n0, n1, n2, n3, n4, n5, n6, n7, n8, n9, n10, n11⟩ := q; exact ⟨q0, q1, qP, va_K.moved (u := U) (U := U.calling g mk a) (Vm.Alike.refl U.vm) qK, qD, va_Nw.same rfl rfl n0, va_Nw.same rfl rfl n1, va_Nw.same rfl rfl n2, va_Nw.same rfl rfl n3, va_Nw.same rfl rfl n4, va_Nw.same rfl rfl n5, va_Nw.same rfl rfl n6, va_Nw.same rfl rfl n7, va_Nw.same rfl rfl n8, va_AO.moved (Vm.Alike.refl _) n9, va_AO.moved (Vm.Alike.refl _) n10, va_AO.moved (Vm.Alike.refl _) n11⟩, fun U hU hW => ⟨rfl, by rw [hU], by rw [hU]; exact hPc, va_K.moved hW.alike hKc, hDc.weaken (fun _ _ _ _ => trivial), va_Nw.warmM hW hNX11_X10, va_Nw.warmM hW hNX11_X6, va_Nw.warmM hW hNX11_X3, va_Nw.warmM hW hNX11_X9, va_Nw.warmM hW hNX11_X4, va_Nw.warmM hW hNX11_X1, va_Nw.warmM hW hNX5_X9, va_Nw.warmM hW hNX7_X3, va_Nw.warmM hW hNX7_X9, va_AO.moved hW.alike hAOX9, va_AO.moved hW.alike hAOX6, va_AO.moved hW.alike hAOX3⟩⟩ rfl rfl hl.1 rfl (lv_room (Nat.le_of_ble_eq_true rfl)) dL_law_4 ⟨Nat.le_of_ble_eq_true rfl, Nat.le_of_ble_eq_true rfl⟩) hS (fun q _ h => hFc q h) hFc (fun u t H1 locs ht hvm hw hB hz1 hk1 hS => ?_)
  obtain ⟨q_3, q_4, q_5, q_6, q_7, q_8, q_9, q_10, q_11, q_12, q_13, q_14, q_15, cy_16, cy_17, q_18, q_19, q_20, q_21, q_22, q_23, q_24, q_25, q_26, cy_27, cy_28, q_29, q_30, q_31, q_32, q_33, q_34, q_35, q_36, q_37, q_38, q_39, q_40, q_41, q_42, q_43, q_44, q_45, q_46, q_47, q_48, q_49, q_50, q_51, q_52, q_53, q_54, q_55, q_56, q_57, q_58, q_59, q_60, cy_61, cy_62, cy_63, cy_64, hP1, hK1, hD1⟩ := hB
  rw [ht] at hP1
  have hK1 := va_K.moved hvm.symm hK1
  try dsimp only at hw
  obtain ⟨hP, hD⟩ := va_join (wr := []) (w1 := [(q_1, .inr (11, [.ref q_3, .ref q_4, .ref q_5, .ref q_6, .ref q_7, .ref q_8, .ref q_9, .ref q_10, .ref q_11, .ref q_12, .ref q_13, .ref q_14, .int 0, .int 0, .int (-1), .int 0, .long 0])), (q_3, .inr (10, [.ref q_15, .int 0, .int 0, .int 0])), (q_15, .inl (cy_16, 240, .inl (fun _ => 0))), (q_4, .inl (cy_17, 5, .inr (.inr (.inr (.inr (va_up (va_up (va_up (va_up (va_up (fun _ => none) (0 : Int32).toNatClampNeg (some q_18)) (1 : Int32).toNatClampNeg (some q_19)) (2 : Int32).toNatClampNeg (some q_20)) (3 : Int32).toNatClampNeg (some q_21)) (4 : Int32).toNatClampNeg (some q_22))))))), (q_18, .inr (6, [.ref q_23, .ref q_24, .ref q_25, .ref q_26, .int 0, .int 0, .int 0])), (q_25, .inl (cy_27, 65, .inl (fun _ => 0))), (q_5, .inl (cy_28, 5, .inr (.inr (.inr (.inr (va_up (va_up (va_up (va_up (va_up (fun _ => none) (0 : Int32).toNatClampNeg (some q_29)) (1 : Int32).toNatClampNeg (some q_30)) (2 : Int32).toNatClampNeg (some q_31)) (3 : Int32).toNatClampNeg (some q_32)) (4 : Int32).toNatClampNeg (some q_33))))))), (q_29, .inr (3, [.ref q_34, .int 0, .int 0])), (q_6, .inr (9, [.int 0, .int 0, .int 0, .int 0, .int 0, .int 0, .int 0, .int 0])), (q_7, .inr (5, [.ref q_35, .ref q_36, .ref q_37, .ref q_38, .int 0, .int 0, .int 0, .int 0, .int 0, .int 0, .int 0])), (q_13, .inr (4, [.ref q_39, .ref q_40, .ref q_41, .ref q_42, .ref q_43, .int 0, .int 0, .int 0, .int 0, .int 0, .int 0, .int 0, .int 0, .int 0, .int 0])), (q_14, .inr (4, [.ref q_44, .ref q_45, .ref q_46, .ref q_47, .ref q_48, .int 0, .int 0, .int 0, .int 0, .int 0, .int 0, .int 0, .int 0, .int 0, .int 0])), (q_8, .inr (8, [.ref q_13, .null, .ref q_49, .ref q_50, .ref q_51, .ref q_52, .ref q_53, .ref q_54, .int 0])), (q_9, .inr (7, [.ref q_8, .ref q_55, .ref q_56, .ref q_57, .ref q_58, .int 0, .int 0, .int 0, .int 0])), (q_12, .inr (1, [.ref q_59, .ref q_60, .int 0])), (q_44, .inl (cy_61, 7, .inl (fun _ => 0))), (q_49, .inl (cy_62, 4, .inl (fun _ => 0))), (q_50, .inl (cy_63, 1116, .inl (fun _ => 0))), (q_51, .inl (cy_64, 1116, .inl (fun _ => 0)))]) hP hD [0] [] rfl rfl (by decide) (by decide) hk1 hFc hP1 hD1
  have hK := hK.app hK1
  generalize H1 = H at hP hS ⊢
  have hP : va_P (dC, dI) vwCl [(q_1, .inr (11, [.ref q_3, .ref q_4, .ref q_5, .ref q_6, .ref q_7, .ref q_8, .ref q_9, .ref q_10, .ref q_11, .ref q_12, .ref q_13, .ref q_14, .int 0, .int 0, .int (-1), .int 0, .long 0])), (q_3, .inr (10, [.ref q_15, .int 0, .int 0, .int 0])), (q_15, .inl (cy_16, 240, .inl (fun _ => 0))), (q_4, .inl (cy_17, 5, .inr (.inr (.inr (.inr (va_up (va_up (va_up (va_up (va_up (fun _ => none) (0 : Int32).toNatClampNeg (some q_18)) (1 : Int32).toNatClampNeg (some q_19)) (2 : Int32).toNatClampNeg (some q_20)) (3 : Int32).toNatClampNeg (some q_21)) (4 : Int32).toNatClampNeg (some q_22))))))), (q_18, .inr (6, [.ref q_23, .ref q_24, .ref q_25, .ref q_26, .int 0, .int 0, .int 0])), (q_25, .inl (cy_27, 65, .inl (fun _ => 0))), (q_5, .inl (cy_28, 5, .inr (.inr (.inr (.inr (va_up (va_up (va_up (va_up (va_up (fun _ => none) (0 : Int32).toNatClampNeg (some q_29)) (1 : Int32).toNatClampNeg (some q_30)) (2 : Int32).toNatClampNeg (some q_31)) (3 : Int32).toNatClampNeg (some q_32)) (4 : Int32).toNatClampNeg (some q_33))))))), (q_29, .inr (3, [.ref q_34, .int 0, .int 0])), (q_6, .inr (9, [.int 0, .int 0, .int 0, .int 0, .int 0, .int 0, .int 0, .int 0])), (q_7, .inr (5, [.ref q_35, .ref q_36, .ref q_37, .ref q_38, .int 0, .int 0, .int 0, .int 0, .int 0, .int 0, .int 0])), (q_13, .inr (4, [.ref q_39, .ref q_40, .ref q_41, .ref q_42, .ref q_43, .int 0, .int 0, .int 0, .int 0, .int 0, .int 0, .int 0, .int 0, .int 0, .int 0])), (q_14, .inr (4, [.ref q_44, .ref q_45, .ref q_46, .ref q_47, .ref q_48, .int 0, .int 0, .int 0, .int 0, .int 0, .int 0, .int 0, .int 0, .int 0, .int 0])), (q_8, .inr (8, [.ref q_13, .null, .ref q_49, .ref q_50, .ref q_51, .ref q_52, .ref q_53, .ref q_54, .int 0])), (q_9, .inr (7, [.ref q_8, .ref q_55, .ref q_56, .ref q_57, .ref q_58, .int 0, .int 0, .int 0, .int 0])), (q_12, .inr (1, [.ref q_59, .ref q_60, .int 0])), (q_44, .inl (cy_61, 7, .inl (fun _ => 0))), (q_49, .inl (cy_62, 4, .inl (fun _ => 0))), (q_50, .inl (cy_63, 1116, .inl (fun _ => 0))), (q_51, .inl (cy_64, 1116, .inl (fun _ => 0)))] H := hP
  have hD : va_D (fun q : Nat => s.heap.size ≤ q) [(q_1, .inr (11, [.ref q_3, .ref q_4, .ref q_5, .ref q_6, .ref q_7, .ref q_8, .ref q_9, .ref q_10, .ref q_11, .ref q_12, .ref q_13, .ref q_14, .int 0, .int 0, .int (-1), .int 0, .long 0])), (q_3, .inr (10, [.ref q_15, .int 0, .int 0, .int 0])), (q_15, .inl (cy_16, 240, .inl (fun _ => 0))), (q_4, .inl (cy_17, 5, .inr (.inr (.inr (.inr (va_up (va_up (va_up (va_up (va_up (fun _ => none) (0 : Int32).toNatClampNeg (some q_18)) (1 : Int32).toNatClampNeg (some q_19)) (2 : Int32).toNatClampNeg (some q_20)) (3 : Int32).toNatClampNeg (some q_21)) (4 : Int32).toNatClampNeg (some q_22))))))), (q_18, .inr (6, [.ref q_23, .ref q_24, .ref q_25, .ref q_26, .int 0, .int 0, .int 0])), (q_25, .inl (cy_27, 65, .inl (fun _ => 0))), (q_5, .inl (cy_28, 5, .inr (.inr (.inr (.inr (va_up (va_up (va_up (va_up (va_up (fun _ => none) (0 : Int32).toNatClampNeg (some q_29)) (1 : Int32).toNatClampNeg (some q_30)) (2 : Int32).toNatClampNeg (some q_31)) (3 : Int32).toNatClampNeg (some q_32)) (4 : Int32).toNatClampNeg (some q_33))))))), (q_29, .inr (3, [.ref q_34, .int 0, .int 0])), (q_6, .inr (9, [.int 0, .int 0, .int 0, .int 0, .int 0, .int 0, .int 0, .int 0])), (q_7, .inr (5, [.ref q_35, .ref q_36, .ref q_37, .ref q_38, .int 0, .int 0, .int 0, .int 0, .int 0, .int 0, .int 0])), (q_13, .inr (4, [.ref q_39, .ref q_40, .ref q_41, .ref q_42, .ref q_43, .int 0, .int 0, .int 0, .int 0, .int 0, .int 0, .int 0, .int 0, .int 0, .int 0])), (q_14, .inr (4, [.ref q_44, .ref q_45, .ref q_46, .ref q_47, .ref q_48, .int 0, .int 0, .int 0, .int 0, .int 0, .int 0, .int 0, .int 0, .int 0, .int 0])), (q_8, .inr (8, [.ref q_13, .null, .ref q_49, .ref q_50, .ref q_51, .ref q_52, .ref q_53, .ref q_54, .int 0])), (q_9, .inr (7, [.ref q_8, .ref q_55, .ref q_56, .ref q_57, .ref q_58, .int 0, .int 0, .int 0, .int 0])), (q_12, .inr (1, [.ref q_59, .ref q_60, .int 0])), (q_44, .inl (cy_61, 7, .inl (fun _ => 0))), (q_49, .inl (cy_62, 4, .inl (fun _ => 0))), (q_50, .inl (cy_63, 1116, .inl (fun _ => 0))), (q_51, .inl (cy_64, 1116, .inl (fun _ => 0)))] := hD
  have hK : va_K (dC, dI) vwCl [(cy_16, .int), (cy_17, (.object RX6)), (cy_27, .int), (cy_28, (.object RX3)), (cy_61, .int), (cy_62, .int), (cy_63, .int), (cy_64, .int)] s := hK
  refine W.widen (k := 123) (n := 6382) (Nat.le_of_ble_eq_true rfl) (Nat.le_of_ble_eq_true rfl) ?_
  refine lv_astore_n (lv' := [(1, .ref q_1), (0, .ref b)]) hx hb dL_law_7 rfl hl (by decide) rfl (fun ls hl => ?_)
  refine va_new (ci := 12) (fs := [.int 0, .null, .null, .null, .null, .null, .int 0, .int 0, .int 0, .int 0, .int 0, .int 0, .int 0, .int 0, .int 0, .null, .null, .int 0, .null, .null, .null, .null, .null, .int 0, .int 0, .int 0, .int 0, .int 0, .int 0, .int 0, .int 0, .int 0, .null, .null, .int 0, .int 0, .null, .null, .null, .int 0, .long 0, .null, .int 0, .int 0, .null, .null, .null, .int 0, .null, .null, .int 0, .null, .int 0]) (C := RX12) (T := TX12) (N := 53) hx hb hts inW_X12 tyX12 tyX12_ok hown (hts (.classLink RL 16 RX12) wl_6) (hts (.instantiable RX12 53) wl_7) (hts (.initialized RX12) wl_8) hK hP hD hS hA rfl (by decide +kernel) (Nat.le_of_ble_eq_true rfl) (Nat.le_of_ble_eq_true rfl) dL_law_8 (fun q_65 H hP hD hS => ?_)
  have hP : va_P (dC, dI) vwCl [(q_1, .inr (11, [.ref q_3, .ref q_4, .ref q_5, .ref q_6, .ref q_7, .ref q_8, .ref q_9, .ref q_10, .ref q_11, .ref q_12, .ref q_13, .ref q_14, .int 0, .int 0, .int (-1), .int 0, .long 0])), (q_3, .inr (10, [.ref q_15, .int 0, .int 0, .int 0])), (q_15, .inl (cy_16, 240, .inl (fun _ => 0))), (q_4, .inl (cy_17, 5, .inr (.inr (.inr (.inr (va_up (va_up (va_up (va_up (va_up (fun _ => none) (0 : Int32).toNatClampNeg (some q_18)) (1 : Int32).toNatClampNeg (some q_19)) (2 : Int32).toNatClampNeg (some q_20)) (3 : Int32).toNatClampNeg (some q_21)) (4 : Int32).toNatClampNeg (some q_22))))))), (q_18, .inr (6, [.ref q_23, .ref q_24, .ref q_25, .ref q_26, .int 0, .int 0, .int 0])), (q_25, .inl (cy_27, 65, .inl (fun _ => 0))), (q_5, .inl (cy_28, 5, .inr (.inr (.inr (.inr (va_up (va_up (va_up (va_up (va_up (fun _ => none) (0 : Int32).toNatClampNeg (some q_29)) (1 : Int32).toNatClampNeg (some q_30)) (2 : Int32).toNatClampNeg (some q_31)) (3 : Int32).toNatClampNeg (some q_32)) (4 : Int32).toNatClampNeg (some q_33))))))), (q_29, .inr (3, [.ref q_34, .int 0, .int 0])), (q_6, .inr (9, [.int 0, .int 0, .int 0, .int 0, .int 0, .int 0, .int 0, .int 0])), (q_7, .inr (5, [.ref q_35, .ref q_36, .ref q_37, .ref q_38, .int 0, .int 0, .int 0, .int 0, .int 0, .int 0, .int 0])), (q_13, .inr (4, [.ref q_39, .ref q_40, .ref q_41, .ref q_42, .ref q_43, .int 0, .int 0, .int 0, .int 0, .int 0, .int 0, .int 0, .int 0, .int 0, .int 0])), (q_14, .inr (4, [.ref q_44, .ref q_45, .ref q_46, .ref q_47, .ref q_48, .int 0, .int 0, .int 0, .int 0, .int 0, .int 0, .int 0, .int 0, .int 0, .int 0])), (q_8, .inr (8, [.ref q_13, .null, .ref q_49, .ref q_50, .ref q_51, .ref q_52, .ref q_53, .ref q_54, .int 0])), (q_9, .inr (7, [.ref q_8, .ref q_55, .ref q_56, .ref q_57, .ref q_58, .int 0, .int 0, .int 0, .int 0])), (q_12, .inr (1, [.ref q_59, .ref q_60, .int 0])), (q_44, .inl (cy_61, 7, .inl (fun _ => 0))), (q_49, .inl (cy_62, 4, .inl (fun _ => 0))), (q_50, .inl (cy_63, 1116, .inl (fun _ => 0))), (q_51, .inl (cy_64, 1116, .inl (fun _ => 0))), (q_65, .inr (12, [.int 0, .null, .null, .null, .null, .null, .int 0, .int 0, .int 0, .int 0, .int 0, .int 0, .int 0, .int 0, .int 0, .null, .null, .int 0, .null, .null, .null, .null, .null, .int 0, .int 0, .int 0, .int 0, .int 0, .int 0, .int 0, .int 0, .int 0, .null, .null, .int 0, .int 0, .null, .null, .null, .int 0, .long 0, .null, .int 0, .int 0, .null, .null, .null, .int 0, .null, .null, .int 0, .null, .int 0]))] H := hP
  have hD : va_D (fun q : Nat => s.heap.size ≤ q) [(q_1, .inr (11, [.ref q_3, .ref q_4, .ref q_5, .ref q_6, .ref q_7, .ref q_8, .ref q_9, .ref q_10, .ref q_11, .ref q_12, .ref q_13, .ref q_14, .int 0, .int 0, .int (-1), .int 0, .long 0])), (q_3, .inr (10, [.ref q_15, .int 0, .int 0, .int 0])), (q_15, .inl (cy_16, 240, .inl (fun _ => 0))), (q_4, .inl (cy_17, 5, .inr (.inr (.inr (.inr (va_up (va_up (va_up (va_up (va_up (fun _ => none) (0 : Int32).toNatClampNeg (some q_18)) (1 : Int32).toNatClampNeg (some q_19)) (2 : Int32).toNatClampNeg (some q_20)) (3 : Int32).toNatClampNeg (some q_21)) (4 : Int32).toNatClampNeg (some q_22))))))), (q_18, .inr (6, [.ref q_23, .ref q_24, .ref q_25, .ref q_26, .int 0, .int 0, .int 0])), (q_25, .inl (cy_27, 65, .inl (fun _ => 0))), (q_5, .inl (cy_28, 5, .inr (.inr (.inr (.inr (va_up (va_up (va_up (va_up (va_up (fun _ => none) (0 : Int32).toNatClampNeg (some q_29)) (1 : Int32).toNatClampNeg (some q_30)) (2 : Int32).toNatClampNeg (some q_31)) (3 : Int32).toNatClampNeg (some q_32)) (4 : Int32).toNatClampNeg (some q_33))))))), (q_29, .inr (3, [.ref q_34, .int 0, .int 0])), (q_6, .inr (9, [.int 0, .int 0, .int 0, .int 0, .int 0, .int 0, .int 0, .int 0])), (q_7, .inr (5, [.ref q_35, .ref q_36, .ref q_37, .ref q_38, .int 0, .int 0, .int 0, .int 0, .int 0, .int 0, .int 0])), (q_13, .inr (4, [.ref q_39, .ref q_40, .ref q_41, .ref q_42, .ref q_43, .int 0, .int 0, .int 0, .int 0, .int 0, .int 0, .int 0, .int 0, .int 0, .int 0])), (q_14, .inr (4, [.ref q_44, .ref q_45, .ref q_46, .ref q_47, .ref q_48, .int 0, .int 0, .int 0, .int 0, .int 0, .int 0, .int 0, .int 0, .int 0, .int 0])), (q_8, .inr (8, [.ref q_13, .null, .ref q_49, .ref q_50, .ref q_51, .ref q_52, .ref q_53, .ref q_54, .int 0])), (q_9, .inr (7, [.ref q_8, .ref q_55, .ref q_56, .ref q_57, .ref q_58, .int 0, .int 0, .int 0, .int 0])), (q_12, .inr (1, [.ref q_59, .ref q_60, .int 0])), (q_44, .inl (cy_61, 7, .inl (fun _ => 0))), (q_49, .inl (cy_62, 4, .inl (fun _ => 0))), (q_50, .inl (cy_63, 1116, .inl (fun _ => 0))), (q_51, .inl (cy_64, 1116, .inl (fun _ => 0))), (q_65, .inr (12, [.int 0, .null, .null, .null, .null, .null, .int 0, .int 0, .int 0, .int 0, .int 0, .int 0, .int 0, .int 0, .int 0, .null, .null, .int 0, .null, .null, .null, .null, .null, .int 0, .int 0, .int 0, .int 0, .int 0, .int 0, .int 0, .int 0, .int 0, .null, .null, .int 0, .int 0, .null, .null, .null, .int 0, .long 0, .null, .int 0, .int 0, .null, .null, .null, .int 0, .null, .null, .int 0, .null, .int 0]))] := hD
  refine W.widen (k := 124) (n := 6435) (Nat.le_of_ble_eq_true rfl) (Nat.le_of_ble_eq_true rfl) ?_
  refine lv_dup hx hb dL_law_11 rfl ?_
  have hPc := hP.sub (ws' := [(q_65, .inr (12, [.int 0, .null, .null, .null, .null, .null, .int 0, .int 0, .int 0, .int 0, .int 0, .int 0, .int 0, .int 0, .int 0, .null, .null, .int 0, .null, .null, .null, .null, .null, .int 0, .int 0, .int 0, .int 0, .int 0, .int 0, .int 0, .int 0, .int 0, .null, .null, .int 0, .int 0, .null, .null, .null, .int 0, .long 0, .null, .int 0, .int 0, .null, .null, .null, .int 0, .null, .null, .int 0, .null, .int 0]))]) [19] rfl
  have hDc := hD.sub (ws' := [(q_65, .inr (12, [.int 0, .null, .null, .null, .null, .null, .int 0, .int 0, .int 0, .int 0, .int 0, .int 0, .int 0, .int 0, .int 0, .null, .null, .int 0, .null, .null, .null, .null, .null, .int 0, .int 0, .int 0, .int 0, .int 0, .int 0, .int 0, .int 0, .int 0, .null, .null, .int 0, .int 0, .null, .null, .null, .int 0, .long 0, .null, .int 0, .int 0, .null, .null, .null, .int 0, .null, .null, .int 0, .null, .int 0]))]) [19] (by decide) rfl
  have hKc := hK.sub (tys' := []) [] rfl
  have hFc := va_free (wc := [(q_65, .inr (12, [.int 0, .null, .null, .null, .null, .null, .int 0, .int 0, .int 0, .int 0, .int 0, .int 0, .int 0, .int 0, .int 0, .null, .null, .int 0, .null, .null, .null, .null, .null, .int 0, .int 0, .int 0, .int 0, .int 0, .int 0, .int 0, .int 0, .int 0, .null, .null, .int 0, .int 0, .null, .null, .null, .int 0, .long 0, .null, .int 0, .int 0, .null, .null, .null, .int 0, .null, .null, .int 0, .null, .int 0]))]) hD hS hA [19] rfl
  refine va_callv (va_runI (As := []) (rest := [.ref q_65]) ⟨hx, hb, hml, hown, hts⟩ (c_X12_init l dC dI q_65 aY aT H.size) (cwI 0 hts g_law_12_c_X12_init rfl rfl rfl (hts (.initialized RX12) wl_8) (hts (.methodLink RL 18 yX12_init) wl_9) (hts (.instanceMethod yX12_init) wl_10) rfl (by decide +kernel) ⟨Nat.le_of_ble_eq_true rfl, Nat.le_of_ble_eq_true rfl⟩) ⟨fun a U g mk q => by obtain ⟨q0, q1, qP, qK, qD, n0, n1⟩ := q; exact ⟨q0, q1, qP, va_K.moved (u := U) (U := U.calling g mk a) (Vm.Alike.refl U.vm) qK, qD, vk_R.same rfl n0, vk_R.same rfl n1⟩, fun U hU hW => ⟨rfl, by rw [hU], by rw [hU]; exact hPc, va_K.moved hW.alike hKc, hDc.weaken (fun _ _ _ _ => trivial), vk_R.warm hW hRy, vk_R.warm hW hRt⟩⟩ rfl rfl hl.1 rfl (lv_room (Nat.le_of_ble_eq_true rfl)) dL_law_12 ⟨Nat.le_of_ble_eq_true rfl, Nat.le_of_ble_eq_true rfl⟩) hS (fun q _ h => hFc q h) hFc (fun u t H1 locs ht hvm hw hB hz1 hk1 hS => ?_)
  obtain ⟨q_67, q_68, q_69, q_70, q_71, q_72, q_73, q_74, q_75, q_76, q_77, q_78, q_79, q_80, q_81, q_82, q_83, q_84, q_85, q_86, q_87, cy_88, cy_89, cy_90, hP1, hK1, hD1⟩ := hB
  rw [ht] at hP1
  have hK1 := va_K.moved hvm.symm hK1
  try dsimp only at hw
  obtain ⟨hP, hD⟩ := va_join (wr := [(q_1, .inr (11, [.ref q_3, .ref q_4, .ref q_5, .ref q_6, .ref q_7, .ref q_8, .ref q_9, .ref q_10, .ref q_11, .ref q_12, .ref q_13, .ref q_14, .int 0, .int 0, .int (-1), .int 0, .long 0])), (q_3, .inr (10, [.ref q_15, .int 0, .int 0, .int 0])), (q_15, .inl (cy_16, 240, .inl (fun _ => 0))), (q_4, .inl (cy_17, 5, .inr (.inr (.inr (.inr (va_up (va_up (va_up (va_up (va_up (fun _ => none) (0 : Int32).toNatClampNeg (some q_18)) (1 : Int32).toNatClampNeg (some q_19)) (2 : Int32).toNatClampNeg (some q_20)) (3 : Int32).toNatClampNeg (some q_21)) (4 : Int32).toNatClampNeg (some q_22))))))), (q_18, .inr (6, [.ref q_23, .ref q_24, .ref q_25, .ref q_26, .int 0, .int 0, .int 0])), (q_25, .inl (cy_27, 65, .inl (fun _ => 0))), (q_5, .inl (cy_28, 5, .inr (.inr (.inr (.inr (va_up (va_up (va_up (va_up (va_up (fun _ => none) (0 : Int32).toNatClampNeg (some q_29)) (1 : Int32).toNatClampNeg (some q_30)) (2 : Int32).toNatClampNeg (some q_31)) (3 : Int32).toNatClampNeg (some q_32)) (4 : Int32).toNatClampNeg (some q_33))))))), (q_29, .inr (3, [.ref q_34, .int 0, .int 0])), (q_6, .inr (9, [.int 0, .int 0, .int 0, .int 0, .int 0, .int 0, .int 0, .int 0])), (q_7, .inr (5, [.ref q_35, .ref q_36, .ref q_37, .ref q_38, .int 0, .int 0, .int 0, .int 0, .int 0, .int 0, .int 0])), (q_13, .inr (4, [.ref q_39, .ref q_40, .ref q_41, .ref q_42, .ref q_43, .int 0, .int 0, .int 0, .int 0, .int 0, .int 0, .int 0, .int 0, .int 0, .int 0])), (q_14, .inr (4, [.ref q_44, .ref q_45, .ref q_46, .ref q_47, .ref q_48, .int 0, .int 0, .int 0, .int 0, .int 0, .int 0, .int 0, .int 0, .int 0, .int 0])), (q_8, .inr (8, [.ref q_13, .null, .ref q_49, .ref q_50, .ref q_51, .ref q_52, .ref q_53, .ref q_54, .int 0])), (q_9, .inr (7, [.ref q_8, .ref q_55, .ref q_56, .ref q_57, .ref q_58, .int 0, .int 0, .int 0, .int 0])), (q_12, .inr (1, [.ref q_59, .ref q_60, .int 0])), (q_44, .inl (cy_61, 7, .inl (fun _ => 0))), (q_49, .inl (cy_62, 4, .inl (fun _ => 0))), (q_50, .inl (cy_63, 1116, .inl (fun _ => 0))), (q_51, .inl (cy_64, 1116, .inl (fun _ => 0)))]) (w1 := [(q_65, .inr (12, [.int 0, .ref q_67, .ref q_68, .ref q_69, .ref q_70, .ref q_67, .int 0, .int 0, .int 0, .int 0, .int 0, .int 0, .int 0, .int 0, .int 0, .ref aY, .ref aT, .int 0, .ref q_71, .ref q_72, .ref q_73, .ref q_74, .ref q_75, .int 0, .int 0, .int 0, .int 0, .int 0, .int 0, .int 0, .int 0, .int 0, .ref q_76, .ref q_77, .int (-1), .int 0, .ref q_78, .ref q_79, .ref q_80, .int 0, .long 0, .ref q_81, .int 0, .int 0, .ref q_82, .ref q_83, .ref q_84, .int 0, .ref q_85, .ref q_86, .int 0, .ref q_87, .int 0])), (q_67, .inl (cy_88, 240, .inl (fun _ => 0))), (q_72, .inl (cy_89, 7, .inl (fun _ => 0))), (q_76, .inl (cy_90, 249, .inl (fun _ => 0)))]) hP hD [19] [0, 1, 2, 3, 4, 5, 6, 7, 8, 9, 10, 11, 12, 13, 14, 15, 16, 17, 18] rfl rfl (by decide) (by decide) hk1 hFc hP1 hD1
  have hK := hK.app hK1
  generalize H1 = H at hP hS ⊢
  have hP : va_P (dC, dI) vwCl [(q_1, .inr (11, [.ref q_3, .ref q_4, .ref q_5, .ref q_6, .ref q_7, .ref q_8, .ref q_9, .ref q_10, .ref q_11, .ref q_12, .ref q_13, .ref q_14, .int 0, .int 0, .int (-1), .int 0, .long 0])), (q_3, .inr (10, [.ref q_15, .int 0, .int 0, .int 0])), (q_15, .inl (cy_16, 240, .inl (fun _ => 0))), (q_4, .inl (cy_17, 5, .inr (.inr (.inr (.inr (va_up (va_up (va_up (va_up (va_up (fun _ => none) (0 : Int32).toNatClampNeg (some q_18)) (1 : Int32).toNatClampNeg (some q_19)) (2 : Int32).toNatClampNeg (some q_20)) (3 : Int32).toNatClampNeg (some q_21)) (4 : Int32).toNatClampNeg (some q_22))))))), (q_18, .inr (6, [.ref q_23, .ref q_24, .ref q_25, .ref q_26, .int 0, .int 0, .int 0])), (q_25, .inl (cy_27, 65, .inl (fun _ => 0))), (q_5, .inl (cy_28, 5, .inr (.inr (.inr (.inr (va_up (va_up (va_up (va_up (va_up (fun _ => none) (0 : Int32).toNatClampNeg (some q_29)) (1 : Int32).toNatClampNeg (some q_30)) (2 : Int32).toNatClampNeg (some q_31)) (3 : Int32).toNatClampNeg (some q_32)) (4 : Int32).toNatClampNeg (some q_33))))))), (q_29, .inr (3, [.ref q_34, .int 0, .int 0])), (q_6, .inr (9, [.int 0, .int 0, .int 0, .int 0, .int 0, .int 0, .int 0, .int 0])), (q_7, .inr (5, [.ref q_35, .ref q_36, .ref q_37, .ref q_38, .int 0, .int 0, .int 0, .int 0, .int 0, .int 0, .int 0])), (q_13, .inr (4, [.ref q_39, .ref q_40, .ref q_41, .ref q_42, .ref q_43, .int 0, .int 0, .int 0, .int 0, .int 0, .int 0, .int 0, .int 0, .int 0, .int 0])), (q_14, .inr (4, [.ref q_44, .ref q_45, .ref q_46, .ref q_47, .ref q_48, .int 0, .int 0, .int 0, .int 0, .int 0, .int 0, .int 0, .int 0, .int 0, .int 0])), (q_8, .inr (8, [.ref q_13, .null, .ref q_49, .ref q_50, .ref q_51, .ref q_52, .ref q_53, .ref q_54, .int 0])), (q_9, .inr (7, [.ref q_8, .ref q_55, .ref q_56, .ref q_57, .ref q_58, .int 0, .int 0, .int 0, .int 0])), (q_12, .inr (1, [.ref q_59, .ref q_60, .int 0])), (q_44, .inl (cy_61, 7, .inl (fun _ => 0))), (q_49, .inl (cy_62, 4, .inl (fun _ => 0))), (q_50, .inl (cy_63, 1116, .inl (fun _ => 0))), (q_51, .inl (cy_64, 1116, .inl (fun _ => 0))), (q_65, .inr (12, [.int 0, .ref q_67, .ref q_68, .ref q_69, .ref q_70, .ref q_67, .int 0, .int 0, .int 0, .int 0, .int 0, .int 0, .int 0, .int 0, .int 0, .ref aY, .ref aT, .int 0, .ref q_71, .ref q_72, .ref q_73, .ref q_74, .ref q_75, .int 0, .int 0, .int 0, .int 0, .int 0, .int 0, .int 0, .int 0, .int 0, .ref q_76, .ref q_77, .int (-1), .int 0, .ref q_78, .ref q_79, .ref q_80, .int 0, .long 0, .ref q_81, .int 0, .int 0, .ref q_82, .ref q_83, .ref q_84, .int 0, .ref q_85, .ref q_86, .int 0, .ref q_87, .int 0])), (q_67, .inl (cy_88, 240, .inl (fun _ => 0))), (q_72, .inl (cy_89, 7, .inl (fun _ => 0))), (q_76, .inl (cy_90, 249, .inl (fun _ => 0)))] H := hP
  have hD : va_D (fun q : Nat => s.heap.size ≤ q) [(q_1, .inr (11, [.ref q_3, .ref q_4, .ref q_5, .ref q_6, .ref q_7, .ref q_8, .ref q_9, .ref q_10, .ref q_11, .ref q_12, .ref q_13, .ref q_14, .int 0, .int 0, .int (-1), .int 0, .long 0])), (q_3, .inr (10, [.ref q_15, .int 0, .int 0, .int 0])), (q_15, .inl (cy_16, 240, .inl (fun _ => 0))), (q_4, .inl (cy_17, 5, .inr (.inr (.inr (.inr (va_up (va_up (va_up (va_up (va_up (fun _ => none) (0 : Int32).toNatClampNeg (some q_18)) (1 : Int32).toNatClampNeg (some q_19)) (2 : Int32).toNatClampNeg (some q_20)) (3 : Int32).toNatClampNeg (some q_21)) (4 : Int32).toNatClampNeg (some q_22))))))), (q_18, .inr (6, [.ref q_23, .ref q_24, .ref q_25, .ref q_26, .int 0, .int 0, .int 0])), (q_25, .inl (cy_27, 65, .inl (fun _ => 0))), (q_5, .inl (cy_28, 5, .inr (.inr (.inr (.inr (va_up (va_up (va_up (va_up (va_up (fun _ => none) (0 : Int32).toNatClampNeg (some q_29)) (1 : Int32).toNatClampNeg (some q_30)) (2 : Int32).toNatClampNeg (some q_31)) (3 : Int32).toNatClampNeg (some q_32)) (4 : Int32).toNatClampNeg (some q_33))))))), (q_29, .inr (3, [.ref q_34, .int 0, .int 0])), (q_6, .inr (9, [.int 0, .int 0, .int 0, .int 0, .int 0, .int 0, .int 0, .int 0])), (q_7, .inr (5, [.ref q_35, .ref q_36, .ref q_37, .ref q_38, .int 0, .int 0, .int 0, .int 0, .int 0, .int 0, .int 0])), (q_13, .inr (4, [.ref q_39, .ref q_40, .ref q_41, .ref q_42, .ref q_43, .int 0, .int 0, .int 0, .int 0, .int 0, .int 0, .int 0, .int 0, .int 0, .int 0])), (q_14, .inr (4, [.ref q_44, .ref q_45, .ref q_46, .ref q_47, .ref q_48, .int 0, .int 0, .int 0, .int 0, .int 0, .int 0, .int 0, .int 0, .int 0, .int 0])), (q_8, .inr (8, [.ref q_13, .null, .ref q_49, .ref q_50, .ref q_51, .ref q_52, .ref q_53, .ref q_54, .int 0])), (q_9, .inr (7, [.ref q_8, .ref q_55, .ref q_56, .ref q_57, .ref q_58, .int 0, .int 0, .int 0, .int 0])), (q_12, .inr (1, [.ref q_59, .ref q_60, .int 0])), (q_44, .inl (cy_61, 7, .inl (fun _ => 0))), (q_49, .inl (cy_62, 4, .inl (fun _ => 0))), (q_50, .inl (cy_63, 1116, .inl (fun _ => 0))), (q_51, .inl (cy_64, 1116, .inl (fun _ => 0))), (q_65, .inr (12, [.int 0, .ref q_67, .ref q_68, .ref q_69, .ref q_70, .ref q_67, .int 0, .int 0, .int 0, .int 0, .int 0, .int 0, .int 0, .int 0, .int 0, .ref aY, .ref aT, .int 0, .ref q_71, .ref q_72, .ref q_73, .ref q_74, .ref q_75, .int 0, .int 0, .int 0, .int 0, .int 0, .int 0, .int 0, .int 0, .int 0, .ref q_76, .ref q_77, .int (-1), .int 0, .ref q_78, .ref q_79, .ref q_80, .int 0, .long 0, .ref q_81, .int 0, .int 0, .ref q_82, .ref q_83, .ref q_84, .int 0, .ref q_85, .ref q_86, .int 0, .ref q_87, .int 0])), (q_67, .inl (cy_88, 240, .inl (fun _ => 0))), (q_72, .inl (cy_89, 7, .inl (fun _ => 0))), (q_76, .inl (cy_90, 249, .inl (fun _ => 0)))] := hD
  have hK : va_K (dC, dI) vwCl [(cy_16, .int), (cy_17, (.object RX6)), (cy_27, .int), (cy_28, (.object RX3)), (cy_61, .int), (cy_62, .int), (cy_63, .int), (cy_64, .int), (cy_88, .byte), (cy_89, .int), (cy_90, .int)] s := hK
  refine W.widen (k := 145) (n := 43427) (Nat.le_of_ble_eq_true rfl) (Nat.le_of_ble_eq_true rfl) ?_
  refine lv_astore_n (lv' := [(2, .ref q_65), (1, .ref q_1), (0, .ref b)]) hx hb dL_law_15 rfl hl (by decide) rfl (fun ls hl => ?_)
  refine lv_iconst (v := 1) hx hb dL_law_16 (by decide +kernel) ?_
  refine va_newa (atype := .long) (ty := .long) (a0 := (1, .inr (.inl (fun _ => 0)))) hx hb (hts (.arrayClass .long) wl_11) rfl hK hP hD hS hA (N' := 1) (fun _ => rfl) (by decide +kernel) rfl (Nat.le_of_ble_eq_true rfl) (Nat.le_of_ble_eq_true rfl) (Nat.le_of_ble_eq_true rfl) dL_law_17 (fun q_91 cy_92 H hK hP hD hS => ?_)
  have hK : va_K (dC, dI) vwCl [(cy_16, .int), (cy_17, (.object RX6)), (cy_27, .int), (cy_28, (.object RX3)), (cy_61, .int), (cy_62, .int), (cy_63, .int), (cy_64, .int), (cy_88, .byte), (cy_89, .int), (cy_90, .int), (cy_92, .long)] s := hK
  have hP : va_P (dC, dI) vwCl [(q_1, .inr (11, [.ref q_3, .ref q_4, .ref q_5, .ref q_6, .ref q_7, .ref q_8, .ref q_9, .ref q_10, .ref q_11, .ref q_12, .ref q_13, .ref q_14, .int 0, .int 0, .int (-1), .int 0, .long 0])), (q_3, .inr (10, [.ref q_15, .int 0, .int 0, .int 0])), (q_15, .inl (cy_16, 240, .inl (fun _ => 0))), (q_4, .inl (cy_17, 5, .inr (.inr (.inr (.inr (va_up (va_up (va_up (va_up (va_up (fun _ => none) (0 : Int32).toNatClampNeg (some q_18)) (1 : Int32).toNatClampNeg (some q_19)) (2 : Int32).toNatClampNeg (some q_20)) (3 : Int32).toNatClampNeg (some q_21)) (4 : Int32).toNatClampNeg (some q_22))))))), (q_18, .inr (6, [.ref q_23, .ref q_24, .ref q_25, .ref q_26, .int 0, .int 0, .int 0])), (q_25, .inl (cy_27, 65, .inl (fun _ => 0))), (q_5, .inl (cy_28, 5, .inr (.inr (.inr (.inr (va_up (va_up (va_up (va_up (va_up (fun _ => none) (0 : Int32).toNatClampNeg (some q_29)) (1 : Int32).toNatClampNeg (some q_30)) (2 : Int32).toNatClampNeg (some q_31)) (3 : Int32).toNatClampNeg (some q_32)) (4 : Int32).toNatClampNeg (some q_33))))))), (q_29, .inr (3, [.ref q_34, .int 0, .int 0])), (q_6, .inr (9, [.int 0, .int 0, .int 0, .int 0, .int 0, .int 0, .int 0, .int 0])), (q_7, .inr (5, [.ref q_35, .ref q_36, .ref q_37, .ref q_38, .int 0, .int 0, .int 0, .int 0, .int 0, .int 0, .int 0])), (q_13, .inr (4, [.ref q_39, .ref q_40, .ref q_41, .ref q_42, .ref q_43, .int 0, .int 0, .int 0, .int 0, .int 0, .int 0, .int 0, .int 0, .int 0, .int 0])), (q_14, .inr (4, [.ref q_44, .ref q_45, .ref q_46, .ref q_47, .ref q_48, .int 0, .int 0, .int 0, .int 0, .int 0, .int 0, .int 0, .int 0, .int 0, .int 0])), (q_8, .inr (8, [.ref q_13, .null, .ref q_49, .ref q_50, .ref q_51, .ref q_52, .ref q_53, .ref q_54, .int 0])), (q_9, .inr (7, [.ref q_8, .ref q_55, .ref q_56, .ref q_57, .ref q_58, .int 0, .int 0, .int 0, .int 0])), (q_12, .inr (1, [.ref q_59, .ref q_60, .int 0])), (q_44, .inl (cy_61, 7, .inl (fun _ => 0))), (q_49, .inl (cy_62, 4, .inl (fun _ => 0))), (q_50, .inl (cy_63, 1116, .inl (fun _ => 0))), (q_51, .inl (cy_64, 1116, .inl (fun _ => 0))), (q_65, .inr (12, [.int 0, .ref q_67, .ref q_68, .ref q_69, .ref q_70, .ref q_67, .int 0, .int 0, .int 0, .int 0, .int 0, .int 0, .int 0, .int 0, .int 0, .ref aY, .ref aT, .int 0, .ref q_71, .ref q_72, .ref q_73, .ref q_74, .ref q_75, .int 0, .int 0, .int 0, .int 0, .int 0, .int 0, .int 0, .int 0, .int 0, .ref q_76, .ref q_77, .int (-1), .int 0, .ref q_78, .ref q_79, .ref q_80, .int 0, .long 0, .ref q_81, .int 0, .int 0, .ref q_82, .ref q_83, .ref q_84, .int 0, .ref q_85, .ref q_86, .int 0, .ref q_87, .int 0])), (q_67, .inl (cy_88, 240, .inl (fun _ => 0))), (q_72, .inl (cy_89, 7, .inl (fun _ => 0))), (q_76, .inl (cy_90, 249, .inl (fun _ => 0))), (q_91, .inl (cy_92, 1, .inr (.inl (fun _ => 0))))] H := hP
  have hD : va_D (fun q : Nat => s.heap.size ≤ q) [(q_1, .inr (11, [.ref q_3, .ref q_4, .ref q_5, .ref q_6, .ref q_7, .ref q_8, .ref q_9, .ref q_10, .ref q_11, .ref q_12, .ref q_13, .ref q_14, .int 0, .int 0, .int (-1), .int 0, .long 0])), (q_3, .inr (10, [.ref q_15, .int 0, .int 0, .int 0])), (q_15, .inl (cy_16, 240, .inl (fun _ => 0))), (q_4, .inl (cy_17, 5, .inr (.inr (.inr (.inr (va_up (va_up (va_up (va_up (va_up (fun _ => none) (0 : Int32).toNatClampNeg (some q_18)) (1 : Int32).toNatClampNeg (some q_19)) (2 : Int32).toNatClampNeg (some q_20)) (3 : Int32).toNatClampNeg (some q_21)) (4 : Int32).toNatClampNeg (some q_22))))))), (q_18, .inr (6, [.ref q_23, .ref q_24, .ref q_25, .ref q_26, .int 0, .int 0, .int 0])), (q_25, .inl (cy_27, 65, .inl (fun _ => 0))), (q_5, .inl (cy_28, 5, .inr (.inr (.inr (.inr (va_up (va_up (va_up (va_up (va_up (fun _ => none) (0 : Int32).toNatClampNeg (some q_29)) (1 : Int32).toNatClampNeg (some q_30)) (2 : Int32).toNatClampNeg (some q_31)) (3 : Int32).toNatClampNeg (some q_32)) (4 : Int32).toNatClampNeg (some q_33))))))), (q_29, .inr (3, [.ref q_34, .int 0, .int 0])), (q_6, .inr (9, [.int 0, .int 0, .int 0, .int 0, .int 0, .int 0, .int 0, .int 0])), (q_7, .inr (5, [.ref q_35, .ref q_36, .ref q_37, .ref q_38, .int 0, .int 0, .int 0, .int 0, .int 0, .int 0, .int 0])), (q_13, .inr (4, [.ref q_39, .ref q_40, .ref q_41, .ref q_42, .ref q_43, .int 0, .int 0, .int 0, .int 0, .int 0, .int 0, .int 0, .int 0, .int 0, .int 0])), (q_14, .inr (4, [.ref q_44, .ref q_45, .ref q_46, .ref q_47, .ref q_48, .int 0, .int 0, .int 0, .int 0, .int 0, .int 0, .int 0, .int 0, .int 0, .int 0])), (q_8, .inr (8, [.ref q_13, .null, .ref q_49, .ref q_50, .ref q_51, .ref q_52, .ref q_53, .ref q_54, .int 0])), (q_9, .inr (7, [.ref q_8, .ref q_55, .ref q_56, .ref q_57, .ref q_58, .int 0, .int 0, .int 0, .int 0])), (q_12, .inr (1, [.ref q_59, .ref q_60, .int 0])), (q_44, .inl (cy_61, 7, .inl (fun _ => 0))), (q_49, .inl (cy_62, 4, .inl (fun _ => 0))), (q_50, .inl (cy_63, 1116, .inl (fun _ => 0))), (q_51, .inl (cy_64, 1116, .inl (fun _ => 0))), (q_65, .inr (12, [.int 0, .ref q_67, .ref q_68, .ref q_69, .ref q_70, .ref q_67, .int 0, .int 0, .int 0, .int 0, .int 0, .int 0, .int 0, .int 0, .int 0, .ref aY, .ref aT, .int 0, .ref q_71, .ref q_72, .ref q_73, .ref q_74, .ref q_75, .int 0, .int 0, .int 0, .int 0, .int 0, .int 0, .int 0, .int 0, .int 0, .ref q_76, .ref q_77, .int (-1), .int 0, .ref q_78, .ref q_79, .ref q_80, .int 0, .long 0, .ref q_81, .int 0, .int 0, .ref q_82, .ref q_83, .ref q_84, .int 0, .ref q_85, .ref q_86, .int 0, .ref q_87, .int 0])), (q_67, .inl (cy_88, 240, .inl (fun _ => 0))), (q_72, .inl (cy_89, 7, .inl (fun _ => 0))), (q_76, .inl (cy_90, 249, .inl (fun _ => 0))), (q_91, .inl (cy_92, 1, .inr (.inl (fun _ => 0))))] := hD
  refine W.widen (k := 146) (n := 43428) (Nat.le_of_ble_eq_true rfl) (Nat.le_of_ble_eq_true rfl) ?_
  refine lv_astore_n (lv' := [(3, .ref q_91), (2, .ref q_65), (1, .ref q_1), (0, .ref b)]) hx hb dL_law_19 rfl hl (by decide) rfl (fun ls hl => ?_)
  refine lv_iconst (v := 0) hx hb dL_law_20 (by decide +kernel) ?_
  refine lv_istore (lv' := [(4, .int 0), (3, .ref q_91), (2, .ref q_65), (1, .ref q_1), (0, .ref b)]) hx hb dL_law_21 hl (by decide) rfl (fun ls hl => ?_)
  refine lv_iload hx hb dL_law_23 (lv_at hl 0 rfl) ?_
  refine lv_aload_n hx hb dL_law_25 rfl (lv_at hl 4 rfl) ?_
  refine va_slen hx hb hX hbl hbA hS dL_law_26 ?_
  refine lv_bipush (v := 6) hx hb dL_law_27 (by decide +kernel) ?_
  refine lv_isub hx hb dL_law_29 ?_
  refine lv_topi (fun f_93 ef_93 => ?_)
  rcases Nat.lt_or_ge L 6 with hlt | hge
  · have hn : f_93 < 0 := by
      rw [ef_93]
      rcases (show L = 0 ∨ L = 1 ∨ L = 2 ∨ L = 3 ∨ L = 4 ∨ L = 5 by omega) with rfl | rfl | rfl | rfl | rfl | rfl <;> decide +kernel
    refine lv_icmp_gt (tgt := 1383) hx hb dL_law_30 (by decide) (fun _ => ?_) (fun z => absurd hn z)
    refine lv_iconst (v := 1) hx hb dL_law_1383 (by decide) ?_
    refine va_forget (fun q hq => hS.2.2 q hq) ?_
    refine W.widen (k := 600002) (n := 7302232) (Nat.le_of_ble_eq_true rfl) (Nat.le_of_ble_eq_true rfl) ?_
    exact lw_ret hx hb hr hlocks dL_law_1384
  · obtain rfl : L = 6 := by omega
    obtain rfl : f_93 = 0 := ef_93.trans (by decide +kernel)
    refine lv_icmp_gt (tgt := 1383) hx hb dL_law_30 (by decide) (fun z => absurd z (by decide +kernel)) (fun _ => ?_)
    refine W.widen (k := 500) (n := 50000) (Nat.le_of_ble_eq_true rfl) (Nat.le_of_ble_eq_true rfl) ?_
    refine lv_aload_n hx hb dL_law_33 rfl (lv_at hl 4 rfl) ?_
    refine lv_iload hx hb dL_law_34 (lv_at hl 0 rfl) ?_
    refine va_sld (i := 0) hx hb hX hbl hbA hS (show ¬ ((0 : Int32) < 0 ∨ 6 ≤ (0 : Int32).toNatClampNeg) by decide +kernel) dL_law_36 ?_
    refine lv_bipush (v := 63) hx hb dL_law_37 (by decide +kernel) ?_
    refine lv_iand hx hb dL_law_39 ?_
    refine lv_topi (fun f_94 ef_94 => ?_)
    by_cases e_95 : f_94 = 0
    · subst e_95
      refine lv_tableIn (tgt := 224) (off := 184) hx hb dL_law_40 (by decide +kernel) (by decide +kernel) rfl (by decide) ?_
      exact law_case_0 C0 hst hUT hPSy hPSg hRy hRg _ _ hK hP hD hS ls (lv_sub hl [0, 1, 2, 3, 4] rfl)
    by_cases e_96 : f_94 = 1
    · subst e_96
      refine lv_tableIn (tgt := 297) (off := 257) hx hb dL_law_40 (by decide +kernel) (by decide +kernel) rfl (by decide) ?_
      exact law_case_1 C0 hst hUT hPSy hPSg hRy hRg _ _ hK hP hD hS ls (lv_sub hl [0, 1, 2, 3, 4] rfl)
    by_cases e_97 : f_94 = 2
    · subst e_97
      refine lv_tableIn (tgt := 322) (off := 282) hx hb dL_law_40 (by decide +kernel) (by decide +kernel) rfl (by decide) ?_
      exact law_case_2 C0 hst hUT hPSy hPSg hRy hRg _ _ hK hP hD hS ls (lv_sub hl [0, 1, 2, 3, 4] rfl)
    by_cases e_98 : f_94 = 3
    · subst e_98
      refine lv_tableIn (tgt := 347) (off := 307) hx hb dL_law_40 (by decide +kernel) (by decide +kernel) rfl (by decide) ?_
      exact law_case_3 C0 hst hUT hPSy hPSg hRy hRg _ _ hK hP hD hS ls (lv_sub hl [0, 1, 2, 3, 4] rfl)
    by_cases e_99 : f_94 = 4
    · subst e_99
      refine lv_tableIn (tgt := 372) (off := 332) hx hb dL_law_40 (by decide +kernel) (by decide +kernel) rfl (by decide) ?_
      exact law_case_4 C0 hst hUT hPSy hPSg hRy hRg _ _ hK hP hD hS ls (lv_sub hl [0, 1, 2, 3, 4] rfl)
    by_cases e_100 : f_94 = 5
    · subst e_100
      refine lv_tableIn (tgt := 397) (off := 357) hx hb dL_law_40 (by decide +kernel) (by decide +kernel) rfl (by decide) ?_
      exact law_case_5 C0 hst hTU hTN hB1 hB2 hB3 hB4 hUT hPSy hPSg hRy hRg _ _ hK hP hD hS ls (lv_sub hl [0, 1, 2, 3, 4] rfl)
    by_cases e_101 : f_94 = 6
    · subst e_101
      refine lv_tableIn (tgt := 465) (off := 425) hx hb dL_law_40 (by decide +kernel) (by decide +kernel) rfl (by decide) ?_
      exact law_case_6 C0 hst hUT hPSy hPSg hRy hRg _ _ hK hP hD hS ls (lv_sub hl [0, 1, 2, 3, 4] rfl)
    by_cases e_102 : f_94 = 7
    · subst e_102
      refine lv_tableIn (tgt := 490) (off := 450) hx hb dL_law_40 (by decide +kernel) (by decide +kernel) rfl (by decide) ?_
      exact law_case_7 C0 hst hUT hPSy hPSg hRy hRg _ _ hK hP hD hS ls (lv_sub hl [0, 1, 2, 3, 4] rfl)
    by_cases e_103 : f_94 = 8
    · subst e_103
      refine lv_tableIn (tgt := 515) (off := 475) hx hb dL_law_40 (by decide +kernel) (by decide +kernel) rfl (by decide) ?_
      exact law_case_8 C0 hst hUT hPSy hPSg hRy hRg _ _ hK hP hD hS ls (lv_sub hl [0, 1, 2, 3, 4] rfl)
    by_cases e_104 : f_94 = 9
    · subst e_104
      refine lv_tableIn (tgt := 540) (off := 500) hx hb dL_law_40 (by decide +kernel) (by decide +kernel) rfl (by decide) ?_
      exact law_case_9 C0 hst hUT hPSy hPSg hRy hRg _ _ hK hP hD hS ls (lv_sub hl [0, 1, 2, 3, 4] rfl)
    by_cases e_105 : f_94 = 10
    · subst e_105
      refine lv_tableIn (tgt := 589) (off := 549) hx hb dL_law_40 (by decide +kernel) (by decide +kernel) rfl (by decide) ?_
      exact law_case_10 C0 hst hUT hPSy hPSg hRy hRg _ _ hK hP hD hS ls (lv_sub hl [0, 1, 2, 3, 4] rfl)
    by_cases e_106 : f_94 = 11
    · subst e_106
      refine lv_tableIn (tgt := 602) (off := 562) hx hb dL_law_40 (by decide +kernel) (by decide +kernel) rfl (by decide) ?_
      exact law_case_11 C0 hst hUT hPSy hPSg hRy hRg _ _ hK hP hD hS ls (lv_sub hl [0, 1, 2, 3, 4] rfl)
    by_cases e_107 : f_94 = 12
    · subst e_107
      refine lv_tableIn (tgt := 627) (off := 587) hx hb dL_law_40 (by decide +kernel) (by decide +kernel) rfl (by decide) ?_
      exact law_case_12 C0 hst hUT hPSy hPSg hRy hRg _ _ hK hP hD hS ls (lv_sub hl [0, 1, 2, 3, 4] rfl)
    by_cases e_108 : f_94 = 13
    · subst e_108
      refine lv_tableIn (tgt := 696) (off := 656) hx hb dL_law_40 (by decide +kernel) (by decide +kernel) rfl (by decide) ?_
      exact law_case_13 C0 hst hUT hPSy hPSg hRy hRg _ _ hK hP hD hS ls (lv_sub hl [0, 1, 2, 3, 4] rfl)
    by_cases e_109 : f_94 = 14
    · subst e_109
      refine lv_tableIn (tgt := 709) (off := 669) hx hb dL_law_40 (by decide +kernel) (by decide +kernel) rfl (by decide) ?_
      exact law_case_14 C0 hst hUT hPSy hPSg hRy hRg _ _ hK hP hD hS ls (lv_sub hl [0, 1, 2, 3, 4] rfl)
    by_cases e_110 : f_94 = 15
    · subst e_110
      refine lv_tableIn (tgt := 746) (off := 706) hx hb dL_law_40 (by decide +kernel) (by decide +kernel) rfl (by decide) ?_
      exact law_case_15 C0 hst hUT hPSy hPSg hRy hRg _ _ hK hP hD hS ls (lv_sub hl [0, 1, 2, 3, 4] rfl)
    by_cases e_111 : f_94 = 16
    · subst e_111
      refine lv_tableIn (tgt := 795) (off := 755) hx hb dL_law_40 (by decide +kernel) (by decide +kernel) rfl (by decide) ?_
      exact law_case_16 C0 hst hUT hPSy hPSg hRy hRg _ _ hK hP hD hS ls (lv_sub hl [0, 1, 2, 3, 4] rfl)
    by_cases e_112 : f_94 = 17
    · subst e_112
      refine lv_tableIn (tgt := 820) (off := 780) hx hb dL_law_40 (by decide +kernel) (by decide +kernel) rfl (by decide) ?_
      exact law_case_17 C0 hst hUT hPSy hPSg hRy hRg _ _ hK hP hD hS ls (lv_sub hl [0, 1, 2, 3, 4] rfl)
    by_cases e_113 : f_94 = 18
    · subst e_113
      refine lv_tableIn (tgt := 845) (off := 805) hx hb dL_law_40 (by decide +kernel) (by decide +kernel) rfl (by decide) ?_
      exact law_case_18 C0 hst hUT hPSy hPSg hRy hRg _ _ hK hP hD hS ls (lv_sub hl [0, 1, 2, 3, 4] rfl)
    by_cases e_114 : f_94 = 19
    · subst e_114
      refine lv_tableIn (tgt := 894) (off := 854) hx hb dL_law_40 (by decide +kernel) (by decide +kernel) rfl (by decide) ?_
      exact law_case_19 C0 hst hUT hPSy hPSg hRy hRg _ _ hK hP hD hS ls (lv_sub hl [0, 1, 2, 3, 4] rfl)
    by_cases e_115 : f_94 = 20
    · subst e_115
      refine lv_tableIn (tgt := 907) (off := 867) hx hb dL_law_40 (by decide +kernel) (by decide +kernel) rfl (by decide) ?_
      exact law_case_20 C0 hst hUT hPSy hPSg hRy hRg _ _ hK hP hD hS ls (lv_sub hl [0, 1, 2, 3, 4] rfl)
    by_cases e_116 : f_94 = 21
    · subst e_116
      refine lv_tableIn (tgt := 932) (off := 892) hx hb dL_law_40 (by decide +kernel) (by decide +kernel) rfl (by decide) ?_
      exact law_case_21 C0 hst hUT hPSy hPSg hRy hRg _ _ hK hP hD hS ls (lv_sub hl [0, 1, 2, 3, 4] rfl)
    by_cases e_117 : f_94 = 22
    · subst e_117
      refine lv_tableIn (tgt := 957) (off := 917) hx hb dL_law_40 (by decide +kernel) (by decide +kernel) rfl (by decide) ?_
      exact law_case_22 C0 hst hUT hPSy hPSg hRy hRg _ _ hK hP hD hS ls (lv_sub hl [0, 1, 2, 3, 4] rfl)
    by_cases e_118 : f_94 = 23
    · subst e_118
      refine lv_tableIn (tgt := 982) (off := 942) hx hb dL_law_40 (by decide +kernel) (by decide +kernel) rfl (by decide) ?_
      exact law_case_23 C0 hst hUT hPSy hPSg hRy hRg _ _ hK hP hD hS ls (lv_sub hl [0, 1, 2, 3, 4] rfl)
    by_cases e_119 : f_94 = 24
    · subst e_119
      refine lv_tableIn (tgt := 1007) (off := 967) hx hb dL_law_40 (by decide +kernel) (by decide +kernel) rfl (by decide) ?_
      exact law_case_24 C0 hst hUT hPSy hPSg hRy hRg _ _ hK hP hD hS ls (lv_sub hl [0, 1, 2, 3, 4] rfl)
    by_cases e_120 : f_94 = 25
    · subst e_120
      refine lv_tableIn (tgt := 1020) (off := 980) hx hb dL_law_40 (by decide +kernel) (by decide +kernel) rfl (by decide) ?_
      exact law_case_25 C0 hst hUT hPSy hPSg hRy hRg _ _ hK hP hD hS ls (lv_sub hl [0, 1, 2, 3, 4] rfl)
    by_cases e_121 : f_94 = 26
    · subst e_121
      refine lv_tableIn (tgt := 1033) (off := 993) hx hb dL_law_40 (by decide +kernel) (by decide +kernel) rfl (by decide) ?_
      exact law_case_26 C0 hst hUT hPSy hPSg hRy hRg _ _ hK hP hD hS ls (lv_sub hl [0, 1, 2, 3, 4] rfl)
    by_cases e_122 : f_94 = 27
    · subst e_122
      refine lv_tableIn (tgt := 1058) (off := 1018) hx hb dL_law_40 (by decide +kernel) (by decide +kernel) rfl (by decide) ?_
      exact law_case_27 C0 hst hUT hPSy hPSg hRy hRg _ _ hK hP hD hS ls (lv_sub hl [0, 1, 2, 3, 4] rfl)
    by_cases e_123 : f_94 = 28
    · subst e_123
      refine lv_tableIn (tgt := 1083) (off := 1043) hx hb dL_law_40 (by decide +kernel) (by decide +kernel) rfl (by decide) ?_
      exact law_case_28 C0 hst hUT hPSy hPSg hRy hRg _ _ hK hP hD hS ls (lv_sub hl [0, 1, 2, 3, 4] rfl)
    by_cases e_124 : f_94 = 29
    · subst e_124
      refine lv_tableIn (tgt := 1096) (off := 1056) hx hb dL_law_40 (by decide +kernel) (by decide +kernel) rfl (by decide) ?_
      exact law_case_29 C0 hst hUT hPSy hPSg hRy hRg _ _ hK hP hD hS ls (lv_sub hl [0, 1, 2, 3, 4] rfl)
    by_cases e_125 : f_94 = 30
    · subst e_125
      refine lv_tableIn (tgt := 1109) (off := 1069) hx hb dL_law_40 (by decide +kernel) (by decide +kernel) rfl (by decide) ?_
      exact law_case_30 C0 hst hUT hPSy hPSg hRy hRg _ _ hK hP hD hS ls (lv_sub hl [0, 1, 2, 3, 4] rfl)
    by_cases e_126 : f_94 = 31
    · subst e_126
      refine lv_tableIn (tgt := 1162) (off := 1122) hx hb dL_law_40 (by decide +kernel) (by decide +kernel) rfl (by decide) ?_
      exact law_case_31 C0 hst hUT hPSy hPSg hRy hRg _ _ hK hP hD hS ls (lv_sub hl [0, 1, 2, 3, 4] rfl)
    by_cases e_127 : f_94 = 32
    · subst e_127
      refine lv_tableIn (tgt := 1187) (off := 1147) hx hb dL_law_40 (by decide +kernel) (by decide +kernel) rfl (by decide) ?_
      exact law_case_32 C0 hst hUT hPSy hPSg hRy hRg _ _ hK hP hD hS ls (lv_sub hl [0, 1, 2, 3, 4] rfl)
    by_cases e_128 : f_94 = 33
    · subst e_128
      refine lv_tableIn (tgt := 1200) (off := 1160) hx hb dL_law_40 (by decide +kernel) (by decide +kernel) rfl (by decide) ?_
      exact law_case_33 C0 hst hUT hPSy hPSg hRy hRg _ _ hK hP hD hS ls (lv_sub hl [0, 1, 2, 3, 4] rfl)
    by_cases e_129 : f_94 = 34
    · subst e_129
      refine lv_tableIn (tgt := 1225) (off := 1185) hx hb dL_law_40 (by decide +kernel) (by decide +kernel) rfl (by decide) ?_
      exact law_case_34 C0 hst hUT hPSy hPSg hRy hRg _ _ hK hP hD hS ls (lv_sub hl [0, 1, 2, 3, 4] rfl)
    by_cases e_130 : f_94 = 35
    · subst e_130
      refine lv_tableIn (tgt := 1238) (off := 1198) hx hb dL_law_40 (by decide +kernel) (by decide +kernel) rfl (by decide) ?_
      exact law_case_35 C0 hst hUT hPSy hPSg hRy hRg _ _ hK hP hD hS ls (lv_sub hl [0, 1, 2, 3, 4] rfl)
    by_cases e_131 : f_94 = 36
    · subst e_131
      refine lv_tableIn (tgt := 1275) (off := 1235) hx hb dL_law_40 (by decide +kernel) (by decide +kernel) rfl (by decide) ?_
      exact law_case_36 C0 hst hUT hPSy hPSg hRy hRg _ _ hK hP hD hS ls (lv_sub hl [0, 1, 2, 3, 4] rfl)
    by_cases e_132 : f_94 = 37
    · subst e_132
      refine lv_tableIn (tgt := 1300) (off := 1260) hx hb dL_law_40 (by decide +kernel) (by decide +kernel) rfl (by decide) ?_
      exact law_case_37 C0 hst hUT hPSy hPSg hRy hRg _ _ hK hP hD hS ls (lv_sub hl [0, 1, 2, 3, 4] rfl)
    by_cases e_133 : f_94 = 38
    · subst e_133
      refine lv_tableIn (tgt := 1313) (off := 1273) hx hb dL_law_40 (by decide +kernel) (by decide +kernel) rfl (by decide) ?_
      exact law_case_38 C0 hst hUT hPSy hPSg hRy hRg _ _ hK hP hD hS ls (lv_sub hl [0, 1, 2, 3, 4] rfl)
    by_cases e_134 : f_94 = 39
    · subst e_134
      refine lv_tableIn (tgt := 1326) (off := 1286) hx hb dL_law_40 (by decide +kernel) (by decide +kernel) rfl (by decide) ?_
      exact law_case_39 C0 hst hUT hPSy hPSg hRy hRg _ _ hK hP hD hS ls (lv_sub hl [0, 1, 2, 3, 4] rfl)
    by_cases e_135 : f_94 = 40
    · subst e_135
      refine lv_tableIn (tgt := 1339) (off := 1299) hx hb dL_law_40 (by decide +kernel) (by decide +kernel) rfl (by decide) ?_
      exact law_case_40 C0 hst hUT hPSy hPSg hRy hRg _ _ hK hP hD hS ls (lv_sub hl [0, 1, 2, 3, 4] rfl)
    by_cases e_136 : f_94 = 41
    · subst e_136
      refine lv_tableIn (tgt := 1352) (off := 1312) hx hb dL_law_40 (by decide +kernel) (by decide +kernel) rfl (by decide) ?_
      exact law_case_41 C0 hst hUT hPSy hPSg hRy hRg _ _ hK hP hD hS ls (lv_sub hl [0, 1, 2, 3, 4] rfl)
    refine lv_tableOut (tgt := 1377) hx hb dL_law_40 (sw_out 41 (by decide) (fun k hk => by rcases (show k = 0 ∨ k = 1 ∨ k = 2 ∨ k = 3 ∨ k = 4 ∨ k = 5 ∨ k = 6 ∨ k = 7 ∨ k = 8 ∨ k = 9 ∨ k = 10 ∨ k = 11 ∨ k = 12 ∨ k = 13 ∨ k = 14 ∨ k = 15 ∨ k = 16 ∨ k = 17 ∨ k = 18 ∨ k = 19 ∨ k = 20 ∨ k = 21 ∨ k = 22 ∨ k = 23 ∨ k = 24 ∨ k = 25 ∨ k = 26 ∨ k = 27 ∨ k = 28 ∨ k = 29 ∨ k = 30 ∨ k = 31 ∨ k = 32 ∨ k = 33 ∨ k = 34 ∨ k = 35 ∨ k = 36 ∨ k = 37 ∨ k = 38 ∨ k = 39 ∨ k = 40 ∨ k = 41 by omega) with rfl | rfl | rfl | rfl | rfl | rfl | rfl | rfl | rfl | rfl | rfl | rfl | rfl | rfl | rfl | rfl | rfl | rfl | rfl | rfl | rfl | rfl | rfl | rfl | rfl | rfl | rfl | rfl | rfl | rfl | rfl | rfl | rfl | rfl | rfl | rfl | rfl | rfl | rfl | rfl | rfl | rfl <;> first | exact e_95 | exact e_96 | exact e_97 | exact e_98 | exact e_99 | exact e_100 | exact e_101 | exact e_102 | exact e_103 | exact e_104 | exact e_105 | exact e_106 | exact e_107 | exact e_108 | exact e_109 | exact e_110 | exact e_111 | exact e_112 | exact e_113 | exact e_114 | exact e_115 | exact e_116 | exact e_117 | exact e_118 | exact e_119 | exact e_120 | exact e_121 | exact e_122 | exact e_123 | exact e_124 | exact e_125 | exact e_126 | exact e_127 | exact e_128 | exact e_129 | exact e_130 | exact e_131 | exact e_132 | exact e_133 | exact e_134 | exact e_135 | exact e_136)) (by decide) ?_
    refine W.widen (k := 1000) (n := 100000) (Nat.le_of_ble_eq_true rfl) (Nat.le_of_ble_eq_true rfl) ?_
    exact law_tail C0 _ _ hS ls (lv_sub hl [0, 4] rfl)
