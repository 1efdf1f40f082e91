
section
variable {p : Program} {l : Launch} {e : Env} {R : Room} {s : State} {m : MethodId} {args : Array Value} {below : List Frame} {meth : Method} {c : Code} {H : Heap} {locs : List Loc} {cells slots : Nat} {Q : State → Prop} {cc : ByteArray} {nL pc : Nat} {ls : Array Slot} {rest : List Value} {own : String} {D : va_G} {A : Nat → Prop} {tys : List (ClassId × FieldType)} {ad ks : List Nat} {P : sgPm} {H0 : Heap} {index : Nat} {base : Nat} {st0 : List Value} {a : Nat}
theorem gg_X10_3   (X : CallFix p m c cc nL s args sg_tbl own) (hK : va_K D vwCl tys s) (hG : sgG (KT P) D vwCl A tys ad ks H) (ha : isK ad ks 10 a) (hl : Cond.fieldLink own index "LawnAhead$Tape" "wrongAt" "I" ∈ sg_tbl) {v : Value} (hf : fld D H 10 a 3 v) (hdg : decode cc pc = .ok (.getfield index, 3)) (kk : W p l e R s m args below meth c H locs cells slots Q (F0 m (pc + 3) ls (v :: rest))) : W p l e R s m args below meth c H locs cells slots Q (F0 m pc ls (.ref a :: rest)) :=
  sg_getf X hK hG ha (k := 10) (ci := 10) rfl (C := RX10) (T := TX10) (N := 4) rfl inL_X10 3 (by decide) (show 3 < 4 by decide) hl (fun _ h => h) hf hdg kk
theorem m_X4_read_f (l : Launch) {D : va_G} {base : Nat} {tys : List (ClassId × FieldType)} {ad ks : List Nat} {P : sgPm} (a0 : Nat) (h0 : isK ad ks 4 a0) (a1 : Nat) (h1 : isK ad ks 10 a1) (hl0 : 0 ≤ sgL1 P ∧ sgL1 P ≤ 240) (hby : ∀ j : Nat, (↑j : Int) < sgL1 P → 1 ≤ sgT1 P j ∧ sgT1 P j ≤ 255) : Met l yX4_read (Cond.code yX4_read cX4_read 3 (some .boolean) :: sg_tbl) ({ frames := 6, cells := 0, slots := 0, locals := 138 }) (va_Pc [.ref a0, .ref a1] (sgB (KT P) D vwCl base tys ad ks)) (va_Qi (fun r (u : Int32) => u = r ∧ (fun r : Int32 => iv 0 1 r) r) (fun u t => (∃ w9 : Int, lnFt1 (sgT1 P) (sgL1 P) w9 ∧ (∀ q : Nat, isK ad ks 10 q → ∃ x9 : Int32, x9.toInt = w9 ∧ fld D t.heap 10 q 3 (.int x9))) ∧ sgB (KT P) D vwCl base tys ad ks t) (fun q : Nat => base ≤ q)) 0 0 (fun q : Nat => base ≤ q) := by
  refine sg_both3 (f2 := fun q : Nat => base ≤ q) (m_X4_read l a0 h0 a1 h1) (fun args s hp => ?_)
  obtain ⟨e, hb, hK, hC, hG⟩ := id hp
  obtain ⟨ad2, ks2, hx2, ht2, hG2⟩ := sg_subw hG h0 h1
  refine ⟨_, _, m_X4_read_g l (D := D) (base := base) (tys := tys) (P := P) (z := sgZ0g) a0 hx2 a1 ht2 hl0 hby, ⟨e, hb, hK, hC, hG2⟩, fun o t q1 q2 => sg_conj q1 q2 (fun u hW hB => ⟨?_, hB⟩)⟩
  rcases hW with ⟨rfl, a9, q9, z9, p9, c9, k9, hB9⟩ | ⟨rfl, ok9, a9, w9, q9, z9, p9, k9, hB9⟩
  · exact ⟨-1, Or.inl ⟨⟨a9, q9, p9, c9, k9⟩, rfl⟩, fw_kg hB.2.2.2 h1 hB9.2.2.2 ht2⟩
  · exact ⟨w9, Or.inr ⟨ok9, a9, q9, p9, k9⟩, fw_kg hB.2.2.2 h1 hB9.2.2.2 ht2⟩

theorem ca_X4_read_f   (X : CallFix p m c cc nL s args sg_tbl own) (hK : va_K D vwCl tys s) (hG : sgG (KT P) D vwCl (fun q : Nat => base ≤ q) tys ad ks H) (hC : sgC base s) (hS : va_S (fun q : Nat => base ≤ q) s.heap H locs) (hb : base ≤ s.heap.size) (a0 : Nat) (h0 : isK ad ks 4 a0) (a1 : Nat) (h1 : isK ad ks 10 a1) (hl0 : 0 ≤ sgL1 P ∧ sgL1 P ≤ 240) (hby : ∀ j : Nat, (↑j : Int) < sgL1 P → 1 ≤ sgT1 P j ∧ sgT1 P j ≤ 255) (hl : Cond.methodLink own index yX4_read ∈ sg_tbl) (hsize : ls.size = nL) (hst : st0 = [.ref a1].reverse ++ .ref a0 :: rest) (hW : (rest.map fun v => v.category).sum ≤ 8) (hR : 7 ≤ R.frames ∧ 160 ≤ R.locals) (hf : cells ≤ R.cells ∧ slots ≤ R.slots) (hdg : decode cc pc = .ok (.invokevirtual index, 3)) (kk : ∀ (r : Int32) (t : State) (H1 : Heap) (locs1 : List Loc), t.heap = H1 → (fun r : Int32 => iv 0 1 r) r → ((∃ w9 : Int, lnFt1 (sgT1 P) (sgL1 P) w9 ∧ (∀ q : Nat, isK ad ks 10 q → ∃ x9 : Int32, x9.toInt = w9 ∧ fld D t.heap 10 q 3 (.int x9))) ∧ sgB (KT P) D vwCl base tys ad ks t) → va_S (fun q : Nat => base ≤ q) s.heap H1 locs1 → W p l e R s m args below meth c H1 locs1 cells slots Q (F0 m (pc + 3) ls (.int r :: rest))) : W p l e R s m args below meth c H locs cells slots Q (F0 m pc ls st0) :=
  sg_callV2i X hK hG hC hS hb (m_X4_read_f l a0 h0 a1 h1 hl0 hby) h0 (k := 4) (ci := 4) rfl (C := RX4) (T := TX4) (N := 15) rfl wl_3_29 wl_1_7 wl_3_27 wl_3_28 (n := 1) (by decide +kernel) rfl rfl rfl hl hsize hst hW hR hf hdg kk

theorem m_X6_read_f (l : Launch) {D : va_G} {base : Nat} {tys : List (ClassId × FieldType)} {ad ks : List Nat} {P : sgPm} (a0 : Nat) (h0 : isK ad ks 6 a0) (a1 : Nat) (h1 : isK ad ks 10 a1) (hl0 : 0 ≤ sgL1 P ∧ sgL1 P ≤ 240) (hby : ∀ j : Nat, (↑j : Int) < sgL1 P → 1 ≤ sgT1 P j ∧ sgT1 P j ≤ 255) : Met l yX6_read (Cond.code yX6_read cX6_read 3 (some .boolean) :: sg_tbl) ({ frames := 22, cells := 0, slots := 0, locals := 543 }) (va_Pc [.ref a0, .ref a1] (sgB (KT P) D vwCl base tys ad ks)) (va_Qi (fun r (u : Int32) => u = r ∧ (fun r : Int32 => iv 0 1 r) r) (fun u t => (∃ w9 : Int, vFt (vLaw (sgT1 P) (sgL1 P)) w9 ∧ (∀ q : Nat, isK ad ks 10 q → ∃ x9 : Int32, x9.toInt = w9 ∧ fld D t.heap 10 q 3 (.int x9))) ∧ sgB (KT P) D vwCl base tys ad ks t) (fun q : Nat => base ≤ q)) 0 0 (fun q : Nat => base ≤ q) := by
  refine sg_both3 (f2 := fun q : Nat => base ≤ q) (m_X6_read l a0 h0 a1 h1) (fun args s hp => ⟨_, _, m_X6_read_v l a0 h0 a1 h1 hl0 hby, hp, fun o t q1 q2 => sg_conj q1 q2 (fun u hW hB => ⟨?_, hB⟩)⟩)
  rcases hW with ⟨rfl, a9, p9, hB9⟩ | ⟨rfl, w9, p9, hB9⟩
  · exact ⟨-1, Or.inl ⟨by rw [p9], rfl⟩, fw_ka hB9.2.2.2⟩
  · exact ⟨w9, Or.inr ⟨by rw [p9], by rw [p9]⟩, fw_ka hB9.2.2.2⟩

theorem ca_X6_read_f   (X : CallFix p m c cc nL s args sg_tbl own) (hK : va_K D vwCl tys s) (hG : sgG (KT P) D vwCl (fun q : Nat => base ≤ q) tys ad ks H) (hC : sgC base s) (hS : va_S (fun q : Nat => base ≤ q) s.heap H locs) (hb : base ≤ s.heap.size) (a0 : Nat) (h0 : isK ad ks 6 a0) (a1 : Nat) (h1 : isK ad ks 10 a1) (hl0 : 0 ≤ sgL1 P ∧ sgL1 P ≤ 240) (hby : ∀ j : Nat, (↑j : Int) < sgL1 P → 1 ≤ sgT1 P j ∧ sgT1 P j ≤ 255) (hl : Cond.methodLink own index yX6_read ∈ sg_tbl) (hsize : ls.size = nL) (hst : st0 = [.ref a1].reverse ++ .ref a0 :: rest) (hW : (rest.map fun v => v.category).sum ≤ 8) (hR : 23 ≤ R.frames ∧ 565 ≤ R.locals) (hf : cells ≤ R.cells ∧ slots ≤ R.slots) (hdg : decode cc pc = .ok (.invokevirtual index, 3)) (kk : ∀ (r : Int32) (t : State) (H1 : Heap) (locs1 : List Loc), t.heap = H1 → (fun r : Int32 => iv 0 1 r) r → ((∃ w9 : Int, vFt (vLaw (sgT1 P) (sgL1 P)) w9 ∧ (∀ q : Nat, isK ad ks 10 q → ∃ x9 : Int32, x9.toInt = w9 ∧ fld D t.heap 10 q 3 (.int x9))) ∧ sgB (KT P) D vwCl base tys ad ks t) → va_S (fun q : Nat => base ≤ q) s.heap H1 locs1 → W p l e R s m args below meth c H1 locs1 cells slots Q (F0 m (pc + 3) ls (.int r :: rest))) : W p l e R s m args below meth c H locs cells slots Q (F0 m pc ls st0) :=
  sg_callV2i X hK hG hC hS hb (m_X6_read_f l a0 h0 a1 h1 hl0 hby) h0 (k := 6) (ci := 6) rfl (C := RX6) (T := TX6) (N := 7) rfl wl_3_208 wl_1_3 wl_3_206 wl_3_207 (n := 1) (by decide +kernel) rfl rfl rfl hl hsize hst hW hR hf hdg kk

theorem m_X3_read_f (l : Launch) {D : va_G} {base : Nat} {tys : List (ClassId × FieldType)} {ad ks : List Nat} {P : sgPm} (a0 : Nat) (h0 : isK ad ks 3 a0) (a1 : Nat) (h1 : isK ad ks 10 a1) (hl0 : 0 ≤ sgL1 P ∧ sgL1 P ≤ 240) (hby : ∀ j : Nat, (↑j : Int) < sgL1 P → 1 ≤ sgT1 P j ∧ sgT1 P j ≤ 255) : Met l yX3_read (Cond.code yX3_read cX3_read 4 (some .boolean) :: sg_tbl) ({ frames := 4, cells := 0, slots := 0, locals := 80 }) (va_Pc [.ref a0, .ref a1] (sgB (KT P) D vwCl base tys ad ks)) (va_Qi (fun r (u : Int32) => u = r ∧ (fun r : Int32 => iv 0 1 r) r) (fun u t => (∃ w9 : Int, vFt (vGame (sgT1 P) (sgL1 P)) w9 ∧ (∀ q : Nat, isK ad ks 10 q → ∃ x9 : Int32, x9.toInt = w9 ∧ fld D t.heap 10 q 3 (.int x9))) ∧ sgB (KT P) D vwCl base tys ad ks t) (fun q : Nat => base ≤ q)) 0 0 (fun q : Nat => base ≤ q) := by
  refine sg_both3 (f2 := fun q : Nat => base ≤ q) (m_X3_read l a0 h0 a1 h1) (fun args s hp => ⟨_, _, m_X3_read_v l a0 h0 a1 h1 hl0 hby, hp, fun o t q1 q2 => sg_conj q1 q2 (fun u hW hB => ⟨?_, hB⟩)⟩)
  rcases hW with ⟨rfl, a9, p9, hB9⟩ | ⟨rfl, w9, p9, hB9⟩
  · exact ⟨-1, Or.inl ⟨by rw [p9], rfl⟩, fw_ka hB9.2.2.2⟩
  · exact ⟨w9, Or.inr ⟨by rw [p9], by rw [p9]⟩, fw_ka hB9.2.2.2⟩

theorem ca_X3_read_f   (X : CallFix p m c cc nL s args sg_tbl own) (hK : va_K D vwCl tys s) (hG : sgG (KT P) D vwCl (fun q : Nat => base ≤ q) tys ad ks H) (hC : sgC base s) (hS : va_S (fun q : Nat => base ≤ q) s.heap H locs) (hb : base ≤ s.heap.size) (a0 : Nat) (h0 : isK ad ks 3 a0) (a1 : Nat) (h1 : isK ad ks 10 a1) (hl0 : 0 ≤ sgL1 P ∧ sgL1 P ≤ 240) (hby : ∀ j : Nat, (↑j : Int) < sgL1 P → 1 ≤ sgT1 P j ∧ sgT1 P j ≤ 255) (hl : Cond.methodLink own index yX3_read ∈ sg_tbl) (hsize : ls.size = nL) (hst : st0 = [.ref a1].reverse ++ .ref a0 :: rest) (hW : (rest.map fun v => v.category).sum ≤ 8) (hR : 5 ≤ R.frames ∧ 103 ≤ R.locals) (hf : cells ≤ R.cells ∧ slots ≤ R.slots) (hdg : decode cc pc = .ok (.invokevirtual index, 3)) (kk : ∀ (r : Int32) (t : State) (H1 : Heap) (locs1 : List Loc), t.heap = H1 → (fun r : Int32 => iv 0 1 r) r → ((∃ w9 : Int, vFt (vGame (sgT1 P) (sgL1 P)) w9 ∧ (∀ q : Nat, isK ad ks 10 q → ∃ x9 : Int32, x9.toInt = w9 ∧ fld D t.heap 10 q 3 (.int x9))) ∧ sgB (KT P) D vwCl base tys ad ks t) → va_S (fun q : Nat => base ≤ q) s.heap H1 locs1 → W p l e R s m args below meth c H1 locs1 cells slots Q (F0 m (pc + 3) ls (.int r :: rest))) : W p l e R s m args below meth c H locs cells slots Q (F0 m pc ls st0) :=
  sg_callV2i X hK hG hC hS hb (m_X3_read_f l a0 h0 a1 h1 hl0 hby) h0 (k := 3) (ci := 3) rfl (C := RX3) (T := TX3) (N := 3) rfl wl_4_17 wl_1_4 wl_4_15 wl_4_16 (n := 1) (by decide +kernel) rfl rfl rfl hl hsize hst hW hR hf hdg kk

set_option maxHeartbeats 8000000 in
set_option maxRecDepth 100000 in
theorem m_X11_fault_q0 (l : Launch) {D : va_G} {base : Nat} {tys : List (ClassId × FieldType)} {ad ks : List Nat} {P : sgPm} (a0 : Nat) (h0 : isK ad ks 11 a0) (x1 : Int32) (h1 : iv 0 0 x1) (hl0 : 0 ≤ sgL1 P ∧ sgL1 P ≤ 240) (hby : ∀ j : Nat, (↑j : Int) < sgL1 P → 1 ≤ sgT1 P j ∧ sgT1 P j ≤ 255) : Met l yX11_fault (Cond.code yX11_fault cX11_fault 2 (some .int) :: sg_tbl) ({ frames := 23, cells := 0, slots := 0, locals := 565 }) (va_Pc [.ref a0, .int x1] (sgB (KT P) D vwCl base tys ad ks)) (va_Qi (fun r (u : Int32) => u = r ∧ (fun r : Int32 => True) r) (fun u t => ∃ w9 : Int, lnFt1 (sgT1 P) (sgL1 P) w9 ∧ u.toInt = w9 ∧ sgB (KT P) D vwCl base tys ad ks t) (fun q : Nat => base ≤ q)) 0 0 (fun q : Nat => base ≤ q) := by
  refine sg_ofW (by decide +kernel) (Nat.le_of_ble_eq_true rfl) (fun p e s m below meth c X hr hlk hb hK hC hG ls hl => ?_)
  have hS : va_S (fun q : Nat => base ≤ q) s.heap s.heap [] := va_S.rf
  have hl : lv_has ls 2 [(0, .ref a0), (1, .int x1)] := hl
  refine lv_iload_n X.1 X.2.1 dX11_fault_0 rfl (lv_at hl 1 rfl) ?_
  by_cases c1 : x1 = 0
  · refine lv_tableIn (tgt := 28) (off := 27) X.1 X.2.1 dX11_fault_1 (by rw [c1]; decide +kernel) (by rw [c1]; decide +kernel) (by rw [c1]; rfl) (by decide) ?_
    refine lv_aload_n X.1 X.2.1 dX11_fault_28 rfl (lv_at hl 0 rfl) ?_
    refine gf_X11_11 X hK hG h0 wl_2_206 dX11_fault_29 (fun q2 hq2 kq2 => ?_)
    refine lv_aload_n X.1 X.2.1 dX11_fault_32 rfl (lv_at hl 0 rfl) ?_
    refine gf_X11_0 X hK hG h0 wl_2_195 dX11_fault_33 (fun q3 hq3 kq3 => ?_)
    refine ca_X4_read_f X hK hG hC hS hb q2 hq2 q3 hq3 hl0 hby wl_3_26 hl.1 (rest := []) rfl (Nat.le_of_ble_eq_true rfl) ⟨Nat.le_of_ble_eq_true rfl, Nat.le_of_ble_eq_true rfl⟩ ⟨Nat.le_of_ble_eq_true rfl, Nat.le_of_ble_eq_true rfl⟩ dX11_fault_36 (fun f4 tf4 H locs htf4 hf4 hWf4 hS => ?_)
    obtain ⟨⟨w9, p9, z9⟩, hBf4⟩ := hWf4
    have hG := hBf4.2.2.2
    rw [htf4] at hG z9
    refine lv_pop X.1 X.2.1 dX11_fault_39 rfl ?_
    refine lv_aload_n X.1 X.2.1 dX11_fault_40 rfl (lv_at hl 0 rfl) ?_
    refine gf_X11_0 X hK hG h0 wl_2_195 dX11_fault_41 (fun q5 hq5 kq5 => ?_)
    obtain ⟨x9, e9, k9⟩ := z9 q5 hq5
    refine gg_X10_3 X hK hG hq5 wl_1_46 k9 dX11_fault_44 ?_
    exact sg_iret2 X hr hlk hS trivial (fun t ht hW => ⟨w9, p9, e9, sg_post hb hK hC hG hS ht hW⟩) dX11_fault_47
  exact False.elim (by have tc1 := iv_nt 0 c1 (by decide +kernel); have b1 := (h1).1; have b2 := (h1).2; omega)

theorem ca_X11_fault_q0   (X : CallFix p m c cc nL s args sg_tbl own) (hK : va_K D vwCl tys s) (hG : sgG (KT P) D vwCl (fun q : Nat => base ≤ q) tys ad ks H) (hC : sgC base s) (hS : va_S (fun q : Nat => base ≤ q) s.heap H locs) (hb : base ≤ s.heap.size) (a0 : Nat) (h0 : isK ad ks 11 a0) (x1 : Int32) (h1 : iv 0 0 x1) (hl0 : 0 ≤ sgL1 P ∧ sgL1 P ≤ 240) (hby : ∀ j : Nat, (↑j : Int) < sgL1 P → 1 ≤ sgT1 P j ∧ sgT1 P j ≤ 255) (hl : Cond.methodLink own index yX11_fault ∈ sg_tbl) (hsize : ls.size = nL) (hst : st0 = [.int x1].reverse ++ .ref a0 :: rest) (hW : (rest.map fun v => v.category).sum ≤ 8) (hR : 24 ≤ R.frames ∧ 586 ≤ R.locals) (hf : cells ≤ R.cells ∧ slots ≤ R.slots) (hdg : decode cc pc = .ok (.invokevirtual index, 3)) (kk : ∀ (r : Int32) (t : State) (H1 : Heap) (locs1 : List Loc), t.heap = H1 → (fun r : Int32 => True) r → (∃ w9 : Int, lnFt1 (sgT1 P) (sgL1 P) w9 ∧ r.toInt = w9 ∧ sgB (KT P) D vwCl base tys ad ks t) → va_S (fun q : Nat => base ≤ q) s.heap H1 locs1 → W p l e R s m args below meth c H1 locs1 cells slots Q (F0 m (pc + 3) ls (.int r :: rest))) : W p l e R s m args below meth c H locs cells slots Q (F0 m pc ls st0) :=
  sg_callV2i X hK hG hC hS hb (m_X11_fault_q0 l a0 h0 x1 h1 hl0 hby) h0 (k := 11) (ci := 11) rfl (C := RX11) (T := TX11) (N := 17) rfl wl_3_25 wl_1_1 wl_3_23 wl_3_24 (n := 1) (by decide +kernel) rfl rfl rfl hl hsize hst hW hR hf hdg kk

set_option maxHeartbeats 8000000 in
set_option maxRecDepth 100000 in
theorem m_X11_fault_q1 (l : Launch) {D : va_G} {base : Nat} {tys : List (ClassId × FieldType)} {ad ks : List Nat} {P : sgPm} (a0 : Nat) (h0 : isK ad ks 11 a0) (x1 : Int32) (h1 : iv 1 1 x1) (hl0 : 0 ≤ sgL1 P ∧ sgL1 P ≤ 240) (hby : ∀ j : Nat, (↑j : Int) < sgL1 P → 1 ≤ sgT1 P j ∧ sgT1 P j ≤ 255) : Met l yX11_fault (Cond.code yX11_fault cX11_fault 2 (some .int) :: sg_tbl) ({ frames := 23, cells := 0, slots := 0, locals := 565 }) (va_Pc [.ref a0, .int x1] (sgB (KT P) D vwCl base tys ad ks)) (va_Qi (fun r (u : Int32) => u = r ∧ (fun r : Int32 => True) r) (fun u t => ∃ w9 : Int, vFt (vLaw (sgT1 P) (sgL1 P)) w9 ∧ u.toInt = w9 ∧ sgB (KT P) D vwCl base tys ad ks t) (fun q : Nat => base ≤ q)) 0 0 (fun q : Nat => base ≤ q) := by
  refine sg_ofW (by decide +kernel) (Nat.le_of_ble_eq_true rfl) (fun p e s m below meth c X hr hlk hb hK hC hG ls hl => ?_)
  have hS : va_S (fun q : Nat => base ≤ q) s.heap s.heap [] := va_S.rf
  have hl : lv_has ls 2 [(0, .ref a0), (1, .int x1)] := hl
  refine lv_iload_n X.1 X.2.1 dX11_fault_0 rfl (lv_at hl 1 rfl) ?_
  by_cases c1 : x1 = 1
  · refine lv_tableIn (tgt := 48) (off := 47) X.1 X.2.1 dX11_fault_1 (by rw [c1]; decide +kernel) (by rw [c1]; decide +kernel) (by rw [c1]; rfl) (by decide) ?_
    refine lv_aload_n X.1 X.2.1 dX11_fault_48 rfl (lv_at hl 0 rfl) ?_
    refine gf_X11_1 X hK hG h0 wl_2_196 dX11_fault_49 (fun q2 hq2 kq2 => ?_)
    refine lv_aload_n X.1 X.2.1 dX11_fault_52 rfl (lv_at hl 0 rfl) ?_
    refine gf_X11_12 X hK hG h0 wl_2_207 dX11_fault_53 (fun f3 hf3 pf3 kf3 => ?_)
    refine al_43 X hK hG hq2 (iv_vpin hf3 (by decide +kernel)) dX11_fault_56 (fun q4 hq4 => ?_)
    refine lv_aload_n X.1 X.2.1 dX11_fault_57 rfl (lv_at hl 0 rfl) ?_
    refine gf_X11_0 X hK hG h0 wl_2_195 dX11_fault_58 (fun q5 hq5 kq5 => ?_)
    refine ca_X6_read_f X hK hG hC hS hb q4 hq4 q5 hq5 hl0 hby wl_3_205 hl.1 (rest := []) rfl (Nat.le_of_ble_eq_true rfl) ⟨Nat.le_of_ble_eq_true rfl, Nat.le_of_ble_eq_true rfl⟩ ⟨Nat.le_of_ble_eq_true rfl, Nat.le_of_ble_eq_true rfl⟩ dX11_fault_61 (fun f6 tf6 H locs htf6 hf6 hWf6 hS => ?_)
    obtain ⟨⟨w9, p9, z9⟩, hBf6⟩ := hWf6
    have hG := hBf6.2.2.2
    rw [htf6] at hG z9
    refine lv_pop X.1 X.2.1 dX11_fault_64 rfl ?_
    refine lv_aload_n X.1 X.2.1 dX11_fault_65 rfl (lv_at hl 0 rfl) ?_
    refine gf_X11_0 X hK hG h0 wl_2_195 dX11_fault_66 (fun q7 hq7 kq7 => ?_)
    obtain ⟨x9, e9, k9⟩ := z9 q7 hq7
    refine gg_X10_3 X hK hG hq7 wl_1_46 k9 dX11_fault_69 ?_
    exact sg_iret2 X hr hlk hS trivial (fun t ht hW => ⟨w9, p9, e9, sg_post hb hK hC hG hS ht hW⟩) dX11_fault_72
  exact False.elim (by have tc1 := iv_nt 1 c1 (by decide +kernel); have b1 := (h1).1; have b2 := (h1).2; omega)

theorem ca_X11_fault_q1   (X : CallFix p m c cc nL s args sg_tbl own) (hK : va_K D vwCl tys s) (hG : sgG (KT P) D vwCl (fun q : Nat => base ≤ q) tys ad ks H) (hC : sgC base s) (hS : va_S (fun q : Nat => base ≤ q) s.heap H locs) (hb : base ≤ s.heap.size) (a0 : Nat) (h0 : isK ad ks 11 a0) (x1 : Int32) (h1 : iv 1 1 x1) (hl0 : 0 ≤ sgL1 P ∧ sgL1 P ≤ 240) (hby : ∀ j : Nat, (↑j : Int) < sgL1 P → 1 ≤ sgT1 P j ∧ sgT1 P j ≤ 255) (hl : Cond.methodLink own index yX11_fault ∈ sg_tbl) (hsize : ls.size = nL) (hst : st0 = [.int x1].reverse ++ .ref a0 :: rest) (hW : (rest.map fun v => v.category).sum ≤ 8) (hR : 24 ≤ R.frames ∧ 586 ≤ R.locals) (hf : cells ≤ R.cells ∧ slots ≤ R.slots) (hdg : decode cc pc = .ok (.invokevirtual index, 3)) (kk : ∀ (r : Int32) (t : State) (H1 : Heap) (locs1 : List Loc), t.heap = H1 → (fun r : Int32 => True) r → (∃ w9 : Int, vFt (vLaw (sgT1 P) (sgL1 P)) w9 ∧ r.toInt = w9 ∧ sgB (KT P) D vwCl base tys ad ks t) → va_S (fun q : Nat => base ≤ q) s.heap H1 locs1 → W p l e R s m args below meth c H1 locs1 cells slots Q (F0 m (pc + 3) ls (.int r :: rest))) : W p l e R s m args below meth c H locs cells slots Q (F0 m pc ls st0) :=
  sg_callV2i X hK hG hC hS hb (m_X11_fault_q1 l a0 h0 x1 h1 hl0 hby) h0 (k := 11) (ci := 11) rfl (C := RX11) (T := TX11) (N := 17) rfl wl_3_25 wl_1_1 wl_3_23 wl_3_24 (n := 1) (by decide +kernel) rfl rfl rfl hl hsize hst hW hR hf hdg kk

set_option maxHeartbeats 8000000 in
set_option maxRecDepth 100000 in
theorem m_X11_fault_q2 (l : Launch) {D : va_G} {base : Nat} {tys : List (ClassId × FieldType)} {ad ks : List Nat} {P : sgPm} (a0 : Nat) (h0 : isK ad ks 11 a0) (x1 : Int32) (h1 : iv 2 2 x1) (hl0 : 0 ≤ sgL1 P ∧ sgL1 P ≤ 240) (hby : ∀ j : Nat, (↑j : Int) < sgL1 P → 1 ≤ sgT1 P j ∧ sgT1 P j ≤ 255) : Met l yX11_fault (Cond.code yX11_fault cX11_fault 2 (some .int) :: sg_tbl) ({ frames := 23, cells := 0, slots := 0, locals := 565 }) (va_Pc [.ref a0, .int x1] (sgB (KT P) D vwCl base tys ad ks)) (va_Qi (fun r (u : Int32) => u = r ∧ (fun r : Int32 => True) r) (fun u t => ∃ w9 : Int, vFt (vGame (sgT1 P) (sgL1 P)) w9 ∧ u.toInt = w9 ∧ sgB (KT P) D vwCl base tys ad ks t) (fun q : Nat => base ≤ q)) 0 0 (fun q : Nat => base ≤ q) := by
  refine sg_ofW (by decide +kernel) (Nat.le_of_ble_eq_true rfl) (fun p e s m below meth c X hr hlk hb hK hC hG ls hl => ?_)
  have hS : va_S (fun q : Nat => base ≤ q) s.heap s.heap [] := va_S.rf
  have hl : lv_has ls 2 [(0, .ref a0), (1, .int x1)] := hl
  refine lv_iload_n X.1 X.2.1 dX11_fault_0 rfl (lv_at hl 1 rfl) ?_
  by_cases c1 : x1 = 2
  · refine lv_tableIn (tgt := 73) (off := 72) X.1 X.2.1 dX11_fault_1 (by rw [c1]; decide +kernel) (by rw [c1]; decide +kernel) (by rw [c1]; rfl) (by decide) ?_
    refine lv_aload_n X.1 X.2.1 dX11_fault_73 rfl (lv_at hl 0 rfl) ?_
    refine gf_X11_2 X hK hG h0 wl_2_197 dX11_fault_74 (fun q2 hq2 kq2 => ?_)
    refine lv_aload_n X.1 X.2.1 dX11_fault_77 rfl (lv_at hl 0 rfl) ?_
    refine gf_X11_13 X hK hG h0 wl_2_208 dX11_fault_78 (fun f3 hf3 pf3 kf3 => ?_)
    refine al_44 X hK hG hq2 (iv_vpin hf3 (by decide +kernel)) dX11_fault_81 (fun q4 hq4 => ?_)
    refine lv_aload_n X.1 X.2.1 dX11_fault_82 rfl (lv_at hl 0 rfl) ?_
    refine gf_X11_0 X hK hG h0 wl_2_195 dX11_fault_83 (fun q5 hq5 kq5 => ?_)
    refine ca_X3_read_f X hK hG hC hS hb q4 hq4 q5 hq5 hl0 hby wl_4_14 hl.1 (rest := []) rfl (Nat.le_of_ble_eq_true rfl) ⟨Nat.le_of_ble_eq_true rfl, Nat.le_of_ble_eq_true rfl⟩ ⟨Nat.le_of_ble_eq_true rfl, Nat.le_of_ble_eq_true rfl⟩ dX11_fault_86 (fun f6 tf6 H locs htf6 hf6 hWf6 hS => ?_)
    obtain ⟨⟨w9, p9, z9⟩, hBf6⟩ := hWf6
    have hG := hBf6.2.2.2
    rw [htf6] at hG z9
    refine lv_pop X.1 X.2.1 dX11_fault_89 rfl ?_
    refine lv_aload_n X.1 X.2.1 dX11_fault_90 rfl (lv_at hl 0 rfl) ?_
    refine gf_X11_0 X hK hG h0 wl_2_195 dX11_fault_91 (fun q7 hq7 kq7 => ?_)
    obtain ⟨x9, e9, k9⟩ := z9 q7 hq7
    refine gg_X10_3 X hK hG hq7 wl_1_46 k9 dX11_fault_94 ?_
    exact sg_iret2 X hr hlk hS trivial (fun t ht hW => ⟨w9, p9, e9, sg_post hb hK hC hG hS ht hW⟩) dX11_fault_97
  exact False.elim (by have tc1 := iv_nt 2 c1 (by decide +kernel); have b1 := (h1).1; have b2 := (h1).2; omega)

theorem ca_X11_fault_q2   (X : CallFix p m c cc nL s args sg_tbl own) (hK : va_K D vwCl tys s) (hG : sgG (KT P) D vwCl (fun q : Nat => base ≤ q) tys ad ks H) (hC : sgC base s) (hS : va_S (fun q : Nat => base ≤ q) s.heap H locs) (hb : base ≤ s.heap.size) (a0 : Nat) (h0 : isK ad ks 11 a0) (x1 : Int32) (h1 : iv 2 2 x1) (hl0 : 0 ≤ sgL1 P ∧ sgL1 P ≤ 240) (hby : ∀ j : Nat, (↑j : Int) < sgL1 P → 1 ≤ sgT1 P j ∧ sgT1 P j ≤ 255) (hl : Cond.methodLink own index yX11_fault ∈ sg_tbl) (hsize : ls.size = nL) (hst : st0 = [.int x1].reverse ++ .ref a0 :: rest) (hW : (rest.map fun v => v.category).sum ≤ 8) (hR : 24 ≤ R.frames ∧ 586 ≤ R.locals) (hf : cells ≤ R.cells ∧ slots ≤ R.slots) (hdg : decode cc pc = .ok (.invokevirtual index, 3)) (kk : ∀ (r : Int32) (t : State) (H1 : Heap) (locs1 : List Loc), t.heap = H1 → (fun r : Int32 => True) r → (∃ w9 : Int, vFt (vGame (sgT1 P) (sgL1 P)) w9 ∧ r.toInt = w9 ∧ sgB (KT P) D vwCl base tys ad ks t) → va_S (fun q : Nat => base ≤ q) s.heap H1 locs1 → W p l e R s m args below meth c H1 locs1 cells slots Q (F0 m (pc + 3) ls (.int r :: rest))) : W p l e R s m args below meth c H locs cells slots Q (F0 m pc ls st0) :=
  sg_callV2i X hK hG hC hS hb (m_X11_fault_q2 l a0 h0 x1 h1 hl0 hby) h0 (k := 11) (ci := 11) rfl (C := RX11) (T := TX11) (N := 17) rfl wl_3_25 wl_1_1 wl_3_23 wl_3_24 (n := 1) (by decide +kernel) rfl rfl rfl hl hsize hst hW hR hf hdg kk

set_option maxHeartbeats 8000000 in
set_option maxRecDepth 100000 in
theorem m_X11_fault_qn (l : Launch) {D : va_G} {base : Nat} {tys : List (ClassId × FieldType)} {ad ks : List Nat} {P : sgPm} (a0 : Nat) (h0 : isK ad ks 11 a0) (x1 : Int32) (hso : x1.toInt < 0 ∨ 2 < x1.toInt) : Met l yX11_fault (Cond.code yX11_fault cX11_fault 2 (some .int) :: sg_tbl) ({ frames := 23, cells := 0, slots := 0, locals := 565 }) (va_Pc [.ref a0, .int x1] (sgB (KT P) D vwCl base tys ad ks)) (va_Qi (fun r (u : Int32) => u = r ∧ (fun r : Int32 => True) r) (fun u t => u.toInt = -2 ∧ sgB (KT P) D vwCl base tys ad ks t) (fun q : Nat => base ≤ q)) 0 0 (fun q : Nat => base ≤ q) := by
  refine sg_ofW (by decide +kernel) (Nat.le_of_ble_eq_true rfl) (fun p e s m below meth c X hr hlk hb hK hC hG ls hl => ?_)
  have hS : va_S (fun q : Nat => base ≤ q) s.heap s.heap [] := va_S.rf
  have hl : lv_has ls 2 [(0, .ref a0), (1, .int x1)] := hl
  refine lv_iload_n X.1 X.2.1 dX11_fault_0 rfl (lv_at hl 1 rfl) ?_
  by_cases c1 : x1 = 0
  · refine lv_tableIn (tgt := 28) (off := 27) X.1 X.2.1 dX11_fault_1 (by rw [c1]; decide +kernel) (by rw [c1]; decide +kernel) (by rw [c1]; rfl) (by decide) ?_
    exact absurd hso (by rw [c1]; decide +kernel)
  by_cases c2 : x1 = 1
  · refine lv_tableIn (tgt := 48) (off := 47) X.1 X.2.1 dX11_fault_1 (by rw [c2]; decide +kernel) (by rw [c2]; decide +kernel) (by rw [c2]; rfl) (by decide) ?_
    exact absurd hso (by rw [c2]; decide +kernel)
  by_cases c3 : x1 = 2
  · refine lv_tableIn (tgt := 73) (off := 72) X.1 X.2.1 dX11_fault_1 (by rw [c3]; decide +kernel) (by rw [c3]; decide +kernel) (by rw [c3]; rfl) (by decide) ?_
    exact absurd hso (by rw [c3]; decide +kernel)
  refine lv_tableOut (tgt := 98) X.1 X.2.1 dX11_fault_1 (by have tc1 := iv_nt 0 c1 (by decide +kernel); have tc2 := iv_nt 1 c2 (by decide +kernel); have tc3 := iv_nt 2 c3 (by decide +kernel); have b1 := ((iv_top x1)).1; have b2 := ((iv_top x1)).2; omega) (by decide) ?_
  refine lv_bipush (v := (-2)) X.1 X.2.1 dX11_fault_98 (by decide +kernel) ?_
  exact sg_iret2 X hr hlk hS trivial (fun t ht hW => ⟨by decide +kernel, sg_post hb hK hC hG hS ht hW⟩) dX11_fault_100

theorem ca_X11_fault_qn   (X : CallFix p m c cc nL s args sg_tbl own) (hK : va_K D vwCl tys s) (hG : sgG (KT P) D vwCl (fun q : Nat => base ≤ q) tys ad ks H) (hC : sgC base s) (hS : va_S (fun q : Nat => base ≤ q) s.heap H locs) (hb : base ≤ s.heap.size) (a0 : Nat) (h0 : isK ad ks 11 a0) (x1 : Int32) (hso : x1.toInt < 0 ∨ 2 < x1.toInt) (hl : Cond.methodLink own index yX11_fault ∈ sg_tbl) (hsize : ls.size = nL) (hst : st0 = [.int x1].reverse ++ .ref a0 :: rest) (hW : (rest.map fun v => v.category).sum ≤ 8) (hR : 24 ≤ R.frames ∧ 586 ≤ R.locals) (hf : cells ≤ R.cells ∧ slots ≤ R.slots) (hdg : decode cc pc = .ok (.invokevirtual index, 3)) (kk : ∀ (r : Int32) (t : State) (H1 : Heap) (locs1 : List Loc), t.heap = H1 → (fun r : Int32 => True) r → (r.toInt = -2 ∧ sgB (KT P) D vwCl base tys ad ks t) → va_S (fun q : Nat => base ≤ q) s.heap H1 locs1 → W p l e R s m args below meth c H1 locs1 cells slots Q (F0 m (pc + 3) ls (.int r :: rest))) : W p l e R s m args below meth c H locs cells slots Q (F0 m pc ls st0) :=
  sg_callV2i X hK hG hC hS hb (m_X11_fault_qn l a0 h0 x1 hso) h0 (k := 11) (ci := 11) rfl (C := RX11) (T := TX11) (N := 17) rfl wl_3_25 wl_1_1 wl_3_23 wl_3_24 (n := 1) (by decide +kernel) rfl rfl rfl hl hsize hst hW hR hf hdg kk

theorem m_X11_fault_q (l : Launch) {D : va_G} {base : Nat} {tys : List (ClassId × FieldType)} {ad ks : List Nat} {P : sgPm} (a0 : Nat) (h0 : isK ad ks 11 a0) (x1 : Int32) (hl0 : 0 ≤ sgL1 P ∧ sgL1 P ≤ 240) (hby : ∀ j : Nat, (↑j : Int) < sgL1 P → 1 ≤ sgT1 P j ∧ sgT1 P j ≤ 255) : Met l yX11_fault (Cond.code yX11_fault cX11_fault 2 (some .int) :: sg_tbl) ({ frames := 23, cells := 0, slots := 0, locals := 565 }) (va_Pc [.ref a0, .int x1] (sgB (KT P) D vwCl base tys ad ks)) (va_Qi (fun r (u : Int32) => u = r ∧ (fun r : Int32 => True) r) (fun u t => sgFt1 x1.toInt P u.toInt ∧ sgB (KT P) D vwCl base tys ad ks t) (fun q : Nat => base ≤ q)) 0 0 (fun q : Nat => base ≤ q) := by
  by_cases e0 : x1 = 0
  · have hx : iv 0 0 x1 := by rw [e0]; exact iv_c 0 (a := 0) (b := 0) (by decide +kernel)
    refine sg_monoP (m_X11_fault_q0 l a0 h0 x1 hx hl0 hby) (fun args s o t h => sg_qi h (fun u hW => ?_))
    obtain ⟨w9, p9, e9, hB⟩ := hW
    exact ⟨Or.inl ⟨vq_iv hx, by rw [e9]; exact p9⟩, hB⟩
  by_cases e1 : x1 = 1
  · have hx : iv 1 1 x1 := by rw [e1]; exact iv_c 1 (a := 1) (b := 1) (by decide +kernel)
    refine sg_monoP (m_X11_fault_q1 l a0 h0 x1 hx hl0 hby) (fun args s o t h => sg_qi h (fun u hW => ?_))
    obtain ⟨w9, p9, e9, hB⟩ := hW
    exact ⟨Or.inr (Or.inl ⟨vq_iv hx, by rw [e9]; exact p9⟩), hB⟩
  by_cases e2 : x1 = 2
  · have hx : iv 2 2 x1 := by rw [e2]; exact iv_c 2 (a := 2) (b := 2) (by decide +kernel)
    refine sg_monoP (m_X11_fault_q2 l a0 h0 x1 hx hl0 hby) (fun args s o t h => sg_qi h (fun u hW => ?_))
    obtain ⟨w9, p9, e9, hB⟩ := hW
    exact ⟨Or.inr (Or.inr (Or.inl ⟨vq_iv hx, by rw [e9]; exact p9⟩)), hB⟩
  have hso := sg_so e0 e1 e2
  refine sg_monoP (m_X11_fault_qn l a0 h0 x1 hso) (fun args s o t h => sg_qi h (fun u hW => ?_))
  exact ⟨Or.inr (Or.inr (Or.inr ⟨hso, hW.1⟩)), hW.2⟩

theorem ca_X11_fault_q   (X : CallFix p m c cc nL s args sg_tbl own) (hK : va_K D vwCl tys s) (hG : sgG (KT P) D vwCl (fun q : Nat => base ≤ q) tys ad ks H) (hC : sgC base s) (hS : va_S (fun q : Nat => base ≤ q) s.heap H locs) (hb : base ≤ s.heap.size) (a0 : Nat) (h0 : isK ad ks 11 a0) (x1 : Int32) (hl0 : 0 ≤ sgL1 P ∧ sgL1 P ≤ 240) (hby : ∀ j : Nat, (↑j : Int) < sgL1 P → 1 ≤ sgT1 P j ∧ sgT1 P j ≤ 255) (hl : Cond.methodLink own index yX11_fault ∈ sg_tbl) (hsize : ls.size = nL) (hst : st0 = [.int x1].reverse ++ .ref a0 :: rest) (hW : (rest.map fun v => v.category).sum ≤ 8) (hR : 24 ≤ R.frames ∧ 586 ≤ R.locals) (hf : cells ≤ R.cells ∧ slots ≤ R.slots) (hdg : decode cc pc = .ok (.invokevirtual index, 3)) (kk : ∀ (r : Int32) (t : State) (H1 : Heap) (locs1 : List Loc), t.heap = H1 → (fun r : Int32 => True) r → (sgFt1 x1.toInt P r.toInt ∧ sgB (KT P) D vwCl base tys ad ks t) → va_S (fun q : Nat => base ≤ q) s.heap H1 locs1 → W p l e R s m args below meth c H1 locs1 cells slots Q (F0 m (pc + 3) ls (.int r :: rest))) : W p l e R s m args below meth c H locs cells slots Q (F0 m pc ls st0) :=
  sg_callV2i X hK hG hC hS hb (m_X11_fault_q l a0 h0 x1 hl0 hby) h0 (k := 11) (ci := 11) rfl (C := RX11) (T := TX11) (N := 17) rfl wl_3_25 wl_1_1 wl_3_23 wl_3_24 (n := 1) (by decide +kernel) rfl rfl rfl hl hsize hst hW hR hf hdg kk
end
