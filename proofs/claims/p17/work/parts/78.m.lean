abbrev cX12_fault : ByteArray := prog_14_method_39_code
def yX12_fault : MethodName := ⟨RX12, "fault", "(I)I"⟩
theorem dX12_fault_0 : decode cX12_fault 0 = .ok (.aload_n 0, 1) := by decide +kernel
theorem dX12_fault_1 : decode cX12_fault 1 = .ok (.iconst 0, 1) := by decide +kernel
theorem dX12_fault_2 : decode cX12_fault 2 = .ok (.putfield 94, 3) := by decide +kernel
theorem dX12_fault_5 : decode cX12_fault 5 = .ok (.iload_n 1, 1) := by decide +kernel
theorem dX12_fault_6 : decode cX12_fault 6 = .ok (.i2l, 1) := by decide +kernel
theorem dX12_fault_7 : decode cX12_fault 7 = .ok (.lconst 0, 1) := by decide +kernel
theorem dX12_fault_8 : decode cX12_fault 8 = .ok (.ldc2_w 283, 3) := by decide +kernel
theorem dX12_fault_11 : decode cX12_fault 11 = .ok (.invokestatic 215, 3) := by decide +kernel
theorem dX12_fault_14 : decode cX12_fault 14 = .ok (.ifCond .ne 6, 3) := by decide +kernel
theorem dX12_fault_17 : decode cX12_fault 17 = .ok (.bipush (-2), 2) := by decide +kernel
theorem dX12_fault_19 : decode cX12_fault 19 = .ok (.ireturn, 1) := by decide +kernel
theorem dX12_fault_20 : decode cX12_fault 20 = .ok (.iload_n 1, 1) := by decide +kernel
theorem dX12_fault_21 : decode cX12_fault 21 = .ok (.ifCond .ne 7, 3) := by decide +kernel
theorem dX12_fault_24 : decode cX12_fault 24 = .ok (.aload_n 0, 1) := by decide +kernel
theorem dX12_fault_25 : decode cX12_fault 25 = .ok (.invokevirtual 285, 3) := by decide +kernel
theorem dX12_fault_28 : decode cX12_fault 28 = .ok (.iload_n 1, 1) := by decide +kernel
theorem dX12_fault_29 : decode cX12_fault 29 = .ok (.iconst 1, 1) := by decide +kernel
theorem dX12_fault_30 : decode cX12_fault 30 = .ok (.if_icmp .ne 16, 3) := by decide +kernel
theorem dX12_fault_33 : decode cX12_fault 33 = .ok (.aload_n 0, 1) := by decide +kernel
theorem dX12_fault_34 : decode cX12_fault 34 = .ok (.aload_n 0, 1) := by decide +kernel
theorem dX12_fault_35 : decode cX12_fault 35 = .ok (.getfield 9, 3) := by decide +kernel
theorem dX12_fault_38 : decode cX12_fault 38 = .ok (.iconst 0, 1) := by decide +kernel
theorem dX12_fault_39 : decode cX12_fault 39 = .ok (.aload_n 0, 1) := by decide +kernel
theorem dX12_fault_40 : decode cX12_fault 40 = .ok (.getfield 107, 3) := by decide +kernel
theorem dX12_fault_43 : decode cX12_fault 43 = .ok (.invokevirtual 288, 3) := by decide +kernel
theorem dX12_fault_46 : decode cX12_fault 46 = .ok (.iload_n 1, 1) := by decide +kernel
theorem dX12_fault_47 : decode cX12_fault 47 = .ok (.iconst 2, 1) := by decide +kernel
theorem dX12_fault_48 : decode cX12_fault 48 = .ok (.if_icmp .ne 7, 3) := by decide +kernel
theorem dX12_fault_51 : decode cX12_fault 51 = .ok (.aload_n 0, 1) := by decide +kernel
theorem dX12_fault_52 : decode cX12_fault 52 = .ok (.invokevirtual 291, 3) := by decide +kernel
theorem dX12_fault_55 : decode cX12_fault 55 = .ok (.aload_n 0, 1) := by decide +kernel
theorem dX12_fault_56 : decode cX12_fault 56 = .ok (.getfield 126, 3) := by decide +kernel
theorem dX12_fault_59 : decode cX12_fault 59 = .ok (.ireturn, 1) := by decide +kernel
theorem wl_7_122 : (.methodLink RX12 285 yX12_readLawn : Cond) ∈ sg_tbl := tb_7 _ (List.mem_of_getElem? (i := 122) (by decide +kernel)) (by decide +kernel)
theorem wl_8_27 : (.methodLink RX12 291 yX12_readGame : Cond) ∈ sg_tbl := tb_8 _ (List.mem_of_getElem? (i := 27) (by decide +kernel)) (by decide +kernel)
theorem wl_7_117 : (.code yX12_fault cX12_fault 2 (some .int) : Cond) ∈ sg_tbl := tb_7 _ (List.mem_of_getElem? (i := 117) (by decide +kernel)) (by decide +kernel)
theorem wl_7_115 : (.instanceMethod yX12_fault : Cond) ∈ sg_tbl := tb_7 _ (List.mem_of_getElem? (i := 115) (by decide +kernel)) (by decide +kernel)
theorem wl_7_116 : (.selects RX12 yX12_fault yX12_fault : Cond) ∈ sg_tbl := tb_7 _ (List.mem_of_getElem? (i := 116) (by decide +kernel)) (by decide +kernel)
section
variable {p : Program} {l : Launch} {e : Env} {R : Room} {s : State} {m : MethodId} {args : Array Value} {below : List Frame} {meth : Method} {c : Code} {H : Heap} {locs : List Loc} {cells slots : Nat} {Q : State → Prop} {cc : ByteArray} {nL pc : Nat} {ls : Array Slot} {rest : List Value} {own : String} {D : va_G} {A : Nat → Prop} {tys : List (ClassId × FieldType)} {ad ks : List Nat} {P : sgPm} {H0 : Heap} {index : Nat} {base : Nat} {st0 : List Value} {a : Nat}
theorem gf_X12_11   (X : CallFix p m c cc nL s args sg_tbl own) (hK : va_K D vwCl tys s) (hG : sgG (KT P) D vwCl A tys ad ks H) (ha : isK ad ks 12 a) (hl : Cond.fieldLink own index "LawnAheadModel" "fault" "I" ∈ sg_tbl) (hdg : decode cc pc = .ok (.getfield index, 3)) (kk : ∀ x : Int32, iv (-1) 241 x → fld D H 12 a 11 (.int x) → W p l e R s m args below meth c H locs cells slots Q (F0 m (pc + 3) ls (.int x :: rest))) : W p l e R s m args below meth c H locs cells slots Q (F0 m pc ls (.ref a :: rest)) :=
  sg_get X hK hG ha (k := 12) (ci := 12) rfl (C := RX12) (T := TX12) (N := 53) rfl inL_X12 11 (by decide) rfl hl (fun _ h => h) hdg (fun v hv hf => by obtain ⟨x, rfl, hx⟩ := hv; exact kk x hx hf)
theorem gf_X12_11m  {mr : Int} (X : CallFix p m c cc nL s args sg_tbl own) (hK : va_K D vwCl tys s) (hG : sgG (KM mr P) D vwCl A tys ad ks H) (ha : isK ad ks 12 a) (hl : Cond.fieldLink own index "LawnAheadModel" "fault" "I" ∈ sg_tbl) (hdg : decode cc pc = .ok (.getfield index, 3)) (kk : ∀ x : Int32, iv (-1) 241 x → fld D H 12 a 11 (.int x) → W p l e R s m args below meth c H locs cells slots Q (F0 m (pc + 3) ls (.int x :: rest))) : W p l e R s m args below meth c H locs cells slots Q (F0 m pc ls (.ref a :: rest)) :=
  sg_get X hK hG ha (k := 12) (ci := 12) rfl (C := RX12) (T := TX12) (N := 53) rfl inL_X12 11 (by decide) rfl hl (fun _ h => h) hdg (fun v hv hf => by obtain ⟨x, rfl, hx⟩ := hv; exact kk x hx hf)
theorem gg_X12_11   (X : CallFix p m c cc nL s args sg_tbl own) (hK : va_K D vwCl tys s) (hG : sgG (KT P) D vwCl A tys ad ks H) (ha : isK ad ks 12 a) (hl : Cond.fieldLink own index "LawnAheadModel" "fault" "I" ∈ sg_tbl) {v : Value} (hf : fld D H 12 a 11 v) (hdg : decode cc pc = .ok (.getfield index, 3)) (kk : W p l e R s m args below meth c H locs cells slots Q (F0 m (pc + 3) ls (v :: rest))) : W p l e R s m args below meth c H locs cells slots Q (F0 m pc ls (.ref a :: rest)) :=
  sg_getf X hK hG ha (k := 12) (ci := 12) rfl (C := RX12) (T := TX12) (N := 53) rfl inL_X12 11 (by decide) (show 11 < 53 by decide) hl (fun _ h => h) hf hdg kk
set_option maxHeartbeats 8000000 in
set_option maxRecDepth 100000 in
theorem m_X12_fault_0 (l : Launch) {D : va_G} {base : Nat} {tys : List (ClassId × FieldType)} {ad ks : List Nat} {P : sgPm} (a0 : Nat) (h0 : isK ad ks 12 a0) (x1 : Int32) (h1 : iv 0 0 x1) : Met l yX12_fault (Cond.code yX12_fault cX12_fault 2 (some .int) :: sg_tbl) ({ frames := 8, cells := 0, slots := 0, locals := 176 }) (va_Pc [.ref a0, .int x1] (sgB (KT P) D vwCl base tys ad ks)) (va_Qi (fun r (u : Int32) => u = r ∧ (fun r : Int32 => True) r) (fun u t => sgB (KT P) D vwCl base tys ad ks t ∧ (u = -1 → sgB (KM 7 P) D vwCl base tys ad ks t)) (fun q : Nat => base ≤ q)) 0 0 (fun q : Nat => base ≤ q) := by
  refine sg_ofW (by decide +kernel) (Nat.le_of_ble_eq_true rfl) (fun p e s m below meth c X hr hlk hb hK hC hG ls hl => ?_)
  have hS : va_S (fun q : Nat => base ≤ q) s.heap s.heap [] := va_S.rf
  have hl : lv_has ls 2 [(0, .ref a0), (1, .int x1)] := hl
  refine lv_aload_n X.1 X.2.1 dX12_fault_0 rfl (lv_at hl 0 rfl) ?_
  refine lv_iconst (v := 0) X.1 X.2.1 dX12_fault_1 (by decide +kernel) ?_
  refine pf_X12_0 X hK hG hS h0 wl_6_178 ⟨_, rfl, (iv_top _)⟩ dX12_fault_2 (fun H locs hG hS ku1 ru1 => ?_)
  refine lv_iload_n X.1 X.2.1 dX12_fault_5 rfl (lv_at hl 1 rfl) ?_
  obtain ⟨g2, eg2⟩ : ∃ y : Int64, y = (x1 : Int32).toInt64 := ⟨_, rfl⟩
  refine lv_i2l (v := g2) X.1 X.2.1 dX12_fault_6 eg2.symm ?_
  refine lv_lconst (v := 0) X.1 X.2.1 dX12_fault_7 (by decide +kernel) ?_
  refine lv_ldc2 X.1 X.2.1 X.2.2.2.1 (X.2.2.2.2 _ wl_7_118) dX12_fault_8 ?_
  refine ca_X12_isIn X hK hG hC (fun _ h => h) hS hb g2 0 2 wl_7_119 hl.1 (rest := []) rfl (Nat.le_of_ble_eq_true rfl) ⟨Nat.le_of_ble_eq_true rfl, Nat.le_of_ble_eq_true rfl⟩ ⟨Nat.le_of_ble_eq_true rfl, Nat.le_of_ble_eq_true rfl⟩ dX12_fault_11 (fun f3 locs hf3 hS => ?_)
  refine lv_if_ne (tgt := 20) X.1 X.2.1 dX12_fault_14 (by decide) (fun c4 => ?_) (fun c4 => ?_)
  · refine lv_iload_n X.1 X.2.1 dX12_fault_20 rfl (lv_at hl 1 rfl) ?_
    refine lv_if_ne (tgt := 28) X.1 X.2.1 dX12_fault_21 (by decide) (fun c5 => ?_) (fun c5 => ?_)
    · exact ((c5 (iv_one h1 (iv_c 0 (a := 0) (b := 0) (by decide +kernel)) (by decide +kernel)))).elim
    · refine lv_aload_n X.1 X.2.1 dX12_fault_24 rfl (lv_at hl 0 rfl) ?_
      refine ca_X12_readLawn X hK hG hC hS hb a0 h0 wl_7_122 hl.1 (rest := []) rfl (Nat.le_of_ble_eq_true rfl) ⟨Nat.le_of_ble_eq_true rfl, Nat.le_of_ble_eq_true rfl⟩ ⟨Nat.le_of_ble_eq_true rfl, Nat.le_of_ble_eq_true rfl⟩ dX12_fault_25 (fun tg6 H locs htg6 hWg6 hS => ?_)
      obtain ⟨hBg6, hWg6⟩ := hWg6
      rcases hWg6 with hCg6 | ⟨w7, kw7, hw7⟩
      · have hG := hCg6.2.2.2
        rw [htg6] at hG
        refine lv_iload_n X.1 X.2.1 dX12_fault_28 rfl (lv_at hl 1 rfl) ?_
        refine lv_iconst (v := 1) X.1 X.2.1 dX12_fault_29 (by decide +kernel) ?_
        refine lv_icmp_ne (tgt := 46) X.1 X.2.1 dX12_fault_30 (by decide) (fun c8 => ?_) (fun c8 => ?_)
        · refine lv_iload_n X.1 X.2.1 dX12_fault_46 rfl (lv_at hl 1 rfl) ?_
          refine lv_iconst (v := 2) X.1 X.2.1 dX12_fault_47 (by decide +kernel) ?_
          refine lv_icmp_ne (tgt := 55) X.1 X.2.1 dX12_fault_48 (by decide) (fun c9 => ?_) (fun c9 => ?_)
          · refine lv_aload_n X.1 X.2.1 dX12_fault_55 rfl (lv_at hl 0 rfl) ?_
            refine gf_X12_11m X hK hG h0 wl_6_189 dX12_fault_56 (fun f10 hf10 kf10 => ?_)
            have hGm := hG
            have hG : sgG (KT P) D vwCl _ tys ad ks _ := sgm_weak (by omega) hG
            exact sg_iret2 X hr hlk hS trivial (fun t ht hW => ⟨sg_post hb hK hC hG hS ht hW, fun _ => sg_post hb hK hC hGm hS ht hW⟩) dX12_fault_59
          · exact ((iv_no (a := 2) (b := 0) (iv_eqm c9 h1 (iv_c 2 (a := 2) (b := 2) (by decide +kernel)) (by decide +kernel)) (by decide +kernel))).elim
        · exact ((iv_no (a := 1) (b := 0) (iv_eqm c8 h1 (iv_c 1 (a := 1) (b := 1) (by decide +kernel)) (by decide +kernel)) (by decide +kernel))).elim
      · have hG := hBg6.2.2.2
        rw [htg6] at hG kw7
        refine lv_iload_n X.1 X.2.1 dX12_fault_28 rfl (lv_at hl 1 rfl) ?_
        refine lv_iconst (v := 1) X.1 X.2.1 dX12_fault_29 (by decide +kernel) ?_
        refine lv_icmp_ne (tgt := 46) X.1 X.2.1 dX12_fault_30 (by decide) (fun c11 => ?_) (fun c11 => ?_)
        · refine lv_iload_n X.1 X.2.1 dX12_fault_46 rfl (lv_at hl 1 rfl) ?_
          refine lv_iconst (v := 2) X.1 X.2.1 dX12_fault_47 (by decide +kernel) ?_
          refine lv_icmp_ne (tgt := 55) X.1 X.2.1 dX12_fault_48 (by decide) (fun c12 => ?_) (fun c12 => ?_)
          · refine lv_aload_n X.1 X.2.1 dX12_fault_55 rfl (lv_at hl 0 rfl) ?_
            refine gg_X12_11 X hK hG h0 wl_6_189 kw7 dX12_fault_56 ?_
            exact sg_iret2 X hr hlk hS trivial (fun t ht hW => ⟨sg_post hb hK hC hG hS ht hW, fun hr => absurd hr (iv_ne1 hw7)⟩) dX12_fault_59
          · exact ((iv_no (a := 2) (b := 0) (iv_eqm c12 h1 (iv_c 2 (a := 2) (b := 2) (by decide +kernel)) (by decide +kernel)) (by decide +kernel))).elim
        · exact ((iv_no (a := 1) (b := 0) (iv_eqm c11 h1 (iv_c 1 (a := 1) (b := 1) (by decide +kernel)) (by decide +kernel)) (by decide +kernel))).elim
  · refine lv_bipush (v := (-2)) X.1 X.2.1 dX12_fault_17 (by decide +kernel) ?_
    exact sg_iret2 X hr hlk hS trivial (fun t ht hW => ⟨sg_post hb hK hC hG hS ht hW, fun hr => absurd hr (by decide)⟩) dX12_fault_19

theorem ca_X12_fault_0   (X : CallFix p m c cc nL s args sg_tbl own) (hK : va_K D vwCl tys s) (hG : sgG (KT P) D vwCl (fun q : Nat => base ≤ q) tys ad ks H) (hC : sgC base s) (hS : va_S (fun q : Nat => base ≤ q) s.heap H locs) (hb : base ≤ s.heap.size) (a0 : Nat) (h0 : isK ad ks 12 a0) (x1 : Int32) (h1 : iv 0 0 x1) (hl : Cond.methodLink own index yX12_fault ∈ sg_tbl) (hsize : ls.size = nL) (hst : st0 = [.int x1].reverse ++ .ref a0 :: rest) (hW : (rest.map fun v => v.category).sum ≤ 8) (hR : 9 ≤ R.frames ∧ 197 ≤ R.locals) (hf : cells ≤ R.cells ∧ slots ≤ R.slots) (hdg : decode cc pc = .ok (.invokevirtual index, 3)) (kk : ∀ (r : Int32) (t : State) (H1 : Heap) (locs1 : List Loc), t.heap = H1 → (fun r : Int32 => True) r → (sgB (KT P) D vwCl base tys ad ks t ∧ (r = -1 → sgB (KM 7 P) D vwCl base tys ad ks t)) → va_S (fun q : Nat => base ≤ q) s.heap H1 locs1 → W p l e R s m args below meth c H1 locs1 cells slots Q (F0 m (pc + 3) ls (.int r :: rest))) : W p l e R s m args below meth c H locs cells slots Q (F0 m pc ls st0) :=
  sg_callV2i X hK hG hC hS hb (m_X12_fault_0 l a0 h0 x1 h1) h0 (k := 12) (ci := 12) rfl (C := RX12) (T := TX12) (N := 53) rfl wl_7_117 wl_1_13 wl_7_115 wl_7_116 (n := 1) (by decide +kernel) rfl rfl rfl hl hsize hst hW hR hf hdg kk

set_option maxHeartbeats 8000000 in
set_option maxRecDepth 100000 in
theorem m_X12_fault (l : Launch) {D : va_G} {base : Nat} {tys : List (ClassId × FieldType)} {ad ks : List Nat} {P : sgPm} (a0 : Nat) (h0 : isK ad ks 12 a0) (x1 : Int32) : sgMi l (KT P) D vwCl base tys ad ks yX12_fault cX12_fault 2 (some .int) ({ frames := 32, cells := 0, slots := 0, locals := 746 }) [.ref a0, .int x1] (fun r : Int32 => True) := by
  refine sg_ofW (by decide +kernel) (Nat.le_of_ble_eq_true rfl) (fun p e s m below meth c X hr hlk hb hK hC hG ls hl => ?_)
  have hS : va_S (fun q : Nat => base ≤ q) s.heap s.heap [] := va_S.rf
  have hl : lv_has ls 2 [(0, .ref a0), (1, .int x1)] := hl
  refine lv_aload_n X.1 X.2.1 dX12_fault_0 rfl (lv_at hl 0 rfl) ?_
  refine lv_iconst (v := 0) X.1 X.2.1 dX12_fault_1 (by decide +kernel) ?_
  refine pf_X12_0 X hK hG hS h0 wl_6_178 ⟨_, rfl, (iv_top _)⟩ dX12_fault_2 (fun H locs hG hS ku1 ru1 => ?_)
  refine lv_iload_n X.1 X.2.1 dX12_fault_5 rfl (lv_at hl 1 rfl) ?_
  obtain ⟨g2, eg2⟩ : ∃ y : Int64, y = (x1 : Int32).toInt64 := ⟨_, rfl⟩
  refine lv_i2l (v := g2) X.1 X.2.1 dX12_fault_6 eg2.symm ?_
  refine lv_lconst (v := 0) X.1 X.2.1 dX12_fault_7 (by decide +kernel) ?_
  refine lv_ldc2 X.1 X.2.1 X.2.2.2.1 (X.2.2.2.2 _ wl_7_118) dX12_fault_8 ?_
  refine ca_X12_isIn X hK hG hC (fun _ h => h) hS hb g2 0 2 wl_7_119 hl.1 (rest := []) rfl (Nat.le_of_ble_eq_true rfl) ⟨Nat.le_of_ble_eq_true rfl, Nat.le_of_ble_eq_true rfl⟩ ⟨Nat.le_of_ble_eq_true rfl, Nat.le_of_ble_eq_true rfl⟩ dX12_fault_11 (fun f3 locs hf3 hS => ?_)
  refine lv_if_ne (tgt := 20) X.1 X.2.1 dX12_fault_14 (by decide) (fun c4 => ?_) (fun c4 => ?_)
  · refine lv_iload_n X.1 X.2.1 dX12_fault_20 rfl (lv_at hl 1 rfl) ?_
    refine lv_if_ne (tgt := 28) X.1 X.2.1 dX12_fault_21 (by decide) (fun c5 => ?_) (fun c5 => ?_)
    · refine lv_iload_n X.1 X.2.1 dX12_fault_28 rfl (lv_at hl 1 rfl) ?_
      refine lv_iconst (v := 1) X.1 X.2.1 dX12_fault_29 (by decide +kernel) ?_
      refine lv_icmp_ne (tgt := 46) X.1 X.2.1 dX12_fault_30 (by decide) (fun c6 => ?_) (fun c6 => ?_)
      · refine lv_iload_n X.1 X.2.1 dX12_fault_46 rfl (lv_at hl 1 rfl) ?_
        refine lv_iconst (v := 2) X.1 X.2.1 dX12_fault_47 (by decide +kernel) ?_
        refine lv_icmp_ne (tgt := 55) X.1 X.2.1 dX12_fault_48 (by decide) (fun c7 => ?_) (fun c7 => ?_)
        · exact ((c7 (iv_one (iv_ne_lo (a' := 2) c6 (iv_ne_lo (a' := 1) c5 (sg_isin (a := 0) (b := 2) (hf3.2 c4) eg2 (by decide +kernel) (by decide +kernel)) (by decide +kernel)) (by decide +kernel)) (iv_c 2 (a := 2) (b := 2) (by decide +kernel)) (by decide +kernel)))).elim
        · refine lv_aload_n X.1 X.2.1 dX12_fault_51 rfl (lv_at hl 0 rfl) ?_
          refine ca_X12_readGame X hK hG hC hS hb a0 h0 wl_8_27 hl.1 (rest := []) rfl (Nat.le_of_ble_eq_true rfl) ⟨Nat.le_of_ble_eq_true rfl, Nat.le_of_ble_eq_true rfl⟩ ⟨Nat.le_of_ble_eq_true rfl, Nat.le_of_ble_eq_true rfl⟩ dX12_fault_52 (fun H locs hG hS => ?_)
          refine lv_aload_n X.1 X.2.1 dX12_fault_55 rfl (lv_at hl 0 rfl) ?_
          refine gf_X12_11 X hK hG h0 wl_6_189 dX12_fault_56 (fun f9 hf9 kf9 => ?_)
          exact sg_iret X hr hlk hb hK hC hG hS trivial dX12_fault_59
      · refine lv_aload_n X.1 X.2.1 dX12_fault_33 rfl (lv_at hl 0 rfl) ?_
        refine lv_aload_n X.1 X.2.1 dX12_fault_34 rfl (lv_at hl 0 rfl) ?_
        refine gf_X12_1 X hK hG h0 wl_6_179 dX12_fault_35 (fun q10 hq10 kq10 => ?_)
        refine lv_iconst (v := 0) X.1 X.2.1 dX12_fault_38 (by decide +kernel) ?_
        refine lv_aload_n X.1 X.2.1 dX12_fault_39 rfl (lv_at hl 0 rfl) ?_
        refine gf_X12_6 X hK hG h0 wl_6_184 dX12_fault_40 (fun f11 hf11 pf11 kf11 => ?_)
        refine ca_X12_goThrough_t X hK hG hC hS hb a0 h0 q10 hq10 0 (iv_c 0 (a := 0) (b := 0) (by decide +kernel)) f11 hf11 wl_7_206 hl.1 (rest := []) rfl (Nat.le_of_ble_eq_true rfl) ⟨Nat.le_of_ble_eq_true rfl, Nat.le_of_ble_eq_true rfl⟩ ⟨Nat.le_of_ble_eq_true rfl, Nat.le_of_ble_eq_true rfl⟩ dX12_fault_43 (fun H locs hG hS => ?_)
        refine lv_iload_n X.1 X.2.1 dX12_fault_46 rfl (lv_at hl 1 rfl) ?_
        refine lv_iconst (v := 2) X.1 X.2.1 dX12_fault_47 (by decide +kernel) ?_
        refine lv_icmp_ne (tgt := 55) X.1 X.2.1 dX12_fault_48 (by decide) (fun c13 => ?_) (fun c13 => ?_)
        · refine lv_aload_n X.1 X.2.1 dX12_fault_55 rfl (lv_at hl 0 rfl) ?_
          refine gf_X12_11 X hK hG h0 wl_6_189 dX12_fault_56 (fun f14 hf14 kf14 => ?_)
          exact sg_iret X hr hlk hb hK hC hG hS trivial dX12_fault_59
        · exact ((iv_no (a := 2) (b := 1) (iv_eqm c13 (iv_eqm (a' := 1) (b' := 1) c6 (iv_ne_lo (a' := 1) c5 (sg_isin (a := 0) (b := 2) (hf3.2 c4) eg2 (by decide +kernel) (by decide +kernel)) (by decide +kernel)) (iv_c 1 (a := 1) (b := 1) (by decide +kernel)) (by decide +kernel)) (iv_c 2 (a := 2) (b := 2) (by decide +kernel)) (by decide +kernel)) (by decide +kernel))).elim
    · refine lv_aload_n X.1 X.2.1 dX12_fault_24 rfl (lv_at hl 0 rfl) ?_
      refine ca_X12_readLawn X hK hG hC hS hb a0 h0 wl_7_122 hl.1 (rest := []) rfl (Nat.le_of_ble_eq_true rfl) ⟨Nat.le_of_ble_eq_true rfl, Nat.le_of_ble_eq_true rfl⟩ ⟨Nat.le_of_ble_eq_true rfl, Nat.le_of_ble_eq_true rfl⟩ dX12_fault_25 (fun tg15 H locs htg15 hWg15 hS => ?_)
      obtain ⟨hBg15, hWg15⟩ := hWg15
      rcases hWg15 with hCg15 | ⟨w16, kw16, hw16⟩
      · have hG := hCg15.2.2.2
        rw [htg15] at hG
        refine lv_iload_n X.1 X.2.1 dX12_fault_28 rfl (lv_at hl 1 rfl) ?_
        refine lv_iconst (v := 1) X.1 X.2.1 dX12_fault_29 (by decide +kernel) ?_
        refine lv_icmp_ne (tgt := 46) X.1 X.2.1 dX12_fault_30 (by decide) (fun c17 => ?_) (fun c17 => ?_)
        · refine lv_iload_n X.1 X.2.1 dX12_fault_46 rfl (lv_at hl 1 rfl) ?_
          refine lv_iconst (v := 2) X.1 X.2.1 dX12_fault_47 (by decide +kernel) ?_
          refine lv_icmp_ne (tgt := 55) X.1 X.2.1 dX12_fault_48 (by decide) (fun c18 => ?_) (fun c18 => ?_)
          · refine lv_aload_n X.1 X.2.1 dX12_fault_55 rfl (lv_at hl 0 rfl) ?_
            refine gf_X12_11m X hK hG h0 wl_6_189 dX12_fault_56 (fun f19 hf19 kf19 => ?_)
            have hG : sgG (KT P) D vwCl _ tys ad ks _ := sgm_weak (by omega) hG
            exact sg_iret X hr hlk hb hK hC hG hS trivial dX12_fault_59
          · exact ((iv_no (a := 2) (b := 0) (iv_eqm c18 (iv_eqm (a' := 0) (b' := 0) c5 (sg_isin (a := 0) (b := 2) (hf3.2 c4) eg2 (by decide +kernel) (by decide +kernel)) (iv_c 0 (a := 0) (b := 0) (by decide +kernel)) (by decide +kernel)) (iv_c 2 (a := 2) (b := 2) (by decide +kernel)) (by decide +kernel)) (by decide +kernel))).elim
        · exact ((iv_no (a := 1) (b := 0) (iv_eqm c17 (iv_eqm (a' := 0) (b' := 0) c5 (sg_isin (a := 0) (b := 2) (hf3.2 c4) eg2 (by decide +kernel) (by decide +kernel)) (iv_c 0 (a := 0) (b := 0) (by decide +kernel)) (by decide +kernel)) (iv_c 1 (a := 1) (b := 1) (by decide +kernel)) (by decide +kernel)) (by decide +kernel))).elim
      · have hG := hBg15.2.2.2
        rw [htg15] at hG kw16
        refine lv_iload_n X.1 X.2.1 dX12_fault_28 rfl (lv_at hl 1 rfl) ?_
        refine lv_iconst (v := 1) X.1 X.2.1 dX12_fault_29 (by decide +kernel) ?_
        refine lv_icmp_ne (tgt := 46) X.1 X.2.1 dX12_fault_30 (by decide) (fun c20 => ?_) (fun c20 => ?_)
        · refine lv_iload_n X.1 X.2.1 dX12_fault_46 rfl (lv_at hl 1 rfl) ?_
          refine lv_iconst (v := 2) X.1 X.2.1 dX12_fault_47 (by decide +kernel) ?_
          refine lv_icmp_ne (tgt := 55) X.1 X.2.1 dX12_fault_48 (by decide) (fun c21 => ?_) (fun c21 => ?_)
          · refine lv_aload_n X.1 X.2.1 dX12_fault_55 rfl (lv_at hl 0 rfl) ?_
            refine gg_X12_11 X hK hG h0 wl_6_189 kw16 dX12_fault_56 ?_
            exact sg_iret X hr hlk hb hK hC hG hS trivial dX12_fault_59
          · exact ((iv_no (a := 2) (b := 0) (iv_eqm c21 (iv_eqm (a' := 0) (b' := 0) c5 (sg_isin (a := 0) (b := 2) (hf3.2 c4) eg2 (by decide +kernel) (by decide +kernel)) (iv_c 0 (a := 0) (b := 0) (by decide +kernel)) (by decide +kernel)) (iv_c 2 (a := 2) (b := 2) (by decide +kernel)) (by decide +kernel)) (by decide +kernel))).elim
        · exact ((iv_no (a := 1) (b := 0) (iv_eqm c20 (iv_eqm (a' := 0) (b' := 0) c5 (sg_isin (a := 0) (b := 2) (hf3.2 c4) eg2 (by decide +kernel) (by decide +kernel)) (iv_c 0 (a := 0) (b := 0) (by decide +kernel)) (by decide +kernel)) (iv_c 1 (a := 1) (b := 1) (by decide +kernel)) (by decide +kernel)) (by decide +kernel))).elim
  · refine lv_bipush (v := (-2)) X.1 X.2.1 dX12_fault_17 (by decide +kernel) ?_
    exact sg_iret X hr hlk hb hK hC hG hS trivial dX12_fault_19

theorem ca_X12_fault   (X : CallFix p m c cc nL s args sg_tbl own) (hK : va_K D vwCl tys s) (hG : sgG (KT P) D vwCl (fun q : Nat => base ≤ q) tys ad ks H) (hC : sgC base s) (hS : va_S (fun q : Nat => base ≤ q) s.heap H locs) (hb : base ≤ s.heap.size) (a0 : Nat) (h0 : isK ad ks 12 a0) (x1 : Int32) (hl : Cond.methodLink own index yX12_fault ∈ sg_tbl) (hsize : ls.size = nL) (hst : st0 = [.int x1].reverse ++ .ref a0 :: rest) (hW : (rest.map fun v => v.category).sum ≤ 8) (hR : 33 ≤ R.frames ∧ 767 ≤ R.locals) (hf : cells ≤ R.cells ∧ slots ≤ R.slots) (hdg : decode cc pc = .ok (.invokevirtual index, 3)) (kk : ∀ (r : Int32) (H1 : Heap) (locs1 : List Loc), (fun r : Int32 => True) r → sgG (KT P) D vwCl (fun q : Nat => base ≤ q) tys ad ks H1 → va_S (fun q : Nat => base ≤ q) s.heap H1 locs1 → W p l e R s m args below meth c H1 locs1 cells slots Q (F0 m (pc + 3) ls (.int r :: rest))) : W p l e R s m args below meth c H locs cells slots Q (F0 m pc ls st0) :=
  sg_callVi X hK hG hC hS hb (m_X12_fault l a0 h0 x1) h0 (k := 12) (ci := 12) rfl (C := RX12) (T := TX12) (N := 53) rfl wl_7_117 wl_1_13 wl_7_115 wl_7_116 (n := 1) (by decide +kernel) rfl rfl rfl hl hsize hst hW hR hf hdg kk
end
