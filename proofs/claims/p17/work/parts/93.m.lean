theorem dX12_sumOf_12 : decode cX12_sumOf 12 = .ok (.iload_n 1, 1) := by decide +kernel
theorem dX12_sumOf_13 : decode cX12_sumOf 13 = .ok (.ifCond .lt 25, 3) := by decide +kernel
theorem dX12_sumOf_16 : decode cX12_sumOf 16 = .ok (.iload_n 1, 1) := by decide +kernel
theorem dX12_sumOf_17 : decode cX12_sumOf 17 = .ok (.aload_n 0, 1) := by decide +kernel
theorem dX12_sumOf_18 : decode cX12_sumOf 18 = .ok (.iconst (-1), 1) := by decide +kernel
theorem dX12_sumOf_19 : decode cX12_sumOf 19 = .ok (.invokevirtual 493, 3) := by decide +kernel
theorem dX12_sumOf_22 : decode cX12_sumOf 22 = .ok (.if_icmp .ge 16, 3) := by decide +kernel
theorem dX12_sumOf_25 : decode cX12_sumOf 25 = .ok (.aload_n 0, 1) := by decide +kernel
theorem dX12_sumOf_26 : decode cX12_sumOf 26 = .ok (.iload_n 1, 1) := by decide +kernel
theorem dX12_sumOf_27 : decode cX12_sumOf 27 = .ok (.invokevirtual 493, 3) := by decide +kernel
theorem dX12_sumOf_30 : decode cX12_sumOf 30 = .ok (.invokestatic 333, 3) := by decide +kernel
theorem dX12_sumOf_33 : decode cX12_sumOf 33 = .ok (.bipush 12, 2) := by decide +kernel
theorem dX12_sumOf_35 : decode cX12_sumOf 35 = .ok (.if_icmp .le 7, 3) := by decide +kernel
theorem dX12_sumOf_42 : decode cX12_sumOf 42 = .ok (.aload_n 0, 1) := by decide +kernel
theorem dX12_sumOf_43 : decode cX12_sumOf 43 = .ok (.aload_n 0, 1) := by decide +kernel
theorem dX12_sumOf_44 : decode cX12_sumOf 44 = .ok (.iload_n 1, 1) := by decide +kernel
theorem dX12_sumOf_45 : decode cX12_sumOf 45 = .ok (.invokevirtual 493, 3) := by decide +kernel
theorem dX12_sumOf_48 : decode cX12_sumOf 48 = .ok (.invokevirtual 510, 3) := by decide +kernel
theorem dX12_sumOf_51 : decode cX12_sumOf 51 = .ok (.aload_n 0, 1) := by decide +kernel
theorem dX12_sumOf_52 : decode cX12_sumOf 52 = .ok (.getfield 78, 3) := by decide +kernel
theorem dX12_sumOf_55 : decode cX12_sumOf 55 = .ok (.iconst 1, 1) := by decide +kernel
theorem dX12_sumOf_56 : decode cX12_sumOf 56 = .ok (.aload_n 0, 1) := by decide +kernel
theorem dX12_sumOf_57 : decode cX12_sumOf 57 = .ok (.getfield 496, 3) := by decide +kernel
theorem dX12_sumOf_60 : decode cX12_sumOf 60 = .ok (.ishl, 1) := by decide +kernel
theorem dX12_sumOf_61 : decode cX12_sumOf 61 = .ok (.iconst 1, 1) := by decide +kernel
theorem dX12_sumOf_62 : decode cX12_sumOf 62 = .ok (.isub, 1) := by decide +kernel
theorem dX12_sumOf_63 : decode cX12_sumOf 63 = .ok (.iaload, 1) := by decide +kernel
theorem dX12_sumOf_64 : decode cX12_sumOf 64 = .ok (.ireturn, 1) := by decide +kernel
theorem wl_9_55 : (.methodLink RX12 510 yX12_layPart : Cond) ∈ sg_tbl := tb_9 _ (List.mem_of_getElem? (i := 55) (by decide +kernel)) (by decide +kernel)
section
variable {p : Program} {l : Launch} {e : Env} {R : Room} {s : State} {m : MethodId} {args : Array Value} {below : List Frame} {meth : Method} {c : Code} {H : Heap} {locs : List Loc} {cells slots : Nat} {Q : State → Prop} {cc : ByteArray} {nL pc : Nat} {ls : Array Slot} {rest : List Value} {own : String} {D : va_G} {A : Nat → Prop} {tys : List (ClassId × FieldType)} {ad ks : List Nat} {P : sgPm} {H0 : Heap} {index : Nat} {base : Nat} {st0 : List Value} {a : Nat}
theorem al_61  {i : Int32}  (X : CallFix p m c cc nL s args sg_tbl own) (hK : va_K D vwCl tys s) (hG : sgG (KT P) D vwCl A tys ad ks H) (ha : isK ad ks 61 a) (hin : vp_in i 4096) (hdg : decode cc pc = .ok (.iaload, 1)) (kk : ∀ x : Int32, okV ad ks ((sg_sum : Nat → sgT) i.toNatClampNeg) (.int x) → W p l e R s m args below meth c H locs cells slots Q (F0 m (pc + 1) ls (.int x :: rest))) : W p l e R s m args below meth c H locs cells slots Q (F0 m pc ls (.int i :: .ref a :: rest)) :=
  sg_iald X hK hG ha (k := 61) rfl hin hdg kk
set_option maxHeartbeats 8000000 in
set_option maxRecDepth 100000 in
theorem m_X12_sumOf_1 (l : Launch) {D : va_G} {base : Nat} {tys : List (ClassId × FieldType)} {ad ks : List Nat} {P : sgPm} (hp4 : P.2.2.2.2.1 = true) (hp10 : sgPin P = none) (a0 : Nat) (h0 : isK ad ks 12 a0) (x1 : Int32) : sgMi l (KT P) D vwCl base tys ad ks yX12_sumOf cX12_sumOf 2 (some .int) ({ frames := 5, cells := 0, slots := 0, locals := 127 }) [.ref a0, .int x1] (fun r : Int32 => True) := by
  refine sg_ofW (by decide +kernel) (Nat.le_of_ble_eq_true rfl) (fun p e s m below meth c X hr hlk hb hK hC hG ls hl => ?_)
  have hS : va_S (fun q : Nat => base ≤ q) s.heap s.heap [] := va_S.rf
  have hl : lv_has ls 2 [(0, .ref a0), (1, .int x1)] := hl
  obtain ⟨tp, hG⟩ := sg_dopin hp10 hG h0
  refine lv_aload_n X.1 X.2.1 dX12_sumOf_0 rfl (lv_at hl 0 rfl) ?_
  refine lv_iconst (v := 0) X.1 X.2.1 dX12_sumOf_1 (by decide +kernel) ?_
  refine pf_X12_0 X hK hG hS h0 wl_6_178 ⟨_, rfl, (iv_top _)⟩ dX12_sumOf_2 (fun H locs hG hS ku1 ru1 => ?_)
  refine lv_aload_n X.1 X.2.1 dX12_sumOf_5 rfl (lv_at hl 0 rfl) ?_
  refine gf_X12_23s X hK hG h0 hp4 wl_6_201 dX12_sumOf_6 (fun f2 hf2 kf2 => ?_)
  refine lv_if_eq (tgt := 38) X.1 X.2.1 dX12_sumOf_9 (by decide) (fun c3 => ?_) (fun c3 => ?_)
  · exact ((iv_no (a := 1) (b := 0) (iv_eqm c3 hf2 (iv_c 0 (a := 0) (b := 0) (by decide +kernel)) (by decide +kernel)) (by decide +kernel))).elim
  · refine lv_iload_n X.1 X.2.1 dX12_sumOf_12 rfl (lv_at hl 1 rfl) ?_
    refine lv_if_lt (tgt := 38) X.1 X.2.1 dX12_sumOf_13 (by decide) (fun c4 => ?_) (fun c4 => ?_)
    · refine lv_ldcw X.1 X.2.1 X.2.2.2.1 (X.2.2.2.2 _ wl_8_190) dX12_sumOf_38 ?_
      have hG := sg_unpin hp10 hG
      exact sg_iret X hr hlk hb hK hC hG hS trivial dX12_sumOf_41
    · refine lv_iload_n X.1 X.2.1 dX12_sumOf_16 rfl (lv_at hl 1 rfl) ?_
      refine lv_aload_n X.1 X.2.1 dX12_sumOf_17 rfl (lv_at hl 0 rfl) ?_
      refine lv_iconst (v := (-1)) X.1 X.2.1 dX12_sumOf_18 (by decide +kernel) ?_
      obtain ⟨rqp5, nqp5, hrkp5, hnkp5, hfrp5, hfnp5, hfcp5, hewp5, hetp5⟩ := sg_pk (P := (sgPs P (some tp.toInt))) hp4 rfl hG h0
      refine ca_X12_partAt_f X hK hG hC (fun _ h => h) hS hb hp4 a0 h0 (-1) (wP P) tp (nP P) rqp5 nqp5 (wP_iv P) (nP_iv P) hrkp5 hnkp5 hfrp5 hfnp5 hfcp5 hewp5 hetp5 wl_9_43 hl.1 (rest := [.int x1]) rfl (Nat.le_of_ble_eq_true rfl) ⟨Nat.le_of_ble_eq_true rfl, Nat.le_of_ble_eq_true rfl⟩ ⟨Nat.le_of_ble_eq_true rfl, Nat.le_of_ble_eq_true rfl⟩ dX12_sumOf_19 (fun f6 locs hf6 hS => ?_)
      refine lv_icmp_ge (tgt := 38) X.1 X.2.1 dX12_sumOf_22 (by decide) (fun c7 => ?_) (fun c7 => ?_)
      · refine lv_ldcw X.1 X.2.1 X.2.2.2.1 (X.2.2.2.2 _ wl_8_190) dX12_sumOf_38 ?_
        have hG := sg_unpin hp10 hG
        exact sg_iret X hr hlk hb hK hC hG hS trivial dX12_sumOf_41
      · refine lv_aload_n X.1 X.2.1 dX12_sumOf_25 rfl (lv_at hl 0 rfl) ?_
        refine lv_iload_n X.1 X.2.1 dX12_sumOf_26 rfl (lv_at hl 1 rfl) ?_
        obtain ⟨rqp8, nqp8, hrkp8, hnkp8, hfrp8, hfnp8, hfcp8, hewp8, hetp8⟩ := sg_pk (P := (sgPs P (some tp.toInt))) hp4 rfl hG h0
        refine ca_X12_partAt_f X hK hG hC (fun _ h => h) hS hb hp4 a0 h0 x1 (wP P) tp (nP P) rqp8 nqp8 (wP_iv P) (nP_iv P) hrkp8 hnkp8 hfrp8 hfnp8 hfcp8 hewp8 hetp8 wl_9_43 hl.1 (rest := []) rfl (Nat.le_of_ble_eq_true rfl) ⟨Nat.le_of_ble_eq_true rfl, Nat.le_of_ble_eq_true rfl⟩ ⟨Nat.le_of_ble_eq_true rfl, Nat.le_of_ble_eq_true rfl⟩ dX12_sumOf_27 (fun f9 locs hf9 hS => ?_)
        refine ca_J6_bitCount_0f7a4_5 X hK hG hC (fun _ h => h) hS hb f9 wl_8_68 hl.1 (rest := []) rfl (Nat.le_of_ble_eq_true rfl) ⟨Nat.le_of_ble_eq_true rfl, Nat.le_of_ble_eq_true rfl⟩ ⟨Nat.le_of_ble_eq_true rfl, Nat.le_of_ble_eq_true rfl⟩ dX12_sumOf_30 (fun f10 locs hf10 hS => ?_)
        refine lv_bipush (v := 12) X.1 X.2.1 dX12_sumOf_33 (by decide +kernel) ?_
        refine lv_icmp_le (tgt := 42) X.1 X.2.1 dX12_sumOf_35 (by decide) (fun c11 => ?_) (fun c11 => ?_)
        · refine lv_aload_n X.1 X.2.1 dX12_sumOf_42 rfl (lv_at hl 0 rfl) ?_
          refine lv_aload_n X.1 X.2.1 dX12_sumOf_43 rfl (lv_at hl 0 rfl) ?_
          refine lv_iload_n X.1 X.2.1 dX12_sumOf_44 rfl (lv_at hl 1 rfl) ?_
          obtain ⟨rqp12, nqp12, hrkp12, hnkp12, hfrp12, hfnp12, hfcp12, hewp12, hetp12⟩ := sg_pk (P := (sgPs P (some tp.toInt))) hp4 rfl hG h0
          refine ca_X12_partAt_f X hK hG hC (fun _ h => h) hS hb hp4 a0 h0 x1 (wP P) tp (nP P) rqp12 nqp12 (wP_iv P) (nP_iv P) hrkp12 hnkp12 hfrp12 hfnp12 hfcp12 hewp12 hetp12 wl_9_43 hl.1 (rest := [.ref a0]) rfl (Nat.le_of_ble_eq_true rfl) ⟨Nat.le_of_ble_eq_true rfl, Nat.le_of_ble_eq_true rfl⟩ ⟨Nat.le_of_ble_eq_true rfl, Nat.le_of_ble_eq_true rfl⟩ dX12_sumOf_45 (fun f13 locs hf13 hS => ?_)
          refine ca_X12_layPart_1 X hK hG hC hS hb hp4 a0 h0 f13 (by have h12 := sg_pop12 hf10.2 c11; rw [hf9] at h12; rw [hf13]; exact h12) wl_9_55 hl.1 (rest := []) rfl (Nat.le_of_ble_eq_true rfl) ⟨Nat.le_of_ble_eq_true rfl, Nat.le_of_ble_eq_true rfl⟩ ⟨Nat.le_of_ble_eq_true rfl, Nat.le_of_ble_eq_true rfl⟩ dX12_sumOf_48 (fun H locs hG hS => ?_)
          refine lv_aload_n X.1 X.2.1 dX12_sumOf_51 rfl (lv_at hl 0 rfl) ?_
          refine gf_X12_45 X hK hG h0 wl_6_223 dX12_sumOf_52 (fun q15 hq15 kq15 => ?_)
          refine lv_iconst (v := 1) X.1 X.2.1 dX12_sumOf_55 (by decide +kernel) ?_
          refine lv_aload_n X.1 X.2.1 dX12_sumOf_56 rfl (lv_at hl 0 rfl) ?_
          refine gf_X12_47 X hK hG h0 wl_6_225 dX12_sumOf_57 (fun f16 hf16 kf16 => ?_)
          refine lv_ishl X.1 X.2.1 dX12_sumOf_60 ?_
          refine lv_topi (fun f17 ef17 => ?_)
          refine lv_iconst (v := 1) X.1 X.2.1 dX12_sumOf_61 (by decide +kernel) ?_
          refine lv_isub X.1 X.2.1 dX12_sumOf_62 ?_
          refine lv_topi (fun f18 ef18 => ?_)
          refine al_61 X hK hG hq15 (iv_vpin (iv_sub (a' := 0) (b' := 4095) ef18 (sg_shl1 ef17 hf16 (by decide +kernel)) (iv_c 1 (a := 1) (b := 1) (by decide +kernel)) (by decide +kernel)) (by decide +kernel)) dX12_sumOf_63 (fun f19 hf19 => ?_)
          have of19 := hf19
          have hf19 : iv 0 12 f19 := sg_sums hf19
          have hG := sg_unpin hp10 hG
          exact sg_iret X hr hlk hb hK hC hG hS trivial dX12_sumOf_64
        · refine lv_ldcw X.1 X.2.1 X.2.2.2.1 (X.2.2.2.2 _ wl_8_190) dX12_sumOf_38 ?_
          have hG := sg_unpin hp10 hG
          exact sg_iret X hr hlk hb hK hC hG hS trivial dX12_sumOf_41

theorem ca_X12_sumOf_1   (X : CallFix p m c cc nL s args sg_tbl own) (hK : va_K D vwCl tys s) (hG : sgG (KT P) D vwCl (fun q : Nat => base ≤ q) tys ad ks H) (hC : sgC base s) (hS : va_S (fun q : Nat => base ≤ q) s.heap H locs) (hb : base ≤ s.heap.size) (hp4 : P.2.2.2.2.1 = true) (hp10 : sgPin P = none) (a0 : Nat) (h0 : isK ad ks 12 a0) (x1 : Int32) (hl : Cond.methodLink own index yX12_sumOf ∈ sg_tbl) (hsize : ls.size = nL) (hst : st0 = [.int x1].reverse ++ .ref a0 :: rest) (hW : (rest.map fun v => v.category).sum ≤ 8) (hR : 6 ≤ R.frames ∧ 148 ≤ R.locals) (hf : cells ≤ R.cells ∧ slots ≤ R.slots) (hdg : decode cc pc = .ok (.invokevirtual index, 3)) (kk : ∀ (r : Int32) (H1 : Heap) (locs1 : List Loc), (fun r : Int32 => True) r → sgG (KT P) D vwCl (fun q : Nat => base ≤ q) tys ad ks H1 → va_S (fun q : Nat => base ≤ q) s.heap H1 locs1 → W p l e R s m args below meth c H1 locs1 cells slots Q (F0 m (pc + 3) ls (.int r :: rest))) : W p l e R s m args below meth c H locs cells slots Q (F0 m pc ls st0) :=
  sg_callVi X hK hG hC hS hb (m_X12_sumOf_1 l hp4 hp10 a0 h0 x1) h0 (k := 12) (ci := 12) rfl (C := RX12) (T := TX12) (N := 53) rfl wl_9_54 wl_1_13 wl_9_52 wl_9_53 (n := 1) (by decide +kernel) rfl rfl rfl hl hsize hst hW hR hf hdg kk
end
