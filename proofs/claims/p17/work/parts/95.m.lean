theorem dX12_fewest_14 : decode cX12_fewest 14 = .ok (.aload_n 0, 1) := by decide +kernel
theorem dX12_fewest_15 : decode cX12_fewest 15 = .ok (.invokevirtual 513, 3) := by decide +kernel
theorem dX12_fewest_18 : decode cX12_fewest 18 = .ok (.ifCond .ne 7, 3) := by decide +kernel
theorem dX12_fewest_21 : decode cX12_fewest 21 = .ok (.ldc_w 439, 3) := by decide +kernel
theorem dX12_fewest_24 : decode cX12_fewest 24 = .ok (.ireturn, 1) := by decide +kernel
theorem dX12_fewest_25 : decode cX12_fewest 25 = .ok (.iconst 0, 1) := by decide +kernel
theorem dX12_fewest_26 : decode cX12_fewest 26 = .ok (.istore_n 1, 1) := by decide +kernel
theorem dX12_fewest_27 : decode cX12_fewest 27 = .ok (.iconst 0, 1) := by decide +kernel
theorem dX12_fewest_28 : decode cX12_fewest 28 = .ok (.istore_n 2, 1) := by decide +kernel
theorem dX12_fewest_29 : decode cX12_fewest 29 = .ok (.iload_n 2, 1) := by decide +kernel
theorem dX12_fewest_30 : decode cX12_fewest 30 = .ok (.aload_n 0, 1) := by decide +kernel
theorem dX12_fewest_31 : decode cX12_fewest 31 = .ok (.iconst (-1), 1) := by decide +kernel
theorem dX12_fewest_32 : decode cX12_fewest 32 = .ok (.invokevirtual 493, 3) := by decide +kernel
theorem dX12_fewest_35 : decode cX12_fewest 35 = .ok (.if_icmp .ge 34, 3) := by decide +kernel
theorem dX12_fewest_38 : decode cX12_fewest 38 = .ok (.aload_n 0, 1) := by decide +kernel
theorem dX12_fewest_39 : decode cX12_fewest 39 = .ok (.aload_n 0, 1) := by decide +kernel
theorem dX12_fewest_40 : decode cX12_fewest 40 = .ok (.iload_n 2, 1) := by decide +kernel
theorem dX12_fewest_41 : decode cX12_fewest 41 = .ok (.invokevirtual 493, 3) := by decide +kernel
theorem dX12_fewest_44 : decode cX12_fewest 44 = .ok (.invokevirtual 510, 3) := by decide +kernel
theorem dX12_fewest_47 : decode cX12_fewest 47 = .ok (.iload_n 1, 1) := by decide +kernel
theorem dX12_fewest_48 : decode cX12_fewest 48 = .ok (.aload_n 0, 1) := by decide +kernel
theorem dX12_fewest_49 : decode cX12_fewest 49 = .ok (.getfield 81, 3) := by decide +kernel
theorem dX12_fewest_52 : decode cX12_fewest 52 = .ok (.iconst 1, 1) := by decide +kernel
theorem dX12_fewest_53 : decode cX12_fewest 53 = .ok (.aload_n 0, 1) := by decide +kernel
theorem dX12_fewest_54 : decode cX12_fewest 54 = .ok (.getfield 496, 3) := by decide +kernel
theorem dX12_fewest_57 : decode cX12_fewest 57 = .ok (.ishl, 1) := by decide +kernel
theorem dX12_fewest_58 : decode cX12_fewest 58 = .ok (.iconst 1, 1) := by decide +kernel
theorem dX12_fewest_59 : decode cX12_fewest 59 = .ok (.isub, 1) := by decide +kernel
theorem dX12_fewest_60 : decode cX12_fewest 60 = .ok (.iaload, 1) := by decide +kernel
theorem dX12_fewest_61 : decode cX12_fewest 61 = .ok (.iadd, 1) := by decide +kernel
theorem dX12_fewest_62 : decode cX12_fewest 62 = .ok (.istore_n 1, 1) := by decide +kernel
theorem dX12_fewest_63 : decode cX12_fewest 63 = .ok (.iinc 2 1, 3) := by decide +kernel
theorem dX12_fewest_66 : decode cX12_fewest 66 = .ok (.goto (-37), 3) := by decide +kernel
theorem dX12_fewest_69 : decode cX12_fewest 69 = .ok (.iload_n 1, 1) := by decide +kernel
theorem dX12_fewest_70 : decode cX12_fewest 70 = .ok (.ireturn, 1) := by decide +kernel
section
variable {p : Program} {l : Launch} {e : Env} {R : Room} {s : State} {m : MethodId} {args : Array Value} {below : List Frame} {meth : Method} {c : Code} {H : Heap} {locs : List Loc} {cells slots : Nat} {Q : State → Prop} {cc : ByteArray} {nL pc : Nat} {ls : Array Slot} {rest : List Value} {own : String} {D : va_G} {A : Nat → Prop} {tys : List (ClassId × FieldType)} {ad ks : List Nat} {P : sgPm} {H0 : Heap} {index : Nat} {base : Nat} {st0 : List Value} {a : Nat}
theorem al_62  {i : Int32}  (X : CallFix p m c cc nL s args sg_tbl own) (hK : va_K D vwCl tys s) (hG : sgG (KT P) D vwCl A tys ad ks H) (ha : isK ad ks 62 a) (hin : vp_in i 4096) (hdg : decode cc pc = .ok (.iaload, 1)) (kk : ∀ x : Int32, iv (-2147483648) 2147483647 x → W p l e R s m args below meth c H locs cells slots Q (F0 m (pc + 1) ls (.int x :: rest))) : W p l e R s m args below meth c H locs cells slots Q (F0 m pc ls (.int i :: .ref a :: rest)) :=
  sg_iald X hK hG ha (k := 62) rfl hin hdg (fun x hx => by obtain ⟨y, h1, h2⟩ := hx; cases h1; exact kk _ h2)
set_option maxHeartbeats 8000000 in
set_option maxRecDepth 100000 in
theorem m_X12_fewest_1 (l : Launch) {D : va_G} {base : Nat} {tys : List (ClassId × FieldType)} {ad ks : List Nat} {P : sgPm} (hp4 : P.2.2.2.2.1 = true) (hp10 : sgPin P = none) (a0 : Nat) (h0 : isK ad ks 12 a0) : sgMi l (KT P) D vwCl base tys ad ks yX12_fewest cX12_fewest 3 (some .int) ({ frames := 5, cells := 0, slots := 0, locals := 127 }) [.ref a0] (fun r : Int32 => True) := by
  refine sg_ofW (by decide +kernel) (Nat.le_of_ble_eq_true rfl) (fun p e s m below meth c X hr hlk hb hK hC hG ls hl => ?_)
  have hS : va_S (fun q : Nat => base ≤ q) s.heap s.heap [] := va_S.rf
  have hl : lv_has ls 3 [(0, .ref a0)] := hl
  obtain ⟨tp, hG⟩ := sg_dopin hp10 hG h0
  refine lv_aload_n X.1 X.2.1 dX12_fewest_0 rfl (lv_at hl 0 rfl) ?_
  refine lv_iconst (v := 0) X.1 X.2.1 dX12_fewest_1 (by decide +kernel) ?_
  refine pf_X12_0 X hK hG hS h0 wl_6_178 ⟨_, rfl, (iv_top _)⟩ dX12_fewest_2 (fun H locs hG hS ku1 ru1 => ?_)
  refine lv_aload_n X.1 X.2.1 dX12_fewest_5 rfl (lv_at hl 0 rfl) ?_
  refine gf_X12_23s X hK hG h0 hp4 wl_6_201 dX12_fewest_6 (fun f2 hf2 kf2 => ?_)
  refine lv_if_ne (tgt := 14) X.1 X.2.1 dX12_fewest_9 (by decide) (fun c3 => ?_) (fun c3 => ?_)
  · refine lv_aload_n X.1 X.2.1 dX12_fewest_14 rfl (lv_at hl 0 rfl) ?_
    obtain ⟨rqp4, nqp4, hrkp4, hnkp4, hfrp4, hfnp4, hfcp4, hewp4, hetp4⟩ := sg_pk (P := (sgPs P (some tp.toInt))) hp4 rfl hG h0
    refine ca_X12_areFew_f X hK hG hC (fun _ h => h) hS hb hp4 a0 h0 (wP P) tp (nP P) rqp4 nqp4 (wP_iv P) (nP_iv P) hrkp4 hnkp4 hfrp4 hfnp4 hfcp4 hewp4 hetp4 wl_9_76 hl.1 (rest := []) rfl (Nat.le_of_ble_eq_true rfl) ⟨Nat.le_of_ble_eq_true rfl, Nat.le_of_ble_eq_true rfl⟩ ⟨Nat.le_of_ble_eq_true rfl, Nat.le_of_ble_eq_true rfl⟩ dX12_fewest_15 (fun f5 locs hf5 hS => ?_)
    refine lv_if_ne (tgt := 25) X.1 X.2.1 dX12_fewest_18 (by decide) (fun c6 => ?_) (fun c6 => ?_)
    · have hfew := hf5.2 c6
      refine lv_iconst (v := 0) X.1 X.2.1 dX12_fewest_25 (by decide +kernel) ?_
      refine lv_istore_n (lv' := [(1, .int 0), (0, .ref a0)]) X.1 X.2.1 dX12_fewest_26 rfl hl (by decide) rfl (fun ls hl => ?_)
      refine lv_iconst (v := 0) X.1 X.2.1 dX12_fewest_27 (by decide +kernel) ?_
      refine lv_istore_n (lv' := [(2, .int 0), (1, .int 0), (0, .ref a0)]) X.1 X.2.1 dX12_fewest_28 rfl hl (by decide) rfl (fun ls hl => ?_)
      have B7_29 : ∀ (N : Nat) (H : Heap) (locs : List Loc) (ls : Array Slot) (z7_1 : Int32) (z7_2 : Int32), sgG (KT (sgPs P (some tp.toInt))) D vwCl (fun q : Nat => base ≤ q) tys ad ks H → va_S (fun q : Nat => base ≤ q) s.heap H locs → lv_has ls 3 [(0, .ref a0), (1, .int z7_1), (2, .int z7_2)] → iv 0 2147483647 z7_2 → (2147483648 - z7_2.toInt).toNat ≤ N → W p l e (headSpec (Cond.code yX12_fewest cX12_fewest 3 (some .int) :: sg_tbl) ({ frames := 5, cells := 0, slots := 0, locals := 127 })).room s m #[.ref a0] below meth c H locs 0 0 (MQ below (va_Qi (fun r (_ : Unit) => (fun r : Int32 => True) r) (fun _ => sgB (KT P) D vwCl base tys ad ks) (fun q : Nat => base ≤ q)) #[.ref a0] s 0 0 (fun q : Nat => base ≤ q)) (F0 m 29 ls []) := by
        intro N; induction N with
        | zero =>
          intro H locs ls z7_1 z7_2 hG hS hl hz7_2 hN
          exact absurd hN (by have := iv_up hz7_2; omega)
        | succ N ih7 =>
          intro H locs ls z7_1 z7_2 hG hS hl hz7_2 hN7
          refine lv_iload_n X.1 X.2.1 dX12_fewest_29 rfl (lv_at hl 2 rfl) ?_
          refine lv_aload_n X.1 X.2.1 dX12_fewest_30 rfl (lv_at hl 0 rfl) ?_
          refine lv_iconst (v := (-1)) X.1 X.2.1 dX12_fewest_31 (by decide +kernel) ?_
          obtain ⟨rqp8, nqp8, hrkp8, hnkp8, hfrp8, hfnp8, hfcp8, hewp8, hetp8⟩ := sg_pk (P := (sgPs P (some tp.toInt))) hp4 rfl hG h0
          refine ca_X12_partAt_f X hK hG hC (fun _ h => h) hS hb hp4 a0 h0 (-1) (wP P) tp (nP P) rqp8 nqp8 (wP_iv P) (nP_iv P) hrkp8 hnkp8 hfrp8 hfnp8 hfcp8 hewp8 hetp8 wl_9_43 hl.1 (rest := [.int z7_2]) rfl (Nat.le_of_ble_eq_true rfl) ⟨Nat.le_of_ble_eq_true rfl, Nat.le_of_ble_eq_true rfl⟩ ⟨Nat.le_of_ble_eq_true rfl, Nat.le_of_ble_eq_true rfl⟩ dX12_fewest_32 (fun f9 locs hf9 hS => ?_)
          refine lv_icmp_ge (tgt := 69) X.1 X.2.1 dX12_fewest_35 (by decide) (fun c10 => ?_) (fun c10 => ?_)
          · refine lv_iload_n X.1 X.2.1 dX12_fewest_69 rfl (lv_at hl 1 rfl) ?_
            have hG := sg_unpin hp10 hG
            exact sg_iret X hr hlk hb hK hC hG hS trivial dX12_fewest_70
          · refine lv_aload_n X.1 X.2.1 dX12_fewest_38 rfl (lv_at hl 0 rfl) ?_
            refine lv_aload_n X.1 X.2.1 dX12_fewest_39 rfl (lv_at hl 0 rfl) ?_
            refine lv_iload_n X.1 X.2.1 dX12_fewest_40 rfl (lv_at hl 2 rfl) ?_
            obtain ⟨rqp11, nqp11, hrkp11, hnkp11, hfrp11, hfnp11, hfcp11, hewp11, hetp11⟩ := sg_pk (P := (sgPs P (some tp.toInt))) hp4 rfl hG h0
            refine ca_X12_partAt_f X hK hG hC (fun _ h => h) hS hb hp4 a0 h0 z7_2 (wP P) tp (nP P) rqp11 nqp11 (wP_iv P) (nP_iv P) hrkp11 hnkp11 hfrp11 hfnp11 hfcp11 hewp11 hetp11 wl_9_43 hl.1 (rest := [.ref a0]) rfl (Nat.le_of_ble_eq_true rfl) ⟨Nat.le_of_ble_eq_true rfl, Nat.le_of_ble_eq_true rfl⟩ ⟨Nat.le_of_ble_eq_true rfl, Nat.le_of_ble_eq_true rfl⟩ dX12_fewest_41 (fun f12 locs hf12 hS => ?_)
            refine ca_X12_layPart_1 X hK hG hC hS hb hp4 a0 h0 f12 (pa_few (M := f9) (fun j h1 h2 => hfew j h1 (by rw [← hf9]; exact h2)) hf12 ((iv_lt (b' := 2147483646) (iv_gt_of c10) hz7_2 (iv_top f9) (by decide +kernel))).1 (iv_gt_of c10)) wl_9_55 hl.1 (rest := []) rfl (Nat.le_of_ble_eq_true rfl) ⟨Nat.le_of_ble_eq_true rfl, Nat.le_of_ble_eq_true rfl⟩ ⟨Nat.le_of_ble_eq_true rfl, Nat.le_of_ble_eq_true rfl⟩ dX12_fewest_44 (fun H locs hG hS => ?_)
            refine lv_iload_n X.1 X.2.1 dX12_fewest_47 rfl (lv_at hl 1 rfl) ?_
            refine lv_aload_n X.1 X.2.1 dX12_fewest_48 rfl (lv_at hl 0 rfl) ?_
            refine gf_X12_46 X hK hG h0 wl_6_224 dX12_fewest_49 (fun q14 hq14 kq14 => ?_)
            refine lv_iconst (v := 1) X.1 X.2.1 dX12_fewest_52 (by decide +kernel) ?_
            refine lv_aload_n X.1 X.2.1 dX12_fewest_53 rfl (lv_at hl 0 rfl) ?_
            refine gf_X12_47 X hK hG h0 wl_6_225 dX12_fewest_54 (fun f15 hf15 kf15 => ?_)
            refine lv_ishl X.1 X.2.1 dX12_fewest_57 ?_
            refine lv_topi (fun f16 ef16 => ?_)
            refine lv_iconst (v := 1) X.1 X.2.1 dX12_fewest_58 (by decide +kernel) ?_
            refine lv_isub X.1 X.2.1 dX12_fewest_59 ?_
            refine lv_topi (fun f17 ef17 => ?_)
            refine al_62 X hK hG hq14 (iv_vpin (iv_sub (a' := 0) (b' := 4095) ef17 (sg_shl1 ef16 hf15 (by decide +kernel)) (iv_c 1 (a := 1) (b := 1) (by decide +kernel)) (by decide +kernel)) (by decide +kernel)) dX12_fewest_60 (fun f18 hf18 => ?_)
            refine lv_iadd X.1 X.2.1 dX12_fewest_61 ?_
            refine lv_topi (fun f19 ef19 => ?_)
            refine lv_istore_n (lv' := [(1, .int f19), (0, .ref a0), (2, .int z7_2)]) X.1 X.2.1 dX12_fewest_62 rfl hl (by decide) rfl (fun ls hl => ?_)
            obtain ⟨y20, ey20⟩ : ∃ y : Int32, y = z7_2 + Int32.ofInt 1 := ⟨_, rfl⟩
            refine lv_iinc (v := y20) (lv' := [(2, .int y20), (1, .int f19), (0, .ref a0)]) X.1 X.2.1 dX12_fewest_63 hl (k := 2) rfl ey20.symm (by decide) rfl (fun ls hl => ?_)
            refine lv_goto (tgt := 29) X.1 X.2.1 dX12_fewest_66 (by decide) ?_
            exact ih7 H _ _ f19 y20 hG hS (lv_sub hl [2, 1, 0] rfl) (iv_of (iv_add (a' := 1) (b' := 2147483647) ey20 (iv_lt (b' := 2147483646) (iv_gt_of c10) hz7_2 (iv_top f9) (by decide +kernel)) (iv_c _ (a := 1) (b := 1) (by decide +kernel)) (by decide +kernel)) (a' := 0) (b' := 2147483647) (by decide +kernel)) (iv_stepU ey20 (iv_lt (b' := 2147483646) (iv_gt_of c10) hz7_2 (iv_top f9) (by decide +kernel)) (by decide +kernel) hN7)
      exact B7_29 _ H _ _ 0 0 hG hS (lv_sub hl [2, 1, 0] rfl) (iv_of (iv_c 0 (a := 0) (b := 0) (by decide +kernel)) (a' := 0) (b' := 2147483647) (by decide +kernel)) (Nat.le_refl _)
    · refine lv_ldcw X.1 X.2.1 X.2.2.2.1 (X.2.2.2.2 _ wl_8_190) dX12_fewest_21 ?_
      have hG := sg_unpin hp10 hG
      exact sg_iret X hr hlk hb hK hC hG hS trivial dX12_fewest_24
  · exact ((iv_no (a := 1) (b := 0) (iv_eqm c3 hf2 (iv_c 0 (a := 0) (b := 0) (by decide +kernel)) (by decide +kernel)) (by decide +kernel))).elim

theorem ca_X12_fewest_1   (X : CallFix p m c cc nL s args sg_tbl own) (hK : va_K D vwCl tys s) (hG : sgG (KT P) D vwCl (fun q : Nat => base ≤ q) tys ad ks H) (hC : sgC base s) (hS : va_S (fun q : Nat => base ≤ q) s.heap H locs) (hb : base ≤ s.heap.size) (hp4 : P.2.2.2.2.1 = true) (hp10 : sgPin P = none) (a0 : Nat) (h0 : isK ad ks 12 a0) (hl : Cond.methodLink own index yX12_fewest ∈ sg_tbl) (hsize : ls.size = nL) (hst : st0 = [].reverse ++ .ref a0 :: rest) (hW : (rest.map fun v => v.category).sum ≤ 8) (hR : 6 ≤ R.frames ∧ 149 ≤ R.locals) (hf : cells ≤ R.cells ∧ slots ≤ R.slots) (hdg : decode cc pc = .ok (.invokevirtual index, 3)) (kk : ∀ (r : Int32) (H1 : Heap) (locs1 : List Loc), (fun r : Int32 => True) r → sgG (KT P) D vwCl (fun q : Nat => base ≤ q) tys ad ks H1 → va_S (fun q : Nat => base ≤ q) s.heap H1 locs1 → W p l e R s m args below meth c H1 locs1 cells slots Q (F0 m (pc + 3) ls (.int r :: rest))) : W p l e R s m args below meth c H locs cells slots Q (F0 m pc ls st0) :=
  sg_callVi X hK hG hC hS hb (m_X12_fewest_1 l hp4 hp10 a0 h0) h0 (k := 12) (ci := 12) rfl (C := RX12) (T := TX12) (N := 53) rfl wl_9_83 wl_1_13 wl_9_81 wl_9_82 (n := 0) (by decide +kernel) rfl rfl rfl hl hsize hst hW hR hf hdg kk
end
