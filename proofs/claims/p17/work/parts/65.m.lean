abbrev cX12_comesTo : ByteArray := prog_14_method_84_code
def yX12_comesTo : MethodName := ⟨RX12, "comesTo", "(II)Z"⟩
theorem dX12_comesTo_0 : decode cX12_comesTo 0 = .ok (.aload_n 0, 1) := by decide +kernel
theorem dX12_comesTo_1 : decode cX12_comesTo 1 = .ok (.getfield 52, 3) := by decide +kernel
theorem dX12_comesTo_4 : decode cX12_comesTo 4 = .ok (.aload_n 0, 1) := by decide +kernel
theorem dX12_comesTo_5 : decode cX12_comesTo 5 = .ok (.getfield 55, 3) := by decide +kernel
theorem dX12_comesTo_8 : decode cX12_comesTo 8 = .ok (.invokestatic 449, 3) := by decide +kernel
theorem dX12_comesTo_11 : decode cX12_comesTo 11 = .ok (.iconst 0, 1) := by decide +kernel
theorem dX12_comesTo_12 : decode cX12_comesTo 12 = .ok (.istore_n 3, 1) := by decide +kernel
theorem dX12_comesTo_13 : decode cX12_comesTo 13 = .ok (.iconst 0, 1) := by decide +kernel
theorem dX12_comesTo_14 : decode cX12_comesTo 14 = .ok (.istore 4, 2) := by decide +kernel
theorem dX12_comesTo_16 : decode cX12_comesTo 16 = .ok (.iload 4, 2) := by decide +kernel
theorem dX12_comesTo_18 : decode cX12_comesTo 18 = .ok (.aload_n 0, 1) := by decide +kernel
theorem dX12_comesTo_19 : decode cX12_comesTo 19 = .ok (.getfield 49, 3) := by decide +kernel
theorem dX12_comesTo_22 : decode cX12_comesTo 22 = .ok (.iload_n 1, 1) := by decide +kernel
theorem dX12_comesTo_23 : decode cX12_comesTo 23 = .ok (.iaload, 1) := by decide +kernel
theorem dX12_comesTo_24 : decode cX12_comesTo 24 = .ok (.if_icmp .ge 87, 3) := by decide +kernel
theorem dX12_comesTo_27 : decode cX12_comesTo 27 = .ok (.iconst 4, 1) := by decide +kernel
theorem dX12_comesTo_28 : decode cX12_comesTo 28 = .ok (.bipush 16, 2) := by decide +kernel
theorem dX12_comesTo_30 : decode cX12_comesTo 30 = .ok (.iload_n 1, 1) := by decide +kernel
theorem dX12_comesTo_31 : decode cX12_comesTo 31 = .ok (.imul, 1) := by decide +kernel
theorem dX12_comesTo_32 : decode cX12_comesTo 32 = .ok (.iload 4, 2) := by decide +kernel
theorem dX12_comesTo_34 : decode cX12_comesTo 34 = .ok (.iadd, 1) := by decide +kernel
theorem dX12_comesTo_35 : decode cX12_comesTo 35 = .ok (.imul, 1) := by decide +kernel
theorem dX12_comesTo_36 : decode cX12_comesTo 36 = .ok (.istore 5, 2) := by decide +kernel
theorem dX12_comesTo_38 : decode cX12_comesTo 38 = .ok (.aload_n 0, 1) := by decide +kernel
theorem dX12_comesTo_39 : decode cX12_comesTo 39 = .ok (.getfield 46, 3) := by decide +kernel
theorem dX12_comesTo_42 : decode cX12_comesTo 42 = .ok (.iload 5, 2) := by decide +kernel
theorem dX12_comesTo_44 : decode cX12_comesTo 44 = .ok (.iconst 1, 1) := by decide +kernel
theorem dX12_comesTo_45 : decode cX12_comesTo 45 = .ok (.iadd, 1) := by decide +kernel
theorem dX12_comesTo_46 : decode cX12_comesTo 46 = .ok (.iaload, 1) := by decide +kernel
theorem dX12_comesTo_47 : decode cX12_comesTo 47 = .ok (.istore 6, 2) := by decide +kernel
theorem dX12_comesTo_49 : decode cX12_comesTo 49 = .ok (.aload_n 0, 1) := by decide +kernel
theorem dX12_comesTo_50 : decode cX12_comesTo 50 = .ok (.getfield 46, 3) := by decide +kernel
theorem dX12_comesTo_53 : decode cX12_comesTo 53 = .ok (.iload 5, 2) := by decide +kernel
theorem dX12_comesTo_55 : decode cX12_comesTo 55 = .ok (.iaload, 1) := by decide +kernel
theorem dX12_comesTo_56 : decode cX12_comesTo 56 = .ok (.ifCond .ne 20, 3) := by decide +kernel
theorem dX12_comesTo_59 : decode cX12_comesTo 59 = .ok (.iload 6, 2) := by decide +kernel
theorem dX12_comesTo_61 : decode cX12_comesTo 61 = .ok (.iconst (-1), 1) := by decide +kernel
theorem dX12_comesTo_62 : decode cX12_comesTo 62 = .ok (.if_icmp .ne 14, 3) := by decide +kernel
theorem dX12_comesTo_65 : decode cX12_comesTo 65 = .ok (.aload_n 0, 1) := by decide +kernel
theorem dX12_comesTo_66 : decode cX12_comesTo 66 = .ok (.getfield 72, 3) := by decide +kernel
theorem dX12_comesTo_69 : decode cX12_comesTo 69 = .ok (.iload_n 3, 1) := by decide +kernel
theorem dX12_comesTo_70 : decode cX12_comesTo 70 = .ok (.iaload, 1) := by decide +kernel
theorem dX12_comesTo_71 : decode cX12_comesTo 71 = .ok (.istore 6, 2) := by decide +kernel
theorem dX12_comesTo_73 : decode cX12_comesTo 73 = .ok (.iinc 3 1, 3) := by decide +kernel
theorem dX12_comesTo_76 : decode cX12_comesTo 76 = .ok (.aload_n 0, 1) := by decide +kernel
theorem dX12_comesTo_77 : decode cX12_comesTo 77 = .ok (.aload_n 0, 1) := by decide +kernel
theorem dX12_comesTo_78 : decode cX12_comesTo 78 = .ok (.getfield 55, 3) := by decide +kernel
theorem dX12_comesTo_81 : decode cX12_comesTo 81 = .ok (.iload 5, 2) := by decide +kernel
theorem dX12_comesTo_83 : decode cX12_comesTo 83 = .ok (.iload 6, 2) := by decide +kernel
theorem dX12_comesTo_85 : decode cX12_comesTo 85 = .ok (.invokevirtual 457, 3) := by decide +kernel
theorem dX12_comesTo_88 : decode cX12_comesTo 88 = .ok (.ifCond .ne 5, 3) := by decide +kernel
theorem dX12_comesTo_91 : decode cX12_comesTo 91 = .ok (.iconst 0, 1) := by decide +kernel
theorem dX12_comesTo_92 : decode cX12_comesTo 92 = .ok (.ireturn, 1) := by decide +kernel
theorem dX12_comesTo_93 : decode cX12_comesTo 93 = .ok (.aload_n 0, 1) := by decide +kernel
theorem dX12_comesTo_94 : decode cX12_comesTo 94 = .ok (.aload_n 0, 1) := by decide +kernel
theorem dX12_comesTo_95 : decode cX12_comesTo 95 = .ok (.getfield 55, 3) := by decide +kernel
theorem dX12_comesTo_98 : decode cX12_comesTo 98 = .ok (.iload 5, 2) := by decide +kernel
theorem dX12_comesTo_100 : decode cX12_comesTo 100 = .ok (.iload 6, 2) := by decide +kernel
theorem dX12_comesTo_102 : decode cX12_comesTo 102 = .ok (.invokevirtual 461, 3) := by decide +kernel
theorem dX12_comesTo_105 : decode cX12_comesTo 105 = .ok (.iinc 4 1, 3) := by decide +kernel
theorem dX12_comesTo_108 : decode cX12_comesTo 108 = .ok (.goto (-92), 3) := by decide +kernel
theorem dX12_comesTo_111 : decode cX12_comesTo 111 = .ok (.aload_n 0, 1) := by decide +kernel
theorem dX12_comesTo_112 : decode cX12_comesTo 112 = .ok (.getfield 55, 3) := by decide +kernel
theorem dX12_comesTo_115 : decode cX12_comesTo 115 = .ok (.iconst 0, 1) := by decide +kernel
theorem dX12_comesTo_116 : decode cX12_comesTo 116 = .ok (.iaload, 1) := by decide +kernel
theorem dX12_comesTo_117 : decode cX12_comesTo 117 = .ok (.iload_n 2, 1) := by decide +kernel
theorem dX12_comesTo_118 : decode cX12_comesTo 118 = .ok (.if_icmp .ne 7, 3) := by decide +kernel
theorem dX12_comesTo_121 : decode cX12_comesTo 121 = .ok (.iconst 1, 1) := by decide +kernel
theorem dX12_comesTo_122 : decode cX12_comesTo 122 = .ok (.goto 4, 3) := by decide +kernel
theorem dX12_comesTo_125 : decode cX12_comesTo 125 = .ok (.iconst 0, 1) := by decide +kernel
theorem dX12_comesTo_126 : decode cX12_comesTo 126 = .ok (.ireturn, 1) := by decide +kernel
theorem wl_6_219 : (.fieldLink RX12 72 "LawnAheadModel" "leaves" "[I" : Cond) ∈ sg_tbl := tb_6 _ (List.mem_of_getElem? (i := 219) (by decide +kernel)) (by decide +kernel)
theorem wl_8_234 : (.code yX12_comesTo cX12_comesTo 7 (some .boolean) : Cond) ∈ sg_tbl := tb_8 _ (List.mem_of_getElem? (i := 234) (by decide +kernel)) (by decide +kernel)
theorem wl_8_233 : (.instanceMethod yX12_comesTo : Cond) ∈ sg_tbl := tb_8 _ (List.mem_of_getElem? (i := 233) (by decide +kernel)) (by decide +kernel)
theorem wl_0_96 : (.selects RX12 yX12_comesTo yX12_comesTo : Cond) ∈ sg_tbl := tb_0 _ (List.mem_of_getElem? (i := 96) (by decide +kernel)) (by decide +kernel)
section
variable {p : Program} {l : Launch} {e : Env} {R : Room} {s : State} {m : MethodId} {args : Array Value} {below : List Frame} {meth : Method} {c : Code} {H : Heap} {locs : List Loc} {cells slots : Nat} {Q : State → Prop} {cc : ByteArray} {nL pc : Nat} {ls : Array Slot} {rest : List Value} {own : String} {D : va_G} {A : Nat → Prop} {tys : List (ClassId × FieldType)} {ad ks : List Nat} {P : sgPm} {H0 : Heap} {index : Nat} {base : Nat} {st0 : List Value} {a : Nat}
theorem gf_X12_41   (X : CallFix p m c cc nL s args sg_tbl own) (hK : va_K D vwCl tys s) (hG : sgG (KT P) D vwCl A tys ad ks H) (ha : isK ad ks 12 a) (hl : Cond.fieldLink own index "LawnAheadModel" "leaves" "[I" ∈ sg_tbl) (hdg : decode cc pc = .ok (.getfield index, 3)) (kk : ∀ x : Nat, isK ad ks 59 x → fld D H 12 a 41 (.ref x) → W p l e R s m args below meth c H locs cells slots Q (F0 m (pc + 3) ls (.ref x :: rest))) : W p l e R s m args below meth c H locs cells slots Q (F0 m pc ls (.ref a :: rest)) :=
  sg_get X hK hG ha (k := 12) (ci := 12) rfl (C := RX12) (T := TX12) (N := 53) rfl inL_X12 41 (by decide) rfl hl (fun _ h => h) hdg (fun v hv hf => by
    obtain ⟨h1, -⟩ | ⟨x, rfl, hx⟩ := hv
    · cases h1
    · exact kk x hx hf)
theorem al_59  {i : Int32}  (X : CallFix p m c cc nL s args sg_tbl own) (hK : va_K D vwCl tys s) (hG : sgG (KT P) D vwCl A tys ad ks H) (ha : isK ad ks 59 a) (hin : vp_in i 3) (hdg : decode cc pc = .ok (.iaload, 1)) (kk : ∀ x : Int32, iv (-2147483648) 2147483647 x → W p l e R s m args below meth c H locs cells slots Q (F0 m (pc + 1) ls (.int x :: rest))) : W p l e R s m args below meth c H locs cells slots Q (F0 m pc ls (.int i :: .ref a :: rest)) :=
  sg_iald X hK hG ha (k := 59) rfl hin hdg (fun x hx => by obtain ⟨y, h1, h2⟩ := hx; cases h1; exact kk _ h2)
set_option maxHeartbeats 8000000 in
set_option maxRecDepth 100000 in
theorem m_X12_comesTo_1 (l : Launch) {D : va_G} {base : Nat} {tys : List (ClassId × FieldType)} {ad ks : List Nat} {P : sgPm} (hp4 : P.2.2.2.2.1 = true) (a0 : Nat) (h0 : isK ad ks 12 a0) (x1 : Int32) (h1 : iv 0 3 x1) (x2 : Int32) (hN : sgN P + 16 ≤ 1000000000) (hms : sg_ms (sgG0 P) x1.toInt.toNat (sgGl P x1.toInt.toNat).val ≤ 3) : Met l yX12_comesTo (Cond.code yX12_comesTo cX12_comesTo 7 (some .boolean) :: sg_tbl) ({ frames := 37, cells := 0, slots := 0, locals := 866 }) (va_Pc [.ref a0, .int x1, .int x2] (sgB (KT P) D vwCl base tys ad ks)) (va_Qi (fun r (u : Int32) => u = r ∧ (fun r : Int32 => iv 0 1 r) r) (fun u t => sgB (KT (sgAt P (sgN P + 16))) D vwCl base tys ad ks t) (fun q : Nat => base ≤ q)) 0 0 (fun q : Nat => base ≤ q) := by
  refine sg_ofW (by decide +kernel) (Nat.le_of_ble_eq_true rfl) (fun p e s m below meth c X hr hlk hb hK hC hG ls hl => ?_)
  have hS : va_S (fun q : Nat => base ≤ q) s.heap s.heap [] := va_S.rf
  have hl : lv_has ls 7 [(0, .ref a0), (1, .int x1), (2, .int x2)] := hl
  refine lv_aload_n X.1 X.2.1 dX12_comesTo_0 rfl (lv_at hl 0 rfl) ?_
  refine gf_X12_32 X hK hG h0 wl_6_210 dX12_comesTo_1 (fun q1 hq1 kq1 => ?_)
  refine lv_aload_n X.1 X.2.1 dX12_comesTo_4 rfl (lv_at hl 0 rfl) ?_
  refine gf_X12_33 X hK hG h0 wl_6_211 dX12_comesTo_5 (fun q2 hq2 kq2 => ?_)
  refine ca_X12_copy_t X hK hG hC hS hb q1 hq1 q2 hq2 wl_8_203 hl.1 (rest := []) rfl (Nat.le_of_ble_eq_true rfl) ⟨Nat.le_of_ble_eq_true rfl, Nat.le_of_ble_eq_true rfl⟩ ⟨Nat.le_of_ble_eq_true rfl, Nat.le_of_ble_eq_true rfl⟩ dX12_comesTo_8 (fun H locs hG hS => ?_)
  refine lv_iconst (v := 0) X.1 X.2.1 dX12_comesTo_11 (by decide +kernel) ?_
  refine lv_istore_n (lv' := [(3, .int 0), (0, .ref a0), (1, .int x1), (2, .int x2)]) X.1 X.2.1 dX12_comesTo_12 rfl hl (by decide) rfl (fun ls hl => ?_)
  refine lv_iconst (v := 0) X.1 X.2.1 dX12_comesTo_13 (by decide +kernel) ?_
  refine lv_istore (lv' := [(4, .int 0), (3, .int 0), (0, .ref a0), (1, .int x1), (2, .int x2)]) X.1 X.2.1 dX12_comesTo_14 hl (by decide) rfl (fun ls hl => ?_)
  have B4_16 : ∀ (N : Nat) (H : Heap) (locs : List Loc) (ls : Array Slot) (z4_3 : Int32) (z4_4 : Int32) (n4 : Nat), sgN P ≤ n4 → (n4 : Int) ≤ sgN P + z4_4.toInt → sgG (KT (sgAt P n4)) D vwCl (fun q : Nat => base ≤ q) tys ad ks H → va_S (fun q : Nat => base ≤ q) s.heap H locs → lv_has ls 7 [(0, .ref a0), (1, .int x1), (2, .int x2), (3, .int z4_3), (4, .int z4_4)] → iv 0 16 z4_3 → iv 0 16 z4_4 → z4_3.toInt = (sg_ms (sgG0 P) x1.toInt.toNat z4_4.toInt.toNat : Int) → (17 - z4_4.toInt).toNat ≤ N → W p l e (headSpec (Cond.code yX12_comesTo cX12_comesTo 7 (some .boolean) :: sg_tbl) ({ frames := 37, cells := 0, slots := 0, locals := 866 })).room s m #[.ref a0, .int x1, .int x2] below meth c H locs 0 0 (MQ below (va_Qi (fun r (u : Int32) => u = r ∧ (fun r : Int32 => iv 0 1 r) r) (fun u t => sgB (KT (sgAt P (sgN P + 16))) D vwCl base tys ad ks t) (fun q : Nat => base ≤ q)) #[.ref a0, .int x1, .int x2] s 0 0 (fun q : Nat => base ≤ q)) (F0 m 16 ls []) := by
    intro N; induction N with
    | zero =>
      intro H locs ls z4_3 z4_4 n4 jn4 jo4 hG hS hl hz4_3 hz4_4 xf4 hN
      exact absurd hN (by have := iv_up hz4_4; omega)
    | succ N ih4 =>
      intro H locs ls z4_3 z4_4 n4 jn4 jo4 hG hS hl hz4_3 hz4_4 xf4 hN4
      refine lv_iload X.1 X.2.1 dX12_comesTo_16 (lv_at hl 4 rfl) ?_
      refine lv_aload_n X.1 X.2.1 dX12_comesTo_18 rfl (lv_at hl 0 rfl) ?_
      refine gf_X12_22 X hK hG h0 wl_6_200 dX12_comesTo_19 (fun q5 hq5 kq5 => ?_)
      refine lv_iload_n X.1 X.2.1 dX12_comesTo_22 rfl (lv_at hl 1 rfl) ?_
      refine al_53 X hK hG hq5 (iv_vpin h1 (by decide +kernel)) dX12_comesTo_23 (fun f6 hf6 => ?_)
      have of6 := hf6
      have hf6 : iv 0 16 f6 := sg_glr hf6
      refine lv_icmp_ge (tgt := 111) X.1 X.2.1 dX12_comesTo_24 (by decide) (fun c7 => ?_) (fun c7 => ?_)
      · refine lv_aload_n X.1 X.2.1 dX12_comesTo_111 rfl (lv_at hl 0 rfl) ?_
        refine gf_X12_33 X hK hG h0 wl_6_211 dX12_comesTo_112 (fun q8 hq8 kq8 => ?_)
        refine lv_iconst (v := 0) X.1 X.2.1 dX12_comesTo_115 (by decide +kernel) ?_
        refine al_55 X hK hG hq8 (iv_vpin (iv_c 0 (a := 0) (b := 0) (by decide +kernel)) (by decide +kernel)) dX12_comesTo_116 (fun f9 hf9 => ?_)
        have of9 := hf9
        have hf9 : iv (-2147483648) 2147483647 f9 := sg_sp_now hf9 (iv_c 0 (a := 0) (b := 0) (by decide +kernel)) (by decide +kernel) rfl
        refine lv_iload_n X.1 X.2.1 dX12_comesTo_117 rfl (lv_at hl 2 rfl) ?_
        refine lv_icmp_ne (tgt := 125) X.1 X.2.1 dX12_comesTo_118 (by decide) (fun c10 => ?_) (fun c10 => ?_)
        · refine lv_iconst (v := 0) X.1 X.2.1 dX12_comesTo_125 (by decide +kernel) ?_
          have bq11 : 0 ≤ x1.toInt ∧ x1.toInt ≤ 3 := h1
          have bq12 : 0 ≤ z4_3.toInt ∧ z4_3.toInt ≤ 16 := hz4_3
          have bq13 : 0 ≤ z4_4.toInt ∧ z4_4.toInt ≤ 16 := hz4_4
          have hG : sgG (KT (sgAt P (sgN P + 16))) D vwCl _ tys ad ks _ := sg_moreN (P := (sgAt P n4)) (show n4 ≤ (sgN P + 16) from by have jb4 := hz4_4.1; have jc4 := hz4_4.2; omega) hG
          exact sg_zret2 X hr (sg_zn (iv_of (iv_c 0 (a := 0) (b := 0) (by decide +kernel)) (a' := 0) (b' := 1) (by decide +kernel))) hlk hS (iv_of (iv_c 0 (a := 0) (b := 0) (by decide +kernel)) (a' := 0) (b' := 1) (by decide +kernel)) (fun t ht hW => sg_post hb hK hC hG hS ht hW) dX12_comesTo_126
        · refine lv_iconst (v := 1) X.1 X.2.1 dX12_comesTo_121 (by decide +kernel) ?_
          refine lv_goto (tgt := 126) X.1 X.2.1 dX12_comesTo_122 (by decide) ?_
          have bq14 : 0 ≤ x1.toInt ∧ x1.toInt ≤ 3 := h1
          have bq15 : 0 ≤ z4_3.toInt ∧ z4_3.toInt ≤ 16 := hz4_3
          have bq16 : 0 ≤ z4_4.toInt ∧ z4_4.toInt ≤ 16 := hz4_4
          have hG : sgG (KT (sgAt P (sgN P + 16))) D vwCl _ tys ad ks _ := sg_moreN (P := (sgAt P n4)) (show n4 ≤ (sgN P + 16) from by have jb4 := hz4_4.1; have jc4 := hz4_4.2; omega) hG
          exact sg_zret2 X hr (sg_zn (iv_of (iv_c 1 (a := 1) (b := 1) (by decide +kernel)) (a' := 0) (b' := 1) (by decide +kernel))) hlk hS (iv_of (iv_c 1 (a := 1) (b := 1) (by decide +kernel)) (a' := 0) (b' := 1) (by decide +kernel)) (fun t ht hW => sg_post hb hK hC hG hS ht hW) dX12_comesTo_126
      · refine lv_iconst (v := 4) X.1 X.2.1 dX12_comesTo_27 (by decide +kernel) ?_
        refine lv_bipush (v := 16) X.1 X.2.1 dX12_comesTo_28 (by decide +kernel) ?_
        refine lv_iload_n X.1 X.2.1 dX12_comesTo_30 rfl (lv_at hl 1 rfl) ?_
        refine lv_imul X.1 X.2.1 dX12_comesTo_31 ?_
        refine lv_topi (fun f17 ef17 => ?_)
        refine lv_iload X.1 X.2.1 dX12_comesTo_32 (lv_at hl 4 rfl) ?_
        refine lv_iadd X.1 X.2.1 dX12_comesTo_34 ?_
        refine lv_topi (fun f18 ef18 => ?_)
        refine lv_imul X.1 X.2.1 dX12_comesTo_35 ?_
        refine lv_topi (fun f19 ef19 => ?_)
        refine lv_istore (lv' := [(5, .int f19), (0, .ref a0), (1, .int x1), (2, .int x2), (3, .int z4_3), (4, .int z4_4)]) X.1 X.2.1 dX12_comesTo_36 hl (by decide) rfl (fun ls hl => ?_)
        refine lv_aload_n X.1 X.2.1 dX12_comesTo_38 rfl (lv_at hl 1 rfl) ?_
        refine gf_X12_21 X hK hG h0 wl_6_199 dX12_comesTo_39 (fun q20 hq20 kq20 => ?_)
        refine lv_iload X.1 X.2.1 dX12_comesTo_42 (lv_at hl 0 rfl) ?_
        refine lv_iconst (v := 1) X.1 X.2.1 dX12_comesTo_44 (by decide +kernel) ?_
        refine lv_iadd X.1 X.2.1 dX12_comesTo_45 ?_
        refine lv_topi (fun f21 ef21 => ?_)
        refine al_52 X hK hG hq20 (iv_vpin (iv_add (a' := 1) (b' := 253) ef21 (iv_mul (a' := 0) (b' := 252) ef19 (iv_c 4 (a := 4) (b := 4) (by decide +kernel)) (iv_add (a' := 0) (b' := 63) ef18 (iv_mul (a' := 0) (b' := 48) ef17 (iv_c 16 (a := 16) (b := 16) (by decide +kernel)) h1 (by decide +kernel)) (iv_lt (b' := 15) (iv_gt_of c7) hz4_4 hf6 (by decide +kernel)) (by decide +kernel)) (by decide +kernel)) (iv_c 1 (a := 1) (b := 1) (by decide +kernel)) (by decide +kernel)) (by decide +kernel)) dX12_comesTo_46 (fun f22 hf22 => ?_)
        have of22 := hf22
        have hf22 : iv (-2147483648) 2147483647 f22 := iv_top f22
        refine lv_istore (lv' := [(6, .int f22), (5, .int f19), (0, .ref a0), (1, .int x1), (2, .int x2), (3, .int z4_3), (4, .int z4_4)]) X.1 X.2.1 dX12_comesTo_47 hl (by decide) rfl (fun ls hl => ?_)
        refine lv_aload_n X.1 X.2.1 dX12_comesTo_49 rfl (lv_at hl 2 rfl) ?_
        refine gg_X12_21 X hK hG h0 wl_6_199 kq20 dX12_comesTo_50 ?_
        refine lv_iload X.1 X.2.1 dX12_comesTo_53 (lv_at hl 1 rfl) ?_
        refine al_52 X hK hG hq20 (iv_vpin (iv_mul (a' := 0) (b' := 252) ef19 (iv_c 4 (a := 4) (b := 4) (by decide +kernel)) (iv_add (a' := 0) (b' := 63) ef18 (iv_mul (a' := 0) (b' := 48) ef17 (iv_c 16 (a := 16) (b := 16) (by decide +kernel)) h1 (by decide +kernel)) (iv_lt (b' := 15) (iv_gt_of c7) hz4_4 hf6 (by decide +kernel)) (by decide +kernel)) (by decide +kernel)) (by decide +kernel)) dX12_comesTo_55 (fun f23 hf23 => ?_)
        have of23 := hf23
        have hf23 : iv (-2147483648) 2147483647 f23 := iv_top f23
        refine lv_if_ne (tgt := 76) X.1 X.2.1 dX12_comesTo_56 (by decide) (fun c24 => ?_) (fun c24 => ?_)
        · refine lv_aload_n X.1 X.2.1 dX12_comesTo_76 rfl (lv_at hl 2 rfl) ?_
          refine lv_aload_n X.1 X.2.1 dX12_comesTo_77 rfl (lv_at hl 2 rfl) ?_
          refine gf_X12_33 X hK hG h0 wl_6_211 dX12_comesTo_78 (fun q25 hq25 kq25 => ?_)
          refine lv_iload X.1 X.2.1 dX12_comesTo_81 (lv_at hl 1 rfl) ?_
          refine lv_iload X.1 X.2.1 dX12_comesTo_83 (lv_at hl 0 rfl) ?_
          refine ca_X12_canMove_1_t X hK hG hC hS hb hp4 a0 h0 q25 hq25 f19 (iv_of (iv_mul (a' := 0) (b' := 252) ef19 (iv_c 4 (a := 4) (b := 4) (by decide +kernel)) (iv_add (a' := 0) (b' := 63) ef18 (iv_mul (a' := 0) (b' := 48) ef17 (iv_c 16 (a := 16) (b := 16) (by decide +kernel)) h1 (by decide +kernel)) (iv_lt (b' := 15) (iv_gt_of c7) hz4_4 hf6 (by decide +kernel)) (by decide +kernel)) (by decide +kernel)) (a' := 0) (b' := 316) (by decide +kernel)) f22 wl_8_215 hl.1 (rest := []) rfl (Nat.le_of_ble_eq_true rfl) ⟨Nat.le_of_ble_eq_true rfl, Nat.le_of_ble_eq_true rfl⟩ ⟨Nat.le_of_ble_eq_true rfl, Nat.le_of_ble_eq_true rfl⟩ dX12_comesTo_85 (fun f26 H locs hf26 hG hS => ?_)
          refine lv_if_ne (tgt := 93) X.1 X.2.1 dX12_comesTo_88 (by decide) (fun c27 => ?_) (fun c27 => ?_)
          · refine lv_aload_n X.1 X.2.1 dX12_comesTo_93 rfl (lv_at hl 2 rfl) ?_
            refine lv_aload_n X.1 X.2.1 dX12_comesTo_94 rfl (lv_at hl 2 rfl) ?_
            refine gf_X12_33 X hK hG h0 wl_6_211 dX12_comesTo_95 (fun q28 hq28 kq28 => ?_)
            refine lv_iload X.1 X.2.1 dX12_comesTo_98 (lv_at hl 1 rfl) ?_
            refine lv_iload X.1 X.2.1 dX12_comesTo_100 (lv_at hl 0 rfl) ?_
            refine ca_X12_moves_1_t X hK hG hC hS hb hp4 a0 h0 q28 hq28 f19 (iv_of (iv_mul (a' := 0) (b' := 252) ef19 (iv_c 4 (a := 4) (b := 4) (by decide +kernel)) (iv_add (a' := 0) (b' := 63) ef18 (iv_mul (a' := 0) (b' := 48) ef17 (iv_c 16 (a := 16) (b := 16) (by decide +kernel)) h1 (by decide +kernel)) (iv_lt (b' := 15) (iv_gt_of c7) hz4_4 hf6 (by decide +kernel)) (by decide +kernel)) (by decide +kernel)) (a' := 0) (b' := 316) (by decide +kernel)) f22 (show n4 + 1 ≤ 1000000000 from by have jb4 := hz4_4.1; have jc4 := hz4_4.2; have jd4 : iv 0 15 z4_4 := (iv_lt (b' := 15) (iv_gt_of c7) hz4_4 hf6 (by decide +kernel)); have je4 := jd4.2; omega) wl_8_219 hl.1 (rest := []) rfl (Nat.le_of_ble_eq_true rfl) ⟨Nat.le_of_ble_eq_true rfl, Nat.le_of_ble_eq_true rfl⟩ ⟨Nat.le_of_ble_eq_true rfl, Nat.le_of_ble_eq_true rfl⟩ dX12_comesTo_102 (fun tg29 H locs htg29 hWg29 hS => ?_)
            have hG : sgG (KT (sgAt P (n4 + 1))) D vwCl _ tys ad ks _ := hWg29.2.2.2
            rw [htg29] at hG
            obtain ⟨y30, ey30⟩ : ∃ y : Int32, y = z4_4 + Int32.ofInt 1 := ⟨_, rfl⟩
            refine lv_iinc (v := y30) (lv' := [(4, .int y30), (6, .int f22), (5, .int f19), (0, .ref a0), (1, .int x1), (2, .int x2), (3, .int z4_3)]) X.1 X.2.1 dX12_comesTo_105 hl (k := 6) rfl ey30.symm (by decide) rfl (fun ls hl => ?_)
            refine lv_goto (tgt := 16) X.1 X.2.1 dX12_comesTo_108 (by decide) ?_
            have bq31 : 0 ≤ z4_4.toInt ∧ z4_4.toInt ≤ 15 := (iv_lt (b' := 15) (iv_gt_of c7) hz4_4 hf6 (by decide +kernel))
            have xy30 : y30.toInt = z4_4.toInt + 1 := sg_inc (k := 1) ey30 (iv_lt (b' := 15) (iv_gt_of c7) hz4_4 hf6 (by decide +kernel)) (by decide +kernel)
            have bq32 : 0 ≤ z4_3.toInt ∧ z4_3.toInt ≤ 16 := hz4_3
            have bq33 : 0 ≤ z4_4.toInt ∧ z4_4.toInt ≤ 15 := (iv_lt (b' := 15) (iv_gt_of c7) hz4_4 hf6 (by decide +kernel))
            have bq34 : 0 ≤ x1.toInt ∧ x1.toInt ≤ 3 := h1
            have cq36 : (4 : Int32).toInt = 4 := by decide +kernel
            have cq37 : (16 : Int32).toInt = 16 := by decide +kernel
            have xf17 : f17.toInt = 16 * x1.toInt := sg_exmul ef17 (iv_c 16 (a := 16) (b := 16) (by decide +kernel)) h1 (by decide +kernel) (by decide +kernel) rfl
            have xf18 : f18.toInt = f17.toInt + z4_4.toInt := sg_exadd ef18 (iv_mul (a' := 0) (b' := 48) ef17 (iv_c 16 (a := 16) (b := 16) (by decide +kernel)) h1 (by decide +kernel)) (iv_lt (b' := 15) (iv_gt_of c7) hz4_4 hf6 (by decide +kernel)) (by decide +kernel) rfl rfl
            have xf19 : f19.toInt = 4 * f18.toInt := sg_exmul ef19 (iv_c 4 (a := 4) (b := 4) (by decide +kernel)) (iv_add (a' := 0) (b' := 63) ef18 (iv_mul (a' := 0) (b' := 48) ef17 (iv_c 16 (a := 16) (b := 16) (by decide +kernel)) h1 (by decide +kernel)) (iv_lt (b' := 15) (iv_gt_of c7) hz4_4 hf6 (by decide +kernel)) (by decide +kernel)) (by decide +kernel) (by decide +kernel) rfl
            have gag35 : f23.toInt = sgG0 P (64 * x1.toInt.toNat + 4 * z4_4.toInt.toNat) := sg_gav of23 (by omega) (by omega)
            have gbg38 := sg_ne0' c24
            have ms1 : sg_ms (sgG0 P) x1.toInt.toNat (z4_4.toInt.toNat + 1) = sg_ms (sgG0 P) x1.toInt.toNat z4_4.toInt.toNat := sg_ms_no (by omega)
            have msl := sg_ms_le (sgG0 P) x1.toInt.toNat z4_4.toInt.toNat
            have gll39 := sg_glv of6 h1
            have bq40 : 0 ≤ f6.toInt ∧ f6.toInt ≤ 16 := hf6
            have rr41 : (z4_4 : Int32).toInt < (f6 : Int32).toInt := Int32.lt_iff_toInt_lt.mp (iv_gt_of c7)
            have bq42 : 0 ≤ z4_4.toInt ∧ z4_4.toInt ≤ 15 := (iv_lt (b' := 15) (iv_gt_of c7) hz4_4 hf6 (by decide +kernel))
            have xy30 : y30.toInt = z4_4.toInt + 1 := sg_inc (k := 1) ey30 (iv_lt (b' := 15) (iv_gt_of c7) hz4_4 hf6 (by decide +kernel)) (by decide +kernel)
            have bq43 : 0 ≤ z4_3.toInt ∧ z4_3.toInt ≤ 16 := hz4_3
            have mk : y30.toInt.toNat = z4_4.toInt.toNat + 1 := by omega
            rw [← mk] at ms1
            have bq44 : 0 ≤ z4_4.toInt ∧ z4_4.toInt ≤ 15 := (iv_lt (b' := 15) (iv_gt_of c7) hz4_4 hf6 (by decide +kernel))
            have xy30 : y30.toInt = z4_4.toInt + 1 := sg_inc (k := 1) ey30 (iv_lt (b' := 15) (iv_gt_of c7) hz4_4 hf6 (by decide +kernel)) (by decide +kernel)
            exact ih4 H _ _ z4_3 y30 (n4 + 1) (by omega) (by omega) hG hS (lv_sub hl [3, 4, 5, 6, 0] rfl) ⟨by omega, by omega⟩ (iv_of (iv_add (a' := 1) (b' := 16) ey30 (iv_lt (b' := 15) (iv_gt_of c7) hz4_4 hf6 (by decide +kernel)) (iv_c _ (a := 1) (b := 1) (by decide +kernel)) (by decide +kernel)) (a' := 0) (b' := 16) (by decide +kernel)) (by omega) (iv_stepU ey30 (iv_lt (b' := 15) (iv_gt_of c7) hz4_4 hf6 (by decide +kernel)) (by decide +kernel) hN4)
          · refine lv_iconst (v := 0) X.1 X.2.1 dX12_comesTo_91 (by decide +kernel) ?_
            have cq45 : (4 : Int32).toInt = 4 := by decide +kernel
            have cq46 : (16 : Int32).toInt = 16 := by decide +kernel
            have bq47 : 0 ≤ x1.toInt ∧ x1.toInt ≤ 3 := h1
            have xf17 : f17.toInt = 16 * x1.toInt := sg_exmul ef17 (iv_c 16 (a := 16) (b := 16) (by decide +kernel)) h1 (by decide +kernel) (by decide +kernel) rfl
            have bq48 : 0 ≤ z4_4.toInt ∧ z4_4.toInt ≤ 15 := (iv_lt (b' := 15) (iv_gt_of c7) hz4_4 hf6 (by decide +kernel))
            have xf18 : f18.toInt = f17.toInt + z4_4.toInt := sg_exadd ef18 (iv_mul (a' := 0) (b' := 48) ef17 (iv_c 16 (a := 16) (b := 16) (by decide +kernel)) h1 (by decide +kernel)) (iv_lt (b' := 15) (iv_gt_of c7) hz4_4 hf6 (by decide +kernel)) (by decide +kernel) rfl rfl
            have xf19 : f19.toInt = 4 * f18.toInt := sg_exmul ef19 (iv_c 4 (a := 4) (b := 4) (by decide +kernel)) (iv_add (a' := 0) (b' := 63) ef18 (iv_mul (a' := 0) (b' := 48) ef17 (iv_c 16 (a := 16) (b := 16) (by decide +kernel)) h1 (by decide +kernel)) (iv_lt (b' := 15) (iv_gt_of c7) hz4_4 hf6 (by decide +kernel)) (by decide +kernel)) (by decide +kernel) (by decide +kernel) rfl
            have bq49 : 0 ≤ z4_3.toInt ∧ z4_3.toInt ≤ 16 := hz4_3
            have hG : sgG (KT (sgAt P (sgN P + 16))) D vwCl _ tys ad ks _ := sg_moreN (P := (sgAt P n4)) (show n4 ≤ (sgN P + 16) from by have jb4 := hz4_4.1; have jc4 := hz4_4.2; have jd4 : iv 0 15 z4_4 := (iv_lt (b' := 15) (iv_gt_of c7) hz4_4 hf6 (by decide +kernel)); have je4 := jd4.2; omega) hG
            exact sg_zret2 X hr (sg_zn (iv_of (iv_c 0 (a := 0) (b := 0) (by decide +kernel)) (a' := 0) (b' := 1) (by decide +kernel))) hlk hS (iv_of (iv_c 0 (a := 0) (b := 0) (by decide +kernel)) (a' := 0) (b' := 1) (by decide +kernel)) (fun t ht hW => sg_post hb hK hC hG hS ht hW) dX12_comesTo_92
        · refine lv_iload X.1 X.2.1 dX12_comesTo_59 (lv_at hl 0 rfl) ?_
          refine lv_iconst (v := (-1)) X.1 X.2.1 dX12_comesTo_61 (by decide +kernel) ?_
          refine lv_icmp_ne (tgt := 76) X.1 X.2.1 dX12_comesTo_62 (by decide) (fun c50 => ?_) (fun c50 => ?_)
          · refine lv_aload_n X.1 X.2.1 dX12_comesTo_76 rfl (lv_at hl 2 rfl) ?_
            refine lv_aload_n X.1 X.2.1 dX12_comesTo_77 rfl (lv_at hl 2 rfl) ?_
            refine gf_X12_33 X hK hG h0 wl_6_211 dX12_comesTo_78 (fun q51 hq51 kq51 => ?_)
            refine lv_iload X.1 X.2.1 dX12_comesTo_81 (lv_at hl 1 rfl) ?_
            refine lv_iload X.1 X.2.1 dX12_comesTo_83 (lv_at hl 0 rfl) ?_
            refine ca_X12_canMove_1_t X hK hG hC hS hb hp4 a0 h0 q51 hq51 f19 (iv_of (iv_mul (a' := 0) (b' := 252) ef19 (iv_c 4 (a := 4) (b := 4) (by decide +kernel)) (iv_add (a' := 0) (b' := 63) ef18 (iv_mul (a' := 0) (b' := 48) ef17 (iv_c 16 (a := 16) (b := 16) (by decide +kernel)) h1 (by decide +kernel)) (iv_lt (b' := 15) (iv_gt_of c7) hz4_4 hf6 (by decide +kernel)) (by decide +kernel)) (by decide +kernel)) (a' := 0) (b' := 316) (by decide +kernel)) f22 wl_8_215 hl.1 (rest := []) rfl (Nat.le_of_ble_eq_true rfl) ⟨Nat.le_of_ble_eq_true rfl, Nat.le_of_ble_eq_true rfl⟩ ⟨Nat.le_of_ble_eq_true rfl, Nat.le_of_ble_eq_true rfl⟩ dX12_comesTo_85 (fun f52 H locs hf52 hG hS => ?_)
            refine lv_if_ne (tgt := 93) X.1 X.2.1 dX12_comesTo_88 (by decide) (fun c53 => ?_) (fun c53 => ?_)
            · refine lv_aload_n X.1 X.2.1 dX12_comesTo_93 rfl (lv_at hl 2 rfl) ?_
              refine lv_aload_n X.1 X.2.1 dX12_comesTo_94 rfl (lv_at hl 2 rfl) ?_
              refine gf_X12_33 X hK hG h0 wl_6_211 dX12_comesTo_95 (fun q54 hq54 kq54 => ?_)
              refine lv_iload X.1 X.2.1 dX12_comesTo_98 (lv_at hl 1 rfl) ?_
              refine lv_iload X.1 X.2.1 dX12_comesTo_100 (lv_at hl 0 rfl) ?_
              refine ca_X12_moves_1_t X hK hG hC hS hb hp4 a0 h0 q54 hq54 f19 (iv_of (iv_mul (a' := 0) (b' := 252) ef19 (iv_c 4 (a := 4) (b := 4) (by decide +kernel)) (iv_add (a' := 0) (b' := 63) ef18 (iv_mul (a' := 0) (b' := 48) ef17 (iv_c 16 (a := 16) (b := 16) (by decide +kernel)) h1 (by decide +kernel)) (iv_lt (b' := 15) (iv_gt_of c7) hz4_4 hf6 (by decide +kernel)) (by decide +kernel)) (by decide +kernel)) (a' := 0) (b' := 316) (by decide +kernel)) f22 (show n4 + 1 ≤ 1000000000 from by have jb4 := hz4_4.1; have jc4 := hz4_4.2; have jd4 : iv 0 15 z4_4 := (iv_lt (b' := 15) (iv_gt_of c7) hz4_4 hf6 (by decide +kernel)); have je4 := jd4.2; omega) wl_8_219 hl.1 (rest := []) rfl (Nat.le_of_ble_eq_true rfl) ⟨Nat.le_of_ble_eq_true rfl, Nat.le_of_ble_eq_true rfl⟩ ⟨Nat.le_of_ble_eq_true rfl, Nat.le_of_ble_eq_true rfl⟩ dX12_comesTo_102 (fun tg55 H locs htg55 hWg55 hS => ?_)
              have hG : sgG (KT (sgAt P (n4 + 1))) D vwCl _ tys ad ks _ := hWg55.2.2.2
              rw [htg55] at hG
              obtain ⟨y56, ey56⟩ : ∃ y : Int32, y = z4_4 + Int32.ofInt 1 := ⟨_, rfl⟩
              refine lv_iinc (v := y56) (lv' := [(4, .int y56), (6, .int f22), (5, .int f19), (0, .ref a0), (1, .int x1), (2, .int x2), (3, .int z4_3)]) X.1 X.2.1 dX12_comesTo_105 hl (k := 6) rfl ey56.symm (by decide) rfl (fun ls hl => ?_)
              refine lv_goto (tgt := 16) X.1 X.2.1 dX12_comesTo_108 (by decide) ?_
              have bq57 : 0 ≤ z4_4.toInt ∧ z4_4.toInt ≤ 15 := (iv_lt (b' := 15) (iv_gt_of c7) hz4_4 hf6 (by decide +kernel))
              have xy56 : y56.toInt = z4_4.toInt + 1 := sg_inc (k := 1) ey56 (iv_lt (b' := 15) (iv_gt_of c7) hz4_4 hf6 (by decide +kernel)) (by decide +kernel)
              have bq58 : 0 ≤ z4_3.toInt ∧ z4_3.toInt ≤ 16 := hz4_3
              have bq59 : 0 ≤ z4_4.toInt ∧ z4_4.toInt ≤ 15 := (iv_lt (b' := 15) (iv_gt_of c7) hz4_4 hf6 (by decide +kernel))
              have bq60 : 0 ≤ x1.toInt ∧ x1.toInt ≤ 3 := h1
              have cq62 : (4 : Int32).toInt = 4 := by decide +kernel
              have cq63 : (16 : Int32).toInt = 16 := by decide +kernel
              have xf17 : f17.toInt = 16 * x1.toInt := sg_exmul ef17 (iv_c 16 (a := 16) (b := 16) (by decide +kernel)) h1 (by decide +kernel) (by decide +kernel) rfl
              have xf18 : f18.toInt = f17.toInt + z4_4.toInt := sg_exadd ef18 (iv_mul (a' := 0) (b' := 48) ef17 (iv_c 16 (a := 16) (b := 16) (by decide +kernel)) h1 (by decide +kernel)) (iv_lt (b' := 15) (iv_gt_of c7) hz4_4 hf6 (by decide +kernel)) (by decide +kernel) rfl rfl
              have xf19 : f19.toInt = 4 * f18.toInt := sg_exmul ef19 (iv_c 4 (a := 4) (b := 4) (by decide +kernel)) (iv_add (a' := 0) (b' := 63) ef18 (iv_mul (a' := 0) (b' := 48) ef17 (iv_c 16 (a := 16) (b := 16) (by decide +kernel)) h1 (by decide +kernel)) (iv_lt (b' := 15) (iv_gt_of c7) hz4_4 hf6 (by decide +kernel)) (by decide +kernel)) (by decide +kernel) (by decide +kernel) rfl
              have gag61 : f23.toInt = sgG0 P (64 * x1.toInt.toNat + 4 * z4_4.toInt.toNat) := sg_gav of23 (by omega) (by omega)
              have gbg64 := sg_eq0 c24
              have xf21 : f21.toInt = f19.toInt + 1 := sg_inc (k := 1) ef21 (iv_mul (a' := 0) (b' := 252) ef19 (iv_c 4 (a := 4) (b := 4) (by decide +kernel)) (iv_add (a' := 0) (b' := 63) ef18 (iv_mul (a' := 0) (b' := 48) ef17 (iv_c 16 (a := 16) (b := 16) (by decide +kernel)) h1 (by decide +kernel)) (iv_lt (b' := 15) (iv_gt_of c7) hz4_4 hf6 (by decide +kernel)) (by decide +kernel)) (by decide +kernel)) (by decide +kernel)
              have gag65 : f22.toInt = sgG0 P (64 * x1.toInt.toNat + 4 * z4_4.toInt.toNat + 1) := sg_gav of22 (by omega) (by omega)
              have gbg66 := sg_nem1 c50
              have ms1 : sg_ms (sgG0 P) x1.toInt.toNat (z4_4.toInt.toNat + 1) = sg_ms (sgG0 P) x1.toInt.toNat z4_4.toInt.toNat := sg_ms_no (by omega)
              have msl := sg_ms_le (sgG0 P) x1.toInt.toNat z4_4.toInt.toNat
              have gll67 := sg_glv of6 h1
              have bq68 : 0 ≤ f6.toInt ∧ f6.toInt ≤ 16 := hf6
              have rr69 : (z4_4 : Int32).toInt < (f6 : Int32).toInt := Int32.lt_iff_toInt_lt.mp (iv_gt_of c7)
              have bq70 : 0 ≤ z4_4.toInt ∧ z4_4.toInt ≤ 15 := (iv_lt (b' := 15) (iv_gt_of c7) hz4_4 hf6 (by decide +kernel))
              have xy56 : y56.toInt = z4_4.toInt + 1 := sg_inc (k := 1) ey56 (iv_lt (b' := 15) (iv_gt_of c7) hz4_4 hf6 (by decide +kernel)) (by decide +kernel)
              have bq71 : 0 ≤ z4_3.toInt ∧ z4_3.toInt ≤ 16 := hz4_3
              have mk : y56.toInt.toNat = z4_4.toInt.toNat + 1 := by omega
              rw [← mk] at ms1
              have bq72 : 0 ≤ z4_4.toInt ∧ z4_4.toInt ≤ 15 := (iv_lt (b' := 15) (iv_gt_of c7) hz4_4 hf6 (by decide +kernel))
              have xy56 : y56.toInt = z4_4.toInt + 1 := sg_inc (k := 1) ey56 (iv_lt (b' := 15) (iv_gt_of c7) hz4_4 hf6 (by decide +kernel)) (by decide +kernel)
              exact ih4 H _ _ z4_3 y56 (n4 + 1) (by omega) (by omega) hG hS (lv_sub hl [3, 4, 5, 6, 0] rfl) ⟨by omega, by omega⟩ (iv_of (iv_add (a' := 1) (b' := 16) ey56 (iv_lt (b' := 15) (iv_gt_of c7) hz4_4 hf6 (by decide +kernel)) (iv_c _ (a := 1) (b := 1) (by decide +kernel)) (by decide +kernel)) (a' := 0) (b' := 16) (by decide +kernel)) (by omega) (iv_stepU ey56 (iv_lt (b' := 15) (iv_gt_of c7) hz4_4 hf6 (by decide +kernel)) (by decide +kernel) hN4)
            · refine lv_iconst (v := 0) X.1 X.2.1 dX12_comesTo_91 (by decide +kernel) ?_
              have cq73 : (4 : Int32).toInt = 4 := by decide +kernel
              have cq74 : (16 : Int32).toInt = 16 := by decide +kernel
              have bq75 : 0 ≤ x1.toInt ∧ x1.toInt ≤ 3 := h1
              have xf17 : f17.toInt = 16 * x1.toInt := sg_exmul ef17 (iv_c 16 (a := 16) (b := 16) (by decide +kernel)) h1 (by decide +kernel) (by decide +kernel) rfl
              have bq76 : 0 ≤ z4_4.toInt ∧ z4_4.toInt ≤ 15 := (iv_lt (b' := 15) (iv_gt_of c7) hz4_4 hf6 (by decide +kernel))
              have xf18 : f18.toInt = f17.toInt + z4_4.toInt := sg_exadd ef18 (iv_mul (a' := 0) (b' := 48) ef17 (iv_c 16 (a := 16) (b := 16) (by decide +kernel)) h1 (by decide +kernel)) (iv_lt (b' := 15) (iv_gt_of c7) hz4_4 hf6 (by decide +kernel)) (by decide +kernel) rfl rfl
              have xf19 : f19.toInt = 4 * f18.toInt := sg_exmul ef19 (iv_c 4 (a := 4) (b := 4) (by decide +kernel)) (iv_add (a' := 0) (b' := 63) ef18 (iv_mul (a' := 0) (b' := 48) ef17 (iv_c 16 (a := 16) (b := 16) (by decide +kernel)) h1 (by decide +kernel)) (iv_lt (b' := 15) (iv_gt_of c7) hz4_4 hf6 (by decide +kernel)) (by decide +kernel)) (by decide +kernel) (by decide +kernel) rfl
              have bq77 : 0 ≤ z4_3.toInt ∧ z4_3.toInt ≤ 16 := hz4_3
              have hG : sgG (KT (sgAt P (sgN P + 16))) D vwCl _ tys ad ks _ := sg_moreN (P := (sgAt P n4)) (show n4 ≤ (sgN P + 16) from by have jb4 := hz4_4.1; have jc4 := hz4_4.2; have jd4 : iv 0 15 z4_4 := (iv_lt (b' := 15) (iv_gt_of c7) hz4_4 hf6 (by decide +kernel)); have je4 := jd4.2; omega) hG
              exact sg_zret2 X hr (sg_zn (iv_of (iv_c 0 (a := 0) (b := 0) (by decide +kernel)) (a' := 0) (b' := 1) (by decide +kernel))) hlk hS (iv_of (iv_c 0 (a := 0) (b := 0) (by decide +kernel)) (a' := 0) (b' := 1) (by decide +kernel)) (fun t ht hW => sg_post hb hK hC hG hS ht hW) dX12_comesTo_92
          · refine lv_aload_n X.1 X.2.1 dX12_comesTo_65 rfl (lv_at hl 2 rfl) ?_
            refine gf_X12_41 X hK hG h0 wl_6_219 dX12_comesTo_66 (fun q78 hq78 kq78 => ?_)
            refine lv_iload_n X.1 X.2.1 dX12_comesTo_69 rfl (lv_at hl 5 rfl) ?_
            have bq79 : 0 ≤ z4_4.toInt ∧ z4_4.toInt ≤ 15 := (iv_lt (b' := 15) (iv_gt_of c7) hz4_4 hf6 (by decide +kernel))
            have bq80 : 0 ≤ x1.toInt ∧ x1.toInt ≤ 3 := h1
            have cq82 : (4 : Int32).toInt = 4 := by decide +kernel
            have cq83 : (16 : Int32).toInt = 16 := by decide +kernel
            have xf17 : f17.toInt = 16 * x1.toInt := sg_exmul ef17 (iv_c 16 (a := 16) (b := 16) (by decide +kernel)) h1 (by decide +kernel) (by decide +kernel) rfl
            have xf18 : f18.toInt = f17.toInt + z4_4.toInt := sg_exadd ef18 (iv_mul (a' := 0) (b' := 48) ef17 (iv_c 16 (a := 16) (b := 16) (by decide +kernel)) h1 (by decide +kernel)) (iv_lt (b' := 15) (iv_gt_of c7) hz4_4 hf6 (by decide +kernel)) (by decide +kernel) rfl rfl
            have xf19 : f19.toInt = 4 * f18.toInt := sg_exmul ef19 (iv_c 4 (a := 4) (b := 4) (by decide +kernel)) (iv_add (a' := 0) (b' := 63) ef18 (iv_mul (a' := 0) (b' := 48) ef17 (iv_c 16 (a := 16) (b := 16) (by decide +kernel)) h1 (by decide +kernel)) (iv_lt (b' := 15) (iv_gt_of c7) hz4_4 hf6 (by decide +kernel)) (by decide +kernel)) (by decide +kernel) (by decide +kernel) rfl
            have gag81 : f23.toInt = sgG0 P (64 * x1.toInt.toNat + 4 * z4_4.toInt.toNat) := sg_gav of23 (by omega) (by omega)
            have gbg84 := sg_eq0 c24
            have xf21 : f21.toInt = f19.toInt + 1 := sg_inc (k := 1) ef21 (iv_mul (a' := 0) (b' := 252) ef19 (iv_c 4 (a := 4) (b := 4) (by decide +kernel)) (iv_add (a' := 0) (b' := 63) ef18 (iv_mul (a' := 0) (b' := 48) ef17 (iv_c 16 (a := 16) (b := 16) (by decide +kernel)) h1 (by decide +kernel)) (iv_lt (b' := 15) (iv_gt_of c7) hz4_4 hf6 (by decide +kernel)) (by decide +kernel)) (by decide +kernel)) (by decide +kernel)
            have gag85 : f22.toInt = sgG0 P (64 * x1.toInt.toNat + 4 * z4_4.toInt.toNat + 1) := sg_gav of22 (by omega) (by omega)
            have gbg86 := sg_eqm1 c50
            have ms1 : sg_ms (sgG0 P) x1.toInt.toNat (z4_4.toInt.toNat + 1) = sg_ms (sgG0 P) x1.toInt.toNat z4_4.toInt.toNat + 1 := sg_ms_yes (by omega) (by omega)
            have msl := sg_ms_le (sgG0 P) x1.toInt.toNat z4_4.toInt.toNat
            have gll87 := sg_glv of6 h1
            have bq88 : 0 ≤ f6.toInt ∧ f6.toInt ≤ 16 := hf6
            have rr89 : (z4_4 : Int32).toInt < (f6 : Int32).toInt := Int32.lt_iff_toInt_lt.mp (iv_gt_of c7)
            have gn70 : (sgGl (sgAt P n4) x1.toInt.toNat).val = (sgGl P x1.toInt.toNat).val := rfl
            have ml70 := sg_ms_mono (sgG0 P) x1.toInt.toNat (show z4_4.toInt.toNat + 1 ≤ (sgGl P x1.toInt.toNat).val from by omega)
            have hi70 : iv 0 2 z4_3 := ⟨by omega, by omega⟩
            refine al_59 X hK hG hq78 (iv_vpin hi70 (by decide +kernel)) dX12_comesTo_70 (fun f90 hf90 => ?_)
            refine lv_istore (lv' := [(6, .int f90), (5, .int f19), (0, .ref a0), (1, .int x1), (2, .int x2), (3, .int z4_3), (4, .int z4_4)]) X.1 X.2.1 dX12_comesTo_71 hl (by decide) rfl (fun ls hl => ?_)
            obtain ⟨y91, ey91⟩ : ∃ y : Int32, y = z4_3 + Int32.ofInt 1 := ⟨_, rfl⟩
            refine lv_iinc (v := y91) (lv' := [(3, .int y91), (6, .int f90), (5, .int f19), (0, .ref a0), (1, .int x1), (2, .int x2), (4, .int z4_4)]) X.1 X.2.1 dX12_comesTo_73 hl (k := 5) rfl ey91.symm (by decide) rfl (fun ls hl => ?_)
            refine lv_aload_n X.1 X.2.1 dX12_comesTo_76 rfl (lv_at hl 3 rfl) ?_
            refine lv_aload_n X.1 X.2.1 dX12_comesTo_77 rfl (lv_at hl 3 rfl) ?_
            refine gf_X12_33 X hK hG h0 wl_6_211 dX12_comesTo_78 (fun q92 hq92 kq92 => ?_)
            refine lv_iload X.1 X.2.1 dX12_comesTo_81 (lv_at hl 2 rfl) ?_
            refine lv_iload X.1 X.2.1 dX12_comesTo_83 (lv_at hl 1 rfl) ?_
            refine ca_X12_canMove_1_t X hK hG hC hS hb hp4 a0 h0 q92 hq92 f19 (iv_of (iv_mul (a' := 0) (b' := 252) ef19 (iv_c 4 (a := 4) (b := 4) (by decide +kernel)) (iv_add (a' := 0) (b' := 63) ef18 (iv_mul (a' := 0) (b' := 48) ef17 (iv_c 16 (a := 16) (b := 16) (by decide +kernel)) h1 (by decide +kernel)) (iv_lt (b' := 15) (iv_gt_of c7) hz4_4 hf6 (by decide +kernel)) (by decide +kernel)) (by decide +kernel)) (a' := 0) (b' := 316) (by decide +kernel)) f90 wl_8_215 hl.1 (rest := []) rfl (Nat.le_of_ble_eq_true rfl) ⟨Nat.le_of_ble_eq_true rfl, Nat.le_of_ble_eq_true rfl⟩ ⟨Nat.le_of_ble_eq_true rfl, Nat.le_of_ble_eq_true rfl⟩ dX12_comesTo_85 (fun f93 H locs hf93 hG hS => ?_)
            refine lv_if_ne (tgt := 93) X.1 X.2.1 dX12_comesTo_88 (by decide) (fun c94 => ?_) (fun c94 => ?_)
            · refine lv_aload_n X.1 X.2.1 dX12_comesTo_93 rfl (lv_at hl 3 rfl) ?_
              refine lv_aload_n X.1 X.2.1 dX12_comesTo_94 rfl (lv_at hl 3 rfl) ?_
              refine gf_X12_33 X hK hG h0 wl_6_211 dX12_comesTo_95 (fun q95 hq95 kq95 => ?_)
              refine lv_iload X.1 X.2.1 dX12_comesTo_98 (lv_at hl 2 rfl) ?_
              refine lv_iload X.1 X.2.1 dX12_comesTo_100 (lv_at hl 1 rfl) ?_
              refine ca_X12_moves_1_t X hK hG hC hS hb hp4 a0 h0 q95 hq95 f19 (iv_of (iv_mul (a' := 0) (b' := 252) ef19 (iv_c 4 (a := 4) (b := 4) (by decide +kernel)) (iv_add (a' := 0) (b' := 63) ef18 (iv_mul (a' := 0) (b' := 48) ef17 (iv_c 16 (a := 16) (b := 16) (by decide +kernel)) h1 (by decide +kernel)) (iv_lt (b' := 15) (iv_gt_of c7) hz4_4 hf6 (by decide +kernel)) (by decide +kernel)) (by decide +kernel)) (a' := 0) (b' := 316) (by decide +kernel)) f90 (show n4 + 1 ≤ 1000000000 from by have jb4 := hz4_4.1; have jc4 := hz4_4.2; have jd4 : iv 0 15 z4_4 := (iv_lt (b' := 15) (iv_gt_of c7) hz4_4 hf6 (by decide +kernel)); have je4 := jd4.2; omega) wl_8_219 hl.1 (rest := []) rfl (Nat.le_of_ble_eq_true rfl) ⟨Nat.le_of_ble_eq_true rfl, Nat.le_of_ble_eq_true rfl⟩ ⟨Nat.le_of_ble_eq_true rfl, Nat.le_of_ble_eq_true rfl⟩ dX12_comesTo_102 (fun tg96 H locs htg96 hWg96 hS => ?_)
              have hG : sgG (KT (sgAt P (n4 + 1))) D vwCl _ tys ad ks _ := hWg96.2.2.2
              rw [htg96] at hG
              obtain ⟨y97, ey97⟩ : ∃ y : Int32, y = z4_4 + Int32.ofInt 1 := ⟨_, rfl⟩
              refine lv_iinc (v := y97) (lv' := [(4, .int y97), (3, .int y91), (6, .int f90), (5, .int f19), (0, .ref a0), (1, .int x1), (2, .int x2)]) X.1 X.2.1 dX12_comesTo_105 hl (k := 6) rfl ey97.symm (by decide) rfl (fun ls hl => ?_)
              refine lv_goto (tgt := 16) X.1 X.2.1 dX12_comesTo_108 (by decide) ?_
              have bq98 : 0 ≤ z4_4.toInt ∧ z4_4.toInt ≤ 15 := (iv_lt (b' := 15) (iv_gt_of c7) hz4_4 hf6 (by decide +kernel))
              have xy97 : y97.toInt = z4_4.toInt + 1 := sg_inc (k := 1) ey97 (iv_lt (b' := 15) (iv_gt_of c7) hz4_4 hf6 (by decide +kernel)) (by decide +kernel)
              have bq99 : 0 ≤ z4_3.toInt ∧ z4_3.toInt ≤ 16 := hz4_3
              have xy91 : y91.toInt = z4_3.toInt + 1 := sg_inc (k := 1) ey91 hz4_3 (by decide +kernel)
              have bq100 : 0 ≤ z4_4.toInt ∧ z4_4.toInt ≤ 15 := (iv_lt (b' := 15) (iv_gt_of c7) hz4_4 hf6 (by decide +kernel))
              have bq101 : 0 ≤ x1.toInt ∧ x1.toInt ≤ 3 := h1
              have cq103 : (4 : Int32).toInt = 4 := by decide +kernel
              have cq104 : (16 : Int32).toInt = 16 := by decide +kernel
              have xf17 : f17.toInt = 16 * x1.toInt := sg_exmul ef17 (iv_c 16 (a := 16) (b := 16) (by decide +kernel)) h1 (by decide +kernel) (by decide +kernel) rfl
              have xf18 : f18.toInt = f17.toInt + z4_4.toInt := sg_exadd ef18 (iv_mul (a' := 0) (b' := 48) ef17 (iv_c 16 (a := 16) (b := 16) (by decide +kernel)) h1 (by decide +kernel)) (iv_lt (b' := 15) (iv_gt_of c7) hz4_4 hf6 (by decide +kernel)) (by decide +kernel) rfl rfl
              have xf19 : f19.toInt = 4 * f18.toInt := sg_exmul ef19 (iv_c 4 (a := 4) (b := 4) (by decide +kernel)) (iv_add (a' := 0) (b' := 63) ef18 (iv_mul (a' := 0) (b' := 48) ef17 (iv_c 16 (a := 16) (b := 16) (by decide +kernel)) h1 (by decide +kernel)) (iv_lt (b' := 15) (iv_gt_of c7) hz4_4 hf6 (by decide +kernel)) (by decide +kernel)) (by decide +kernel) (by decide +kernel) rfl
              have gag102 : f23.toInt = sgG0 P (64 * x1.toInt.toNat + 4 * z4_4.toInt.toNat) := sg_gav of23 (by omega) (by omega)
              have gbg105 := sg_eq0 c24
              have xf21 : f21.toInt = f19.toInt + 1 := sg_inc (k := 1) ef21 (iv_mul (a' := 0) (b' := 252) ef19 (iv_c 4 (a := 4) (b := 4) (by decide +kernel)) (iv_add (a' := 0) (b' := 63) ef18 (iv_mul (a' := 0) (b' := 48) ef17 (iv_c 16 (a := 16) (b := 16) (by decide +kernel)) h1 (by decide +kernel)) (iv_lt (b' := 15) (iv_gt_of c7) hz4_4 hf6 (by decide +kernel)) (by decide +kernel)) (by decide +kernel)) (by decide +kernel)
              have gag106 : f22.toInt = sgG0 P (64 * x1.toInt.toNat + 4 * z4_4.toInt.toNat + 1) := sg_gav of22 (by omega) (by omega)
              have gbg107 := sg_eqm1 c50
              have ms1 : sg_ms (sgG0 P) x1.toInt.toNat (z4_4.toInt.toNat + 1) = sg_ms (sgG0 P) x1.toInt.toNat z4_4.toInt.toNat + 1 := sg_ms_yes (by omega) (by omega)
              have msl := sg_ms_le (sgG0 P) x1.toInt.toNat z4_4.toInt.toNat
              have gll108 := sg_glv of6 h1
              have bq109 : 0 ≤ f6.toInt ∧ f6.toInt ≤ 16 := hf6
              have rr110 : (z4_4 : Int32).toInt < (f6 : Int32).toInt := Int32.lt_iff_toInt_lt.mp (iv_gt_of c7)
              have bq111 : 0 ≤ z4_4.toInt ∧ z4_4.toInt ≤ 15 := (iv_lt (b' := 15) (iv_gt_of c7) hz4_4 hf6 (by decide +kernel))
              have xy97 : y97.toInt = z4_4.toInt + 1 := sg_inc (k := 1) ey97 (iv_lt (b' := 15) (iv_gt_of c7) hz4_4 hf6 (by decide +kernel)) (by decide +kernel)
              have bq112 : 0 ≤ z4_3.toInt ∧ z4_3.toInt ≤ 16 := hz4_3
              have xy91 : y91.toInt = z4_3.toInt + 1 := sg_inc (k := 1) ey91 hz4_3 (by decide +kernel)
              have mk : y97.toInt.toNat = z4_4.toInt.toNat + 1 := by omega
              rw [← mk] at ms1
              have bq113 : 0 ≤ z4_4.toInt ∧ z4_4.toInt ≤ 15 := (iv_lt (b' := 15) (iv_gt_of c7) hz4_4 hf6 (by decide +kernel))
              have xy97 : y97.toInt = z4_4.toInt + 1 := sg_inc (k := 1) ey97 (iv_lt (b' := 15) (iv_gt_of c7) hz4_4 hf6 (by decide +kernel)) (by decide +kernel)
              exact ih4 H _ _ y91 y97 (n4 + 1) (by omega) (by omega) hG hS (lv_sub hl [4, 5, 6, 1, 0] rfl) ⟨by omega, by omega⟩ (iv_of (iv_add (a' := 1) (b' := 16) ey97 (iv_lt (b' := 15) (iv_gt_of c7) hz4_4 hf6 (by decide +kernel)) (iv_c _ (a := 1) (b := 1) (by decide +kernel)) (by decide +kernel)) (a' := 0) (b' := 16) (by decide +kernel)) (by omega) (iv_stepU ey97 (iv_lt (b' := 15) (iv_gt_of c7) hz4_4 hf6 (by decide +kernel)) (by decide +kernel) hN4)
            · refine lv_iconst (v := 0) X.1 X.2.1 dX12_comesTo_91 (by decide +kernel) ?_
              have bq114 : 0 ≤ z4_3.toInt ∧ z4_3.toInt ≤ 16 := hz4_3
              have xy91 : y91.toInt = z4_3.toInt + 1 := sg_inc (k := 1) ey91 hz4_3 (by decide +kernel)
              have cq115 : (4 : Int32).toInt = 4 := by decide +kernel
              have cq116 : (16 : Int32).toInt = 16 := by decide +kernel
              have bq117 : 0 ≤ x1.toInt ∧ x1.toInt ≤ 3 := h1
              have xf17 : f17.toInt = 16 * x1.toInt := sg_exmul ef17 (iv_c 16 (a := 16) (b := 16) (by decide +kernel)) h1 (by decide +kernel) (by decide +kernel) rfl
              have bq118 : 0 ≤ z4_4.toInt ∧ z4_4.toInt ≤ 15 := (iv_lt (b' := 15) (iv_gt_of c7) hz4_4 hf6 (by decide +kernel))
              have xf18 : f18.toInt = f17.toInt + z4_4.toInt := sg_exadd ef18 (iv_mul (a' := 0) (b' := 48) ef17 (iv_c 16 (a := 16) (b := 16) (by decide +kernel)) h1 (by decide +kernel)) (iv_lt (b' := 15) (iv_gt_of c7) hz4_4 hf6 (by decide +kernel)) (by decide +kernel) rfl rfl
              have xf19 : f19.toInt = 4 * f18.toInt := sg_exmul ef19 (iv_c 4 (a := 4) (b := 4) (by decide +kernel)) (iv_add (a' := 0) (b' := 63) ef18 (iv_mul (a' := 0) (b' := 48) ef17 (iv_c 16 (a := 16) (b := 16) (by decide +kernel)) h1 (by decide +kernel)) (iv_lt (b' := 15) (iv_gt_of c7) hz4_4 hf6 (by decide +kernel)) (by decide +kernel)) (by decide +kernel) (by decide +kernel) rfl
              have hG : sgG (KT (sgAt P (sgN P + 16))) D vwCl _ tys ad ks _ := sg_moreN (P := (sgAt P n4)) (show n4 ≤ (sgN P + 16) from by have jb4 := hz4_4.1; have jc4 := hz4_4.2; have jd4 : iv 0 15 z4_4 := (iv_lt (b' := 15) (iv_gt_of c7) hz4_4 hf6 (by decide +kernel)); have je4 := jd4.2; omega) hG
              exact sg_zret2 X hr (sg_zn (iv_of (iv_c 0 (a := 0) (b := 0) (by decide +kernel)) (a' := 0) (b' := 1) (by decide +kernel))) hlk hS (iv_of (iv_c 0 (a := 0) (b := 0) (by decide +kernel)) (a' := 0) (b' := 1) (by decide +kernel)) (fun t ht hW => sg_post hb hK hC hG hS ht hW) dX12_comesTo_92
  have cq119 : (0 : Int32).toInt = 0 := by decide +kernel
  have ms0 : sg_ms (sgG0 P) x1.toInt.toNat (0 : Int32).toInt.toNat = 0 := by rw [show (0 : Int32).toInt.toNat = 0 from by decide +kernel]; rfl
  have cq120 : (0 : Int32).toInt = 0 := by decide +kernel
  exact B4_16 _ H _ _ 0 0 (sgN P) (by omega) (by omega) hG hS (lv_sub hl [2, 3, 4, 1, 0] rfl) (iv_of (iv_c 0 (a := 0) (b := 0) (by decide +kernel)) (a' := 0) (b' := 16) (by decide +kernel)) (iv_of (iv_c 0 (a := 0) (b := 0) (by decide +kernel)) (a' := 0) (b' := 16) (by decide +kernel)) (by omega) (Nat.le_refl _)

theorem ca_X12_comesTo_1   (X : CallFix p m c cc nL s args sg_tbl own) (hK : va_K D vwCl tys s) (hG : sgG (KT P) D vwCl (fun q : Nat => base ≤ q) tys ad ks H) (hC : sgC base s) (hS : va_S (fun q : Nat => base ≤ q) s.heap H locs) (hb : base ≤ s.heap.size) (hp4 : P.2.2.2.2.1 = true) (a0 : Nat) (h0 : isK ad ks 12 a0) (x1 : Int32) (h1 : iv 0 3 x1) (x2 : Int32) (hN : sgN P + 16 ≤ 1000000000) (hms : sg_ms (sgG0 P) x1.toInt.toNat (sgGl P x1.toInt.toNat).val ≤ 3) (hl : Cond.methodLink own index yX12_comesTo ∈ sg_tbl) (hsize : ls.size = nL) (hst : st0 = [.int x1, .int x2].reverse ++ .ref a0 :: rest) (hW : (rest.map fun v => v.category).sum ≤ 8) (hR : 38 ≤ R.frames ∧ 892 ≤ R.locals) (hf : cells ≤ R.cells ∧ slots ≤ R.slots) (hdg : decode cc pc = .ok (.invokevirtual index, 3)) (kk : ∀ (r : Int32) (t : State) (H1 : Heap) (locs1 : List Loc), t.heap = H1 → (fun r : Int32 => iv 0 1 r) r → (sgB (KT (sgAt P (sgN P + 16))) D vwCl base tys ad ks t) → va_S (fun q : Nat => base ≤ q) s.heap H1 locs1 → W p l e R s m args below meth c H1 locs1 cells slots Q (F0 m (pc + 3) ls (.int r :: rest))) : W p l e R s m args below meth c H locs cells slots Q (F0 m pc ls st0) :=
  sg_callV2i X hK hG hC hS hb (m_X12_comesTo_1 l hp4 a0 h0 x1 h1 x2 hN hms) h0 (k := 12) (ci := 12) rfl (C := RX12) (T := TX12) (N := 53) rfl wl_8_234 wl_1_13 wl_8_233 wl_0_96 (n := 2) (by decide +kernel) rfl rfl rfl hl hsize hst hW hR hf hdg kk
end
