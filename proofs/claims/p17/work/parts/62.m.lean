abbrev cX12_missing : ByteArray := prog_14_method_85_code
def yX12_missing : MethodName := ⟨RX12, "missing", "(III)I"⟩
theorem dX12_missing_0 : decode cX12_missing 0 = .ok (.aload_n 0, 1) := by decide +kernel
theorem dX12_missing_1 : decode cX12_missing 1 = .ok (.iconst 0, 1) := by decide +kernel
theorem dX12_missing_2 : decode cX12_missing 2 = .ok (.putfield 94, 3) := by decide +kernel
theorem dX12_missing_5 : decode cX12_missing 5 = .ok (.aload_n 0, 1) := by decide +kernel
theorem dX12_missing_6 : decode cX12_missing 6 = .ok (.iload_n 1, 1) := by decide +kernel
theorem dX12_missing_7 : decode cX12_missing 7 = .ok (.invokevirtual 440, 3) := by decide +kernel
theorem dX12_missing_10 : decode cX12_missing 10 = .ok (.ifCond .eq 29, 3) := by decide +kernel
theorem dX12_missing_13 : decode cX12_missing 13 = .ok (.aload_n 0, 1) := by decide +kernel
theorem dX12_missing_14 : decode cX12_missing 14 = .ok (.getfield 302, 3) := by decide +kernel
theorem dX12_missing_17 : decode cX12_missing 17 = .ok (.ifCond .eq 22, 3) := by decide +kernel
theorem dX12_missing_39 : decode cX12_missing 39 = .ok (.iconst (-1), 1) := by decide +kernel
theorem dX12_missing_40 : decode cX12_missing 40 = .ok (.ireturn, 1) := by decide +kernel
theorem dX12_odds_12 : decode cX12_odds 12 = .ok (.iload_n 1, 1) := by decide +kernel
theorem dX12_odds_13 : decode cX12_odds 13 = .ok (.i2l, 1) := by decide +kernel
theorem dX12_odds_14 : decode cX12_odds 14 = .ok (.lconst 0, 1) := by decide +kernel
theorem dX12_odds_15 : decode cX12_odds 15 = .ok (.ldc2_w 437, 3) := by decide +kernel
theorem dX12_odds_18 : decode cX12_odds 18 = .ok (.invokestatic 215, 3) := by decide +kernel
theorem dX12_odds_21 : decode cX12_odds 21 = .ok (.ifCond .eq 15, 3) := by decide +kernel
theorem dX12_odds_24 : decode cX12_odds 24 = .ok (.iload_n 2, 1) := by decide +kernel
theorem dX12_odds_25 : decode cX12_odds 25 = .ok (.i2l, 1) := by decide +kernel
theorem dX12_odds_26 : decode cX12_odds 26 = .ok (.lconst 0, 1) := by decide +kernel
theorem dX12_odds_27 : decode cX12_odds 27 = .ok (.ldc2_w 535, 3) := by decide +kernel
theorem dX12_odds_30 : decode cX12_odds 30 = .ok (.invokestatic 215, 3) := by decide +kernel
theorem dX12_odds_33 : decode cX12_odds 33 = .ok (.ifCond .ne 5, 3) := by decide +kernel
theorem dX12_odds_38 : decode cX12_odds 38 = .ok (.aload_n 0, 1) := by decide +kernel
theorem dX12_odds_39 : decode cX12_odds 39 = .ok (.getfield 52, 3) := by decide +kernel
theorem dX12_odds_42 : decode cX12_odds 42 = .ok (.iconst 3, 1) := by decide +kernel
theorem dX12_odds_43 : decode cX12_odds 43 = .ok (.iaload, 1) := by decide +kernel
theorem dX12_odds_44 : decode cX12_odds 44 = .ok (.iconst 1, 1) := by decide +kernel
theorem dX12_odds_45 : decode cX12_odds 45 = .ok (.if_icmp .ne 7, 3) := by decide +kernel
theorem dX12_odds_48 : decode cX12_odds 48 = .ok (.ldc_w 540, 3) := by decide +kernel
theorem dX12_odds_51 : decode cX12_odds 51 = .ok (.ireturn, 1) := by decide +kernel
theorem dX12_odds_52 : decode cX12_odds 52 = .ok (.aload_n 0, 1) := by decide +kernel
theorem dX12_odds_53 : decode cX12_odds 53 = .ok (.aload_n 0, 1) := by decide +kernel
theorem dX12_odds_54 : decode cX12_odds 54 = .ok (.getfield 52, 3) := by decide +kernel
theorem dX12_odds_57 : decode cX12_odds 57 = .ok (.iconst 0, 1) := by decide +kernel
theorem dX12_odds_58 : decode cX12_odds 58 = .ok (.iaload, 1) := by decide +kernel
theorem dX12_odds_59 : decode cX12_odds 59 = .ok (.iconst 0, 1) := by decide +kernel
theorem dX12_odds_60 : decode cX12_odds 60 = .ok (.iload_n 1, 1) := by decide +kernel
theorem dX12_odds_61 : decode cX12_odds 61 = .ok (.iload_n 2, 1) := by decide +kernel
theorem dX12_odds_62 : decode cX12_odds 62 = .ok (.ldc2_w 541, 3) := by decide +kernel
theorem dX12_odds_65 : decode cX12_odds 65 = .ok (.invokevirtual 531, 3) := by decide +kernel
theorem dX12_odds_68 : decode cX12_odds 68 = .ok (.l2i, 1) := by decide +kernel
theorem dX12_odds_69 : decode cX12_odds 69 = .ok (.ireturn, 1) := by decide +kernel
theorem wl_9_129 : (.constant RX12 540 (1000000000) : Cond) ∈ sg_tbl := tb_9 _ (List.mem_of_getElem? (i := 129) (by decide +kernel)) (by decide +kernel)
theorem wl_9_130 : (.constantLong RX12 541 (1000000000) : Cond) ∈ sg_tbl := tb_9 _ (List.mem_of_getElem? (i := 130) (by decide +kernel)) (by decide +kernel)
theorem wl_8_230 : (.code yX12_missing cX12_missing 11 (some .int) : Cond) ∈ sg_tbl := tb_8 _ (List.mem_of_getElem? (i := 230) (by decide +kernel)) (by decide +kernel)
theorem wl_8_228 : (.instanceMethod yX12_missing : Cond) ∈ sg_tbl := tb_8 _ (List.mem_of_getElem? (i := 228) (by decide +kernel)) (by decide +kernel)
theorem wl_8_229 : (.selects RX12 yX12_missing yX12_missing : Cond) ∈ sg_tbl := tb_8 _ (List.mem_of_getElem? (i := 229) (by decide +kernel)) (by decide +kernel)
section
variable {p : Program} {l : Launch} {e : Env} {R : Room} {s : State} {m : MethodId} {args : Array Value} {below : List Frame} {meth : Method} {c : Code} {H : Heap} {locs : List Loc} {cells slots : Nat} {Q : State → Prop} {cc : ByteArray} {nL pc : Nat} {ls : Array Slot} {rest : List Value} {own : String} {D : va_G} {A : Nat → Prop} {tys : List (ClassId × FieldType)} {ad ks : List Nat} {P : sgPm} {H0 : Heap} {index : Nat} {base : Nat} {st0 : List Value} {a : Nat}

set_option maxHeartbeats 8000000 in
set_option maxRecDepth 100000 in
theorem m_X12_goOdds_1_0 (l : Launch) {D : va_G} {base : Nat} {tys : List (ClassId × FieldType)} {ad ks : List Nat} {P : sgPm} (hp4 : P.2.2.2.2.1 = true) (a0 : Nat) (h0 : isK ad ks 12 a0) (x1 : Int32) (x2 : Int32) (h2 : iv 0 0 x2) (x3 : Int32) (h3 : iv 0 3 x3) (x4 : Int32) (x5 : Int64) : sgMl l (KT P) D vwCl base tys ad ks yX12_goOdds cX12_goOdds 21 (some .long) ({ frames := 37, cells := 0, slots := 0, locals := 899 }) [.ref a0, .int x1, .int x2, .int x3, .int x4, .long x5] (fun _ : Int64 => True) := by
  refine sg_ofW (by decide +kernel) (Nat.le_of_ble_eq_true rfl) (fun p e s m below meth c X hr hlk hb hK hC hG ls hl => ?_)
  have hS : va_S (fun q : Nat => base ≤ q) s.heap s.heap [] := va_S.rf
  have hl : lv_has ls 21 [(0, .ref a0), (1, .int x1), (2, .int x2), (3, .int x3), (4, .int x4), (5, .long x5)] := hl
  refine lv_iload_n X.1 X.2.1 dX12_goOdds_0 rfl (lv_at hl 2 rfl) ?_
  refine lv_iload_n X.1 X.2.1 dX12_goOdds_1 rfl (lv_at hl 3 rfl) ?_
  refine lv_icmp_eq (tgt := 12) X.1 X.2.1 dX12_goOdds_2 (by decide) (fun c1 => ?_) (fun c1 => ?_)
  · refine lv_lconst (v := 0) X.1 X.2.1 dX12_goOdds_12 (by decide +kernel) ?_
    exact sg_lret X hr hlk hb hK hC hG hS trivial dX12_goOdds_13
  · refine lv_lload X.1 X.2.1 dX12_goOdds_5 (lv_at hl 5 rfl) ?_
    refine lv_lconst (v := 0) X.1 X.2.1 dX12_goOdds_7 (by decide +kernel) ?_
    refine W.lcmp X.1 X.2.1 dX12_goOdds_8 ?_
    refine lv_topi (fun f2 ef2 => ?_)
    refine lv_if_ne (tgt := 14) X.1 X.2.1 dX12_goOdds_9 (by decide) (fun c3 => ?_) (fun c3 => ?_)
    · refine lv_aload_n X.1 X.2.1 dX12_goOdds_14 rfl (lv_at hl 0 rfl) ?_
      refine lv_iload_n X.1 X.2.1 dX12_goOdds_15 rfl (lv_at hl 1 rfl) ?_
      refine lv_aload_n X.1 X.2.1 dX12_goOdds_16 rfl (lv_at hl 0 rfl) ?_
      refine gf_X12_32 X hK hG h0 wl_6_210 dX12_goOdds_17 (fun q4 hq4 kq4 => ?_)
      refine lv_iconst (v := 1) X.1 X.2.1 dX12_goOdds_20 (by decide +kernel) ?_
      refine al_54 X hK hG hq4 (iv_vpin (iv_c 1 (a := 1) (b := 1) (by decide +kernel)) (by decide +kernel)) dX12_goOdds_21 (fun f5 hf5 => ?_)
      have hf5 := sg_nw_now hf5
      have of5 := hf5
      have hf5 : iv (-2147483648) 2147483647 f5 := sg_sp_now hf5 (iv_c 1 (a := 1) (b := 1) (by decide +kernel)) (by decide +kernel) rfl
      refine lv_aload_n X.1 X.2.1 dX12_goOdds_22 rfl (lv_at hl 0 rfl) ?_
      refine gg_X12_32 X hK hG h0 wl_6_210 kq4 dX12_goOdds_23 ?_
      refine lv_iconst (v := 4) X.1 X.2.1 dX12_goOdds_26 (by decide +kernel) ?_
      refine al_54 X hK hG hq4 (iv_vpin (iv_c 4 (a := 4) (b := 4) (by decide +kernel)) (by decide +kernel)) dX12_goOdds_27 (fun f6 hf6 => ?_)
      have hf6 := sg_nw_now hf6
      have of6 := hf6
      have hf6 : iv 0 1000000000 f6 := sg_day hf6 (iv_c 4 (a := 4) (b := 4) (by decide +kernel))
      refine lv_iload_n X.1 X.2.1 dX12_goOdds_28 rfl (lv_at hl 2 rfl) ?_
      refine lv_iadd X.1 X.2.1 dX12_goOdds_29 ?_
      refine lv_topi (fun f7 ef7 => ?_)
      refine ca_X12_freeIn_1 X hK hG hC hS hb hp4 a0 h0 x1 f5 f7 (iv_of (iv_add (a' := 0) (b' := 1000000000) ef7 hf6 h2 (by decide +kernel)) (a' := 0) (b' := 2147483647) (by decide +kernel)) wl_8_162 hl.1 (rest := []) rfl (Nat.le_of_ble_eq_true rfl) ⟨Nat.le_of_ble_eq_true rfl, Nat.le_of_ble_eq_true rfl⟩ ⟨Nat.le_of_ble_eq_true rfl, Nat.le_of_ble_eq_true rfl⟩ dX12_goOdds_30 (fun f8 H locs hf8 hG hS => ?_)
      refine lv_istore (lv' := [(7, .int f8), (0, .ref a0), (1, .int x1), (2, .int x2), (3, .int x3), (4, .int x4), (5, .long x5)]) X.1 X.2.1 dX12_goOdds_33 hl (by decide) rfl (fun ls hl => ?_)
      refine lv_iload X.1 X.2.1 dX12_goOdds_35 (lv_at hl 0 rfl) ?_
      refine lv_if_ne (tgt := 54) X.1 X.2.1 dX12_goOdds_37 (by decide) (fun c9 => ?_) (fun c9 => ?_)
      · refine lv_lload X.1 X.2.1 dX12_goOdds_54 (lv_at hl 6 rfl) ?_
        refine lv_iload X.1 X.2.1 dX12_goOdds_56 (lv_at hl 5 rfl) ?_
        obtain ⟨g10, eg10⟩ : ∃ y : Int64, y = (x4 : Int32).toInt64 := ⟨_, rfl⟩
        refine lv_i2l (v := g10) X.1 X.2.1 dX12_goOdds_58 eg10.symm ?_
        refine lv_lmul X.1 X.2.1 dX12_goOdds_59 ?_
        refine lv_topl (fun g11 eg11 => ?_)
        refine lv_ldc2 X.1 X.2.1 X.2.2.2.1 (X.2.2.2.2 _ wl_9_128) dX12_goOdds_60 ?_
        refine lv_ldiv X.1 X.2.1 dX12_goOdds_63 (by decide +kernel) ?_
        refine lv_topl (fun g12 eg12 => ?_)
        refine lv_lstore (lv' := [(8, .long g12), (7, .int f8), (0, .ref a0), (1, .int x1), (2, .int x2), (3, .int x3), (4, .int x4), (5, .long x5)]) X.1 X.2.1 dX12_goOdds_64 hl (by decide) rfl (fun ls hl => ?_)
        refine lv_aload_n X.1 X.2.1 dX12_goOdds_66 rfl (lv_at hl 2 rfl) ?_
        refine lv_iload_n X.1 X.2.1 dX12_goOdds_67 rfl (lv_at hl 3 rfl) ?_
        refine lv_iload_n X.1 X.2.1 dX12_goOdds_68 rfl (lv_at hl 4 rfl) ?_
        refine lv_iconst (v := 1) X.1 X.2.1 dX12_goOdds_69 (by decide +kernel) ?_
        refine lv_iadd X.1 X.2.1 dX12_goOdds_70 ?_
        refine lv_topi (fun f13 ef13 => ?_)
        refine lv_iload_n X.1 X.2.1 dX12_goOdds_71 rfl (lv_at hl 5 rfl) ?_
        refine lv_iload X.1 X.2.1 dX12_goOdds_72 (lv_at hl 6 rfl) ?_
        refine lv_lload X.1 X.2.1 dX12_goOdds_74 (lv_at hl 0 rfl) ?_
        refine ca_X12_goOdds_1_1 X hK hG hC hS hb hp4 a0 h0 x1 f13 (iv_add (a' := 1) (b' := 1) ef13 h2 (iv_c 1 (a := 1) (b := 1) (by decide +kernel)) (by decide +kernel)) x3 (iv_ne_lo2 c1 h2 h3) x4 g12 wl_9_131 hl.1 (rest := []) rfl (Nat.le_of_ble_eq_true rfl) ⟨Nat.le_of_ble_eq_true rfl, Nat.le_of_ble_eq_true rfl⟩ ⟨Nat.le_of_ble_eq_true rfl, Nat.le_of_ble_eq_true rfl⟩ dX12_goOdds_76 (fun g14 H locs hg14 hG hS => ?_)
        refine lv_lstore (lv' := [(10, .long g14), (8, .long g12), (7, .int f8), (0, .ref a0), (1, .int x1), (2, .int x2), (3, .int x3), (4, .int x4), (5, .long x5)]) X.1 X.2.1 dX12_goOdds_79 hl (by decide) rfl (fun ls hl => ?_)
        refine lv_lload X.1 X.2.1 dX12_goOdds_81 (lv_at hl 8 rfl) ?_
        refine lv_lload X.1 X.2.1 dX12_goOdds_83 (lv_at hl 1 rfl) ?_
        refine lv_lsub X.1 X.2.1 dX12_goOdds_85 ?_
        refine lv_topl (fun g15 eg15 => ?_)
        refine lv_lstore (lv' := [(12, .long g15), (10, .long g14), (8, .long g12), (7, .int f8), (0, .ref a0), (1, .int x1), (2, .int x2), (3, .int x3), (4, .int x4), (5, .long x5)]) X.1 X.2.1 dX12_goOdds_86 hl (by decide) rfl (fun ls hl => ?_)
        refine lv_lload X.1 X.2.1 dX12_goOdds_88 (lv_at hl 0 rfl) ?_
        refine lv_iload X.1 X.2.1 dX12_goOdds_90 (lv_at hl 3 rfl) ?_
        refine ca_J6_bitCount_0f7a4_p X hK hG hC (fun _ h => h) hS hb f8 wl_8_68 hl.1 (rest := [.long g15]) rfl (Nat.le_of_ble_eq_true rfl) ⟨Nat.le_of_ble_eq_true rfl, Nat.le_of_ble_eq_true rfl⟩ ⟨Nat.le_of_ble_eq_true rfl, Nat.le_of_ble_eq_true rfl⟩ dX12_goOdds_92 (fun f16 locs hf16 hS => ?_)
        obtain ⟨g17, eg17⟩ : ∃ y : Int64, y = (f16 : Int32).toInt64 := ⟨_, rfl⟩
        refine lv_i2l (v := g17) X.1 X.2.1 dX12_goOdds_95 eg17.symm ?_
        refine lv_ldiv X.1 X.2.1 dX12_goOdds_96 (sg_i2l_ne0 eg17 (iv_ne0 (sg_pcne hf16.2 c9 hf16.1) (by decide +kernel))) ?_
        refine lv_topl (fun g18 eg18 => ?_)
        refine lv_lstore (lv' := [(14, .long g18), (12, .long g15), (10, .long g14), (8, .long g12), (7, .int f8), (0, .ref a0), (1, .int x1), (2, .int x2), (3, .int x3), (4, .int x4), (5, .long x5)]) X.1 X.2.1 dX12_goOdds_97 hl (by decide) rfl (fun ls hl => ?_)
        refine lv_bipush (v := 31) X.1 X.2.1 dX12_goOdds_99 (by decide +kernel) ?_
        refine lv_iload X.1 X.2.1 dX12_goOdds_101 (lv_at hl 4 rfl) ?_
        refine ca_J6_numberOfLeadingZeros_0f7a4 X hK hG hC (fun _ h => h) hS hb f8 wl_9_135 hl.1 (rest := [.int 31]) rfl (Nat.le_of_ble_eq_true rfl) ⟨Nat.le_of_ble_eq_true rfl, Nat.le_of_ble_eq_true rfl⟩ ⟨Nat.le_of_ble_eq_true rfl, Nat.le_of_ble_eq_true rfl⟩ dX12_goOdds_103 (fun f19 locs hf19 hS => ?_)
        refine lv_isub X.1 X.2.1 dX12_goOdds_106 ?_
        refine lv_topi (fun f20 ef20 => ?_)
        refine lv_istore (lv' := [(16, .int f20), (14, .long g18), (12, .long g15), (10, .long g14), (8, .long g12), (7, .int f8), (0, .ref a0), (1, .int x1), (2, .int x2), (3, .int x3), (4, .int x4), (5, .long x5)]) X.1 X.2.1 dX12_goOdds_107 hl (by decide) rfl (fun ls hl => ?_)
        refine lv_iconst (v := 0) X.1 X.2.1 dX12_goOdds_109 (by decide +kernel) ?_
        refine lv_istore (lv' := [(17, .int 0), (16, .int f20), (14, .long g18), (12, .long g15), (10, .long g14), (8, .long g12), (7, .int f8), (0, .ref a0), (1, .int x1), (2, .int x2), (3, .int x3), (4, .int x4), (5, .long x5)]) X.1 X.2.1 dX12_goOdds_110 hl (by decide) rfl (fun ls hl => ?_)
        have B21_112 : ∀ (N : Nat) (H : Heap) (locs : List Loc) (ls : Array Slot) (z21_10 : Int64) (z21_12 : Int64) (z21_17 : Int32), sgG (KT P) D vwCl (fun q : Nat => base ≤ q) tys ad ks H → va_S (fun q : Nat => base ≤ q) s.heap H locs → lv_has ls 21 [(0, .ref a0), (1, .int x1), (2, .int x2), (3, .int x3), (4, .int x4), (7, .int f8), (10, .long z21_10), (12, .long z21_12), (14, .long g18), (16, .int f20), (17, .int z21_17)] → iv 0 30 z21_17 → (31 - z21_17.toInt).toNat ≤ N → W p l e (headSpec (Cond.code yX12_goOdds cX12_goOdds 21 (some .long) :: sg_tbl) ({ frames := 37, cells := 0, slots := 0, locals := 899 })).room s m #[.ref a0, .int x1, .int x2, .int x3, .int x4, .long x5] below meth c H locs 0 0 (MQ below (va_Ql (fun r (_ : Unit) => (fun _ : Int64 => True) r) (fun _ => sgB (KT P) D vwCl base tys ad ks) (fun q : Nat => base ≤ q)) #[.ref a0, .int x1, .int x2, .int x3, .int x4, .long x5] s 0 0 (fun q : Nat => base ≤ q)) (F0 m 112 ls []) := by
          intro N; induction N with
          | zero =>
            intro H locs ls z21_10 z21_12 z21_17 hG hS hl hz21_17 hN
            exact absurd hN (by have := iv_up hz21_17; omega)
          | succ N ih21 =>
            intro H locs ls z21_10 z21_12 z21_17 hG hS hl hz21_17 hN21
            refine lv_iload X.1 X.2.1 dX12_goOdds_112 (lv_at hl 10 rfl) ?_
            refine lv_aload_n X.1 X.2.1 dX12_goOdds_114 rfl (lv_at hl 0 rfl) ?_
            refine gf_X12_23s X hK hG h0 hp4 wl_6_201 dX12_goOdds_115 (fun f22 hf22 kf22 => ?_)
            refine lv_icmp_ge (tgt := 207) X.1 X.2.1 dX12_goOdds_118 (by decide) (fun c23 => ?_) (fun c23 => ?_)
            · refine lv_lload X.1 X.2.1 dX12_goOdds_207 (lv_at hl 6 rfl) ?_
              exact sg_lret X hr hlk hb hK hC hG hS trivial dX12_goOdds_209
            · refine lv_iload X.1 X.2.1 dX12_goOdds_121 (lv_at hl 5 rfl) ?_
              refine lv_iload X.1 X.2.1 dX12_goOdds_123 (lv_at hl 10 rfl) ?_
              refine ca_X12_has_h X hK hG hC (fun _ h => h) hS hb f8 z21_17 wl_7_174 hl.1 (rest := []) rfl (Nat.le_of_ble_eq_true rfl) ⟨Nat.le_of_ble_eq_true rfl, Nat.le_of_ble_eq_true rfl⟩ ⟨Nat.le_of_ble_eq_true rfl, Nat.le_of_ble_eq_true rfl⟩ dX12_goOdds_125 (fun f24 locs hf24 hS => ?_)
              have B26_201 : ∀ (H : Heap) (locs : List Loc) (ls : Array Slot) (z26_10 : Int64) (z26_12 : Int64), sgG (KT P) D vwCl (fun q : Nat => base ≤ q) tys ad ks H → va_S (fun q : Nat => base ≤ q) s.heap H locs → lv_has ls 21 [(0, .ref a0), (1, .int x1), (2, .int x2), (3, .int x3), (4, .int x4), (7, .int f8), (10, .long z26_10), (12, .long z26_12), (14, .long g18), (16, .int f20), (17, .int z21_17)] → W p l e (headSpec (Cond.code yX12_goOdds cX12_goOdds 21 (some .long) :: sg_tbl) ({ frames := 37, cells := 0, slots := 0, locals := 899 })).room s m #[.ref a0, .int x1, .int x2, .int x3, .int x4, .long x5] below meth c H locs 0 0 (MQ below (va_Ql (fun r (_ : Unit) => (fun _ : Int64 => True) r) (fun _ => sgB (KT P) D vwCl base tys ad ks) (fun q : Nat => base ≤ q)) #[.ref a0, .int x1, .int x2, .int x3, .int x4, .long x5] s 0 0 (fun q : Nat => base ≤ q)) (F0 m 201 ls []) := by
                intro H locs ls z26_10 z26_12 hG hS hl
                obtain ⟨y27, ey27⟩ : ∃ y : Int32, y = z21_17 + Int32.ofInt 1 := ⟨_, rfl⟩
                refine lv_iinc (v := y27) (lv' := [(17, .int y27), (0, .ref a0), (1, .int x1), (2, .int x2), (3, .int x3), (4, .int x4), (7, .int f8), (10, .long z26_10), (12, .long z26_12), (14, .long g18), (16, .int f20)]) X.1 X.2.1 dX12_goOdds_201 hl (k := 10) rfl ey27.symm (by decide) rfl (fun ls hl => ?_)
                refine lv_goto (tgt := 112) X.1 X.2.1 dX12_goOdds_204 (by decide) ?_
                exact ih21 H _ _ z26_10 z26_12 y27 hG hS (lv_sub hl [1, 2, 3, 4, 5, 6, 7, 8, 9, 10, 0] rfl) (iv_of (iv_add (a' := 1) (b' := 30) ey27 (iv_lt (b' := 29) (iv_gt_of c23) hz21_17 hf22 (by decide +kernel)) (iv_c _ (a := 1) (b := 1) (by decide +kernel)) (by decide +kernel)) (a' := 0) (b' := 30) (by decide +kernel)) (iv_stepU ey27 (iv_lt (b' := 29) (iv_gt_of c23) hz21_17 hf22 (by decide +kernel)) (by decide +kernel) hN21)
              refine lv_if_ne (tgt := 134) X.1 X.2.1 dX12_goOdds_128 (by decide) (fun c25 => ?_) (fun c25 => ?_)
              · have hsq28 : sgHas f8 z21_17 := sg_hast hf24.1 hf24.2 c25
                refine lv_iload X.1 X.2.1 dX12_goOdds_134 (lv_at hl 10 rfl) ?_
                refine lv_iload X.1 X.2.1 dX12_goOdds_136 (lv_at hl 9 rfl) ?_
                have B31_148 : ∀ (locs : List Loc) (ls : Array Slot) (w31_0 : Int64), va_S (fun q : Nat => base ≤ q) s.heap H locs → lv_has ls 21 [(0, .ref a0), (1, .int x1), (2, .int x2), (3, .int x3), (4, .int x4), (7, .int f8), (10, .long z21_10), (12, .long z21_12), (14, .long g18), (16, .int f20), (17, .int z21_17)] → W p l e (headSpec (Cond.code yX12_goOdds cX12_goOdds 21 (some .long) :: sg_tbl) ({ frames := 37, cells := 0, slots := 0, locals := 899 })).room s m #[.ref a0, .int x1, .int x2, .int x3, .int x4, .long x5] below meth c H locs 0 0 (MQ below (va_Ql (fun r (_ : Unit) => (fun _ : Int64 => True) r) (fun _ => sgB (KT P) D vwCl base tys ad ks) (fun q : Nat => base ≤ q)) #[.ref a0, .int x1, .int x2, .int x3, .int x4, .long x5] s 0 0 (fun q : Nat => base ≤ q)) (F0 m 148 ls [.long w31_0]) := by
                  intro locs ls w31_0 hS hl
                  refine lv_lstore (lv' := [(18, .long w31_0), (0, .ref a0), (1, .int x1), (2, .int x2), (3, .int x3), (4, .int x4), (7, .int f8), (10, .long z21_10), (12, .long z21_12), (14, .long g18), (16, .int f20), (17, .int z21_17)]) X.1 X.2.1 dX12_goOdds_148 hl (by decide) rfl (fun ls hl => ?_)
                  refine lv_lload X.1 X.2.1 dX12_goOdds_150 (lv_at hl 8 rfl) ?_
                  refine lv_lload X.1 X.2.1 dX12_goOdds_152 (lv_at hl 0 rfl) ?_
                  refine lv_lsub X.1 X.2.1 dX12_goOdds_154 ?_
                  refine lv_topl (fun g32 eg32 => ?_)
                  refine lv_lstore (lv' := [(12, .long g32), (18, .long w31_0), (0, .ref a0), (1, .int x1), (2, .int x2), (3, .int x3), (4, .int x4), (7, .int f8), (10, .long z21_10), (14, .long g18), (16, .int f20), (17, .int z21_17)]) X.1 X.2.1 dX12_goOdds_155 hl (by decide) rfl (fun ls hl => ?_)
                  refine lv_iload_n X.1 X.2.1 dX12_goOdds_157 rfl (lv_at hl 3 rfl) ?_
                  refine lv_iconst (v := 1) X.1 X.2.1 dX12_goOdds_158 (by decide +kernel) ?_
                  refine lv_iload X.1 X.2.1 dX12_goOdds_159 (lv_at hl 11 rfl) ?_
                  refine lv_ishl X.1 X.2.1 dX12_goOdds_161 ?_
                  refine lv_topi (fun f33 ef33 => ?_)
                  refine lv_ior X.1 X.2.1 dX12_goOdds_162 ?_
                  refine lv_topi (fun f34 ef34 => ?_)
                  refine lv_istore (lv' := [(20, .int f34), (12, .long g32), (18, .long w31_0), (0, .ref a0), (1, .int x1), (2, .int x2), (3, .int x3), (4, .int x4), (7, .int f8), (10, .long z21_10), (14, .long g18), (16, .int f20), (17, .int z21_17)]) X.1 X.2.1 dX12_goOdds_163 hl (by decide) rfl (fun ls hl => ?_)
                  refine lv_lload X.1 X.2.1 dX12_goOdds_165 (lv_at hl 9 rfl) ?_
                  refine lv_iload X.1 X.2.1 dX12_goOdds_167 (lv_at hl 0 rfl) ?_
                  refine lv_aload_n X.1 X.2.1 dX12_goOdds_169 rfl (lv_at hl 3 rfl) ?_
                  refine gf_X12_18 X hK hG h0 wl_6_196 dX12_goOdds_170 (fun q35 hq35 kq35 => ?_)
                  refine ca_X12_hasLine_1 X hK hG hC (fun _ h => h) hS hb hp4 f34 q35 hq35 wl_7_196 hl.1 (rest := [.long z21_10]) rfl (Nat.le_of_ble_eq_true rfl) ⟨Nat.le_of_ble_eq_true rfl, Nat.le_of_ble_eq_true rfl⟩ ⟨Nat.le_of_ble_eq_true rfl, Nat.le_of_ble_eq_true rfl⟩ dX12_goOdds_173 (fun f36 locs hf36 hS => ?_)
                  have B38_198 : ∀ (H : Heap) (locs : List Loc) (ls : Array Slot) (w38_0 : Int64), sgG (KT P) D vwCl (fun q : Nat => base ≤ q) tys ad ks H → va_S (fun q : Nat => base ≤ q) s.heap H locs → lv_has ls 21 [(0, .ref a0), (1, .int x1), (2, .int x2), (3, .int x3), (4, .int x4), (7, .int f8), (12, .long g32), (14, .long g18), (16, .int f20), (17, .int z21_17)] → W p l e (headSpec (Cond.code yX12_goOdds cX12_goOdds 21 (some .long) :: sg_tbl) ({ frames := 37, cells := 0, slots := 0, locals := 899 })).room s m #[.ref a0, .int x1, .int x2, .int x3, .int x4, .long x5] below meth c H locs 0 0 (MQ below (va_Ql (fun r (_ : Unit) => (fun _ : Int64 => True) r) (fun _ => sgB (KT P) D vwCl base tys ad ks) (fun q : Nat => base ≤ q)) #[.ref a0, .int x1, .int x2, .int x3, .int x4, .long x5] s 0 0 (fun q : Nat => base ≤ q)) (F0 m 198 ls [.long w38_0, .long z21_10]) := by
                    intro H locs ls w38_0 hG hS hl
                    refine lv_ladd X.1 X.2.1 dX12_goOdds_198 ?_
                    refine lv_topl (fun g39 eg39 => ?_)
                    refine lv_lstore (lv' := [(10, .long g39), (0, .ref a0), (1, .int x1), (2, .int x2), (3, .int x3), (4, .int x4), (7, .int f8), (12, .long g32), (14, .long g18), (16, .int f20), (17, .int z21_17)]) X.1 X.2.1 dX12_goOdds_199 hl (by decide) rfl (fun ls hl => ?_)
                    exact B26_201 H _ _ g39 g32 hG hS (lv_sub hl [1, 2, 3, 4, 5, 6, 0, 7, 8, 9, 10] rfl)
                  refine lv_if_eq (tgt := 184) X.1 X.2.1 dX12_goOdds_176 (by decide) (fun c37 => ?_) (fun c37 => ?_)
                  · refine lv_aload_n X.1 X.2.1 dX12_goOdds_184 rfl (lv_at hl 3 rfl) ?_
                    refine lv_iload X.1 X.2.1 dX12_goOdds_185 (lv_at hl 0 rfl) ?_
                    refine lv_iload_n X.1 X.2.1 dX12_goOdds_187 rfl (lv_at hl 5 rfl) ?_
                    refine lv_iconst (v := 1) X.1 X.2.1 dX12_goOdds_188 (by decide +kernel) ?_
                    refine lv_iadd X.1 X.2.1 dX12_goOdds_189 ?_
                    refine lv_topi (fun f40 ef40 => ?_)
                    refine lv_iload_n X.1 X.2.1 dX12_goOdds_190 rfl (lv_at hl 6 rfl) ?_
                    refine lv_iload X.1 X.2.1 dX12_goOdds_191 (lv_at hl 7 rfl) ?_
                    refine lv_lload X.1 X.2.1 dX12_goOdds_193 (lv_at hl 2 rfl) ?_
                    refine ca_X12_goOdds_1_1 X hK hG hC hS hb hp4 a0 h0 f34 f40 (iv_add (a' := 1) (b' := 1) ef40 h2 (iv_c 1 (a := 1) (b := 1) (by decide +kernel)) (by decide +kernel)) x3 (iv_ne_lo2 c1 h2 h3) x4 w31_0 wl_9_131 hl.1 (rest := [.long z21_10]) rfl (Nat.le_of_ble_eq_true rfl) ⟨Nat.le_of_ble_eq_true rfl, Nat.le_of_ble_eq_true rfl⟩ ⟨Nat.le_of_ble_eq_true rfl, Nat.le_of_ble_eq_true rfl⟩ dX12_goOdds_195 (fun g41 H locs hg41 hG hS => ?_)
                    exact B38_198 H _ _ g41 hG hS (lv_sub hl [3, 4, 5, 6, 7, 8, 1, 10, 11, 12] rfl)
                  · refine lv_lload X.1 X.2.1 dX12_goOdds_179 (lv_at hl 2 rfl) ?_
                    refine lv_goto (tgt := 198) X.1 X.2.1 dX12_goOdds_181 (by decide) ?_
                    exact B38_198 H _ _ w31_0 hG hS (lv_sub hl [3, 4, 5, 6, 7, 8, 1, 10, 11, 12] rfl)
                refine lv_icmp_ne (tgt := 146) X.1 X.2.1 dX12_goOdds_138 (by decide) (fun c30 => ?_) (fun c30 => ?_)
                · refine lv_lload X.1 X.2.1 dX12_goOdds_146 (lv_at hl 8 rfl) ?_
                  exact B31_148 _ _ g18 hS (lv_sub hl [0, 1, 2, 3, 4, 5, 6, 7, 8, 9, 10] rfl)
                · refine lv_lload X.1 X.2.1 dX12_goOdds_141 (lv_at hl 7 rfl) ?_
                  refine lv_goto (tgt := 148) X.1 X.2.1 dX12_goOdds_143 (by decide) ?_
                  exact B31_148 _ _ z21_12 hS (lv_sub hl [0, 1, 2, 3, 4, 5, 6, 7, 8, 9, 10] rfl)
              · have hsq29 : ¬ sgHas f8 z21_17 := sg_hasf hf24.1 hf24.2 c25
                refine lv_goto (tgt := 201) X.1 X.2.1 dX12_goOdds_131 (by decide) ?_
                exact B26_201 H _ _ z21_10 z21_12 hG hS (lv_sub hl [0, 1, 2, 3, 4, 5, 6, 7, 8, 9, 10] rfl)
        exact B21_112 _ H _ _ g14 g15 0 hG hS (lv_sub hl [7, 8, 9, 10, 11, 6, 4, 3, 2, 1, 0] rfl) (iv_of (iv_c 0 (a := 0) (b := 0) (by decide +kernel)) (a' := 0) (b' := 30) (by decide +kernel)) (Nat.le_refl _)
      · refine lv_aload_n X.1 X.2.1 dX12_goOdds_40 rfl (lv_at hl 1 rfl) ?_
        refine lv_iload_n X.1 X.2.1 dX12_goOdds_41 rfl (lv_at hl 2 rfl) ?_
        refine lv_iload_n X.1 X.2.1 dX12_goOdds_42 rfl (lv_at hl 3 rfl) ?_
        refine lv_iconst (v := 1) X.1 X.2.1 dX12_goOdds_43 (by decide +kernel) ?_
        refine lv_iadd X.1 X.2.1 dX12_goOdds_44 ?_
        refine lv_topi (fun f42 ef42 => ?_)
        refine lv_iload_n X.1 X.2.1 dX12_goOdds_45 rfl (lv_at hl 4 rfl) ?_
        refine lv_iload X.1 X.2.1 dX12_goOdds_46 (lv_at hl 5 rfl) ?_
        refine lv_lload X.1 X.2.1 dX12_goOdds_48 (lv_at hl 6 rfl) ?_
        refine ca_X12_goOdds_1_1 X hK hG hC hS hb hp4 a0 h0 x1 f42 (iv_add (a' := 1) (b' := 1) ef42 h2 (iv_c 1 (a := 1) (b := 1) (by decide +kernel)) (by decide +kernel)) x3 (iv_ne_lo2 c1 h2 h3) x4 x5 wl_9_131 hl.1 (rest := []) rfl (Nat.le_of_ble_eq_true rfl) ⟨Nat.le_of_ble_eq_true rfl, Nat.le_of_ble_eq_true rfl⟩ ⟨Nat.le_of_ble_eq_true rfl, Nat.le_of_ble_eq_true rfl⟩ dX12_goOdds_50 (fun g43 H locs hg43 hG hS => ?_)
        exact sg_lret X hr hlk hb hK hC hG hS trivial dX12_goOdds_53
    · refine lv_lconst (v := 0) X.1 X.2.1 dX12_goOdds_12 (by decide +kernel) ?_
      exact sg_lret X hr hlk hb hK hC hG hS trivial dX12_goOdds_13

theorem ca_X12_goOdds_1_0   (X : CallFix p m c cc nL s args sg_tbl own) (hK : va_K D vwCl tys s) (hG : sgG (KT P) D vwCl (fun q : Nat => base ≤ q) tys ad ks H) (hC : sgC base s) (hS : va_S (fun q : Nat => base ≤ q) s.heap H locs) (hb : base ≤ s.heap.size) (hp4 : P.2.2.2.2.1 = true) (a0 : Nat) (h0 : isK ad ks 12 a0) (x1 : Int32) (x2 : Int32) (h2 : iv 0 0 x2) (x3 : Int32) (h3 : iv 0 3 x3) (x4 : Int32) (x5 : Int64) (hl : Cond.methodLink own index yX12_goOdds ∈ sg_tbl) (hsize : ls.size = nL) (hst : st0 = [.int x1, .int x2, .int x3, .int x4, .long x5].reverse ++ .ref a0 :: rest) (hW : (rest.map fun v => v.category).sum ≤ 8) (hR : 38 ≤ R.frames ∧ 939 ≤ R.locals) (hf : cells ≤ R.cells ∧ slots ≤ R.slots) (hdg : decode cc pc = .ok (.invokevirtual index, 3)) (kk : ∀ (r : Int64) (H1 : Heap) (locs1 : List Loc), (fun _ : Int64 => True) r → sgG (KT P) D vwCl (fun q : Nat => base ≤ q) tys ad ks H1 → va_S (fun q : Nat => base ≤ q) s.heap H1 locs1 → W p l e R s m args below meth c H1 locs1 cells slots Q (F0 m (pc + 3) ls (.long r :: rest))) : W p l e R s m args below meth c H locs cells slots Q (F0 m pc ls st0) :=
  sg_callVl X hK hG hC hS hb (m_X12_goOdds_1_0 l hp4 a0 h0 x1 x2 h2 x3 h3 x4 x5) h0 (k := 12) (ci := 12) rfl (C := RX12) (T := TX12) (N := 53) rfl wl_9_134 wl_1_13 wl_9_133 wl_0_113 (n := 5) (by decide +kernel) rfl rfl rfl hl hsize hst hW hR hf hdg kk

set_option maxHeartbeats 8000000 in
set_option maxRecDepth 100000 in
theorem m_X12_odds_1 (l : Launch) {D : va_G} {base : Nat} {tys : List (ClassId × FieldType)} {ad ks : List Nat} {P : sgPm} (hp4 : P.2.2.2.2.1 = true) (a0 : Nat) (h0 : isK ad ks 12 a0) (x1 : Int32) (x2 : Int32) : sgMi l (KT P) D vwCl base tys ad ks yX12_odds cX12_odds 3 (some .int) ({ frames := 38, cells := 0, slots := 0, locals := 939 }) [.ref a0, .int x1, .int x2] (fun r : Int32 => True) := by
  refine sg_ofW (by decide +kernel) (Nat.le_of_ble_eq_true rfl) (fun p e s m below meth c X hr hlk hb hK hC hG ls hl => ?_)
  have hS : va_S (fun q : Nat => base ≤ q) s.heap s.heap [] := va_S.rf
  have hl : lv_has ls 3 [(0, .ref a0), (1, .int x1), (2, .int x2)] := hl
  refine lv_aload_n X.1 X.2.1 dX12_odds_0 rfl (lv_at hl 0 rfl) ?_
  refine lv_iconst (v := 0) X.1 X.2.1 dX12_odds_1 (by decide +kernel) ?_
  refine pf_X12_0 X hK hG hS h0 wl_6_178 ⟨_, rfl, (iv_top _)⟩ dX12_odds_2 (fun H locs hG hS ku1 ru1 => ?_)
  refine lv_aload_n X.1 X.2.1 dX12_odds_5 rfl (lv_at hl 0 rfl) ?_
  refine gf_X12_23s X hK hG h0 hp4 wl_6_201 dX12_odds_6 (fun f2 hf2 kf2 => ?_)
  refine lv_if_eq (tgt := 36) X.1 X.2.1 dX12_odds_9 (by decide) (fun c3 => ?_) (fun c3 => ?_)
  · exact ((iv_no (a := 1) (b := 0) (iv_eqm c3 hf2 (iv_c 0 (a := 0) (b := 0) (by decide +kernel)) (by decide +kernel)) (by decide +kernel))).elim
  · refine lv_iload_n X.1 X.2.1 dX12_odds_12 rfl (lv_at hl 1 rfl) ?_
    obtain ⟨g4, eg4⟩ : ∃ y : Int64, y = (x1 : Int32).toInt64 := ⟨_, rfl⟩
    refine lv_i2l (v := g4) X.1 X.2.1 dX12_odds_13 eg4.symm ?_
    refine lv_lconst (v := 0) X.1 X.2.1 dX12_odds_14 (by decide +kernel) ?_
    refine lv_ldc2 X.1 X.2.1 X.2.2.2.1 (X.2.2.2.2 _ wl_8_189) dX12_odds_15 ?_
    refine ca_X12_isIn X hK hG hC (fun _ h => h) hS hb g4 0 3 wl_7_119 hl.1 (rest := []) rfl (Nat.le_of_ble_eq_true rfl) ⟨Nat.le_of_ble_eq_true rfl, Nat.le_of_ble_eq_true rfl⟩ ⟨Nat.le_of_ble_eq_true rfl, Nat.le_of_ble_eq_true rfl⟩ dX12_odds_18 (fun f5 locs hf5 hS => ?_)
    refine lv_if_eq (tgt := 36) X.1 X.2.1 dX12_odds_21 (by decide) (fun c6 => ?_) (fun c6 => ?_)
    · refine lv_iconst (v := (-1)) X.1 X.2.1 dX12_odds_36 (by decide +kernel) ?_
      exact sg_iret X hr hlk hb hK hC hG hS trivial dX12_odds_37
    · refine lv_iload_n X.1 X.2.1 dX12_odds_24 rfl (lv_at hl 2 rfl) ?_
      obtain ⟨g7, eg7⟩ : ∃ y : Int64, y = (x2 : Int32).toInt64 := ⟨_, rfl⟩
      refine lv_i2l (v := g7) X.1 X.2.1 dX12_odds_25 eg7.symm ?_
      refine lv_lconst (v := 0) X.1 X.2.1 dX12_odds_26 (by decide +kernel) ?_
      refine lv_ldc2 X.1 X.2.1 X.2.2.2.1 (X.2.2.2.2 _ wl_9_128) dX12_odds_27 ?_
      refine ca_X12_isIn X hK hG hC (fun _ h => h) hS hb g7 0 100 wl_7_119 hl.1 (rest := []) rfl (Nat.le_of_ble_eq_true rfl) ⟨Nat.le_of_ble_eq_true rfl, Nat.le_of_ble_eq_true rfl⟩ ⟨Nat.le_of_ble_eq_true rfl, Nat.le_of_ble_eq_true rfl⟩ dX12_odds_30 (fun f8 locs hf8 hS => ?_)
      refine lv_if_ne (tgt := 38) X.1 X.2.1 dX12_odds_33 (by decide) (fun c9 => ?_) (fun c9 => ?_)
      · refine lv_aload_n X.1 X.2.1 dX12_odds_38 rfl (lv_at hl 0 rfl) ?_
        refine gf_X12_32 X hK hG h0 wl_6_210 dX12_odds_39 (fun q10 hq10 kq10 => ?_)
        refine lv_iconst (v := 3) X.1 X.2.1 dX12_odds_42 (by decide +kernel) ?_
        refine al_54 X hK hG hq10 (iv_vpin (iv_c 3 (a := 3) (b := 3) (by decide +kernel)) (by decide +kernel)) dX12_odds_43 (fun f11 hf11 => ?_)
        have hf11 := sg_nw_now hf11
        have of11 := hf11
        have hf11 : iv (-2147483648) 2147483647 f11 := sg_sp_now hf11 (iv_c 3 (a := 3) (b := 3) (by decide +kernel)) (by decide +kernel) rfl
        refine lv_iconst (v := 1) X.1 X.2.1 dX12_odds_44 (by decide +kernel) ?_
        refine lv_icmp_ne (tgt := 52) X.1 X.2.1 dX12_odds_45 (by decide) (fun c12 => ?_) (fun c12 => ?_)
        · refine lv_aload_n X.1 X.2.1 dX12_odds_52 rfl (lv_at hl 0 rfl) ?_
          refine lv_aload_n X.1 X.2.1 dX12_odds_53 rfl (lv_at hl 0 rfl) ?_
          refine gg_X12_32 X hK hG h0 wl_6_210 kq10 dX12_odds_54 ?_
          refine lv_iconst (v := 0) X.1 X.2.1 dX12_odds_57 (by decide +kernel) ?_
          refine al_54 X hK hG hq10 (iv_vpin (iv_c 0 (a := 0) (b := 0) (by decide +kernel)) (by decide +kernel)) dX12_odds_58 (fun f13 hf13 => ?_)
          have hf13 := sg_nw_now hf13
          have of13 := hf13
          have hf13 : iv (-2147483648) 2147483647 f13 := sg_sp_now hf13 (iv_c 0 (a := 0) (b := 0) (by decide +kernel)) (by decide +kernel) rfl
          refine lv_iconst (v := 0) X.1 X.2.1 dX12_odds_59 (by decide +kernel) ?_
          refine lv_iload_n X.1 X.2.1 dX12_odds_60 rfl (lv_at hl 1 rfl) ?_
          refine lv_iload_n X.1 X.2.1 dX12_odds_61 rfl (lv_at hl 2 rfl) ?_
          refine lv_ldc2 X.1 X.2.1 X.2.2.2.1 (X.2.2.2.2 _ wl_9_130) dX12_odds_62 ?_
          refine ca_X12_goOdds_1_0 X hK hG hC hS hb hp4 a0 h0 f13 0 (iv_c 0 (a := 0) (b := 0) (by decide +kernel)) x1 (sg_isin (a := 0) (b := 3) (hf5.2 c6) eg4 (by decide +kernel) (by decide +kernel)) x2 1000000000 wl_9_131 hl.1 (rest := []) rfl (Nat.le_of_ble_eq_true rfl) ⟨Nat.le_of_ble_eq_true rfl, Nat.le_of_ble_eq_true rfl⟩ ⟨Nat.le_of_ble_eq_true rfl, Nat.le_of_ble_eq_true rfl⟩ dX12_odds_65 (fun g14 H locs hg14 hG hS => ?_)
          obtain ⟨f15, ef15⟩ : ∃ y : Int32, y = (g14 : Int64).toInt32 := ⟨_, rfl⟩
          refine lv_l2i (v := f15) X.1 X.2.1 dX12_odds_68 ef15.symm ?_
          exact sg_iret X hr hlk hb hK hC hG hS trivial dX12_odds_69
        · refine lv_ldcw X.1 X.2.1 X.2.2.2.1 (X.2.2.2.2 _ wl_9_129) dX12_odds_48 ?_
          exact sg_iret X hr hlk hb hK hC hG hS trivial dX12_odds_51
      · refine lv_iconst (v := (-1)) X.1 X.2.1 dX12_odds_36 (by decide +kernel) ?_
        exact sg_iret X hr hlk hb hK hC hG hS trivial dX12_odds_37

theorem ca_X12_odds_1   (X : CallFix p m c cc nL s args sg_tbl own) (hK : va_K D vwCl tys s) (hG : sgG (KT P) D vwCl (fun q : Nat => base ≤ q) tys ad ks H) (hC : sgC base s) (hS : va_S (fun q : Nat => base ≤ q) s.heap H locs) (hb : base ≤ s.heap.size) (hp4 : P.2.2.2.2.1 = true) (a0 : Nat) (h0 : isK ad ks 12 a0) (x1 : Int32) (x2 : Int32) (hl : Cond.methodLink own index yX12_odds ∈ sg_tbl) (hsize : ls.size = nL) (hst : st0 = [.int x1, .int x2].reverse ++ .ref a0 :: rest) (hW : (rest.map fun v => v.category).sum ≤ 8) (hR : 39 ≤ R.frames ∧ 961 ≤ R.locals) (hf : cells ≤ R.cells ∧ slots ≤ R.slots) (hdg : decode cc pc = .ok (.invokevirtual index, 3)) (kk : ∀ (r : Int32) (H1 : Heap) (locs1 : List Loc), (fun r : Int32 => True) r → sgG (KT P) D vwCl (fun q : Nat => base ≤ q) tys ad ks H1 → va_S (fun q : Nat => base ≤ q) s.heap H1 locs1 → W p l e R s m args below meth c H1 locs1 cells slots Q (F0 m (pc + 3) ls (.int r :: rest))) : W p l e R s m args below meth c H locs cells slots Q (F0 m pc ls st0) :=
  sg_callVi X hK hG hC hS hb (m_X12_odds_1 l hp4 a0 h0 x1 x2) h0 (k := 12) (ci := 12) rfl (C := RX12) (T := TX12) (N := 53) rfl wl_9_127 wl_1_13 wl_9_125 wl_9_126 (n := 2) (by decide +kernel) rfl rfl rfl hl hsize hst hW hR hf hdg kk

set_option maxHeartbeats 8000000 in
set_option maxRecDepth 100000 in
theorem m_X12_isNight_0z (l : Launch) {D : va_G} {base : Nat} {tys : List (ClassId × FieldType)} {ad ks : List Nat} {P : sgPm} {Hx : Heap} (hp4 : P.2.2.2.2.1 = false) (a0 : Nat) (h0 : isK ad ks 12 a0) : sgPi l (KT P) D vwCl base tys ad ks Hx yX12_isNight cX12_isNight 1 (some .boolean) ({ frames := 1, cells := 0, slots := 0, locals := 21 }) [.ref a0] (fun r : Int32 => iv 0 0 r) := by
  refine sg_ofP (Pq := fun Hx => va_Qi (fun r (_ : Unit) => (fun r : Int32 => iv 0 0 r) r) (fun _ t => t.heap = Hx) (fun _ : Nat => False)) (by decide +kernel) (Nat.le_of_ble_eq_true rfl) (fun p e s m below meth c X hr hlk hb hK hC hG ls hl => ?_)
  have hS : va_S (fun _ : Nat => False) s.heap s.heap [] := va_S.rf
  have hl : lv_has ls 1 [(0, .ref a0)] := hl
  refine lv_aload_n X.1 X.2.1 dX12_isNight_0 rfl (lv_at hl 0 rfl) ?_
  refine lv_aload_n X.1 X.2.1 dX12_isNight_1 rfl (lv_at hl 0 rfl) ?_
  refine gf_X12_32 X hK hG h0 wl_6_210 dX12_isNight_2 (fun q1 hq1 kq1 => ?_)
  refine ca_X12_isOpen_0 X hK hG hC (fun _ h => h.elim) hS hb hp4 a0 h0 q1 hq1 wl_8_94 hl.1 (rest := []) rfl (Nat.le_of_ble_eq_true rfl) ⟨Nat.le_of_ble_eq_true rfl, Nat.le_of_ble_eq_true rfl⟩ ⟨Nat.le_of_ble_eq_true rfl, Nat.le_of_ble_eq_true rfl⟩ dX12_isNight_5 (fun f2 locs hf2 hS => ?_)
  have B4_24 : ∀ (locs : List Loc) (ls : Array Slot), va_S (fun _ : Nat => False) s.heap s.heap locs → lv_has ls 1 [] → W p l e (headSpec (Cond.code yX12_isNight cX12_isNight 1 (some .boolean) :: sg_tbl) ({ frames := 1, cells := 0, slots := 0, locals := 21 })).room s m #[.ref a0] below meth c s.heap locs 0 0 (MQ below (va_Qi (fun r (_ : Unit) => (fun r : Int32 => iv 0 0 r) r) (fun _ t => t.heap = s.heap) (fun _ : Nat => False)) #[.ref a0] s 0 0 (fun _ : Nat => False)) (F0 m 24 ls []) := by
    intro locs ls hS hl
    refine lv_iconst (v := 0) X.1 X.2.1 dX12_isNight_24 (by decide +kernel) ?_
    exact sg_zretP X hr (sg_zn (iv_of (iv_c 0 (a := 0) (b := 0) (by decide +kernel)) (a' := 0) (b' := 1) (by decide +kernel))) hlk hS (iv_c 0 (a := 0) (b := 0) (by decide +kernel)) dX12_isNight_25
  refine lv_if_eq (tgt := 24) X.1 X.2.1 dX12_isNight_8 (by decide) (fun c3 => ?_) (fun c3 => ?_)
  · exact B4_24 _ _ hS (lv_sub hl [] rfl)
  · exact ((c3 (iv_one hf2 (iv_c 0 (a := 0) (b := 0) (by decide +kernel)) (by decide +kernel)))).elim

theorem ca_X12_isNight_0z   (X : CallFix p m c cc nL s args sg_tbl own) (hK : va_K D vwCl tys s) (hG : sgG (KT P) D vwCl (fun q : Nat => base ≤ q) tys ad ks H) (hC : sgC base s) (hA : ∀ q : Nat, A q → base ≤ q) (hS : va_S A s.heap H locs) (hb : base ≤ s.heap.size) (hp4 : P.2.2.2.2.1 = false) (a0 : Nat) (h0 : isK ad ks 12 a0) (hl : Cond.methodLink own index yX12_isNight ∈ sg_tbl) (hsize : ls.size = nL) (hst : st0 = [].reverse ++ .ref a0 :: rest) (hW : (rest.map fun v => v.category).sum ≤ 8) (hR : 2 ≤ R.frames ∧ 41 ≤ R.locals) (hf : cells ≤ R.cells ∧ slots ≤ R.slots) (hdg : decode cc pc = .ok (.invokevirtual index, 3)) (kk : ∀ (r : Int32) (locs1 : List Loc), (fun r : Int32 => iv 0 0 r) r → va_S A s.heap H locs1 → W p l e R s m args below meth c H locs1 cells slots Q (F0 m (pc + 3) ls (.int r :: rest))) : W p l e R s m args below meth c H locs cells slots Q (F0 m pc ls st0) :=
  sg_callPVi X hK hG hC hA hS hb (m_X12_isNight_0z l hp4 a0 h0) h0 (k := 12) (ci := 12) rfl (C := RX12) (T := TX12) (N := 53) rfl wl_9_22 wl_1_13 wl_9_21 wl_0_98 (n := 0) (by decide +kernel) rfl rfl rfl hl hsize hst hW hR hf hdg kk

set_option maxHeartbeats 8000000 in
set_option maxRecDepth 100000 in
theorem m_X12_cell_0 (l : Launch) {D : va_G} {base : Nat} {tys : List (ClassId × FieldType)} {ad ks : List Nat} {P : sgPm} (hp4 : P.2.2.2.2.1 = false) (a0 : Nat) (h0 : isK ad ks 12 a0) (x1 : Int32) (x2 : Int32) : sgMi l (KT P) D vwCl base tys ad ks yX12_cell cX12_cell 3 (some .int) ({ frames := 1, cells := 0, slots := 0, locals := 21 }) [.ref a0, .int x1, .int x2] (fun r : Int32 => True) := by
  refine sg_ofW (by decide +kernel) (Nat.le_of_ble_eq_true rfl) (fun p e s m below meth c X hr hlk hb hK hC hG ls hl => ?_)
  have hS : va_S (fun q : Nat => base ≤ q) s.heap s.heap [] := va_S.rf
  have hl : lv_has ls 3 [(0, .ref a0), (1, .int x1), (2, .int x2)] := hl
  refine lv_aload_n X.1 X.2.1 dX12_cell_0 rfl (lv_at hl 0 rfl) ?_
  refine lv_aload_n X.1 X.2.1 dX12_cell_1 rfl (lv_at hl 0 rfl) ?_
  refine lv_iload_n X.1 X.2.1 dX12_cell_2 rfl (lv_at hl 1 rfl) ?_
  refine ca_X12_isCell_0 X hK hG hC (fun _ h => h) hS hb hp4 a0 h0 x1 wl_8_55 hl.1 (rest := [.ref a0]) rfl (Nat.le_of_ble_eq_true rfl) ⟨Nat.le_of_ble_eq_true rfl, Nat.le_of_ble_eq_true rfl⟩ ⟨Nat.le_of_ble_eq_true rfl, Nat.le_of_ble_eq_true rfl⟩ dX12_cell_3 (fun f1 locs hf1 hS => ?_)
  refine lv_if_eq (tgt := 25) X.1 X.2.1 dX12_cell_6 (by decide) (fun c2 => ?_) (fun c2 => ?_)
  · refine lv_iconst (v := 1) X.1 X.2.1 dX12_cell_25 (by decide +kernel) ?_
    refine pf_X12_0 X hK hG hS h0 wl_6_178 ⟨_, rfl, (iv_top _)⟩ dX12_cell_26 (fun H locs hG hS ku3 ru3 => ?_)
    refine lv_aload_n X.1 X.2.1 dX12_cell_29 rfl (lv_at hl 0 rfl) ?_
    refine gg_X12_0 X hK hG h0 wl_6_178 ku3 dX12_cell_30 ?_
    refine lv_if_le (tgt := 38) X.1 X.2.1 dX12_cell_33 (by decide) (fun c4 => ?_) (fun c4 => ?_)
    · exact ((iv_no (iv_le (b' := 0) c4 (iv_c 1 (a := 1) (b := 1) (by decide +kernel)) (iv_c 0 (a := 0) (b := 0) (by decide +kernel)) (by decide +kernel)) (by decide +kernel))).elim
    · refine lv_iconst (v := 0) X.1 X.2.1 dX12_cell_36 (by decide +kernel) ?_
      exact sg_iret X hr hlk hb hK hC hG hS trivial dX12_cell_37
  · exact ((c2 (iv_one hf1 (iv_c 0 (a := 0) (b := 0) (by decide +kernel)) (by decide +kernel)))).elim

theorem ca_X12_cell_0   (X : CallFix p m c cc nL s args sg_tbl own) (hK : va_K D vwCl tys s) (hG : sgG (KT P) D vwCl (fun q : Nat => base ≤ q) tys ad ks H) (hC : sgC base s) (hS : va_S (fun q : Nat => base ≤ q) s.heap H locs) (hb : base ≤ s.heap.size) (hp4 : P.2.2.2.2.1 = false) (a0 : Nat) (h0 : isK ad ks 12 a0) (x1 : Int32) (x2 : Int32) (hl : Cond.methodLink own index yX12_cell ∈ sg_tbl) (hsize : ls.size = nL) (hst : st0 = [.int x1, .int x2].reverse ++ .ref a0 :: rest) (hW : (rest.map fun v => v.category).sum ≤ 8) (hR : 2 ≤ R.frames ∧ 43 ≤ R.locals) (hf : cells ≤ R.cells ∧ slots ≤ R.slots) (hdg : decode cc pc = .ok (.invokevirtual index, 3)) (kk : ∀ (r : Int32) (H1 : Heap) (locs1 : List Loc), (fun r : Int32 => True) r → sgG (KT P) D vwCl (fun q : Nat => base ≤ q) tys ad ks H1 → va_S (fun q : Nat => base ≤ q) s.heap H1 locs1 → W p l e R s m args below meth c H1 locs1 cells slots Q (F0 m (pc + 3) ls (.int r :: rest))) : W p l e R s m args below meth c H locs cells slots Q (F0 m pc ls st0) :=
  sg_callVi X hK hG hC hS hb (m_X12_cell_0 l hp4 a0 h0 x1 x2) h0 (k := 12) (ci := 12) rfl (C := RX12) (T := TX12) (N := 53) rfl wl_8_54 wl_1_13 wl_8_52 wl_8_53 (n := 2) (by decide +kernel) rfl rfl rfl hl hsize hst hW hR hf hdg kk

set_option maxHeartbeats 8000000 in
set_option maxRecDepth 100000 in
theorem m_X12_missing_0 (l : Launch) {D : va_G} {base : Nat} {tys : List (ClassId × FieldType)} {ad ks : List Nat} {P : sgPm} (hp4 : P.2.2.2.2.1 = false) (a0 : Nat) (h0 : isK ad ks 12 a0) (x1 : Int32) (x2 : Int32) (x3 : Int32) : sgMi l (KT P) D vwCl base tys ad ks yX12_missing cX12_missing 11 (some .int) ({ frames := 1, cells := 0, slots := 0, locals := 21 }) [.ref a0, .int x1, .int x2, .int x3] (fun r : Int32 => True) := by
  refine sg_ofW (by decide +kernel) (Nat.le_of_ble_eq_true rfl) (fun p e s m below meth c X hr hlk hb hK hC hG ls hl => ?_)
  have hS : va_S (fun q : Nat => base ≤ q) s.heap s.heap [] := va_S.rf
  have hl : lv_has ls 11 [(0, .ref a0), (1, .int x1), (2, .int x2), (3, .int x3)] := hl
  refine lv_aload_n X.1 X.2.1 dX12_missing_0 rfl (lv_at hl 0 rfl) ?_
  refine lv_iconst (v := 0) X.1 X.2.1 dX12_missing_1 (by decide +kernel) ?_
  refine pf_X12_0 X hK hG hS h0 wl_6_178 ⟨_, rfl, (iv_top _)⟩ dX12_missing_2 (fun H locs hG hS ku1 ru1 => ?_)
  refine lv_aload_n X.1 X.2.1 dX12_missing_5 rfl (lv_at hl 0 rfl) ?_
  refine lv_iload_n X.1 X.2.1 dX12_missing_6 rfl (lv_at hl 1 rfl) ?_
  refine ca_X12_isGame X hK hG hC (fun _ h => h) hS hb a0 h0 x1 wl_8_195 hl.1 (rest := []) rfl (Nat.le_of_ble_eq_true rfl) ⟨Nat.le_of_ble_eq_true rfl, Nat.le_of_ble_eq_true rfl⟩ ⟨Nat.le_of_ble_eq_true rfl, Nat.le_of_ble_eq_true rfl⟩ dX12_missing_7 (fun f2 locs hf2 hS => ?_)
  refine lv_if_eq (tgt := 39) X.1 X.2.1 dX12_missing_10 (by decide) (fun c3 => ?_) (fun c3 => ?_)
  · refine lv_iconst (v := (-1)) X.1 X.2.1 dX12_missing_39 (by decide +kernel) ?_
    exact sg_iret X hr hlk hb hK hC hG hS trivial dX12_missing_40
  · refine lv_aload_n X.1 X.2.1 dX12_missing_13 rfl (lv_at hl 0 rfl) ?_
    refine gf_X12_23n X hK hG h0 hp4 wl_6_201 dX12_missing_14 (fun f4 hf4 kf4 => ?_)
    refine lv_if_eq (tgt := 39) X.1 X.2.1 dX12_missing_17 (by decide) (fun c5 => ?_) (fun c5 => ?_)
    · refine lv_iconst (v := (-1)) X.1 X.2.1 dX12_missing_39 (by decide +kernel) ?_
      exact sg_iret X hr hlk hb hK hC hG hS trivial dX12_missing_40
    · exact ((c5 (iv_one hf4 (iv_c 0 (a := 0) (b := 0) (by decide +kernel)) (by decide +kernel)))).elim

theorem ca_X12_missing_0   (X : CallFix p m c cc nL s args sg_tbl own) (hK : va_K D vwCl tys s) (hG : sgG (KT P) D vwCl (fun q : Nat => base ≤ q) tys ad ks H) (hC : sgC base s) (hS : va_S (fun q : Nat => base ≤ q) s.heap H locs) (hb : base ≤ s.heap.size) (hp4 : P.2.2.2.2.1 = false) (a0 : Nat) (h0 : isK ad ks 12 a0) (x1 : Int32) (x2 : Int32) (x3 : Int32) (hl : Cond.methodLink own index yX12_missing ∈ sg_tbl) (hsize : ls.size = nL) (hst : st0 = [.int x1, .int x2, .int x3].reverse ++ .ref a0 :: rest) (hW : (rest.map fun v => v.category).sum ≤ 8) (hR : 2 ≤ R.frames ∧ 51 ≤ R.locals) (hf : cells ≤ R.cells ∧ slots ≤ R.slots) (hdg : decode cc pc = .ok (.invokevirtual index, 3)) (kk : ∀ (r : Int32) (H1 : Heap) (locs1 : List Loc), (fun r : Int32 => True) r → sgG (KT P) D vwCl (fun q : Nat => base ≤ q) tys ad ks H1 → va_S (fun q : Nat => base ≤ q) s.heap H1 locs1 → W p l e R s m args below meth c H1 locs1 cells slots Q (F0 m (pc + 3) ls (.int r :: rest))) : W p l e R s m args below meth c H locs cells slots Q (F0 m pc ls st0) :=
  sg_callVi X hK hG hC hS hb (m_X12_missing_0 l hp4 a0 h0 x1 x2 x3) h0 (k := 12) (ci := 12) rfl (C := RX12) (T := TX12) (N := 53) rfl wl_8_230 wl_1_13 wl_8_228 wl_8_229 (n := 3) (by decide +kernel) rfl rfl rfl hl hsize hst hW hR hf hdg kk

set_option maxHeartbeats 8000000 in
set_option maxRecDepth 100000 in
theorem m_X12_holds_0 (l : Launch) {D : va_G} {base : Nat} {tys : List (ClassId × FieldType)} {ad ks : List Nat} {P : sgPm} (hp4 : P.2.2.2.2.1 = false) (a0 : Nat) (h0 : isK ad ks 12 a0) (x1 : Int32) : sgMi l (KT P) D vwCl base tys ad ks yX12_holds cX12_holds 4 (some .int) ({ frames := 2, cells := 0, slots := 0, locals := 41 }) [.ref a0, .int x1] (fun r : Int32 => True) := by
  refine sg_ofW (by decide +kernel) (Nat.le_of_ble_eq_true rfl) (fun p e s m below meth c X hr hlk hb hK hC hG ls hl => ?_)
  have hS : va_S (fun q : Nat => base ≤ q) s.heap s.heap [] := va_S.rf
  have hl : lv_has ls 4 [(0, .ref a0), (1, .int x1)] := hl
  refine lv_aload_n X.1 X.2.1 dX12_holds_0 rfl (lv_at hl 0 rfl) ?_
  refine lv_iconst (v := 0) X.1 X.2.1 dX12_holds_1 (by decide +kernel) ?_
  refine pf_X12_0 X hK hG hS h0 wl_6_178 ⟨_, rfl, (iv_top _)⟩ dX12_holds_2 (fun H locs hG hS ku1 ru1 => ?_)
  refine lv_aload_n X.1 X.2.1 dX12_holds_5 rfl (lv_at hl 0 rfl) ?_
  refine ca_X12_isNight_0z X hK hG hC (fun _ h => h) hS hb hp4 a0 h0 wl_9_19 hl.1 (rest := []) rfl (Nat.le_of_ble_eq_true rfl) ⟨Nat.le_of_ble_eq_true rfl, Nat.le_of_ble_eq_true rfl⟩ ⟨Nat.le_of_ble_eq_true rfl, Nat.le_of_ble_eq_true rfl⟩ dX12_holds_6 (fun f2 locs hf2 hS => ?_)
  refine lv_if_eq (tgt := 24) X.1 X.2.1 dX12_holds_9 (by decide) (fun c3 => ?_) (fun c3 => ?_)
  · refine lv_iconst (v := (-1)) X.1 X.2.1 dX12_holds_24 (by decide +kernel) ?_
    exact sg_iret X hr hlk hb hK hC hG hS trivial dX12_holds_25
  · exact ((c3 (iv_one hf2 (iv_c 0 (a := 0) (b := 0) (by decide +kernel)) (by decide +kernel)))).elim

theorem ca_X12_holds_0   (X : CallFix p m c cc nL s args sg_tbl own) (hK : va_K D vwCl tys s) (hG : sgG (KT P) D vwCl (fun q : Nat => base ≤ q) tys ad ks H) (hC : sgC base s) (hS : va_S (fun q : Nat => base ≤ q) s.heap H locs) (hb : base ≤ s.heap.size) (hp4 : P.2.2.2.2.1 = false) (a0 : Nat) (h0 : isK ad ks 12 a0) (x1 : Int32) (hl : Cond.methodLink own index yX12_holds ∈ sg_tbl) (hsize : ls.size = nL) (hst : st0 = [.int x1].reverse ++ .ref a0 :: rest) (hW : (rest.map fun v => v.category).sum ≤ 8) (hR : 3 ≤ R.frames ∧ 64 ≤ R.locals) (hf : cells ≤ R.cells ∧ slots ≤ R.slots) (hdg : decode cc pc = .ok (.invokevirtual index, 3)) (kk : ∀ (r : Int32) (H1 : Heap) (locs1 : List Loc), (fun r : Int32 => True) r → sgG (KT P) D vwCl (fun q : Nat => base ≤ q) tys ad ks H1 → va_S (fun q : Nat => base ≤ q) s.heap H1 locs1 → W p l e R s m args below meth c H1 locs1 cells slots Q (F0 m (pc + 3) ls (.int r :: rest))) : W p l e R s m args below meth c H locs cells slots Q (F0 m pc ls st0) :=
  sg_callVi X hK hG hC hS hb (m_X12_holds_0 l hp4 a0 h0 x1) h0 (k := 12) (ci := 12) rfl (C := RX12) (T := TX12) (N := 53) rfl wl_9_18 wl_1_13 wl_9_16 wl_9_17 (n := 1) (by decide +kernel) rfl rfl rfl hl hsize hst hW hR hf hdg kk

set_option maxHeartbeats 8000000 in
set_option maxRecDepth 100000 in
theorem m_X12_forced_0 (l : Launch) {D : va_G} {base : Nat} {tys : List (ClassId × FieldType)} {ad ks : List Nat} {P : sgPm} (hp4 : P.2.2.2.2.1 = false) (a0 : Nat) (h0 : isK ad ks 12 a0) : sgMi l (KT P) D vwCl base tys ad ks yX12_forced cX12_forced 3 (some .int) ({ frames := 2, cells := 0, slots := 0, locals := 41 }) [.ref a0] (fun r : Int32 => True) := by
  refine sg_ofW (by decide +kernel) (Nat.le_of_ble_eq_true rfl) (fun p e s m below meth c X hr hlk hb hK hC hG ls hl => ?_)
  have hS : va_S (fun q : Nat => base ≤ q) s.heap s.heap [] := va_S.rf
  have hl : lv_has ls 3 [(0, .ref a0)] := hl
  refine lv_aload_n X.1 X.2.1 dX12_forced_0 rfl (lv_at hl 0 rfl) ?_
  refine lv_iconst (v := 0) X.1 X.2.1 dX12_forced_1 (by decide +kernel) ?_
  refine pf_X12_0 X hK hG hS h0 wl_6_178 ⟨_, rfl, (iv_top _)⟩ dX12_forced_2 (fun H locs hG hS ku1 ru1 => ?_)
  refine lv_aload_n X.1 X.2.1 dX12_forced_5 rfl (lv_at hl 0 rfl) ?_
  refine ca_X12_isNight_0z X hK hG hC (fun _ h => h) hS hb hp4 a0 h0 wl_9_19 hl.1 (rest := []) rfl (Nat.le_of_ble_eq_true rfl) ⟨Nat.le_of_ble_eq_true rfl, Nat.le_of_ble_eq_true rfl⟩ ⟨Nat.le_of_ble_eq_true rfl, Nat.le_of_ble_eq_true rfl⟩ dX12_forced_6 (fun f2 locs hf2 hS => ?_)
  refine lv_if_ne (tgt := 14) X.1 X.2.1 dX12_forced_9 (by decide) (fun c3 => ?_) (fun c3 => ?_)
  · exact ((c3 (iv_one hf2 (iv_c 0 (a := 0) (b := 0) (by decide +kernel)) (by decide +kernel)))).elim
  · refine lv_iconst (v := (-1)) X.1 X.2.1 dX12_forced_12 (by decide +kernel) ?_
    exact sg_iret X hr hlk hb hK hC hG hS trivial dX12_forced_13

theorem ca_X12_forced_0   (X : CallFix p m c cc nL s args sg_tbl own) (hK : va_K D vwCl tys s) (hG : sgG (KT P) D vwCl (fun q : Nat => base ≤ q) tys ad ks H) (hC : sgC base s) (hS : va_S (fun q : Nat => base ≤ q) s.heap H locs) (hb : base ≤ s.heap.size) (hp4 : P.2.2.2.2.1 = false) (a0 : Nat) (h0 : isK ad ks 12 a0) (hl : Cond.methodLink own index yX12_forced ∈ sg_tbl) (hsize : ls.size = nL) (hst : st0 = [].reverse ++ .ref a0 :: rest) (hW : (rest.map fun v => v.category).sum ≤ 8) (hR : 3 ≤ R.frames ∧ 63 ≤ R.locals) (hf : cells ≤ R.cells ∧ slots ≤ R.slots) (hdg : decode cc pc = .ok (.invokevirtual index, 3)) (kk : ∀ (r : Int32) (H1 : Heap) (locs1 : List Loc), (fun r : Int32 => True) r → sgG (KT P) D vwCl (fun q : Nat => base ≤ q) tys ad ks H1 → va_S (fun q : Nat => base ≤ q) s.heap H1 locs1 → W p l e R s m args below meth c H1 locs1 cells slots Q (F0 m (pc + 3) ls (.int r :: rest))) : W p l e R s m args below meth c H locs cells slots Q (F0 m pc ls st0) :=
  sg_callVi X hK hG hC hS hb (m_X12_forced_0 l hp4 a0 h0) h0 (k := 12) (ci := 12) rfl (C := RX12) (T := TX12) (N := 53) rfl wl_9_34 wl_1_13 wl_9_32 wl_9_33 (n := 0) (by decide +kernel) rfl rfl rfl hl hsize hst hW hR hf hdg kk
end
