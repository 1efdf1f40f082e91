
section
variable {p : Program} {l : Launch} {e : Env} {R : Room} {s : State} {m : MethodId} {args : Array Value} {below : List Frame} {meth : Method} {c : Code} {H : Heap} {locs : List Loc} {cells slots : Nat} {Q : State → Prop} {cc : ByteArray} {nL pc : Nat} {ls : Array Slot} {rest : List Value} {own : String} {D : va_G} {A : Nat → Prop} {tys : List (ClassId × FieldType)} {ad ks : List Nat} {P : sgPm} {H0 : Heap} {index : Nat} {base : Nat} {st0 : List Value} {a : Nat}
theorem as_50r  {i : Int32} {x : Int32} {b : Bool} {d lo hi mr f : Int} (X : CallFix p m c cc nL s args sg_tbl own) (hK : va_K D vwCl tys s) (hG : sgG (KR b d lo hi mr f P) D vwCl A tys ad ks H) (hS : va_S A H0 H locs) (ha : isK ad ks 50 a) (hin : vp_in i 7) (hv : okV ad ks ((sg_rr mr : Nat → sgT) i.toNatClampNeg) (.int x)) (hdg : decode cc pc = .ok (.iastore, 1)) (kk : ∀ (H1 : Heap) (locs1 : List Loc), sgG (KR b d lo hi mr f P) D vwCl A tys ad ks H1 → va_S A H0 H1 locs1 → sgFr (KR b d lo hi mr f P) D vwCl ad ks H H1 (fun _ _ => False) → W p l e R s m args below meth c H1 locs1 cells slots Q (F0 m (pc + 1) ls rest)) : W p l e R s m args below meth c H locs cells slots Q (F0 m pc ls (.int x :: .int i :: .ref a :: rest)) :=
  sg_iast X hK hG hS ha (k := 50) rfl hin hv hdg kk
set_option maxHeartbeats 8000000 in
set_option maxRecDepth 100000 in
theorem m_X12_readItems_s (l : Launch) {D : va_G} {base : Nat} {tys : List (ClassId × FieldType)} {ad ks : List Nat} {P : sgPm}{b : Bool} {lo : Int}  (ta tv : Nat) (tb : List Int32) (a0 : Nat) (h0 : isK ad ks 12 a0) (x1 : Int32) (h1 : iv 115 115 x1) (a2 : Nat) (h2 : isK ad ks 50 a2) (hlo : 0 ≤ lo ∧ lo ≤ 241) (htb : ∀ j : Nat, j < 7 → iv 0 127 (tb.getD j 0)) : Met l yX12_readItems (Cond.code yX12_readItems cX12_readItems 6 none :: sg_tbl) ({ frames := 5, cells := 0, slots := 0, locals := 107 }) (va_Pc [.ref a0, .int x1, .ref a2, .ref ta] (fun U => P_S ta tv 7 tb (fun q : Nat => base ≤ q) U ∧ sgB (KR b 0 lo 241 7 (-1) P) D vwCl base tys ad ks U)) (va_Qv (fun (_ : Unit) => True) (fun _ => (fun t : State => sgB (KR b 0 lo 241 7 (-1) P) D vwCl base tys ad ks t ∨ sgB (KR b 0 lo 241 0 0 P) D vwCl base tys ad ks t)) (fun q : Nat => base ≤ q)) 0 0 (fun q : Nat => base ≤ q) := by
  refine sg_ofQ (by decide +kernel) (Nat.le_of_ble_eq_true rfl) (fun p e s m below meth c X hr hlk hb hK hC hG ls hl hp => ?_)
  have hS : va_S (fun q : Nat => base ≤ q) s.heap s.heap [] := va_S.rf
  have hl : lv_has ls 6 [(0, .ref a0), (1, .int x1), (2, .ref a2), (3, .ref ta)] := hl
  refine lv_iconst (v := 0) X.1 X.2.1 dX12_readItems_0 (by decide +kernel) ?_
  refine lv_istore (lv' := [(4, .int 0), (0, .ref a0), (1, .int x1), (2, .ref a2), (3, .ref ta)]) X.1 X.2.1 dX12_readItems_1 hl (by decide) rfl (fun ls hl => ?_)
  have B1_3 : ∀ (N : Nat) (H : Heap) (locs : List Loc) (ls : Array Slot) (z1_4 : Int32) (lo1 : Int), lo ≤ lo1 → lo1 ≤ 241 → sgG (KR b 0 lo1 241 7 (-1) P) D vwCl (fun q : Nat => base ≤ q) tys ad ks H → va_S (fun q : Nat => base ≤ q) s.heap H locs → lv_has ls 6 [(0, .ref a0), (1, .int x1), (2, .ref a2), (3, .ref ta), (4, .int z1_4)] → iv 0 7 z1_4 → (8 - z1_4.toInt).toNat ≤ N → W p l e (headSpec (Cond.code yX12_readItems cX12_readItems 6 none :: sg_tbl) ({ frames := 5, cells := 0, slots := 0, locals := 107 })).room s m #[.ref a0, .int x1, .ref a2, .ref ta] below meth c H locs 0 0 (MQ below (va_Qv (fun (_ : Unit) => True) (fun _ => (fun t : State => sgB (KR b 0 lo 241 7 (-1) P) D vwCl base tys ad ks t ∨ sgB (KR b 0 lo 241 0 0 P) D vwCl base tys ad ks t)) (fun q : Nat => base ≤ q)) #[.ref a0, .int x1, .ref a2, .ref ta] s 0 0 (fun q : Nat => base ≤ q)) (F0 m 3 ls []) := by
    intro N; induction N with
    | zero =>
      intro H locs ls z1_4 lo1 jl1 jm1 hG hS hl hz1_4 hN
      exact absurd hN (by have := iv_up hz1_4; omega)
    | succ N ih1 =>
      intro H locs ls z1_4 lo1 jl1 jm1 hG hS hl hz1_4 hN1
      refine lv_iload X.1 X.2.1 dX12_readItems_3 (lv_at hl 4 rfl) ?_
      refine lv_aload_n X.1 X.2.1 dX12_readItems_5 rfl (lv_at hl 3 rfl) ?_
      refine ca_J0_length_8abf5_7 X hK (sgr_toKT hG (by omega) (by omega) (by omega)) hC (fun _ h => h) hS hb hp wl_7_150 hl.1 (rest := [.int z1_4]) rfl (Nat.le_of_ble_eq_true rfl) ⟨Nat.le_of_ble_eq_true rfl, Nat.le_of_ble_eq_true rfl⟩ ⟨Nat.le_of_ble_eq_true rfl, Nat.le_of_ble_eq_true rfl⟩ dX12_readItems_6 (fun f2 locs hf2 hS => ?_)
      refine lv_icmp_ge (tgt := 28) X.1 X.2.1 dX12_readItems_9 (by decide) (fun c3 => ?_) (fun c3 => ?_)
      · refine lv_iconst (v := 0) X.1 X.2.1 dX12_readItems_28 (by decide +kernel) ?_
        refine lv_istore (lv' := [(4, .int 0), (0, .ref a0), (1, .int x1), (2, .ref a2), (3, .ref ta)]) X.1 X.2.1 dX12_readItems_29 hl (by decide) rfl (fun ls hl => ?_)
        refine lv_aload_n X.1 X.2.1 dX12_readItems_31 rfl (lv_at hl 4 rfl) ?_
        refine lv_aload_n X.1 X.2.1 dX12_readItems_32 rfl (lv_at hl 1 rfl) ?_
        refine ca_X12_look X hK hG hC hS hb a0 h0 ⟨by omega, by omega, by omega, by omega, by omega⟩ ⟨by omega, by omega, by omega⟩ wl_7_137 hl.1 (rest := [.ref ta]) rfl (Nat.le_of_ble_eq_true rfl) ⟨Nat.le_of_ble_eq_true rfl, Nat.le_of_ble_eq_true rfl⟩ ⟨Nat.le_of_ble_eq_true rfl, Nat.le_of_ble_eq_true rfl⟩ dX12_readItems_33 (fun f4 tf4 H locs htf4 hf4 hWf4 hS => ?_)
        obtain ⟨hBf4, v5, kv5, hv5, lv5⟩ := hWf4
        have hG := hBf4.2.2.2
        rw [htf4] at hG kv5
        have ⟨lav5, uav5⟩ : lo1 ≤ v5.toInt ∧ v5.toInt ≤ 241 := hv5
        have hv5 : iv 0 241 v5 := ⟨by omega, by omega⟩
        refine ca_X12_spotOf_7 X hK (sgr_toKT hG (by omega) (by omega) (by omega)) hC (fun _ h => h) hS hb hp f4 htb wl_7_151 hl.1 (rest := []) rfl (Nat.le_of_ble_eq_true rfl) ⟨Nat.le_of_ble_eq_true rfl, Nat.le_of_ble_eq_true rfl⟩ ⟨Nat.le_of_ble_eq_true rfl, Nat.le_of_ble_eq_true rfl⟩ dX12_readItems_36 (fun f6 locs hf6 hS => ?_)
        refine lv_istore (lv' := [(5, .int f6), (4, .int 0), (0, .ref a0), (1, .int x1), (2, .ref a2), (3, .ref ta)]) X.1 X.2.1 dX12_readItems_39 hl (by decide) rfl (fun ls hl => ?_)
        refine lv_iload X.1 X.2.1 dX12_readItems_41 (lv_at hl 0 rfl) ?_
        refine lv_iconst (v := (-1)) X.1 X.2.1 dX12_readItems_43 (by decide +kernel) ?_
        refine lv_icmp_eq (tgt := 131) X.1 X.2.1 dX12_readItems_44 (by decide) (fun c7 => ?_) (fun c7 => ?_)
        · have hG := sgr_weak (d' := 0) (lo' := lo) (hi' := 241) (f' := (-1)) hG (by omega) (by omega) (by omega) (by omega)
          exact sg_vret2 X hr hlk hS (fun t ht hW => (Or.inl (sg_post hb hK hC hG hS ht hW))) dX12_readItems_131
        · refine lv_aload_n X.1 X.2.1 dX12_readItems_47 rfl (lv_at hl 2 rfl) ?_
          refine gf_X12_11r X hK hG h0 wl_6_189 dX12_readItems_48 (fun f8 hf8 kf8 => ?_)
          have ⟨laf8, uaf8⟩ : (-1) ≤ f8.toInt ∧ f8.toInt ≤ 241 := hf8
          have hf8 : iv (-1) 241 f8 := ⟨by omega, by omega⟩
          refine lv_iconst (v := (-1)) X.1 X.2.1 dX12_readItems_51 (by decide +kernel) ?_
          refine lv_icmp_ne (tgt := 131) X.1 X.2.1 dX12_readItems_52 (by decide) (fun c9 => ?_) (fun c9 => ?_)
          · have hG := sgr_weak (d' := 0) (lo' := lo) (hi' := 241) (f' := (-1)) hG (by omega) (by omega) (by omega) (by omega)
            exact sg_vret2 X hr hlk hS (fun t ht hW => (Or.inl (sg_post hb hK hC hG hS ht hW))) dX12_readItems_131
          · have B10_55 : ∀ (N : Nat) (H : Heap) (locs : List Loc) (ls : Array Slot) (z10_4 : Int32) (z10_5 : Int32) (lo10 : Int), lo1 ≤ lo10 → lo10 ≤ 240 → sgG (KR b 0 lo10 240 7 (-1) P) D vwCl (fun q : Nat => base ≤ q) tys ad ks H → va_S (fun q : Nat => base ≤ q) s.heap H locs → lv_has ls 6 [(0, .ref a0), (1, .int x1), (2, .ref a2), (3, .ref ta), (4, .int z10_4), (5, .int z10_5)] → iv 0 127 z10_4 → iv 0 6 z10_5 → (242 - lo10).toNat ≤ N → W p l e (headSpec (Cond.code yX12_readItems cX12_readItems 6 none :: sg_tbl) ({ frames := 5, cells := 0, slots := 0, locals := 107 })).room s m #[.ref a0, .int x1, .ref a2, .ref ta] below meth c H locs 0 0 (MQ below (va_Qv (fun (_ : Unit) => True) (fun _ => (fun t : State => sgB (KR b 0 lo 241 7 (-1) P) D vwCl base tys ad ks t ∨ sgB (KR b 0 lo 241 0 0 P) D vwCl base tys ad ks t)) (fun q : Nat => base ≤ q)) #[.ref a0, .int x1, .ref a2, .ref ta] s 0 0 (fun q : Nat => base ≤ q)) (F0 m 55 ls []) := by
              intro N; induction N with
              | zero =>
                intro H locs ls z10_4 z10_5 lo10 jl10 jm10 hG hS hl hz10_4 hz10_5 hN
                exact absurd hN (by have := jm10; omega)
              | succ N ih10 =>
                intro H locs ls z10_4 z10_5 lo10 jl10 jm10 hG hS hl hz10_4 hz10_5 hN10
                refine lv_iload X.1 X.2.1 dX12_readItems_55 (lv_at hl 4 rfl) ?_
                refine lv_iload X.1 X.2.1 dX12_readItems_57 (lv_at hl 5 rfl) ?_
                refine ca_X12_has X hK (sgr_toKT hG (by omega) (by omega) (by omega)) hC (fun _ h => h) hS hb z10_4 z10_5 wl_7_174 hl.1 (rest := []) rfl (Nat.le_of_ble_eq_true rfl) ⟨Nat.le_of_ble_eq_true rfl, Nat.le_of_ble_eq_true rfl⟩ ⟨Nat.le_of_ble_eq_true rfl, Nat.le_of_ble_eq_true rfl⟩ dX12_readItems_59 (fun f11 locs hf11 hS => ?_)
                refine lv_if_eq (tgt := 71) X.1 X.2.1 dX12_readItems_62 (by decide) (fun c12 => ?_) (fun c12 => ?_)
                · refine lv_iload X.1 X.2.1 dX12_readItems_71 (lv_at hl 4 rfl) ?_
                  refine lv_iconst (v := 1) X.1 X.2.1 dX12_readItems_73 (by decide +kernel) ?_
                  refine lv_iload X.1 X.2.1 dX12_readItems_74 (lv_at hl 5 rfl) ?_
                  refine lv_ishl X.1 X.2.1 dX12_readItems_76 ?_
                  refine lv_topi (fun f13 ef13 => ?_)
                  refine lv_ior X.1 X.2.1 dX12_readItems_77 ?_
                  refine lv_topi (fun f14 ef14 => ?_)
                  refine lv_istore (lv' := [(4, .int f14), (0, .ref a0), (1, .int x1), (2, .ref a2), (3, .ref ta), (5, .int z10_5)]) X.1 X.2.1 dX12_readItems_78 hl (by decide) rfl (fun ls hl => ?_)
                  by_cases k15 : z10_5.toInt = 0
                  · have hk15 : iv 0 0 z10_5 := ⟨by omega, by omega⟩
                    refine lv_aload_n X.1 X.2.1 dX12_readItems_80 rfl (lv_at hl 1 rfl) ?_
                    refine lv_dup X.1 X.2.1 dX12_readItems_81 rfl ?_
                    refine gf_X12_10r X hK hG h0 wl_6_188 dX12_readItems_82 (fun f16 hf16 kf16 => ?_)
                    have ⟨laf16, uaf16⟩ : lo10 ≤ f16.toInt ∧ f16.toInt ≤ 240 := hf16
                    have hf16 : iv 0 240 f16 := ⟨by omega, by omega⟩
                    refine lv_iconst (v := 1) X.1 X.2.1 dX12_readItems_85 (by decide +kernel) ?_
                    refine lv_iadd X.1 X.2.1 dX12_readItems_86 ?_
                    refine lv_topi (fun f17 ef17 => ?_)
                    have sf17 : f17.toInt = f16.toInt + 1 := sg_inc (k := 1) ef17 hf16 (by decide +kernel)
                    have uf17 : f17.toInt ≤ 241 := Int.le_trans ((iv_add (a' := 1) (b' := 241) ef17 hf16 (iv_c 1 (a := 1) (b := 1) (by decide +kernel)) (by decide +kernel))).2 (by omega)
                    refine pf_X12_10R (lo2 := f17.toInt) (hi2 := 241) X hK hG hS h0 wl_6_188 ⟨_, rfl, Int.le_refl _, uf17⟩ dX12_readItems_87 (fun H locs hG hS => ?_)
                    refine lv_aload_n X.1 X.2.1 dX12_readItems_90 rfl (lv_at hl 3 rfl) ?_
                    refine lv_iload X.1 X.2.1 dX12_readItems_91 (lv_at hl 5 rfl) ?_
                    refine lv_aload_n X.1 X.2.1 dX12_readItems_93 rfl (lv_at hl 1 rfl) ?_
                    refine lv_iload_n X.1 X.2.1 dX12_readItems_94 rfl (lv_at hl 2 rfl) ?_
                    refine lv_iload X.1 X.2.1 dX12_readItems_95 (lv_at hl 5 rfl) ?_
                    refine ca_X12_leastOf_k0 X hK (sgr_toKT hG (by omega) (by omega) (by omega)) hC (fun _ h => h) hS hb x1 h1 z10_5 hk15 wl_7_177 hl.1 (rest := [.ref a0, .int z10_5, .ref a2]) rfl (Nat.le_of_ble_eq_true rfl) ⟨Nat.le_of_ble_eq_true rfl, Nat.le_of_ble_eq_true rfl⟩ ⟨Nat.le_of_ble_eq_true rfl, Nat.le_of_ble_eq_true rfl⟩ dX12_readItems_97 (fun f18 locs hf18 hS => ?_)
                    refine lv_iload_n X.1 X.2.1 dX12_readItems_100 rfl (lv_at hl 2 rfl) ?_
                    refine lv_iload X.1 X.2.1 dX12_readItems_101 (lv_at hl 5 rfl) ?_
                    refine ca_X12_mostOf_k0 X hK (sgr_toKT hG (by omega) (by omega) (by omega)) hC (fun _ h => h) hS hb x1 h1 z10_5 hk15 wl_7_180 hl.1 (rest := [.int f18, .ref a0, .int z10_5, .ref a2]) rfl (Nat.le_of_ble_eq_true rfl) ⟨Nat.le_of_ble_eq_true rfl, Nat.le_of_ble_eq_true rfl⟩ ⟨Nat.le_of_ble_eq_true rfl, Nat.le_of_ble_eq_true rfl⟩ dX12_readItems_103 (fun f19 locs hf19 hS => ?_)
                    refine ca_X12_number_v X hK hG hC hS hb a0 h0 f18 f19 ⟨by omega, by omega, by omega, by omega, by omega⟩ (by omega) wl_7_183 hl.1 (rest := [.int z10_5, .ref a2]) rfl (Nat.le_of_ble_eq_true rfl) ⟨Nat.le_of_ble_eq_true rfl, Nat.le_of_ble_eq_true rfl⟩ ⟨Nat.le_of_ble_eq_true rfl, Nat.le_of_ble_eq_true rfl⟩ dX12_readItems_106 (fun f20 tf20 H locs htf20 hf20 hWf20 hS => ?_)
                    obtain ⟨hBf20, w21, kw21, hw21⟩ := hWf20
                    have hG := hBf20.2.2.2
                    rw [htf20] at hG kw21
                    rcases hw21 with hw21 | hw21
                    · have hG := sgr_bad hG h0 kw21 hw21 (by decide : (0 : Int) ≤ 7)
                      refine as_50r X hK hG hS h2 (iv_vpin hk15 (by decide +kernel)) sg_rr0 dX12_readItems_109 (fun H locs hG hS ru22 => ?_)
                      refine lv_aload_n X.1 X.2.1 dX12_readItems_110 rfl (lv_at hl 1 rfl) ?_
                      refine gg_X12_11r X hK hG h0 wl_6_189 (ru22 _ _ _ _ _ _ _ h0 rfl rfl (by decide) (fun z => z.elim) kw21) dX12_readItems_111 ?_
                      refine lv_iconst (v := (-1)) X.1 X.2.1 dX12_readItems_114 (by decide +kernel) ?_
                      refine lv_icmp_ne (tgt := 41) X.1 X.2.1 dX12_readItems_115 (by decide) (fun c23 => ?_) (fun c23 => ?_)
                      · refine lv_iload X.1 X.2.1 dX12_readItems_41 (lv_at hl 5 rfl) ?_
                        refine lv_iconst (v := (-1)) X.1 X.2.1 dX12_readItems_43 (by decide +kernel) ?_
                        refine lv_icmp_eq (tgt := 131) X.1 X.2.1 dX12_readItems_44 (by decide) (fun c24 => ?_) (fun c24 => ?_)
                        · exact ((iv_no (a := 0) (b := (-1)) (iv_eqm c24 hk15 (iv_c (-1) (a := (-1)) (b := (-1)) (by decide +kernel)) (by decide +kernel)) (by decide +kernel))).elim
                        · refine lv_aload_n X.1 X.2.1 dX12_readItems_47 rfl (lv_at hl 1 rfl) ?_
                          refine gg_X12_11r X hK hG h0 wl_6_189 (ru22 _ _ _ _ _ _ _ h0 rfl rfl (by decide) (fun z => z.elim) kw21) dX12_readItems_48 ?_
                          refine lv_iconst (v := (-1)) X.1 X.2.1 dX12_readItems_51 (by decide +kernel) ?_
                          refine lv_icmp_ne (tgt := 131) X.1 X.2.1 dX12_readItems_52 (by decide) (fun c25 => ?_) (fun c25 => ?_)
                          · have hG := sgr_weak (d' := 0) (lo' := lo) (hi' := 241) (f' := 0) hG (by omega) (by omega) (by omega) (by omega)
                            exact sg_vret2 X hr hlk hS (fun t ht hW => (Or.inr (sg_post hb hK hC hG hS ht hW))) dX12_readItems_131
                          · exact ((iv_no (a := 0) (b := (-1)) (iv_eqm c25 hw21 (iv_c (-1) (a := (-1)) (b := (-1)) (by decide +kernel)) (by decide +kernel)) (by decide +kernel))).elim
                      · exact ((iv_no (a := 0) (b := (-1)) (iv_eqm c23 hw21 (iv_c (-1) (a := (-1)) (b := (-1)) (by decide +kernel)) (by decide +kernel)) (by decide +kernel))).elim
                    · obtain ⟨pw21, hpw21, kpw21⟩ := pk_X12_11r hG h0
                      refine as_50r X hK hG hS h2 (iv_vpin hk15 (by decide +kernel)) (sg_rr7w hk15 (by decide +kernel) rfl (sg_btw hw21 hf18 hf19)) dX12_readItems_109 (fun H locs hG hS ru26 => ?_)
                      refine lv_aload_n X.1 X.2.1 dX12_readItems_110 rfl (lv_at hl 1 rfl) ?_
                      refine gg_X12_11r X hK hG h0 wl_6_189 (ru26 _ _ _ _ _ _ _ h0 rfl rfl (by decide) (fun z => z.elim) kpw21) dX12_readItems_111 ?_
                      refine lv_iconst (v := (-1)) X.1 X.2.1 dX12_readItems_114 (by decide +kernel) ?_
                      refine lv_icmp_ne (tgt := 41) X.1 X.2.1 dX12_readItems_115 (by decide) (fun c27 => ?_) (fun c27 => ?_)
                      · refine lv_iload X.1 X.2.1 dX12_readItems_41 (lv_at hl 5 rfl) ?_
                        refine lv_iconst (v := (-1)) X.1 X.2.1 dX12_readItems_43 (by decide +kernel) ?_
                        refine lv_icmp_eq (tgt := 131) X.1 X.2.1 dX12_readItems_44 (by decide) (fun c28 => ?_) (fun c28 => ?_)
                        · exact ((iv_no (a := 0) (b := (-1)) (iv_eqm c28 hk15 (iv_c (-1) (a := (-1)) (b := (-1)) (by decide +kernel)) (by decide +kernel)) (by decide +kernel))).elim
                        · refine lv_aload_n X.1 X.2.1 dX12_readItems_47 rfl (lv_at hl 1 rfl) ?_
                          refine gg_X12_11r X hK hG h0 wl_6_189 (ru26 _ _ _ _ _ _ _ h0 rfl rfl (by decide) (fun z => z.elim) kpw21) dX12_readItems_48 ?_
                          refine lv_iconst (v := (-1)) X.1 X.2.1 dX12_readItems_51 (by decide +kernel) ?_
                          refine lv_icmp_ne (tgt := 131) X.1 X.2.1 dX12_readItems_52 (by decide) (fun c29 => ?_) (fun c29 => ?_)
                          · have hG := sgr_weak (d' := 0) (lo' := lo) (hi' := 241) (f' := (-1)) hG (by omega) (by omega) (by omega) (by omega)
                            exact sg_vret2 X hr hlk hS (fun t ht hW => (Or.inl (sg_post hb hK hC hG hS ht hW))) dX12_readItems_131
                          · exact ((iv_no (a := 0) (b := (-1)) (iv_eqm c29 (iv_ne_lo (a' := 0) c27 hpw21 (by decide +kernel)) (iv_c (-1) (a := (-1)) (b := (-1)) (by decide +kernel)) (by decide +kernel)) (by decide +kernel))).elim
                      · refine lv_aload_n X.1 X.2.1 dX12_readItems_118 rfl (lv_at hl 4 rfl) ?_
                        refine lv_aload_n X.1 X.2.1 dX12_readItems_119 rfl (lv_at hl 1 rfl) ?_
                        refine ca_X12_look X hK hG hC hS hb a0 h0 ⟨by omega, by omega, by omega, by omega, by omega⟩ ⟨by omega, by omega, by omega⟩ wl_7_137 hl.1 (rest := [.ref ta]) rfl (Nat.le_of_ble_eq_true rfl) ⟨Nat.le_of_ble_eq_true rfl, Nat.le_of_ble_eq_true rfl⟩ ⟨Nat.le_of_ble_eq_true rfl, Nat.le_of_ble_eq_true rfl⟩ dX12_readItems_120 (fun f30 tf30 H locs htf30 hf30 hWf30 hS => ?_)
                        obtain ⟨hBf30, v31, kv31, hv31, lv31⟩ := hWf30
                        have hG := hBf30.2.2.2
                        rw [htf30] at hG kv31
                        have ⟨lav31, uav31⟩ : f17.toInt ≤ v31.toInt ∧ v31.toInt ≤ 241 := hv31
                        have hv31 : iv 0 241 v31 := ⟨by omega, by omega⟩
                        refine ca_X12_spotOf_7 X hK (sgr_toKT hG (by omega) (by omega) (by omega)) hC (fun _ h => h) hS hb hp f30 htb wl_7_151 hl.1 (rest := []) rfl (Nat.le_of_ble_eq_true rfl) ⟨Nat.le_of_ble_eq_true rfl, Nat.le_of_ble_eq_true rfl⟩ ⟨Nat.le_of_ble_eq_true rfl, Nat.le_of_ble_eq_true rfl⟩ dX12_readItems_123 (fun f32 locs hf32 hS => ?_)
                        refine lv_istore (lv' := [(5, .int f32), (4, .int f14), (0, .ref a0), (1, .int x1), (2, .ref a2), (3, .ref ta)]) X.1 X.2.1 dX12_readItems_126 hl (by decide) rfl (fun ls hl => ?_)
                        refine lv_goto (tgt := 41) X.1 X.2.1 dX12_readItems_128 (by decide) ?_
                        refine lv_iload X.1 X.2.1 dX12_readItems_41 (lv_at hl 0 rfl) ?_
                        refine lv_iconst (v := (-1)) X.1 X.2.1 dX12_readItems_43 (by decide +kernel) ?_
                        refine lv_icmp_eq (tgt := 131) X.1 X.2.1 dX12_readItems_44 (by decide) (fun c33 => ?_) (fun c33 => ?_)
                        · have hG := sgr_weak (d' := 0) (lo' := lo) (hi' := 241) (f' := (-1)) hG (by omega) (by omega) (by omega) (by omega)
                          exact sg_vret2 X hr hlk hS (fun t ht hW => (Or.inl (sg_post hb hK hC hG hS ht hW))) dX12_readItems_131
                        · refine lv_aload_n X.1 X.2.1 dX12_readItems_47 rfl (lv_at hl 2 rfl) ?_
                          refine gf_X12_11r X hK hG h0 wl_6_189 dX12_readItems_48 (fun f34 hf34 kf34 => ?_)
                          have ⟨laf34, uaf34⟩ : (-1) ≤ f34.toInt ∧ f34.toInt ≤ 241 := hf34
                          have hf34 : iv (-1) 241 f34 := ⟨by omega, by omega⟩
                          refine lv_iconst (v := (-1)) X.1 X.2.1 dX12_readItems_51 (by decide +kernel) ?_
                          refine lv_icmp_ne (tgt := 131) X.1 X.2.1 dX12_readItems_52 (by decide) (fun c35 => ?_) (fun c35 => ?_)
                          · have hG := sgr_weak (d' := 0) (lo' := lo) (hi' := 241) (f' := (-1)) hG (by omega) (by omega) (by omega) (by omega)
                            exact sg_vret2 X hr hlk hS (fun t ht hW => (Or.inl (sg_post hb hK hC hG hS ht hW))) dX12_readItems_131
                          · have uss36 : v31.toInt ≤ 240 := ((iv_of (sg_lk (sg_spot (iv_ne_lo (a' := 0) c33 hf32.1 (by decide +kernel)) hf32.2) lv31 hv31) (a' := 0) (b' := 240) (by decide +kernel))).2
                            have hG := sgr_str (lo' := v31.toInt) (hi' := 240) hG h0 kv31 ⟨Int.le_refl _, ((iv_of (sg_lk (sg_spot (iv_ne_lo (a' := 0) c33 hf32.1 (by decide +kernel)) hf32.2) lv31 hv31) (a' := 0) (b' := 240) (by decide +kernel))).2⟩
                            exact ih10 H _ _ f14 f32 v31.toInt (by omega) (by omega) hG hS (lv_sub hl [2, 3, 4, 5, 1, 0] rfl) (iv_of (iv_or 7 ef14 hz10_4 (sg_shl1 ef13 hz10_5 (by decide +kernel)) (by decide +kernel)) (a' := 0) (b' := 127) (by decide +kernel)) (iv_ne_lo (a' := 0) c33 hf32.1 (by decide +kernel)) (by omega)
                  by_cases k37 : z10_5.toInt = 1
                  · have hk37 : iv 1 1 z10_5 := ⟨by omega, by omega⟩
                    refine lv_aload_n X.1 X.2.1 dX12_readItems_80 rfl (lv_at hl 1 rfl) ?_
                    refine lv_dup X.1 X.2.1 dX12_readItems_81 rfl ?_
                    refine gf_X12_10r X hK hG h0 wl_6_188 dX12_readItems_82 (fun f38 hf38 kf38 => ?_)
                    have ⟨laf38, uaf38⟩ : lo10 ≤ f38.toInt ∧ f38.toInt ≤ 240 := hf38
                    have hf38 : iv 0 240 f38 := ⟨by omega, by omega⟩
                    refine lv_iconst (v := 1) X.1 X.2.1 dX12_readItems_85 (by decide +kernel) ?_
                    refine lv_iadd X.1 X.2.1 dX12_readItems_86 ?_
                    refine lv_topi (fun f39 ef39 => ?_)
                    have sf39 : f39.toInt = f38.toInt + 1 := sg_inc (k := 1) ef39 hf38 (by decide +kernel)
                    have uf39 : f39.toInt ≤ 241 := Int.le_trans ((iv_add (a' := 1) (b' := 241) ef39 hf38 (iv_c 1 (a := 1) (b := 1) (by decide +kernel)) (by decide +kernel))).2 (by omega)
                    refine pf_X12_10R (lo2 := f39.toInt) (hi2 := 241) X hK hG hS h0 wl_6_188 ⟨_, rfl, Int.le_refl _, uf39⟩ dX12_readItems_87 (fun H locs hG hS => ?_)
                    refine lv_aload_n X.1 X.2.1 dX12_readItems_90 rfl (lv_at hl 3 rfl) ?_
                    refine lv_iload X.1 X.2.1 dX12_readItems_91 (lv_at hl 5 rfl) ?_
                    refine lv_aload_n X.1 X.2.1 dX12_readItems_93 rfl (lv_at hl 1 rfl) ?_
                    refine lv_iload_n X.1 X.2.1 dX12_readItems_94 rfl (lv_at hl 2 rfl) ?_
                    refine lv_iload X.1 X.2.1 dX12_readItems_95 (lv_at hl 5 rfl) ?_
                    refine ca_X12_leastOf_k1 X hK (sgr_toKT hG (by omega) (by omega) (by omega)) hC (fun _ h => h) hS hb x1 h1 z10_5 hk37 wl_7_177 hl.1 (rest := [.ref a0, .int z10_5, .ref a2]) rfl (Nat.le_of_ble_eq_true rfl) ⟨Nat.le_of_ble_eq_true rfl, Nat.le_of_ble_eq_true rfl⟩ ⟨Nat.le_of_ble_eq_true rfl, Nat.le_of_ble_eq_true rfl⟩ dX12_readItems_97 (fun f40 locs hf40 hS => ?_)
                    refine lv_iload_n X.1 X.2.1 dX12_readItems_100 rfl (lv_at hl 2 rfl) ?_
                    refine lv_iload X.1 X.2.1 dX12_readItems_101 (lv_at hl 5 rfl) ?_
                    refine ca_X12_mostOf_k1 X hK (sgr_toKT hG (by omega) (by omega) (by omega)) hC (fun _ h => h) hS hb x1 h1 z10_5 hk37 wl_7_180 hl.1 (rest := [.int f40, .ref a0, .int z10_5, .ref a2]) rfl (Nat.le_of_ble_eq_true rfl) ⟨Nat.le_of_ble_eq_true rfl, Nat.le_of_ble_eq_true rfl⟩ ⟨Nat.le_of_ble_eq_true rfl, Nat.le_of_ble_eq_true rfl⟩ dX12_readItems_103 (fun f41 locs hf41 hS => ?_)
                    refine ca_X12_number_v X hK hG hC hS hb a0 h0 f40 f41 ⟨by omega, by omega, by omega, by omega, by omega⟩ (by omega) wl_7_183 hl.1 (rest := [.int z10_5, .ref a2]) rfl (Nat.le_of_ble_eq_true rfl) ⟨Nat.le_of_ble_eq_true rfl, Nat.le_of_ble_eq_true rfl⟩ ⟨Nat.le_of_ble_eq_true rfl, Nat.le_of_ble_eq_true rfl⟩ dX12_readItems_106 (fun f42 tf42 H locs htf42 hf42 hWf42 hS => ?_)
                    obtain ⟨hBf42, w43, kw43, hw43⟩ := hWf42
                    have hG := hBf42.2.2.2
                    rw [htf42] at hG kw43
                    rcases hw43 with hw43 | hw43
                    · have hG := sgr_bad hG h0 kw43 hw43 (by decide : (0 : Int) ≤ 7)
                      refine as_50r X hK hG hS h2 (iv_vpin hk37 (by decide +kernel)) sg_rr0 dX12_readItems_109 (fun H locs hG hS ru44 => ?_)
                      refine lv_aload_n X.1 X.2.1 dX12_readItems_110 rfl (lv_at hl 1 rfl) ?_
                      refine gg_X12_11r X hK hG h0 wl_6_189 (ru44 _ _ _ _ _ _ _ h0 rfl rfl (by decide) (fun z => z.elim) kw43) dX12_readItems_111 ?_
                      refine lv_iconst (v := (-1)) X.1 X.2.1 dX12_readItems_114 (by decide +kernel) ?_
                      refine lv_icmp_ne (tgt := 41) X.1 X.2.1 dX12_readItems_115 (by decide) (fun c45 => ?_) (fun c45 => ?_)
                      · refine lv_iload X.1 X.2.1 dX12_readItems_41 (lv_at hl 5 rfl) ?_
                        refine lv_iconst (v := (-1)) X.1 X.2.1 dX12_readItems_43 (by decide +kernel) ?_
                        refine lv_icmp_eq (tgt := 131) X.1 X.2.1 dX12_readItems_44 (by decide) (fun c46 => ?_) (fun c46 => ?_)
                        · exact ((iv_no (a := 1) (b := (-1)) (iv_eqm c46 hk37 (iv_c (-1) (a := (-1)) (b := (-1)) (by decide +kernel)) (by decide +kernel)) (by decide +kernel))).elim
                        · refine lv_aload_n X.1 X.2.1 dX12_readItems_47 rfl (lv_at hl 1 rfl) ?_
                          refine gg_X12_11r X hK hG h0 wl_6_189 (ru44 _ _ _ _ _ _ _ h0 rfl rfl (by decide) (fun z => z.elim) kw43) dX12_readItems_48 ?_
                          refine lv_iconst (v := (-1)) X.1 X.2.1 dX12_readItems_51 (by decide +kernel) ?_
                          refine lv_icmp_ne (tgt := 131) X.1 X.2.1 dX12_readItems_52 (by decide) (fun c47 => ?_) (fun c47 => ?_)
                          · have hG := sgr_weak (d' := 0) (lo' := lo) (hi' := 241) (f' := 0) hG (by omega) (by omega) (by omega) (by omega)
                            exact sg_vret2 X hr hlk hS (fun t ht hW => (Or.inr (sg_post hb hK hC hG hS ht hW))) dX12_readItems_131
                          · exact ((iv_no (a := 0) (b := (-1)) (iv_eqm c47 hw43 (iv_c (-1) (a := (-1)) (b := (-1)) (by decide +kernel)) (by decide +kernel)) (by decide +kernel))).elim
                      · exact ((iv_no (a := 0) (b := (-1)) (iv_eqm c45 hw43 (iv_c (-1) (a := (-1)) (b := (-1)) (by decide +kernel)) (by decide +kernel)) (by decide +kernel))).elim
                    · obtain ⟨pw43, hpw43, kpw43⟩ := pk_X12_11r hG h0
                      refine as_50r X hK hG hS h2 (iv_vpin hk37 (by decide +kernel)) (sg_rr7w hk37 (by decide +kernel) rfl (sg_btw hw43 hf40 hf41)) dX12_readItems_109 (fun H locs hG hS ru48 => ?_)
                      refine lv_aload_n X.1 X.2.1 dX12_readItems_110 rfl (lv_at hl 1 rfl) ?_
                      refine gg_X12_11r X hK hG h0 wl_6_189 (ru48 _ _ _ _ _ _ _ h0 rfl rfl (by decide) (fun z => z.elim) kpw43) dX12_readItems_111 ?_
                      refine lv_iconst (v := (-1)) X.1 X.2.1 dX12_readItems_114 (by decide +kernel) ?_
                      refine lv_icmp_ne (tgt := 41) X.1 X.2.1 dX12_readItems_115 (by decide) (fun c49 => ?_) (fun c49 => ?_)
                      · refine lv_iload X.1 X.2.1 dX12_readItems_41 (lv_at hl 5 rfl) ?_
                        refine lv_iconst (v := (-1)) X.1 X.2.1 dX12_readItems_43 (by decide +kernel) ?_
                        refine lv_icmp_eq (tgt := 131) X.1 X.2.1 dX12_readItems_44 (by decide) (fun c50 => ?_) (fun c50 => ?_)
                        · exact ((iv_no (a := 1) (b := (-1)) (iv_eqm c50 hk37 (iv_c (-1) (a := (-1)) (b := (-1)) (by decide +kernel)) (by decide +kernel)) (by decide +kernel))).elim
                        · refine lv_aload_n X.1 X.2.1 dX12_readItems_47 rfl (lv_at hl 1 rfl) ?_
                          refine gg_X12_11r X hK hG h0 wl_6_189 (ru48 _ _ _ _ _ _ _ h0 rfl rfl (by decide) (fun z => z.elim) kpw43) dX12_readItems_48 ?_
                          refine lv_iconst (v := (-1)) X.1 X.2.1 dX12_readItems_51 (by decide +kernel) ?_
                          refine lv_icmp_ne (tgt := 131) X.1 X.2.1 dX12_readItems_52 (by decide) (fun c51 => ?_) (fun c51 => ?_)
                          · have hG := sgr_weak (d' := 0) (lo' := lo) (hi' := 241) (f' := (-1)) hG (by omega) (by omega) (by omega) (by omega)
                            exact sg_vret2 X hr hlk hS (fun t ht hW => (Or.inl (sg_post hb hK hC hG hS ht hW))) dX12_readItems_131
                          · exact ((iv_no (a := 0) (b := (-1)) (iv_eqm c51 (iv_ne_lo (a' := 0) c49 hpw43 (by decide +kernel)) (iv_c (-1) (a := (-1)) (b := (-1)) (by decide +kernel)) (by decide +kernel)) (by decide +kernel))).elim
                      · refine lv_aload_n X.1 X.2.1 dX12_readItems_118 rfl (lv_at hl 4 rfl) ?_
                        refine lv_aload_n X.1 X.2.1 dX12_readItems_119 rfl (lv_at hl 1 rfl) ?_
                        refine ca_X12_look X hK hG hC hS hb a0 h0 ⟨by omega, by omega, by omega, by omega, by omega⟩ ⟨by omega, by omega, by omega⟩ wl_7_137 hl.1 (rest := [.ref ta]) rfl (Nat.le_of_ble_eq_true rfl) ⟨Nat.le_of_ble_eq_true rfl, Nat.le_of_ble_eq_true rfl⟩ ⟨Nat.le_of_ble_eq_true rfl, Nat.le_of_ble_eq_true rfl⟩ dX12_readItems_120 (fun f52 tf52 H locs htf52 hf52 hWf52 hS => ?_)
                        obtain ⟨hBf52, v53, kv53, hv53, lv53⟩ := hWf52
                        have hG := hBf52.2.2.2
                        rw [htf52] at hG kv53
                        have ⟨lav53, uav53⟩ : f39.toInt ≤ v53.toInt ∧ v53.toInt ≤ 241 := hv53
                        have hv53 : iv 0 241 v53 := ⟨by omega, by omega⟩
                        refine ca_X12_spotOf_7 X hK (sgr_toKT hG (by omega) (by omega) (by omega)) hC (fun _ h => h) hS hb hp f52 htb wl_7_151 hl.1 (rest := []) rfl (Nat.le_of_ble_eq_true rfl) ⟨Nat.le_of_ble_eq_true rfl, Nat.le_of_ble_eq_true rfl⟩ ⟨Nat.le_of_ble_eq_true rfl, Nat.le_of_ble_eq_true rfl⟩ dX12_readItems_123 (fun f54 locs hf54 hS => ?_)
                        refine lv_istore (lv' := [(5, .int f54), (4, .int f14), (0, .ref a0), (1, .int x1), (2, .ref a2), (3, .ref ta)]) X.1 X.2.1 dX12_readItems_126 hl (by decide) rfl (fun ls hl => ?_)
                        refine lv_goto (tgt := 41) X.1 X.2.1 dX12_readItems_128 (by decide) ?_
                        refine lv_iload X.1 X.2.1 dX12_readItems_41 (lv_at hl 0 rfl) ?_
                        refine lv_iconst (v := (-1)) X.1 X.2.1 dX12_readItems_43 (by decide +kernel) ?_
                        refine lv_icmp_eq (tgt := 131) X.1 X.2.1 dX12_readItems_44 (by decide) (fun c55 => ?_) (fun c55 => ?_)
                        · have hG := sgr_weak (d' := 0) (lo' := lo) (hi' := 241) (f' := (-1)) hG (by omega) (by omega) (by omega) (by omega)
                          exact sg_vret2 X hr hlk hS (fun t ht hW => (Or.inl (sg_post hb hK hC hG hS ht hW))) dX12_readItems_131
                        · refine lv_aload_n X.1 X.2.1 dX12_readItems_47 rfl (lv_at hl 2 rfl) ?_
                          refine gf_X12_11r X hK hG h0 wl_6_189 dX12_readItems_48 (fun f56 hf56 kf56 => ?_)
                          have ⟨laf56, uaf56⟩ : (-1) ≤ f56.toInt ∧ f56.toInt ≤ 241 := hf56
                          have hf56 : iv (-1) 241 f56 := ⟨by omega, by omega⟩
                          refine lv_iconst (v := (-1)) X.1 X.2.1 dX12_readItems_51 (by decide +kernel) ?_
                          refine lv_icmp_ne (tgt := 131) X.1 X.2.1 dX12_readItems_52 (by decide) (fun c57 => ?_) (fun c57 => ?_)
                          · have hG := sgr_weak (d' := 0) (lo' := lo) (hi' := 241) (f' := (-1)) hG (by omega) (by omega) (by omega) (by omega)
                            exact sg_vret2 X hr hlk hS (fun t ht hW => (Or.inl (sg_post hb hK hC hG hS ht hW))) dX12_readItems_131
                          · have uss58 : v53.toInt ≤ 240 := ((iv_of (sg_lk (sg_spot (iv_ne_lo (a' := 0) c55 hf54.1 (by decide +kernel)) hf54.2) lv53 hv53) (a' := 0) (b' := 240) (by decide +kernel))).2
                            have hG := sgr_str (lo' := v53.toInt) (hi' := 240) hG h0 kv53 ⟨Int.le_refl _, ((iv_of (sg_lk (sg_spot (iv_ne_lo (a' := 0) c55 hf54.1 (by decide +kernel)) hf54.2) lv53 hv53) (a' := 0) (b' := 240) (by decide +kernel))).2⟩
                            exact ih10 H _ _ f14 f54 v53.toInt (by omega) (by omega) hG hS (lv_sub hl [2, 3, 4, 5, 1, 0] rfl) (iv_of (iv_or 7 ef14 hz10_4 (sg_shl1 ef13 hz10_5 (by decide +kernel)) (by decide +kernel)) (a' := 0) (b' := 127) (by decide +kernel)) (iv_ne_lo (a' := 0) c55 hf54.1 (by decide +kernel)) (by omega)
                  by_cases k59 : z10_5.toInt = 2
                  · have hk59 : iv 2 2 z10_5 := ⟨by omega, by omega⟩
                    refine lv_aload_n X.1 X.2.1 dX12_readItems_80 rfl (lv_at hl 1 rfl) ?_
                    refine lv_dup X.1 X.2.1 dX12_readItems_81 rfl ?_
                    refine gf_X12_10r X hK hG h0 wl_6_188 dX12_readItems_82 (fun f60 hf60 kf60 => ?_)
                    have ⟨laf60, uaf60⟩ : lo10 ≤ f60.toInt ∧ f60.toInt ≤ 240 := hf60
                    have hf60 : iv 0 240 f60 := ⟨by omega, by omega⟩
                    refine lv_iconst (v := 1) X.1 X.2.1 dX12_readItems_85 (by decide +kernel) ?_
                    refine lv_iadd X.1 X.2.1 dX12_readItems_86 ?_
                    refine lv_topi (fun f61 ef61 => ?_)
                    have sf61 : f61.toInt = f60.toInt + 1 := sg_inc (k := 1) ef61 hf60 (by decide +kernel)
                    have uf61 : f61.toInt ≤ 241 := Int.le_trans ((iv_add (a' := 1) (b' := 241) ef61 hf60 (iv_c 1 (a := 1) (b := 1) (by decide +kernel)) (by decide +kernel))).2 (by omega)
                    refine pf_X12_10R (lo2 := f61.toInt) (hi2 := 241) X hK hG hS h0 wl_6_188 ⟨_, rfl, Int.le_refl _, uf61⟩ dX12_readItems_87 (fun H locs hG hS => ?_)
                    refine lv_aload_n X.1 X.2.1 dX12_readItems_90 rfl (lv_at hl 3 rfl) ?_
                    refine lv_iload X.1 X.2.1 dX12_readItems_91 (lv_at hl 5 rfl) ?_
                    refine lv_aload_n X.1 X.2.1 dX12_readItems_93 rfl (lv_at hl 1 rfl) ?_
                    refine lv_iload_n X.1 X.2.1 dX12_readItems_94 rfl (lv_at hl 2 rfl) ?_
                    refine lv_iload X.1 X.2.1 dX12_readItems_95 (lv_at hl 5 rfl) ?_
                    refine ca_X12_leastOf_k2 X hK (sgr_toKT hG (by omega) (by omega) (by omega)) hC (fun _ h => h) hS hb x1 h1 z10_5 hk59 wl_7_177 hl.1 (rest := [.ref a0, .int z10_5, .ref a2]) rfl (Nat.le_of_ble_eq_true rfl) ⟨Nat.le_of_ble_eq_true rfl, Nat.le_of_ble_eq_true rfl⟩ ⟨Nat.le_of_ble_eq_true rfl, Nat.le_of_ble_eq_true rfl⟩ dX12_readItems_97 (fun f62 locs hf62 hS => ?_)
                    refine lv_iload_n X.1 X.2.1 dX12_readItems_100 rfl (lv_at hl 2 rfl) ?_
                    refine lv_iload X.1 X.2.1 dX12_readItems_101 (lv_at hl 5 rfl) ?_
                    refine ca_X12_mostOf_k2 X hK (sgr_toKT hG (by omega) (by omega) (by omega)) hC (fun _ h => h) hS hb x1 h1 z10_5 hk59 wl_7_180 hl.1 (rest := [.int f62, .ref a0, .int z10_5, .ref a2]) rfl (Nat.le_of_ble_eq_true rfl) ⟨Nat.le_of_ble_eq_true rfl, Nat.le_of_ble_eq_true rfl⟩ ⟨Nat.le_of_ble_eq_true rfl, Nat.le_of_ble_eq_true rfl⟩ dX12_readItems_103 (fun f63 locs hf63 hS => ?_)
                    refine ca_X12_number_v X hK hG hC hS hb a0 h0 f62 f63 ⟨by omega, by omega, by omega, by omega, by omega⟩ (by omega) wl_7_183 hl.1 (rest := [.int z10_5, .ref a2]) rfl (Nat.le_of_ble_eq_true rfl) ⟨Nat.le_of_ble_eq_true rfl, Nat.le_of_ble_eq_true rfl⟩ ⟨Nat.le_of_ble_eq_true rfl, Nat.le_of_ble_eq_true rfl⟩ dX12_readItems_106 (fun f64 tf64 H locs htf64 hf64 hWf64 hS => ?_)
                    obtain ⟨hBf64, w65, kw65, hw65⟩ := hWf64
                    have hG := hBf64.2.2.2
                    rw [htf64] at hG kw65
                    rcases hw65 with hw65 | hw65
                    · have hG := sgr_bad hG h0 kw65 hw65 (by decide : (0 : Int) ≤ 7)
                      refine as_50r X hK hG hS h2 (iv_vpin hk59 (by decide +kernel)) sg_rr0 dX12_readItems_109 (fun H locs hG hS ru66 => ?_)
                      refine lv_aload_n X.1 X.2.1 dX12_readItems_110 rfl (lv_at hl 1 rfl) ?_
                      refine gg_X12_11r X hK hG h0 wl_6_189 (ru66 _ _ _ _ _ _ _ h0 rfl rfl (by decide) (fun z => z.elim) kw65) dX12_readItems_111 ?_
                      refine lv_iconst (v := (-1)) X.1 X.2.1 dX12_readItems_114 (by decide +kernel) ?_
                      refine lv_icmp_ne (tgt := 41) X.1 X.2.1 dX12_readItems_115 (by decide) (fun c67 => ?_) (fun c67 => ?_)
                      · refine lv_iload X.1 X.2.1 dX12_readItems_41 (lv_at hl 5 rfl) ?_
                        refine lv_iconst (v := (-1)) X.1 X.2.1 dX12_readItems_43 (by decide +kernel) ?_
                        refine lv_icmp_eq (tgt := 131) X.1 X.2.1 dX12_readItems_44 (by decide) (fun c68 => ?_) (fun c68 => ?_)
                        · exact ((iv_no (a := 2) (b := (-1)) (iv_eqm c68 hk59 (iv_c (-1) (a := (-1)) (b := (-1)) (by decide +kernel)) (by decide +kernel)) (by decide +kernel))).elim
                        · refine lv_aload_n X.1 X.2.1 dX12_readItems_47 rfl (lv_at hl 1 rfl) ?_
                          refine gg_X12_11r X hK hG h0 wl_6_189 (ru66 _ _ _ _ _ _ _ h0 rfl rfl (by decide) (fun z => z.elim) kw65) dX12_readItems_48 ?_
                          refine lv_iconst (v := (-1)) X.1 X.2.1 dX12_readItems_51 (by decide +kernel) ?_
                          refine lv_icmp_ne (tgt := 131) X.1 X.2.1 dX12_readItems_52 (by decide) (fun c69 => ?_) (fun c69 => ?_)
                          · have hG := sgr_weak (d' := 0) (lo' := lo) (hi' := 241) (f' := 0) hG (by omega) (by omega) (by omega) (by omega)
                            exact sg_vret2 X hr hlk hS (fun t ht hW => (Or.inr (sg_post hb hK hC hG hS ht hW))) dX12_readItems_131
                          · exact ((iv_no (a := 0) (b := (-1)) (iv_eqm c69 hw65 (iv_c (-1) (a := (-1)) (b := (-1)) (by decide +kernel)) (by decide +kernel)) (by decide +kernel))).elim
                      · exact ((iv_no (a := 0) (b := (-1)) (iv_eqm c67 hw65 (iv_c (-1) (a := (-1)) (b := (-1)) (by decide +kernel)) (by decide +kernel)) (by decide +kernel))).elim
                    · obtain ⟨pw65, hpw65, kpw65⟩ := pk_X12_11r hG h0
                      refine as_50r X hK hG hS h2 (iv_vpin hk59 (by decide +kernel)) (sg_rr7w hk59 (by decide +kernel) rfl (sg_btw hw65 hf62 hf63)) dX12_readItems_109 (fun H locs hG hS ru70 => ?_)
                      refine lv_aload_n X.1 X.2.1 dX12_readItems_110 rfl (lv_at hl 1 rfl) ?_
                      refine gg_X12_11r X hK hG h0 wl_6_189 (ru70 _ _ _ _ _ _ _ h0 rfl rfl (by decide) (fun z => z.elim) kpw65) dX12_readItems_111 ?_
                      refine lv_iconst (v := (-1)) X.1 X.2.1 dX12_readItems_114 (by decide +kernel) ?_
                      refine lv_icmp_ne (tgt := 41) X.1 X.2.1 dX12_readItems_115 (by decide) (fun c71 => ?_) (fun c71 => ?_)
                      · refine lv_iload X.1 X.2.1 dX12_readItems_41 (lv_at hl 5 rfl) ?_
                        refine lv_iconst (v := (-1)) X.1 X.2.1 dX12_readItems_43 (by decide +kernel) ?_
                        refine lv_icmp_eq (tgt := 131) X.1 X.2.1 dX12_readItems_44 (by decide) (fun c72 => ?_) (fun c72 => ?_)
                        · exact ((iv_no (a := 2) (b := (-1)) (iv_eqm c72 hk59 (iv_c (-1) (a := (-1)) (b := (-1)) (by decide +kernel)) (by decide +kernel)) (by decide +kernel))).elim
                        · refine lv_aload_n X.1 X.2.1 dX12_readItems_47 rfl (lv_at hl 1 rfl) ?_
                          refine gg_X12_11r X hK hG h0 wl_6_189 (ru70 _ _ _ _ _ _ _ h0 rfl rfl (by decide) (fun z => z.elim) kpw65) dX12_readItems_48 ?_
                          refine lv_iconst (v := (-1)) X.1 X.2.1 dX12_readItems_51 (by decide +kernel) ?_
                          refine lv_icmp_ne (tgt := 131) X.1 X.2.1 dX12_readItems_52 (by decide) (fun c73 => ?_) (fun c73 => ?_)
                          · have hG := sgr_weak (d' := 0) (lo' := lo) (hi' := 241) (f' := (-1)) hG (by omega) (by omega) (by omega) (by omega)
                            exact sg_vret2 X hr hlk hS (fun t ht hW => (Or.inl (sg_post hb hK hC hG hS ht hW))) dX12_readItems_131
                          · exact ((iv_no (a := 0) (b := (-1)) (iv_eqm c73 (iv_ne_lo (a' := 0) c71 hpw65 (by decide +kernel)) (iv_c (-1) (a := (-1)) (b := (-1)) (by decide +kernel)) (by decide +kernel)) (by decide +kernel))).elim
                      · refine lv_aload_n X.1 X.2.1 dX12_readItems_118 rfl (lv_at hl 4 rfl) ?_
                        refine lv_aload_n X.1 X.2.1 dX12_readItems_119 rfl (lv_at hl 1 rfl) ?_
                        refine ca_X12_look X hK hG hC hS hb a0 h0 ⟨by omega, by omega, by omega, by omega, by omega⟩ ⟨by omega, by omega, by omega⟩ wl_7_137 hl.1 (rest := [.ref ta]) rfl (Nat.le_of_ble_eq_true rfl) ⟨Nat.le_of_ble_eq_true rfl, Nat.le_of_ble_eq_true rfl⟩ ⟨Nat.le_of_ble_eq_true rfl, Nat.le_of_ble_eq_true rfl⟩ dX12_readItems_120 (fun f74 tf74 H locs htf74 hf74 hWf74 hS => ?_)
                        obtain ⟨hBf74, v75, kv75, hv75, lv75⟩ := hWf74
                        have hG := hBf74.2.2.2
                        rw [htf74] at hG kv75
                        have ⟨lav75, uav75⟩ : f61.toInt ≤ v75.toInt ∧ v75.toInt ≤ 241 := hv75
                        have hv75 : iv 0 241 v75 := ⟨by omega, by omega⟩
                        refine ca_X12_spotOf_7 X hK (sgr_toKT hG (by omega) (by omega) (by omega)) hC (fun _ h => h) hS hb hp f74 htb wl_7_151 hl.1 (rest := []) rfl (Nat.le_of_ble_eq_true rfl) ⟨Nat.le_of_ble_eq_true rfl, Nat.le_of_ble_eq_true rfl⟩ ⟨Nat.le_of_ble_eq_true rfl, Nat.le_of_ble_eq_true rfl⟩ dX12_readItems_123 (fun f76 locs hf76 hS => ?_)
                        refine lv_istore (lv' := [(5, .int f76), (4, .int f14), (0, .ref a0), (1, .int x1), (2, .ref a2), (3, .ref ta)]) X.1 X.2.1 dX12_readItems_126 hl (by decide) rfl (fun ls hl => ?_)
                        refine lv_goto (tgt := 41) X.1 X.2.1 dX12_readItems_128 (by decide) ?_
                        refine lv_iload X.1 X.2.1 dX12_readItems_41 (lv_at hl 0 rfl) ?_
                        refine lv_iconst (v := (-1)) X.1 X.2.1 dX12_readItems_43 (by decide +kernel) ?_
                        refine lv_icmp_eq (tgt := 131) X.1 X.2.1 dX12_readItems_44 (by decide) (fun c77 => ?_) (fun c77 => ?_)
                        · have hG := sgr_weak (d' := 0) (lo' := lo) (hi' := 241) (f' := (-1)) hG (by omega) (by omega) (by omega) (by omega)
                          exact sg_vret2 X hr hlk hS (fun t ht hW => (Or.inl (sg_post hb hK hC hG hS ht hW))) dX12_readItems_131
                        · refine lv_aload_n X.1 X.2.1 dX12_readItems_47 rfl (lv_at hl 2 rfl) ?_
                          refine gf_X12_11r X hK hG h0 wl_6_189 dX12_readItems_48 (fun f78 hf78 kf78 => ?_)
                          have ⟨laf78, uaf78⟩ : (-1) ≤ f78.toInt ∧ f78.toInt ≤ 241 := hf78
                          have hf78 : iv (-1) 241 f78 := ⟨by omega, by omega⟩
                          refine lv_iconst (v := (-1)) X.1 X.2.1 dX12_readItems_51 (by decide +kernel) ?_
                          refine lv_icmp_ne (tgt := 131) X.1 X.2.1 dX12_readItems_52 (by decide) (fun c79 => ?_) (fun c79 => ?_)
                          · have hG := sgr_weak (d' := 0) (lo' := lo) (hi' := 241) (f' := (-1)) hG (by omega) (by omega) (by omega) (by omega)
                            exact sg_vret2 X hr hlk hS (fun t ht hW => (Or.inl (sg_post hb hK hC hG hS ht hW))) dX12_readItems_131
                          · have uss80 : v75.toInt ≤ 240 := ((iv_of (sg_lk (sg_spot (iv_ne_lo (a' := 0) c77 hf76.1 (by decide +kernel)) hf76.2) lv75 hv75) (a' := 0) (b' := 240) (by decide +kernel))).2
                            have hG := sgr_str (lo' := v75.toInt) (hi' := 240) hG h0 kv75 ⟨Int.le_refl _, ((iv_of (sg_lk (sg_spot (iv_ne_lo (a' := 0) c77 hf76.1 (by decide +kernel)) hf76.2) lv75 hv75) (a' := 0) (b' := 240) (by decide +kernel))).2⟩
                            exact ih10 H _ _ f14 f76 v75.toInt (by omega) (by omega) hG hS (lv_sub hl [2, 3, 4, 5, 1, 0] rfl) (iv_of (iv_or 7 ef14 hz10_4 (sg_shl1 ef13 hz10_5 (by decide +kernel)) (by decide +kernel)) (a' := 0) (b' := 127) (by decide +kernel)) (iv_ne_lo (a' := 0) c77 hf76.1 (by decide +kernel)) (by omega)
                  by_cases k81 : z10_5.toInt = 3
                  · have hk81 : iv 3 3 z10_5 := ⟨by omega, by omega⟩
                    refine lv_aload_n X.1 X.2.1 dX12_readItems_80 rfl (lv_at hl 1 rfl) ?_
                    refine lv_dup X.1 X.2.1 dX12_readItems_81 rfl ?_
                    refine gf_X12_10r X hK hG h0 wl_6_188 dX12_readItems_82 (fun f82 hf82 kf82 => ?_)
                    have ⟨laf82, uaf82⟩ : lo10 ≤ f82.toInt ∧ f82.toInt ≤ 240 := hf82
                    have hf82 : iv 0 240 f82 := ⟨by omega, by omega⟩
                    refine lv_iconst (v := 1) X.1 X.2.1 dX12_readItems_85 (by decide +kernel) ?_
                    refine lv_iadd X.1 X.2.1 dX12_readItems_86 ?_
                    refine lv_topi (fun f83 ef83 => ?_)
                    have sf83 : f83.toInt = f82.toInt + 1 := sg_inc (k := 1) ef83 hf82 (by decide +kernel)
                    have uf83 : f83.toInt ≤ 241 := Int.le_trans ((iv_add (a' := 1) (b' := 241) ef83 hf82 (iv_c 1 (a := 1) (b := 1) (by decide +kernel)) (by decide +kernel))).2 (by omega)
                    refine pf_X12_10R (lo2 := f83.toInt) (hi2 := 241) X hK hG hS h0 wl_6_188 ⟨_, rfl, Int.le_refl _, uf83⟩ dX12_readItems_87 (fun H locs hG hS => ?_)
                    refine lv_aload_n X.1 X.2.1 dX12_readItems_90 rfl (lv_at hl 3 rfl) ?_
                    refine lv_iload X.1 X.2.1 dX12_readItems_91 (lv_at hl 5 rfl) ?_
                    refine lv_aload_n X.1 X.2.1 dX12_readItems_93 rfl (lv_at hl 1 rfl) ?_
                    refine lv_iload_n X.1 X.2.1 dX12_readItems_94 rfl (lv_at hl 2 rfl) ?_
                    refine lv_iload X.1 X.2.1 dX12_readItems_95 (lv_at hl 5 rfl) ?_
                    refine ca_X12_leastOf_k3 X hK (sgr_toKT hG (by omega) (by omega) (by omega)) hC (fun _ h => h) hS hb x1 h1 z10_5 hk81 wl_7_177 hl.1 (rest := [.ref a0, .int z10_5, .ref a2]) rfl (Nat.le_of_ble_eq_true rfl) ⟨Nat.le_of_ble_eq_true rfl, Nat.le_of_ble_eq_true rfl⟩ ⟨Nat.le_of_ble_eq_true rfl, Nat.le_of_ble_eq_true rfl⟩ dX12_readItems_97 (fun f84 locs hf84 hS => ?_)
                    refine lv_iload_n X.1 X.2.1 dX12_readItems_100 rfl (lv_at hl 2 rfl) ?_
                    refine lv_iload X.1 X.2.1 dX12_readItems_101 (lv_at hl 5 rfl) ?_
                    refine ca_X12_mostOf_k3 X hK (sgr_toKT hG (by omega) (by omega) (by omega)) hC (fun _ h => h) hS hb x1 h1 z10_5 hk81 wl_7_180 hl.1 (rest := [.int f84, .ref a0, .int z10_5, .ref a2]) rfl (Nat.le_of_ble_eq_true rfl) ⟨Nat.le_of_ble_eq_true rfl, Nat.le_of_ble_eq_true rfl⟩ ⟨Nat.le_of_ble_eq_true rfl, Nat.le_of_ble_eq_true rfl⟩ dX12_readItems_103 (fun f85 locs hf85 hS => ?_)
                    refine ca_X12_number_v X hK hG hC hS hb a0 h0 f84 f85 ⟨by omega, by omega, by omega, by omega, by omega⟩ (by omega) wl_7_183 hl.1 (rest := [.int z10_5, .ref a2]) rfl (Nat.le_of_ble_eq_true rfl) ⟨Nat.le_of_ble_eq_true rfl, Nat.le_of_ble_eq_true rfl⟩ ⟨Nat.le_of_ble_eq_true rfl, Nat.le_of_ble_eq_true rfl⟩ dX12_readItems_106 (fun f86 tf86 H locs htf86 hf86 hWf86 hS => ?_)
                    obtain ⟨hBf86, w87, kw87, hw87⟩ := hWf86
                    have hG := hBf86.2.2.2
                    rw [htf86] at hG kw87
                    rcases hw87 with hw87 | hw87
                    · have hG := sgr_bad hG h0 kw87 hw87 (by decide : (0 : Int) ≤ 7)
                      refine as_50r X hK hG hS h2 (iv_vpin hk81 (by decide +kernel)) sg_rr0 dX12_readItems_109 (fun H locs hG hS ru88 => ?_)
                      refine lv_aload_n X.1 X.2.1 dX12_readItems_110 rfl (lv_at hl 1 rfl) ?_
                      refine gg_X12_11r X hK hG h0 wl_6_189 (ru88 _ _ _ _ _ _ _ h0 rfl rfl (by decide) (fun z => z.elim) kw87) dX12_readItems_111 ?_
                      refine lv_iconst (v := (-1)) X.1 X.2.1 dX12_readItems_114 (by decide +kernel) ?_
                      refine lv_icmp_ne (tgt := 41) X.1 X.2.1 dX12_readItems_115 (by decide) (fun c89 => ?_) (fun c89 => ?_)
                      · refine lv_iload X.1 X.2.1 dX12_readItems_41 (lv_at hl 5 rfl) ?_
                        refine lv_iconst (v := (-1)) X.1 X.2.1 dX12_readItems_43 (by decide +kernel) ?_
                        refine lv_icmp_eq (tgt := 131) X.1 X.2.1 dX12_readItems_44 (by decide) (fun c90 => ?_) (fun c90 => ?_)
                        · exact ((iv_no (a := 3) (b := (-1)) (iv_eqm c90 hk81 (iv_c (-1) (a := (-1)) (b := (-1)) (by decide +kernel)) (by decide +kernel)) (by decide +kernel))).elim
                        · refine lv_aload_n X.1 X.2.1 dX12_readItems_47 rfl (lv_at hl 1 rfl) ?_
                          refine gg_X12_11r X hK hG h0 wl_6_189 (ru88 _ _ _ _ _ _ _ h0 rfl rfl (by decide) (fun z => z.elim) kw87) dX12_readItems_48 ?_
                          refine lv_iconst (v := (-1)) X.1 X.2.1 dX12_readItems_51 (by decide +kernel) ?_
                          refine lv_icmp_ne (tgt := 131) X.1 X.2.1 dX12_readItems_52 (by decide) (fun c91 => ?_) (fun c91 => ?_)
                          · have hG := sgr_weak (d' := 0) (lo' := lo) (hi' := 241) (f' := 0) hG (by omega) (by omega) (by omega) (by omega)
                            exact sg_vret2 X hr hlk hS (fun t ht hW => (Or.inr (sg_post hb hK hC hG hS ht hW))) dX12_readItems_131
                          · exact ((iv_no (a := 0) (b := (-1)) (iv_eqm c91 hw87 (iv_c (-1) (a := (-1)) (b := (-1)) (by decide +kernel)) (by decide +kernel)) (by decide +kernel))).elim
                      · exact ((iv_no (a := 0) (b := (-1)) (iv_eqm c89 hw87 (iv_c (-1) (a := (-1)) (b := (-1)) (by decide +kernel)) (by decide +kernel)) (by decide +kernel))).elim
                    · obtain ⟨pw87, hpw87, kpw87⟩ := pk_X12_11r hG h0
                      refine as_50r X hK hG hS h2 (iv_vpin hk81 (by decide +kernel)) (sg_rr7w hk81 (by decide +kernel) rfl (sg_btw hw87 hf84 hf85)) dX12_readItems_109 (fun H locs hG hS ru92 => ?_)
                      refine lv_aload_n X.1 X.2.1 dX12_readItems_110 rfl (lv_at hl 1 rfl) ?_
                      refine gg_X12_11r X hK hG h0 wl_6_189 (ru92 _ _ _ _ _ _ _ h0 rfl rfl (by decide) (fun z => z.elim) kpw87) dX12_readItems_111 ?_
                      refine lv_iconst (v := (-1)) X.1 X.2.1 dX12_readItems_114 (by decide +kernel) ?_
                      refine lv_icmp_ne (tgt := 41) X.1 X.2.1 dX12_readItems_115 (by decide) (fun c93 => ?_) (fun c93 => ?_)
                      · refine lv_iload X.1 X.2.1 dX12_readItems_41 (lv_at hl 5 rfl) ?_
                        refine lv_iconst (v := (-1)) X.1 X.2.1 dX12_readItems_43 (by decide +kernel) ?_
                        refine lv_icmp_eq (tgt := 131) X.1 X.2.1 dX12_readItems_44 (by decide) (fun c94 => ?_) (fun c94 => ?_)
                        · exact ((iv_no (a := 3) (b := (-1)) (iv_eqm c94 hk81 (iv_c (-1) (a := (-1)) (b := (-1)) (by decide +kernel)) (by decide +kernel)) (by decide +kernel))).elim
                        · refine lv_aload_n X.1 X.2.1 dX12_readItems_47 rfl (lv_at hl 1 rfl) ?_
                          refine gg_X12_11r X hK hG h0 wl_6_189 (ru92 _ _ _ _ _ _ _ h0 rfl rfl (by decide) (fun z => z.elim) kpw87) dX12_readItems_48 ?_
                          refine lv_iconst (v := (-1)) X.1 X.2.1 dX12_readItems_51 (by decide +kernel) ?_
                          refine lv_icmp_ne (tgt := 131) X.1 X.2.1 dX12_readItems_52 (by decide) (fun c95 => ?_) (fun c95 => ?_)
                          · have hG := sgr_weak (d' := 0) (lo' := lo) (hi' := 241) (f' := (-1)) hG (by omega) (by omega) (by omega) (by omega)
                            exact sg_vret2 X hr hlk hS (fun t ht hW => (Or.inl (sg_post hb hK hC hG hS ht hW))) dX12_readItems_131
                          · exact ((iv_no (a := 0) (b := (-1)) (iv_eqm c95 (iv_ne_lo (a' := 0) c93 hpw87 (by decide +kernel)) (iv_c (-1) (a := (-1)) (b := (-1)) (by decide +kernel)) (by decide +kernel)) (by decide +kernel))).elim
                      · refine lv_aload_n X.1 X.2.1 dX12_readItems_118 rfl (lv_at hl 4 rfl) ?_
                        refine lv_aload_n X.1 X.2.1 dX12_readItems_119 rfl (lv_at hl 1 rfl) ?_
                        refine ca_X12_look X hK hG hC hS hb a0 h0 ⟨by omega, by omega, by omega, by omega, by omega⟩ ⟨by omega, by omega, by omega⟩ wl_7_137 hl.1 (rest := [.ref ta]) rfl (Nat.le_of_ble_eq_true rfl) ⟨Nat.le_of_ble_eq_true rfl, Nat.le_of_ble_eq_true rfl⟩ ⟨Nat.le_of_ble_eq_true rfl, Nat.le_of_ble_eq_true rfl⟩ dX12_readItems_120 (fun f96 tf96 H locs htf96 hf96 hWf96 hS => ?_)
                        obtain ⟨hBf96, v97, kv97, hv97, lv97⟩ := hWf96
                        have hG := hBf96.2.2.2
                        rw [htf96] at hG kv97
                        have ⟨lav97, uav97⟩ : f83.toInt ≤ v97.toInt ∧ v97.toInt ≤ 241 := hv97
                        have hv97 : iv 0 241 v97 := ⟨by omega, by omega⟩
                        refine ca_X12_spotOf_7 X hK (sgr_toKT hG (by omega) (by omega) (by omega)) hC (fun _ h => h) hS hb hp f96 htb wl_7_151 hl.1 (rest := []) rfl (Nat.le_of_ble_eq_true rfl) ⟨Nat.le_of_ble_eq_true rfl, Nat.le_of_ble_eq_true rfl⟩ ⟨Nat.le_of_ble_eq_true rfl, Nat.le_of_ble_eq_true rfl⟩ dX12_readItems_123 (fun f98 locs hf98 hS => ?_)
                        refine lv_istore (lv' := [(5, .int f98), (4, .int f14), (0, .ref a0), (1, .int x1), (2, .ref a2), (3, .ref ta)]) X.1 X.2.1 dX12_readItems_126 hl (by decide) rfl (fun ls hl => ?_)
                        refine lv_goto (tgt := 41) X.1 X.2.1 dX12_readItems_128 (by decide) ?_
                        refine lv_iload X.1 X.2.1 dX12_readItems_41 (lv_at hl 0 rfl) ?_
                        refine lv_iconst (v := (-1)) X.1 X.2.1 dX12_readItems_43 (by decide +kernel) ?_
                        refine lv_icmp_eq (tgt := 131) X.1 X.2.1 dX12_readItems_44 (by decide) (fun c99 => ?_) (fun c99 => ?_)
                        · have hG := sgr_weak (d' := 0) (lo' := lo) (hi' := 241) (f' := (-1)) hG (by omega) (by omega) (by omega) (by omega)
                          exact sg_vret2 X hr hlk hS (fun t ht hW => (Or.inl (sg_post hb hK hC hG hS ht hW))) dX12_readItems_131
                        · refine lv_aload_n X.1 X.2.1 dX12_readItems_47 rfl (lv_at hl 2 rfl) ?_
                          refine gf_X12_11r X hK hG h0 wl_6_189 dX12_readItems_48 (fun f100 hf100 kf100 => ?_)
                          have ⟨laf100, uaf100⟩ : (-1) ≤ f100.toInt ∧ f100.toInt ≤ 241 := hf100
                          have hf100 : iv (-1) 241 f100 := ⟨by omega, by omega⟩
                          refine lv_iconst (v := (-1)) X.1 X.2.1 dX12_readItems_51 (by decide +kernel) ?_
                          refine lv_icmp_ne (tgt := 131) X.1 X.2.1 dX12_readItems_52 (by decide) (fun c101 => ?_) (fun c101 => ?_)
                          · have hG := sgr_weak (d' := 0) (lo' := lo) (hi' := 241) (f' := (-1)) hG (by omega) (by omega) (by omega) (by omega)
                            exact sg_vret2 X hr hlk hS (fun t ht hW => (Or.inl (sg_post hb hK hC hG hS ht hW))) dX12_readItems_131
                          · have uss102 : v97.toInt ≤ 240 := ((iv_of (sg_lk (sg_spot (iv_ne_lo (a' := 0) c99 hf98.1 (by decide +kernel)) hf98.2) lv97 hv97) (a' := 0) (b' := 240) (by decide +kernel))).2
                            have hG := sgr_str (lo' := v97.toInt) (hi' := 240) hG h0 kv97 ⟨Int.le_refl _, ((iv_of (sg_lk (sg_spot (iv_ne_lo (a' := 0) c99 hf98.1 (by decide +kernel)) hf98.2) lv97 hv97) (a' := 0) (b' := 240) (by decide +kernel))).2⟩
                            exact ih10 H _ _ f14 f98 v97.toInt (by omega) (by omega) hG hS (lv_sub hl [2, 3, 4, 5, 1, 0] rfl) (iv_of (iv_or 7 ef14 hz10_4 (sg_shl1 ef13 hz10_5 (by decide +kernel)) (by decide +kernel)) (a' := 0) (b' := 127) (by decide +kernel)) (iv_ne_lo (a' := 0) c99 hf98.1 (by decide +kernel)) (by omega)
                  by_cases k103 : z10_5.toInt = 4
                  · have hk103 : iv 4 4 z10_5 := ⟨by omega, by omega⟩
                    refine lv_aload_n X.1 X.2.1 dX12_readItems_80 rfl (lv_at hl 1 rfl) ?_
                    refine lv_dup X.1 X.2.1 dX12_readItems_81 rfl ?_
                    refine gf_X12_10r X hK hG h0 wl_6_188 dX12_readItems_82 (fun f104 hf104 kf104 => ?_)
                    have ⟨laf104, uaf104⟩ : lo10 ≤ f104.toInt ∧ f104.toInt ≤ 240 := hf104
                    have hf104 : iv 0 240 f104 := ⟨by omega, by omega⟩
                    refine lv_iconst (v := 1) X.1 X.2.1 dX12_readItems_85 (by decide +kernel) ?_
                    refine lv_iadd X.1 X.2.1 dX12_readItems_86 ?_
                    refine lv_topi (fun f105 ef105 => ?_)
                    have sf105 : f105.toInt = f104.toInt + 1 := sg_inc (k := 1) ef105 hf104 (by decide +kernel)
                    have uf105 : f105.toInt ≤ 241 := Int.le_trans ((iv_add (a' := 1) (b' := 241) ef105 hf104 (iv_c 1 (a := 1) (b := 1) (by decide +kernel)) (by decide +kernel))).2 (by omega)
                    refine pf_X12_10R (lo2 := f105.toInt) (hi2 := 241) X hK hG hS h0 wl_6_188 ⟨_, rfl, Int.le_refl _, uf105⟩ dX12_readItems_87 (fun H locs hG hS => ?_)
                    refine lv_aload_n X.1 X.2.1 dX12_readItems_90 rfl (lv_at hl 3 rfl) ?_
                    refine lv_iload X.1 X.2.1 dX12_readItems_91 (lv_at hl 5 rfl) ?_
                    refine lv_aload_n X.1 X.2.1 dX12_readItems_93 rfl (lv_at hl 1 rfl) ?_
                    refine lv_iload_n X.1 X.2.1 dX12_readItems_94 rfl (lv_at hl 2 rfl) ?_
                    refine lv_iload X.1 X.2.1 dX12_readItems_95 (lv_at hl 5 rfl) ?_
                    refine ca_X12_leastOf_k4 X hK (sgr_toKT hG (by omega) (by omega) (by omega)) hC (fun _ h => h) hS hb x1 h1 z10_5 hk103 wl_7_177 hl.1 (rest := [.ref a0, .int z10_5, .ref a2]) rfl (Nat.le_of_ble_eq_true rfl) ⟨Nat.le_of_ble_eq_true rfl, Nat.le_of_ble_eq_true rfl⟩ ⟨Nat.le_of_ble_eq_true rfl, Nat.le_of_ble_eq_true rfl⟩ dX12_readItems_97 (fun f106 locs hf106 hS => ?_)
                    refine lv_iload_n X.1 X.2.1 dX12_readItems_100 rfl (lv_at hl 2 rfl) ?_
                    refine lv_iload X.1 X.2.1 dX12_readItems_101 (lv_at hl 5 rfl) ?_
                    refine ca_X12_mostOf_k4 X hK (sgr_toKT hG (by omega) (by omega) (by omega)) hC (fun _ h => h) hS hb x1 h1 z10_5 hk103 wl_7_180 hl.1 (rest := [.int f106, .ref a0, .int z10_5, .ref a2]) rfl (Nat.le_of_ble_eq_true rfl) ⟨Nat.le_of_ble_eq_true rfl, Nat.le_of_ble_eq_true rfl⟩ ⟨Nat.le_of_ble_eq_true rfl, Nat.le_of_ble_eq_true rfl⟩ dX12_readItems_103 (fun f107 locs hf107 hS => ?_)
                    refine ca_X12_number_v X hK hG hC hS hb a0 h0 f106 f107 ⟨by omega, by omega, by omega, by omega, by omega⟩ (by omega) wl_7_183 hl.1 (rest := [.int z10_5, .ref a2]) rfl (Nat.le_of_ble_eq_true rfl) ⟨Nat.le_of_ble_eq_true rfl, Nat.le_of_ble_eq_true rfl⟩ ⟨Nat.le_of_ble_eq_true rfl, Nat.le_of_ble_eq_true rfl⟩ dX12_readItems_106 (fun f108 tf108 H locs htf108 hf108 hWf108 hS => ?_)
                    obtain ⟨hBf108, w109, kw109, hw109⟩ := hWf108
                    have hG := hBf108.2.2.2
                    rw [htf108] at hG kw109
                    rcases hw109 with hw109 | hw109
                    · have hG := sgr_bad hG h0 kw109 hw109 (by decide : (0 : Int) ≤ 7)
                      refine as_50r X hK hG hS h2 (iv_vpin hk103 (by decide +kernel)) sg_rr0 dX12_readItems_109 (fun H locs hG hS ru110 => ?_)
                      refine lv_aload_n X.1 X.2.1 dX12_readItems_110 rfl (lv_at hl 1 rfl) ?_
                      refine gg_X12_11r X hK hG h0 wl_6_189 (ru110 _ _ _ _ _ _ _ h0 rfl rfl (by decide) (fun z => z.elim) kw109) dX12_readItems_111 ?_
                      refine lv_iconst (v := (-1)) X.1 X.2.1 dX12_readItems_114 (by decide +kernel) ?_
                      refine lv_icmp_ne (tgt := 41) X.1 X.2.1 dX12_readItems_115 (by decide) (fun c111 => ?_) (fun c111 => ?_)
                      · refine lv_iload X.1 X.2.1 dX12_readItems_41 (lv_at hl 5 rfl) ?_
                        refine lv_iconst (v := (-1)) X.1 X.2.1 dX12_readItems_43 (by decide +kernel) ?_
                        refine lv_icmp_eq (tgt := 131) X.1 X.2.1 dX12_readItems_44 (by decide) (fun c112 => ?_) (fun c112 => ?_)
                        · exact ((iv_no (a := 4) (b := (-1)) (iv_eqm c112 hk103 (iv_c (-1) (a := (-1)) (b := (-1)) (by decide +kernel)) (by decide +kernel)) (by decide +kernel))).elim
                        · refine lv_aload_n X.1 X.2.1 dX12_readItems_47 rfl (lv_at hl 1 rfl) ?_
                          refine gg_X12_11r X hK hG h0 wl_6_189 (ru110 _ _ _ _ _ _ _ h0 rfl rfl (by decide) (fun z => z.elim) kw109) dX12_readItems_48 ?_
                          refine lv_iconst (v := (-1)) X.1 X.2.1 dX12_readItems_51 (by decide +kernel) ?_
                          refine lv_icmp_ne (tgt := 131) X.1 X.2.1 dX12_readItems_52 (by decide) (fun c113 => ?_) (fun c113 => ?_)
                          · have hG := sgr_weak (d' := 0) (lo' := lo) (hi' := 241) (f' := 0) hG (by omega) (by omega) (by omega) (by omega)
                            exact sg_vret2 X hr hlk hS (fun t ht hW => (Or.inr (sg_post hb hK hC hG hS ht hW))) dX12_readItems_131
                          · exact ((iv_no (a := 0) (b := (-1)) (iv_eqm c113 hw109 (iv_c (-1) (a := (-1)) (b := (-1)) (by decide +kernel)) (by decide +kernel)) (by decide +kernel))).elim
                      · exact ((iv_no (a := 0) (b := (-1)) (iv_eqm c111 hw109 (iv_c (-1) (a := (-1)) (b := (-1)) (by decide +kernel)) (by decide +kernel)) (by decide +kernel))).elim
                    · obtain ⟨pw109, hpw109, kpw109⟩ := pk_X12_11r hG h0
                      refine as_50r X hK hG hS h2 (iv_vpin hk103 (by decide +kernel)) (sg_rr7w hk103 (by decide +kernel) rfl (sg_btw hw109 hf106 hf107)) dX12_readItems_109 (fun H locs hG hS ru114 => ?_)
                      refine lv_aload_n X.1 X.2.1 dX12_readItems_110 rfl (lv_at hl 1 rfl) ?_
                      refine gg_X12_11r X hK hG h0 wl_6_189 (ru114 _ _ _ _ _ _ _ h0 rfl rfl (by decide) (fun z => z.elim) kpw109) dX12_readItems_111 ?_
                      refine lv_iconst (v := (-1)) X.1 X.2.1 dX12_readItems_114 (by decide +kernel) ?_
                      refine lv_icmp_ne (tgt := 41) X.1 X.2.1 dX12_readItems_115 (by decide) (fun c115 => ?_) (fun c115 => ?_)
                      · refine lv_iload X.1 X.2.1 dX12_readItems_41 (lv_at hl 5 rfl) ?_
                        refine lv_iconst (v := (-1)) X.1 X.2.1 dX12_readItems_43 (by decide +kernel) ?_
                        refine lv_icmp_eq (tgt := 131) X.1 X.2.1 dX12_readItems_44 (by decide) (fun c116 => ?_) (fun c116 => ?_)
                        · exact ((iv_no (a := 4) (b := (-1)) (iv_eqm c116 hk103 (iv_c (-1) (a := (-1)) (b := (-1)) (by decide +kernel)) (by decide +kernel)) (by decide +kernel))).elim
                        · refine lv_aload_n X.1 X.2.1 dX12_readItems_47 rfl (lv_at hl 1 rfl) ?_
                          refine gg_X12_11r X hK hG h0 wl_6_189 (ru114 _ _ _ _ _ _ _ h0 rfl rfl (by decide) (fun z => z.elim) kpw109) dX12_readItems_48 ?_
                          refine lv_iconst (v := (-1)) X.1 X.2.1 dX12_readItems_51 (by decide +kernel) ?_
                          refine lv_icmp_ne (tgt := 131) X.1 X.2.1 dX12_readItems_52 (by decide) (fun c117 => ?_) (fun c117 => ?_)
                          · have hG := sgr_weak (d' := 0) (lo' := lo) (hi' := 241) (f' := (-1)) hG (by omega) (by omega) (by omega) (by omega)
                            exact sg_vret2 X hr hlk hS (fun t ht hW => (Or.inl (sg_post hb hK hC hG hS ht hW))) dX12_readItems_131
                          · exact ((iv_no (a := 0) (b := (-1)) (iv_eqm c117 (iv_ne_lo (a' := 0) c115 hpw109 (by decide +kernel)) (iv_c (-1) (a := (-1)) (b := (-1)) (by decide +kernel)) (by decide +kernel)) (by decide +kernel))).elim
                      · refine lv_aload_n X.1 X.2.1 dX12_readItems_118 rfl (lv_at hl 4 rfl) ?_
                        refine lv_aload_n X.1 X.2.1 dX12_readItems_119 rfl (lv_at hl 1 rfl) ?_
                        refine ca_X12_look X hK hG hC hS hb a0 h0 ⟨by omega, by omega, by omega, by omega, by omega⟩ ⟨by omega, by omega, by omega⟩ wl_7_137 hl.1 (rest := [.ref ta]) rfl (Nat.le_of_ble_eq_true rfl) ⟨Nat.le_of_ble_eq_true rfl, Nat.le_of_ble_eq_true rfl⟩ ⟨Nat.le_of_ble_eq_true rfl, Nat.le_of_ble_eq_true rfl⟩ dX12_readItems_120 (fun f118 tf118 H locs htf118 hf118 hWf118 hS => ?_)
                        obtain ⟨hBf118, v119, kv119, hv119, lv119⟩ := hWf118
                        have hG := hBf118.2.2.2
                        rw [htf118] at hG kv119
                        have ⟨lav119, uav119⟩ : f105.toInt ≤ v119.toInt ∧ v119.toInt ≤ 241 := hv119
                        have hv119 : iv 0 241 v119 := ⟨by omega, by omega⟩
                        refine ca_X12_spotOf_7 X hK (sgr_toKT hG (by omega) (by omega) (by omega)) hC (fun _ h => h) hS hb hp f118 htb wl_7_151 hl.1 (rest := []) rfl (Nat.le_of_ble_eq_true rfl) ⟨Nat.le_of_ble_eq_true rfl, Nat.le_of_ble_eq_true rfl⟩ ⟨Nat.le_of_ble_eq_true rfl, Nat.le_of_ble_eq_true rfl⟩ dX12_readItems_123 (fun f120 locs hf120 hS => ?_)
                        refine lv_istore (lv' := [(5, .int f120), (4, .int f14), (0, .ref a0), (1, .int x1), (2, .ref a2), (3, .ref ta)]) X.1 X.2.1 dX12_readItems_126 hl (by decide) rfl (fun ls hl => ?_)
                        refine lv_goto (tgt := 41) X.1 X.2.1 dX12_readItems_128 (by decide) ?_
                        refine lv_iload X.1 X.2.1 dX12_readItems_41 (lv_at hl 0 rfl) ?_
                        refine lv_iconst (v := (-1)) X.1 X.2.1 dX12_readItems_43 (by decide +kernel) ?_
                        refine lv_icmp_eq (tgt := 131) X.1 X.2.1 dX12_readItems_44 (by decide) (fun c121 => ?_) (fun c121 => ?_)
                        · have hG := sgr_weak (d' := 0) (lo' := lo) (hi' := 241) (f' := (-1)) hG (by omega) (by omega) (by omega) (by omega)
                          exact sg_vret2 X hr hlk hS (fun t ht hW => (Or.inl (sg_post hb hK hC hG hS ht hW))) dX12_readItems_131
                        · refine lv_aload_n X.1 X.2.1 dX12_readItems_47 rfl (lv_at hl 2 rfl) ?_
                          refine gf_X12_11r X hK hG h0 wl_6_189 dX12_readItems_48 (fun f122 hf122 kf122 => ?_)
                          have ⟨laf122, uaf122⟩ : (-1) ≤ f122.toInt ∧ f122.toInt ≤ 241 := hf122
                          have hf122 : iv (-1) 241 f122 := ⟨by omega, by omega⟩
                          refine lv_iconst (v := (-1)) X.1 X.2.1 dX12_readItems_51 (by decide +kernel) ?_
                          refine lv_icmp_ne (tgt := 131) X.1 X.2.1 dX12_readItems_52 (by decide) (fun c123 => ?_) (fun c123 => ?_)
                          · have hG := sgr_weak (d' := 0) (lo' := lo) (hi' := 241) (f' := (-1)) hG (by omega) (by omega) (by omega) (by omega)
                            exact sg_vret2 X hr hlk hS (fun t ht hW => (Or.inl (sg_post hb hK hC hG hS ht hW))) dX12_readItems_131
                          · have uss124 : v119.toInt ≤ 240 := ((iv_of (sg_lk (sg_spot (iv_ne_lo (a' := 0) c121 hf120.1 (by decide +kernel)) hf120.2) lv119 hv119) (a' := 0) (b' := 240) (by decide +kernel))).2
                            have hG := sgr_str (lo' := v119.toInt) (hi' := 240) hG h0 kv119 ⟨Int.le_refl _, ((iv_of (sg_lk (sg_spot (iv_ne_lo (a' := 0) c121 hf120.1 (by decide +kernel)) hf120.2) lv119 hv119) (a' := 0) (b' := 240) (by decide +kernel))).2⟩
                            exact ih10 H _ _ f14 f120 v119.toInt (by omega) (by omega) hG hS (lv_sub hl [2, 3, 4, 5, 1, 0] rfl) (iv_of (iv_or 7 ef14 hz10_4 (sg_shl1 ef13 hz10_5 (by decide +kernel)) (by decide +kernel)) (a' := 0) (b' := 127) (by decide +kernel)) (iv_ne_lo (a' := 0) c121 hf120.1 (by decide +kernel)) (by omega)
                  by_cases k125 : z10_5.toInt = 5
                  · have hk125 : iv 5 5 z10_5 := ⟨by omega, by omega⟩
                    refine lv_aload_n X.1 X.2.1 dX12_readItems_80 rfl (lv_at hl 1 rfl) ?_
                    refine lv_dup X.1 X.2.1 dX12_readItems_81 rfl ?_
                    refine gf_X12_10r X hK hG h0 wl_6_188 dX12_readItems_82 (fun f126 hf126 kf126 => ?_)
                    have ⟨laf126, uaf126⟩ : lo10 ≤ f126.toInt ∧ f126.toInt ≤ 240 := hf126
                    have hf126 : iv 0 240 f126 := ⟨by omega, by omega⟩
                    refine lv_iconst (v := 1) X.1 X.2.1 dX12_readItems_85 (by decide +kernel) ?_
                    refine lv_iadd X.1 X.2.1 dX12_readItems_86 ?_
                    refine lv_topi (fun f127 ef127 => ?_)
                    have sf127 : f127.toInt = f126.toInt + 1 := sg_inc (k := 1) ef127 hf126 (by decide +kernel)
                    have uf127 : f127.toInt ≤ 241 := Int.le_trans ((iv_add (a' := 1) (b' := 241) ef127 hf126 (iv_c 1 (a := 1) (b := 1) (by decide +kernel)) (by decide +kernel))).2 (by omega)
                    refine pf_X12_10R (lo2 := f127.toInt) (hi2 := 241) X hK hG hS h0 wl_6_188 ⟨_, rfl, Int.le_refl _, uf127⟩ dX12_readItems_87 (fun H locs hG hS => ?_)
                    refine lv_aload_n X.1 X.2.1 dX12_readItems_90 rfl (lv_at hl 3 rfl) ?_
                    refine lv_iload X.1 X.2.1 dX12_readItems_91 (lv_at hl 5 rfl) ?_
                    refine lv_aload_n X.1 X.2.1 dX12_readItems_93 rfl (lv_at hl 1 rfl) ?_
                    refine lv_iload_n X.1 X.2.1 dX12_readItems_94 rfl (lv_at hl 2 rfl) ?_
                    refine lv_iload X.1 X.2.1 dX12_readItems_95 (lv_at hl 5 rfl) ?_
                    refine ca_X12_leastOf_k5 X hK (sgr_toKT hG (by omega) (by omega) (by omega)) hC (fun _ h => h) hS hb x1 h1 z10_5 hk125 wl_7_177 hl.1 (rest := [.ref a0, .int z10_5, .ref a2]) rfl (Nat.le_of_ble_eq_true rfl) ⟨Nat.le_of_ble_eq_true rfl, Nat.le_of_ble_eq_true rfl⟩ ⟨Nat.le_of_ble_eq_true rfl, Nat.le_of_ble_eq_true rfl⟩ dX12_readItems_97 (fun f128 locs hf128 hS => ?_)
                    refine lv_iload_n X.1 X.2.1 dX12_readItems_100 rfl (lv_at hl 2 rfl) ?_
                    refine lv_iload X.1 X.2.1 dX12_readItems_101 (lv_at hl 5 rfl) ?_
                    refine ca_X12_mostOf_k5 X hK (sgr_toKT hG (by omega) (by omega) (by omega)) hC (fun _ h => h) hS hb x1 h1 z10_5 hk125 wl_7_180 hl.1 (rest := [.int f128, .ref a0, .int z10_5, .ref a2]) rfl (Nat.le_of_ble_eq_true rfl) ⟨Nat.le_of_ble_eq_true rfl, Nat.le_of_ble_eq_true rfl⟩ ⟨Nat.le_of_ble_eq_true rfl, Nat.le_of_ble_eq_true rfl⟩ dX12_readItems_103 (fun f129 locs hf129 hS => ?_)
                    refine ca_X12_number_v X hK hG hC hS hb a0 h0 f128 f129 ⟨by omega, by omega, by omega, by omega, by omega⟩ (by omega) wl_7_183 hl.1 (rest := [.int z10_5, .ref a2]) rfl (Nat.le_of_ble_eq_true rfl) ⟨Nat.le_of_ble_eq_true rfl, Nat.le_of_ble_eq_true rfl⟩ ⟨Nat.le_of_ble_eq_true rfl, Nat.le_of_ble_eq_true rfl⟩ dX12_readItems_106 (fun f130 tf130 H locs htf130 hf130 hWf130 hS => ?_)
                    obtain ⟨hBf130, w131, kw131, hw131⟩ := hWf130
                    have hG := hBf130.2.2.2
                    rw [htf130] at hG kw131
                    rcases hw131 with hw131 | hw131
                    · have hG := sgr_bad hG h0 kw131 hw131 (by decide : (0 : Int) ≤ 7)
                      refine as_50r X hK hG hS h2 (iv_vpin hk125 (by decide +kernel)) sg_rr0 dX12_readItems_109 (fun H locs hG hS ru132 => ?_)
                      refine lv_aload_n X.1 X.2.1 dX12_readItems_110 rfl (lv_at hl 1 rfl) ?_
                      refine gg_X12_11r X hK hG h0 wl_6_189 (ru132 _ _ _ _ _ _ _ h0 rfl rfl (by decide) (fun z => z.elim) kw131) dX12_readItems_111 ?_
                      refine lv_iconst (v := (-1)) X.1 X.2.1 dX12_readItems_114 (by decide +kernel) ?_
                      refine lv_icmp_ne (tgt := 41) X.1 X.2.1 dX12_readItems_115 (by decide) (fun c133 => ?_) (fun c133 => ?_)
                      · refine lv_iload X.1 X.2.1 dX12_readItems_41 (lv_at hl 5 rfl) ?_
                        refine lv_iconst (v := (-1)) X.1 X.2.1 dX12_readItems_43 (by decide +kernel) ?_
                        refine lv_icmp_eq (tgt := 131) X.1 X.2.1 dX12_readItems_44 (by decide) (fun c134 => ?_) (fun c134 => ?_)
                        · exact ((iv_no (a := 5) (b := (-1)) (iv_eqm c134 hk125 (iv_c (-1) (a := (-1)) (b := (-1)) (by decide +kernel)) (by decide +kernel)) (by decide +kernel))).elim
                        · refine lv_aload_n X.1 X.2.1 dX12_readItems_47 rfl (lv_at hl 1 rfl) ?_
                          refine gg_X12_11r X hK hG h0 wl_6_189 (ru132 _ _ _ _ _ _ _ h0 rfl rfl (by decide) (fun z => z.elim) kw131) dX12_readItems_48 ?_
                          refine lv_iconst (v := (-1)) X.1 X.2.1 dX12_readItems_51 (by decide +kernel) ?_
                          refine lv_icmp_ne (tgt := 131) X.1 X.2.1 dX12_readItems_52 (by decide) (fun c135 => ?_) (fun c135 => ?_)
                          · have hG := sgr_weak (d' := 0) (lo' := lo) (hi' := 241) (f' := 0) hG (by omega) (by omega) (by omega) (by omega)
                            exact sg_vret2 X hr hlk hS (fun t ht hW => (Or.inr (sg_post hb hK hC hG hS ht hW))) dX12_readItems_131
                          · exact ((iv_no (a := 0) (b := (-1)) (iv_eqm c135 hw131 (iv_c (-1) (a := (-1)) (b := (-1)) (by decide +kernel)) (by decide +kernel)) (by decide +kernel))).elim
                      · exact ((iv_no (a := 0) (b := (-1)) (iv_eqm c133 hw131 (iv_c (-1) (a := (-1)) (b := (-1)) (by decide +kernel)) (by decide +kernel)) (by decide +kernel))).elim
                    · obtain ⟨pw131, hpw131, kpw131⟩ := pk_X12_11r hG h0
                      refine as_50r X hK hG hS h2 (iv_vpin hk125 (by decide +kernel)) (sg_rr7w hk125 (by decide +kernel) rfl (sg_btw hw131 hf128 hf129)) dX12_readItems_109 (fun H locs hG hS ru136 => ?_)
                      refine lv_aload_n X.1 X.2.1 dX12_readItems_110 rfl (lv_at hl 1 rfl) ?_
                      refine gg_X12_11r X hK hG h0 wl_6_189 (ru136 _ _ _ _ _ _ _ h0 rfl rfl (by decide) (fun z => z.elim) kpw131) dX12_readItems_111 ?_
                      refine lv_iconst (v := (-1)) X.1 X.2.1 dX12_readItems_114 (by decide +kernel) ?_
                      refine lv_icmp_ne (tgt := 41) X.1 X.2.1 dX12_readItems_115 (by decide) (fun c137 => ?_) (fun c137 => ?_)
                      · refine lv_iload X.1 X.2.1 dX12_readItems_41 (lv_at hl 5 rfl) ?_
                        refine lv_iconst (v := (-1)) X.1 X.2.1 dX12_readItems_43 (by decide +kernel) ?_
                        refine lv_icmp_eq (tgt := 131) X.1 X.2.1 dX12_readItems_44 (by decide) (fun c138 => ?_) (fun c138 => ?_)
                        · exact ((iv_no (a := 5) (b := (-1)) (iv_eqm c138 hk125 (iv_c (-1) (a := (-1)) (b := (-1)) (by decide +kernel)) (by decide +kernel)) (by decide +kernel))).elim
                        · refine lv_aload_n X.1 X.2.1 dX12_readItems_47 rfl (lv_at hl 1 rfl) ?_
                          refine gg_X12_11r X hK hG h0 wl_6_189 (ru136 _ _ _ _ _ _ _ h0 rfl rfl (by decide) (fun z => z.elim) kpw131) dX12_readItems_48 ?_
                          refine lv_iconst (v := (-1)) X.1 X.2.1 dX12_readItems_51 (by decide +kernel) ?_
                          refine lv_icmp_ne (tgt := 131) X.1 X.2.1 dX12_readItems_52 (by decide) (fun c139 => ?_) (fun c139 => ?_)
                          · have hG := sgr_weak (d' := 0) (lo' := lo) (hi' := 241) (f' := (-1)) hG (by omega) (by omega) (by omega) (by omega)
                            exact sg_vret2 X hr hlk hS (fun t ht hW => (Or.inl (sg_post hb hK hC hG hS ht hW))) dX12_readItems_131
                          · exact ((iv_no (a := 0) (b := (-1)) (iv_eqm c139 (iv_ne_lo (a' := 0) c137 hpw131 (by decide +kernel)) (iv_c (-1) (a := (-1)) (b := (-1)) (by decide +kernel)) (by decide +kernel)) (by decide +kernel))).elim
                      · refine lv_aload_n X.1 X.2.1 dX12_readItems_118 rfl (lv_at hl 4 rfl) ?_
                        refine lv_aload_n X.1 X.2.1 dX12_readItems_119 rfl (lv_at hl 1 rfl) ?_
                        refine ca_X12_look X hK hG hC hS hb a0 h0 ⟨by omega, by omega, by omega, by omega, by omega⟩ ⟨by omega, by omega, by omega⟩ wl_7_137 hl.1 (rest := [.ref ta]) rfl (Nat.le_of_ble_eq_true rfl) ⟨Nat.le_of_ble_eq_true rfl, Nat.le_of_ble_eq_true rfl⟩ ⟨Nat.le_of_ble_eq_true rfl, Nat.le_of_ble_eq_true rfl⟩ dX12_readItems_120 (fun f140 tf140 H locs htf140 hf140 hWf140 hS => ?_)
                        obtain ⟨hBf140, v141, kv141, hv141, lv141⟩ := hWf140
                        have hG := hBf140.2.2.2
                        rw [htf140] at hG kv141
                        have ⟨lav141, uav141⟩ : f127.toInt ≤ v141.toInt ∧ v141.toInt ≤ 241 := hv141
                        have hv141 : iv 0 241 v141 := ⟨by omega, by omega⟩
                        refine ca_X12_spotOf_7 X hK (sgr_toKT hG (by omega) (by omega) (by omega)) hC (fun _ h => h) hS hb hp f140 htb wl_7_151 hl.1 (rest := []) rfl (Nat.le_of_ble_eq_true rfl) ⟨Nat.le_of_ble_eq_true rfl, Nat.le_of_ble_eq_true rfl⟩ ⟨Nat.le_of_ble_eq_true rfl, Nat.le_of_ble_eq_true rfl⟩ dX12_readItems_123 (fun f142 locs hf142 hS => ?_)
                        refine lv_istore (lv' := [(5, .int f142), (4, .int f14), (0, .ref a0), (1, .int x1), (2, .ref a2), (3, .ref ta)]) X.1 X.2.1 dX12_readItems_126 hl (by decide) rfl (fun ls hl => ?_)
                        refine lv_goto (tgt := 41) X.1 X.2.1 dX12_readItems_128 (by decide) ?_
                        refine lv_iload X.1 X.2.1 dX12_readItems_41 (lv_at hl 0 rfl) ?_
                        refine lv_iconst (v := (-1)) X.1 X.2.1 dX12_readItems_43 (by decide +kernel) ?_
                        refine lv_icmp_eq (tgt := 131) X.1 X.2.1 dX12_readItems_44 (by decide) (fun c143 => ?_) (fun c143 => ?_)
                        · have hG := sgr_weak (d' := 0) (lo' := lo) (hi' := 241) (f' := (-1)) hG (by omega) (by omega) (by omega) (by omega)
                          exact sg_vret2 X hr hlk hS (fun t ht hW => (Or.inl (sg_post hb hK hC hG hS ht hW))) dX12_readItems_131
                        · refine lv_aload_n X.1 X.2.1 dX12_readItems_47 rfl (lv_at hl 2 rfl) ?_
                          refine gf_X12_11r X hK hG h0 wl_6_189 dX12_readItems_48 (fun f144 hf144 kf144 => ?_)
                          have ⟨laf144, uaf144⟩ : (-1) ≤ f144.toInt ∧ f144.toInt ≤ 241 := hf144
                          have hf144 : iv (-1) 241 f144 := ⟨by omega, by omega⟩
                          refine lv_iconst (v := (-1)) X.1 X.2.1 dX12_readItems_51 (by decide +kernel) ?_
                          refine lv_icmp_ne (tgt := 131) X.1 X.2.1 dX12_readItems_52 (by decide) (fun c145 => ?_) (fun c145 => ?_)
                          · have hG := sgr_weak (d' := 0) (lo' := lo) (hi' := 241) (f' := (-1)) hG (by omega) (by omega) (by omega) (by omega)
                            exact sg_vret2 X hr hlk hS (fun t ht hW => (Or.inl (sg_post hb hK hC hG hS ht hW))) dX12_readItems_131
                          · have uss146 : v141.toInt ≤ 240 := ((iv_of (sg_lk (sg_spot (iv_ne_lo (a' := 0) c143 hf142.1 (by decide +kernel)) hf142.2) lv141 hv141) (a' := 0) (b' := 240) (by decide +kernel))).2
                            have hG := sgr_str (lo' := v141.toInt) (hi' := 240) hG h0 kv141 ⟨Int.le_refl _, ((iv_of (sg_lk (sg_spot (iv_ne_lo (a' := 0) c143 hf142.1 (by decide +kernel)) hf142.2) lv141 hv141) (a' := 0) (b' := 240) (by decide +kernel))).2⟩
                            exact ih10 H _ _ f14 f142 v141.toInt (by omega) (by omega) hG hS (lv_sub hl [2, 3, 4, 5, 1, 0] rfl) (iv_of (iv_or 7 ef14 hz10_4 (sg_shl1 ef13 hz10_5 (by decide +kernel)) (by decide +kernel)) (a' := 0) (b' := 127) (by decide +kernel)) (iv_ne_lo (a' := 0) c143 hf142.1 (by decide +kernel)) (by omega)
                  by_cases k147 : z10_5.toInt = 6
                  · have hk147 : iv 6 6 z10_5 := ⟨by omega, by omega⟩
                    refine lv_aload_n X.1 X.2.1 dX12_readItems_80 rfl (lv_at hl 1 rfl) ?_
                    refine lv_dup X.1 X.2.1 dX12_readItems_81 rfl ?_
                    refine gf_X12_10r X hK hG h0 wl_6_188 dX12_readItems_82 (fun f148 hf148 kf148 => ?_)
                    have ⟨laf148, uaf148⟩ : lo10 ≤ f148.toInt ∧ f148.toInt ≤ 240 := hf148
                    have hf148 : iv 0 240 f148 := ⟨by omega, by omega⟩
                    refine lv_iconst (v := 1) X.1 X.2.1 dX12_readItems_85 (by decide +kernel) ?_
                    refine lv_iadd X.1 X.2.1 dX12_readItems_86 ?_
                    refine lv_topi (fun f149 ef149 => ?_)
                    have sf149 : f149.toInt = f148.toInt + 1 := sg_inc (k := 1) ef149 hf148 (by decide +kernel)
                    have uf149 : f149.toInt ≤ 241 := Int.le_trans ((iv_add (a' := 1) (b' := 241) ef149 hf148 (iv_c 1 (a := 1) (b := 1) (by decide +kernel)) (by decide +kernel))).2 (by omega)
                    refine pf_X12_10R (lo2 := f149.toInt) (hi2 := 241) X hK hG hS h0 wl_6_188 ⟨_, rfl, Int.le_refl _, uf149⟩ dX12_readItems_87 (fun H locs hG hS => ?_)
                    refine lv_aload_n X.1 X.2.1 dX12_readItems_90 rfl (lv_at hl 3 rfl) ?_
                    refine lv_iload X.1 X.2.1 dX12_readItems_91 (lv_at hl 5 rfl) ?_
                    refine lv_aload_n X.1 X.2.1 dX12_readItems_93 rfl (lv_at hl 1 rfl) ?_
                    refine lv_iload_n X.1 X.2.1 dX12_readItems_94 rfl (lv_at hl 2 rfl) ?_
                    refine lv_iload X.1 X.2.1 dX12_readItems_95 (lv_at hl 5 rfl) ?_
                    refine ca_X12_leastOf_k6 X hK (sgr_toKT hG (by omega) (by omega) (by omega)) hC (fun _ h => h) hS hb x1 h1 z10_5 hk147 wl_7_177 hl.1 (rest := [.ref a0, .int z10_5, .ref a2]) rfl (Nat.le_of_ble_eq_true rfl) ⟨Nat.le_of_ble_eq_true rfl, Nat.le_of_ble_eq_true rfl⟩ ⟨Nat.le_of_ble_eq_true rfl, Nat.le_of_ble_eq_true rfl⟩ dX12_readItems_97 (fun f150 locs hf150 hS => ?_)
                    refine lv_iload_n X.1 X.2.1 dX12_readItems_100 rfl (lv_at hl 2 rfl) ?_
                    refine lv_iload X.1 X.2.1 dX12_readItems_101 (lv_at hl 5 rfl) ?_
                    refine ca_X12_mostOf_k6 X hK (sgr_toKT hG (by omega) (by omega) (by omega)) hC (fun _ h => h) hS hb x1 h1 z10_5 hk147 wl_7_180 hl.1 (rest := [.int f150, .ref a0, .int z10_5, .ref a2]) rfl (Nat.le_of_ble_eq_true rfl) ⟨Nat.le_of_ble_eq_true rfl, Nat.le_of_ble_eq_true rfl⟩ ⟨Nat.le_of_ble_eq_true rfl, Nat.le_of_ble_eq_true rfl⟩ dX12_readItems_103 (fun f151 locs hf151 hS => ?_)
                    refine ca_X12_number_v X hK hG hC hS hb a0 h0 f150 f151 ⟨by omega, by omega, by omega, by omega, by omega⟩ (by omega) wl_7_183 hl.1 (rest := [.int z10_5, .ref a2]) rfl (Nat.le_of_ble_eq_true rfl) ⟨Nat.le_of_ble_eq_true rfl, Nat.le_of_ble_eq_true rfl⟩ ⟨Nat.le_of_ble_eq_true rfl, Nat.le_of_ble_eq_true rfl⟩ dX12_readItems_106 (fun f152 tf152 H locs htf152 hf152 hWf152 hS => ?_)
                    obtain ⟨hBf152, w153, kw153, hw153⟩ := hWf152
                    have hG := hBf152.2.2.2
                    rw [htf152] at hG kw153
                    rcases hw153 with hw153 | hw153
                    · have hG := sgr_bad hG h0 kw153 hw153 (by decide : (0 : Int) ≤ 7)
                      refine as_50r X hK hG hS h2 (iv_vpin hk147 (by decide +kernel)) sg_rr0 dX12_readItems_109 (fun H locs hG hS ru154 => ?_)
                      refine lv_aload_n X.1 X.2.1 dX12_readItems_110 rfl (lv_at hl 1 rfl) ?_
                      refine gg_X12_11r X hK hG h0 wl_6_189 (ru154 _ _ _ _ _ _ _ h0 rfl rfl (by decide) (fun z => z.elim) kw153) dX12_readItems_111 ?_
                      refine lv_iconst (v := (-1)) X.1 X.2.1 dX12_readItems_114 (by decide +kernel) ?_
                      refine lv_icmp_ne (tgt := 41) X.1 X.2.1 dX12_readItems_115 (by decide) (fun c155 => ?_) (fun c155 => ?_)
                      · refine lv_iload X.1 X.2.1 dX12_readItems_41 (lv_at hl 5 rfl) ?_
                        refine lv_iconst (v := (-1)) X.1 X.2.1 dX12_readItems_43 (by decide +kernel) ?_
                        refine lv_icmp_eq (tgt := 131) X.1 X.2.1 dX12_readItems_44 (by decide) (fun c156 => ?_) (fun c156 => ?_)
                        · exact ((iv_no (a := 6) (b := (-1)) (iv_eqm c156 hk147 (iv_c (-1) (a := (-1)) (b := (-1)) (by decide +kernel)) (by decide +kernel)) (by decide +kernel))).elim
                        · refine lv_aload_n X.1 X.2.1 dX12_readItems_47 rfl (lv_at hl 1 rfl) ?_
                          refine gg_X12_11r X hK hG h0 wl_6_189 (ru154 _ _ _ _ _ _ _ h0 rfl rfl (by decide) (fun z => z.elim) kw153) dX12_readItems_48 ?_
                          refine lv_iconst (v := (-1)) X.1 X.2.1 dX12_readItems_51 (by decide +kernel) ?_
                          refine lv_icmp_ne (tgt := 131) X.1 X.2.1 dX12_readItems_52 (by decide) (fun c157 => ?_) (fun c157 => ?_)
                          · have hG := sgr_weak (d' := 0) (lo' := lo) (hi' := 241) (f' := 0) hG (by omega) (by omega) (by omega) (by omega)
                            exact sg_vret2 X hr hlk hS (fun t ht hW => (Or.inr (sg_post hb hK hC hG hS ht hW))) dX12_readItems_131
                          · exact ((iv_no (a := 0) (b := (-1)) (iv_eqm c157 hw153 (iv_c (-1) (a := (-1)) (b := (-1)) (by decide +kernel)) (by decide +kernel)) (by decide +kernel))).elim
                      · exact ((iv_no (a := 0) (b := (-1)) (iv_eqm c155 hw153 (iv_c (-1) (a := (-1)) (b := (-1)) (by decide +kernel)) (by decide +kernel)) (by decide +kernel))).elim
                    · obtain ⟨pw153, hpw153, kpw153⟩ := pk_X12_11r hG h0
                      refine as_50r X hK hG hS h2 (iv_vpin hk147 (by decide +kernel)) (sg_rr7w hk147 (by decide +kernel) rfl (sg_btw hw153 hf150 hf151)) dX12_readItems_109 (fun H locs hG hS ru158 => ?_)
                      refine lv_aload_n X.1 X.2.1 dX12_readItems_110 rfl (lv_at hl 1 rfl) ?_
                      refine gg_X12_11r X hK hG h0 wl_6_189 (ru158 _ _ _ _ _ _ _ h0 rfl rfl (by decide) (fun z => z.elim) kpw153) dX12_readItems_111 ?_
                      refine lv_iconst (v := (-1)) X.1 X.2.1 dX12_readItems_114 (by decide +kernel) ?_
                      refine lv_icmp_ne (tgt := 41) X.1 X.2.1 dX12_readItems_115 (by decide) (fun c159 => ?_) (fun c159 => ?_)
                      · refine lv_iload X.1 X.2.1 dX12_readItems_41 (lv_at hl 5 rfl) ?_
                        refine lv_iconst (v := (-1)) X.1 X.2.1 dX12_readItems_43 (by decide +kernel) ?_
                        refine lv_icmp_eq (tgt := 131) X.1 X.2.1 dX12_readItems_44 (by decide) (fun c160 => ?_) (fun c160 => ?_)
                        · exact ((iv_no (a := 6) (b := (-1)) (iv_eqm c160 hk147 (iv_c (-1) (a := (-1)) (b := (-1)) (by decide +kernel)) (by decide +kernel)) (by decide +kernel))).elim
                        · refine lv_aload_n X.1 X.2.1 dX12_readItems_47 rfl (lv_at hl 1 rfl) ?_
                          refine gg_X12_11r X hK hG h0 wl_6_189 (ru158 _ _ _ _ _ _ _ h0 rfl rfl (by decide) (fun z => z.elim) kpw153) dX12_readItems_48 ?_
                          refine lv_iconst (v := (-1)) X.1 X.2.1 dX12_readItems_51 (by decide +kernel) ?_
                          refine lv_icmp_ne (tgt := 131) X.1 X.2.1 dX12_readItems_52 (by decide) (fun c161 => ?_) (fun c161 => ?_)
                          · have hG := sgr_weak (d' := 0) (lo' := lo) (hi' := 241) (f' := (-1)) hG (by omega) (by omega) (by omega) (by omega)
                            exact sg_vret2 X hr hlk hS (fun t ht hW => (Or.inl (sg_post hb hK hC hG hS ht hW))) dX12_readItems_131
                          · exact ((iv_no (a := 0) (b := (-1)) (iv_eqm c161 (iv_ne_lo (a' := 0) c159 hpw153 (by decide +kernel)) (iv_c (-1) (a := (-1)) (b := (-1)) (by decide +kernel)) (by decide +kernel)) (by decide +kernel))).elim
                      · refine lv_aload_n X.1 X.2.1 dX12_readItems_118 rfl (lv_at hl 4 rfl) ?_
                        refine lv_aload_n X.1 X.2.1 dX12_readItems_119 rfl (lv_at hl 1 rfl) ?_
                        refine ca_X12_look X hK hG hC hS hb a0 h0 ⟨by omega, by omega, by omega, by omega, by omega⟩ ⟨by omega, by omega, by omega⟩ wl_7_137 hl.1 (rest := [.ref ta]) rfl (Nat.le_of_ble_eq_true rfl) ⟨Nat.le_of_ble_eq_true rfl, Nat.le_of_ble_eq_true rfl⟩ ⟨Nat.le_of_ble_eq_true rfl, Nat.le_of_ble_eq_true rfl⟩ dX12_readItems_120 (fun f162 tf162 H locs htf162 hf162 hWf162 hS => ?_)
                        obtain ⟨hBf162, v163, kv163, hv163, lv163⟩ := hWf162
                        have hG := hBf162.2.2.2
                        rw [htf162] at hG kv163
                        have ⟨lav163, uav163⟩ : f149.toInt ≤ v163.toInt ∧ v163.toInt ≤ 241 := hv163
                        have hv163 : iv 0 241 v163 := ⟨by omega, by omega⟩
                        refine ca_X12_spotOf_7 X hK (sgr_toKT hG (by omega) (by omega) (by omega)) hC (fun _ h => h) hS hb hp f162 htb wl_7_151 hl.1 (rest := []) rfl (Nat.le_of_ble_eq_true rfl) ⟨Nat.le_of_ble_eq_true rfl, Nat.le_of_ble_eq_true rfl⟩ ⟨Nat.le_of_ble_eq_true rfl, Nat.le_of_ble_eq_true rfl⟩ dX12_readItems_123 (fun f164 locs hf164 hS => ?_)
                        refine lv_istore (lv' := [(5, .int f164), (4, .int f14), (0, .ref a0), (1, .int x1), (2, .ref a2), (3, .ref ta)]) X.1 X.2.1 dX12_readItems_126 hl (by decide) rfl (fun ls hl => ?_)
                        refine lv_goto (tgt := 41) X.1 X.2.1 dX12_readItems_128 (by decide) ?_
                        refine lv_iload X.1 X.2.1 dX12_readItems_41 (lv_at hl 0 rfl) ?_
                        refine lv_iconst (v := (-1)) X.1 X.2.1 dX12_readItems_43 (by decide +kernel) ?_
                        refine lv_icmp_eq (tgt := 131) X.1 X.2.1 dX12_readItems_44 (by decide) (fun c165 => ?_) (fun c165 => ?_)
                        · have hG := sgr_weak (d' := 0) (lo' := lo) (hi' := 241) (f' := (-1)) hG (by omega) (by omega) (by omega) (by omega)
                          exact sg_vret2 X hr hlk hS (fun t ht hW => (Or.inl (sg_post hb hK hC hG hS ht hW))) dX12_readItems_131
                        · refine lv_aload_n X.1 X.2.1 dX12_readItems_47 rfl (lv_at hl 2 rfl) ?_
                          refine gf_X12_11r X hK hG h0 wl_6_189 dX12_readItems_48 (fun f166 hf166 kf166 => ?_)
                          have ⟨laf166, uaf166⟩ : (-1) ≤ f166.toInt ∧ f166.toInt ≤ 241 := hf166
                          have hf166 : iv (-1) 241 f166 := ⟨by omega, by omega⟩
                          refine lv_iconst (v := (-1)) X.1 X.2.1 dX12_readItems_51 (by decide +kernel) ?_
                          refine lv_icmp_ne (tgt := 131) X.1 X.2.1 dX12_readItems_52 (by decide) (fun c167 => ?_) (fun c167 => ?_)
                          · have hG := sgr_weak (d' := 0) (lo' := lo) (hi' := 241) (f' := (-1)) hG (by omega) (by omega) (by omega) (by omega)
                            exact sg_vret2 X hr hlk hS (fun t ht hW => (Or.inl (sg_post hb hK hC hG hS ht hW))) dX12_readItems_131
                          · have uss168 : v163.toInt ≤ 240 := ((iv_of (sg_lk (sg_spot (iv_ne_lo (a' := 0) c165 hf164.1 (by decide +kernel)) hf164.2) lv163 hv163) (a' := 0) (b' := 240) (by decide +kernel))).2
                            have hG := sgr_str (lo' := v163.toInt) (hi' := 240) hG h0 kv163 ⟨Int.le_refl _, ((iv_of (sg_lk (sg_spot (iv_ne_lo (a' := 0) c165 hf164.1 (by decide +kernel)) hf164.2) lv163 hv163) (a' := 0) (b' := 240) (by decide +kernel))).2⟩
                            exact ih10 H _ _ f14 f164 v163.toInt (by omega) (by omega) hG hS (lv_sub hl [2, 3, 4, 5, 1, 0] rfl) (iv_of (iv_or 7 ef14 hz10_4 (sg_shl1 ef13 hz10_5 (by decide +kernel)) (by decide +kernel)) (a' := 0) (b' := 127) (by decide +kernel)) (iv_ne_lo (a' := 0) c165 hf164.1 (by decide +kernel)) (by omega)
                  exact absurd hz10_5 (fun hh => by have := hh.1; have := hh.2; omega)
                · refine lv_aload_n X.1 X.2.1 dX12_readItems_65 rfl (lv_at hl 0 rfl) ?_
                  have hG := sgr_weak (d' := 0) (lo' := lo10) (hi' := 241) (f' := (-1)) hG (by omega) (by omega) (by omega) (by omega)
                  refine ca_X12_fails X hK hG hC hS hb a0 h0 ⟨by omega, by omega, by omega, by omega, by omega⟩ wl_7_141 hl.1 (rest := []) rfl (Nat.le_of_ble_eq_true rfl) ⟨Nat.le_of_ble_eq_true rfl, Nat.le_of_ble_eq_true rfl⟩ ⟨Nat.le_of_ble_eq_true rfl, Nat.le_of_ble_eq_true rfl⟩ dX12_readItems_66 (fun f169 H locs hf169 hG hS => ?_)
                  refine lv_pop X.1 X.2.1 dX12_readItems_69 rfl ?_
                  have hG := sgr_weak (d' := 0) (lo' := lo) (hi' := 241) (f' := (-1)) hG (by omega) (by omega) (by omega) (by omega)
                  exact sg_vret2 X hr hlk hS (fun t ht hW => (Or.inl (sg_post hb hK hC hG hS ht hW))) dX12_readItems_70
            have uss170 : v5.toInt ≤ 240 := ((iv_of (sg_lk (sg_spot (iv_ne_lo (a' := 0) c7 hf6.1 (by decide +kernel)) hf6.2) lv5 hv5) (a' := 0) (b' := 240) (by decide +kernel))).2
            have hG := sgr_str (lo' := v5.toInt) (hi' := 240) hG h0 kv5 ⟨Int.le_refl _, ((iv_of (sg_lk (sg_spot (iv_ne_lo (a' := 0) c7 hf6.1 (by decide +kernel)) hf6.2) lv5 hv5) (a' := 0) (b' := 240) (by decide +kernel))).2⟩
            exact B10_55 _ H _ _ 0 f6 v5.toInt (by omega) (by omega) hG hS (lv_sub hl [2, 3, 4, 5, 1, 0] rfl) (iv_of (iv_c 0 (a := 0) (b := 0) (by decide +kernel)) (a' := 0) (b' := 127) (by decide +kernel)) (iv_ne_lo (a' := 0) c7 hf6.1 (by decide +kernel)) (Nat.le_refl _)
      · by_cases k171 : z1_4.toInt = 0
        · have hk171 : iv 0 0 z1_4 := ⟨by omega, by omega⟩
          refine lv_aload_n X.1 X.2.1 dX12_readItems_12 rfl (lv_at hl 2 rfl) ?_
          refine lv_iload X.1 X.2.1 dX12_readItems_13 (lv_at hl 4 rfl) ?_
          refine lv_iload_n X.1 X.2.1 dX12_readItems_15 rfl (lv_at hl 1 rfl) ?_
          refine lv_iload X.1 X.2.1 dX12_readItems_16 (lv_at hl 4 rfl) ?_
          refine ca_X12_usual_k0 X hK (sgr_toKT hG (by omega) (by omega) (by omega)) hC (fun _ h => h) hS hb x1 h1 z1_4 hk171 wl_7_130 hl.1 (rest := [.int z1_4, .ref a2]) rfl (Nat.le_of_ble_eq_true rfl) ⟨Nat.le_of_ble_eq_true rfl, Nat.le_of_ble_eq_true rfl⟩ ⟨Nat.le_of_ble_eq_true rfl, Nat.le_of_ble_eq_true rfl⟩ dX12_readItems_18 (fun f172 locs hf172 hS => ?_)
          refine as_50r X hK hG hS h2 (iv_vpin hk171 (by decide +kernel)) (sg_rr7w hk171 (by decide +kernel) rfl (iv_of hf172 (a' := 1) (b' := 6) (by decide +kernel))) dX12_readItems_21 (fun H locs hG hS ru173 => ?_)
          obtain ⟨y174, ey174⟩ : ∃ y : Int32, y = z1_4 + Int32.ofInt 1 := ⟨_, rfl⟩
          refine lv_iinc (v := y174) (lv' := [(4, .int y174), (0, .ref a0), (1, .int x1), (2, .ref a2), (3, .ref ta)]) X.1 X.2.1 dX12_readItems_22 hl (k := 4) rfl ey174.symm (by decide) rfl (fun ls hl => ?_)
          refine lv_goto (tgt := 3) X.1 X.2.1 dX12_readItems_25 (by decide) ?_
          exact ih1 H _ _ y174 lo1 (by omega) (by omega) hG hS (lv_sub hl [1, 2, 3, 4, 0] rfl) (iv_of (iv_add (a' := 1) (b' := 1) ey174 hk171 (iv_c _ (a := 1) (b := 1) (by decide +kernel)) (by decide +kernel)) (a' := 0) (b' := 7) (by decide +kernel)) (iv_stepU ey174 hk171 (by decide +kernel) hN1)
        by_cases k175 : z1_4.toInt = 1
        · have hk175 : iv 1 1 z1_4 := ⟨by omega, by omega⟩
          refine lv_aload_n X.1 X.2.1 dX12_readItems_12 rfl (lv_at hl 2 rfl) ?_
          refine lv_iload X.1 X.2.1 dX12_readItems_13 (lv_at hl 4 rfl) ?_
          refine lv_iload_n X.1 X.2.1 dX12_readItems_15 rfl (lv_at hl 1 rfl) ?_
          refine lv_iload X.1 X.2.1 dX12_readItems_16 (lv_at hl 4 rfl) ?_
          refine ca_X12_usual_k1 X hK (sgr_toKT hG (by omega) (by omega) (by omega)) hC (fun _ h => h) hS hb x1 h1 z1_4 hk175 wl_7_130 hl.1 (rest := [.int z1_4, .ref a2]) rfl (Nat.le_of_ble_eq_true rfl) ⟨Nat.le_of_ble_eq_true rfl, Nat.le_of_ble_eq_true rfl⟩ ⟨Nat.le_of_ble_eq_true rfl, Nat.le_of_ble_eq_true rfl⟩ dX12_readItems_18 (fun f176 locs hf176 hS => ?_)
          refine as_50r X hK hG hS h2 (iv_vpin hk175 (by decide +kernel)) (sg_rr7w hk175 (by decide +kernel) rfl (iv_of hf176 (a' := 1) (b' := 5) (by decide +kernel))) dX12_readItems_21 (fun H locs hG hS ru177 => ?_)
          obtain ⟨y178, ey178⟩ : ∃ y : Int32, y = z1_4 + Int32.ofInt 1 := ⟨_, rfl⟩
          refine lv_iinc (v := y178) (lv' := [(4, .int y178), (0, .ref a0), (1, .int x1), (2, .ref a2), (3, .ref ta)]) X.1 X.2.1 dX12_readItems_22 hl (k := 4) rfl ey178.symm (by decide) rfl (fun ls hl => ?_)
          refine lv_goto (tgt := 3) X.1 X.2.1 dX12_readItems_25 (by decide) ?_
          exact ih1 H _ _ y178 lo1 (by omega) (by omega) hG hS (lv_sub hl [1, 2, 3, 4, 0] rfl) (iv_of (iv_add (a' := 2) (b' := 2) ey178 hk175 (iv_c _ (a := 1) (b := 1) (by decide +kernel)) (by decide +kernel)) (a' := 0) (b' := 7) (by decide +kernel)) (iv_stepU ey178 hk175 (by decide +kernel) hN1)
        by_cases k179 : z1_4.toInt = 2
        · have hk179 : iv 2 2 z1_4 := ⟨by omega, by omega⟩
          refine lv_aload_n X.1 X.2.1 dX12_readItems_12 rfl (lv_at hl 2 rfl) ?_
          refine lv_iload X.1 X.2.1 dX12_readItems_13 (lv_at hl 4 rfl) ?_
          refine lv_iload_n X.1 X.2.1 dX12_readItems_15 rfl (lv_at hl 1 rfl) ?_
          refine lv_iload X.1 X.2.1 dX12_readItems_16 (lv_at hl 4 rfl) ?_
          refine ca_X12_usual_k2 X hK (sgr_toKT hG (by omega) (by omega) (by omega)) hC (fun _ h => h) hS hb x1 h1 z1_4 hk179 wl_7_130 hl.1 (rest := [.int z1_4, .ref a2]) rfl (Nat.le_of_ble_eq_true rfl) ⟨Nat.le_of_ble_eq_true rfl, Nat.le_of_ble_eq_true rfl⟩ ⟨Nat.le_of_ble_eq_true rfl, Nat.le_of_ble_eq_true rfl⟩ dX12_readItems_18 (fun f180 locs hf180 hS => ?_)
          refine as_50r X hK hG hS h2 (iv_vpin hk179 (by decide +kernel)) (sg_rr7w hk179 (by decide +kernel) rfl (iv_of hf180 (a' := 2) (b' := 5) (by decide +kernel))) dX12_readItems_21 (fun H locs hG hS ru181 => ?_)
          obtain ⟨y182, ey182⟩ : ∃ y : Int32, y = z1_4 + Int32.ofInt 1 := ⟨_, rfl⟩
          refine lv_iinc (v := y182) (lv' := [(4, .int y182), (0, .ref a0), (1, .int x1), (2, .ref a2), (3, .ref ta)]) X.1 X.2.1 dX12_readItems_22 hl (k := 4) rfl ey182.symm (by decide) rfl (fun ls hl => ?_)
          refine lv_goto (tgt := 3) X.1 X.2.1 dX12_readItems_25 (by decide) ?_
          exact ih1 H _ _ y182 lo1 (by omega) (by omega) hG hS (lv_sub hl [1, 2, 3, 4, 0] rfl) (iv_of (iv_add (a' := 3) (b' := 3) ey182 hk179 (iv_c _ (a := 1) (b := 1) (by decide +kernel)) (by decide +kernel)) (a' := 0) (b' := 7) (by decide +kernel)) (iv_stepU ey182 hk179 (by decide +kernel) hN1)
        by_cases k183 : z1_4.toInt = 3
        · have hk183 : iv 3 3 z1_4 := ⟨by omega, by omega⟩
          refine lv_aload_n X.1 X.2.1 dX12_readItems_12 rfl (lv_at hl 2 rfl) ?_
          refine lv_iload X.1 X.2.1 dX12_readItems_13 (lv_at hl 4 rfl) ?_
          refine lv_iload_n X.1 X.2.1 dX12_readItems_15 rfl (lv_at hl 1 rfl) ?_
          refine lv_iload X.1 X.2.1 dX12_readItems_16 (lv_at hl 4 rfl) ?_
          refine ca_X12_usual_k3 X hK (sgr_toKT hG (by omega) (by omega) (by omega)) hC (fun _ h => h) hS hb x1 h1 z1_4 hk183 wl_7_130 hl.1 (rest := [.int z1_4, .ref a2]) rfl (Nat.le_of_ble_eq_true rfl) ⟨Nat.le_of_ble_eq_true rfl, Nat.le_of_ble_eq_true rfl⟩ ⟨Nat.le_of_ble_eq_true rfl, Nat.le_of_ble_eq_true rfl⟩ dX12_readItems_18 (fun f184 locs hf184 hS => ?_)
          refine as_50r X hK hG hS h2 (iv_vpin hk183 (by decide +kernel)) (sg_rr7w hk183 (by decide +kernel) rfl (iv_of hf184 (a' := 1) (b' := 5) (by decide +kernel))) dX12_readItems_21 (fun H locs hG hS ru185 => ?_)
          obtain ⟨y186, ey186⟩ : ∃ y : Int32, y = z1_4 + Int32.ofInt 1 := ⟨_, rfl⟩
          refine lv_iinc (v := y186) (lv' := [(4, .int y186), (0, .ref a0), (1, .int x1), (2, .ref a2), (3, .ref ta)]) X.1 X.2.1 dX12_readItems_22 hl (k := 4) rfl ey186.symm (by decide) rfl (fun ls hl => ?_)
          refine lv_goto (tgt := 3) X.1 X.2.1 dX12_readItems_25 (by decide) ?_
          exact ih1 H _ _ y186 lo1 (by omega) (by omega) hG hS (lv_sub hl [1, 2, 3, 4, 0] rfl) (iv_of (iv_add (a' := 4) (b' := 4) ey186 hk183 (iv_c _ (a := 1) (b := 1) (by decide +kernel)) (by decide +kernel)) (a' := 0) (b' := 7) (by decide +kernel)) (iv_stepU ey186 hk183 (by decide +kernel) hN1)
        by_cases k187 : z1_4.toInt = 4
        · have hk187 : iv 4 4 z1_4 := ⟨by omega, by omega⟩
          refine lv_aload_n X.1 X.2.1 dX12_readItems_12 rfl (lv_at hl 2 rfl) ?_
          refine lv_iload X.1 X.2.1 dX12_readItems_13 (lv_at hl 4 rfl) ?_
          refine lv_iload_n X.1 X.2.1 dX12_readItems_15 rfl (lv_at hl 1 rfl) ?_
          refine lv_iload X.1 X.2.1 dX12_readItems_16 (lv_at hl 4 rfl) ?_
          refine ca_X12_usual_k4 X hK (sgr_toKT hG (by omega) (by omega) (by omega)) hC (fun _ h => h) hS hb x1 h1 z1_4 hk187 wl_7_130 hl.1 (rest := [.int z1_4, .ref a2]) rfl (Nat.le_of_ble_eq_true rfl) ⟨Nat.le_of_ble_eq_true rfl, Nat.le_of_ble_eq_true rfl⟩ ⟨Nat.le_of_ble_eq_true rfl, Nat.le_of_ble_eq_true rfl⟩ dX12_readItems_18 (fun f188 locs hf188 hS => ?_)
          refine as_50r X hK hG hS h2 (iv_vpin hk187 (by decide +kernel)) (sg_rr7w hk187 (by decide +kernel) rfl (iv_of hf188 (a' := 0) (b' := 8) (by decide +kernel))) dX12_readItems_21 (fun H locs hG hS ru189 => ?_)
          obtain ⟨y190, ey190⟩ : ∃ y : Int32, y = z1_4 + Int32.ofInt 1 := ⟨_, rfl⟩
          refine lv_iinc (v := y190) (lv' := [(4, .int y190), (0, .ref a0), (1, .int x1), (2, .ref a2), (3, .ref ta)]) X.1 X.2.1 dX12_readItems_22 hl (k := 4) rfl ey190.symm (by decide) rfl (fun ls hl => ?_)
          refine lv_goto (tgt := 3) X.1 X.2.1 dX12_readItems_25 (by decide) ?_
          exact ih1 H _ _ y190 lo1 (by omega) (by omega) hG hS (lv_sub hl [1, 2, 3, 4, 0] rfl) (iv_of (iv_add (a' := 5) (b' := 5) ey190 hk187 (iv_c _ (a := 1) (b := 1) (by decide +kernel)) (by decide +kernel)) (a' := 0) (b' := 7) (by decide +kernel)) (iv_stepU ey190 hk187 (by decide +kernel) hN1)
        by_cases k191 : z1_4.toInt = 5
        · have hk191 : iv 5 5 z1_4 := ⟨by omega, by omega⟩
          refine lv_aload_n X.1 X.2.1 dX12_readItems_12 rfl (lv_at hl 2 rfl) ?_
          refine lv_iload X.1 X.2.1 dX12_readItems_13 (lv_at hl 4 rfl) ?_
          refine lv_iload_n X.1 X.2.1 dX12_readItems_15 rfl (lv_at hl 1 rfl) ?_
          refine lv_iload X.1 X.2.1 dX12_readItems_16 (lv_at hl 4 rfl) ?_
          refine ca_X12_usual_k5 X hK (sgr_toKT hG (by omega) (by omega) (by omega)) hC (fun _ h => h) hS hb x1 h1 z1_4 hk191 wl_7_130 hl.1 (rest := [.int z1_4, .ref a2]) rfl (Nat.le_of_ble_eq_true rfl) ⟨Nat.le_of_ble_eq_true rfl, Nat.le_of_ble_eq_true rfl⟩ ⟨Nat.le_of_ble_eq_true rfl, Nat.le_of_ble_eq_true rfl⟩ dX12_readItems_18 (fun f192 locs hf192 hS => ?_)
          refine as_50r X hK hG hS h2 (iv_vpin hk191 (by decide +kernel)) (sg_rr7w hk191 (by decide +kernel) rfl (iv_of hf192 (a' := 0) (b' := 8) (by decide +kernel))) dX12_readItems_21 (fun H locs hG hS ru193 => ?_)
          obtain ⟨y194, ey194⟩ : ∃ y : Int32, y = z1_4 + Int32.ofInt 1 := ⟨_, rfl⟩
          refine lv_iinc (v := y194) (lv' := [(4, .int y194), (0, .ref a0), (1, .int x1), (2, .ref a2), (3, .ref ta)]) X.1 X.2.1 dX12_readItems_22 hl (k := 4) rfl ey194.symm (by decide) rfl (fun ls hl => ?_)
          refine lv_goto (tgt := 3) X.1 X.2.1 dX12_readItems_25 (by decide) ?_
          exact ih1 H _ _ y194 lo1 (by omega) (by omega) hG hS (lv_sub hl [1, 2, 3, 4, 0] rfl) (iv_of (iv_add (a' := 6) (b' := 6) ey194 hk191 (iv_c _ (a := 1) (b := 1) (by decide +kernel)) (by decide +kernel)) (a' := 0) (b' := 7) (by decide +kernel)) (iv_stepU ey194 hk191 (by decide +kernel) hN1)
        by_cases k195 : z1_4.toInt = 6
        · have hk195 : iv 6 6 z1_4 := ⟨by omega, by omega⟩
          refine lv_aload_n X.1 X.2.1 dX12_readItems_12 rfl (lv_at hl 2 rfl) ?_
          refine lv_iload X.1 X.2.1 dX12_readItems_13 (lv_at hl 4 rfl) ?_
          refine lv_iload_n X.1 X.2.1 dX12_readItems_15 rfl (lv_at hl 1 rfl) ?_
          refine lv_iload X.1 X.2.1 dX12_readItems_16 (lv_at hl 4 rfl) ?_
          refine ca_X12_usual_k6 X hK (sgr_toKT hG (by omega) (by omega) (by omega)) hC (fun _ h => h) hS hb x1 h1 z1_4 hk195 wl_7_130 hl.1 (rest := [.int z1_4, .ref a2]) rfl (Nat.le_of_ble_eq_true rfl) ⟨Nat.le_of_ble_eq_true rfl, Nat.le_of_ble_eq_true rfl⟩ ⟨Nat.le_of_ble_eq_true rfl, Nat.le_of_ble_eq_true rfl⟩ dX12_readItems_18 (fun f196 locs hf196 hS => ?_)
          refine as_50r X hK hG hS h2 (iv_vpin hk195 (by decide +kernel)) (sg_rr7w hk195 (by decide +kernel) rfl (iv_of hf196 (a' := 0) (b' := 1) (by decide +kernel))) dX12_readItems_21 (fun H locs hG hS ru197 => ?_)
          obtain ⟨y198, ey198⟩ : ∃ y : Int32, y = z1_4 + Int32.ofInt 1 := ⟨_, rfl⟩
          refine lv_iinc (v := y198) (lv' := [(4, .int y198), (0, .ref a0), (1, .int x1), (2, .ref a2), (3, .ref ta)]) X.1 X.2.1 dX12_readItems_22 hl (k := 4) rfl ey198.symm (by decide) rfl (fun ls hl => ?_)
          refine lv_goto (tgt := 3) X.1 X.2.1 dX12_readItems_25 (by decide) ?_
          exact ih1 H _ _ y198 lo1 (by omega) (by omega) hG hS (lv_sub hl [1, 2, 3, 4, 0] rfl) (iv_of (iv_add (a' := 7) (b' := 7) ey198 hk195 (iv_c _ (a := 1) (b := 1) (by decide +kernel)) (by decide +kernel)) (a' := 0) (b' := 7) (by decide +kernel)) (iv_stepU ey198 hk195 (by decide +kernel) hN1)
        exact absurd (iv_lt (b' := 6) (iv_gt_of c3) hz1_4 hf2 (by decide +kernel)) (fun hh => by have := hh.1; have := hh.2; omega)
  exact B1_3 _ s.heap _ _ 0 lo (by omega) (by omega) hG hS (lv_sub hl [1, 2, 3, 4, 0] rfl) (iv_of (iv_c 0 (a := 0) (b := 0) (by decide +kernel)) (a' := 0) (b' := 7) (by decide +kernel)) (Nat.le_refl _)

theorem ca_X12_readItems_s  {b : Bool} {lo : Int}  (X : CallFix p m c cc nL s args sg_tbl own) (hK : va_K D vwCl tys s) (hG : sgG (KR b 0 lo 241 7 (-1) P) D vwCl (fun q : Nat => base ≤ q) tys ad ks H) (hC : sgC base s) (hS : va_S (fun q : Nat => base ≤ q) s.heap H locs)  (hb : base ≤ s.heap.size) {ta tv : Nat} {tb : List Int32} (hp : P_S ta tv 7 tb (fun q : Nat => base ≤ q) s) (a0 : Nat) (h0 : isK ad ks 12 a0) (x1 : Int32) (h1 : iv 115 115 x1) (a2 : Nat) (h2 : isK ad ks 50 a2) (hlo : 0 ≤ lo ∧ lo ≤ 241) (htb : ∀ j : Nat, j < 7 → iv 0 127 (tb.getD j 0)) (hl : Cond.methodLink own index yX12_readItems ∈ sg_tbl) (hsize : ls.size = nL) (hst : st0 = [.int x1, .ref a2, .ref ta].reverse ++ .ref a0 :: rest) (hW : (rest.map fun v => v.category).sum ≤ 8) (hR : 6 ≤ R.frames ∧ 132 ≤ R.locals) (hf : cells ≤ R.cells ∧ slots ≤ R.slots) (hdg : decode cc pc = .ok (.invokevirtual index, 3)) (kk : ∀ (t : State) (H1 : Heap) (locs1 : List Loc), t.heap = H1 → ((fun t : State => sgB (KR b 0 lo 241 7 (-1) P) D vwCl base tys ad ks t ∨ sgB (KR b 0 lo 241 0 0 P) D vwCl base tys ad ks t) t) → va_S (fun q : Nat => base ≤ q) s.heap H1 locs1 → W p l e R s m args below meth c H1 locs1 cells slots Q (F0 m (pc + 3) ls rest)) : W p l e R s m args below meth c H locs cells slots Q (F0 m pc ls st0) :=
  sg_callQv X hK hG hC hS hb hp (m_X12_readItems_s l ta tv tb a0 h0 x1 h1 a2 h2 hlo htb) h0 (k := 12) (ci := 12) rfl (C := RX12) (T := TX12) (N := 53) rfl wl_7_149 wl_1_13 wl_7_148 wl_0_54 (n := 3) (by decide +kernel) rfl rfl rfl hl hsize hst hW hR hf hdg kk
end
