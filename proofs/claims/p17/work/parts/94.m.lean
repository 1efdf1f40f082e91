theorem dX12_winning_14 : decode cX12_winning 14 = .ok (.aload_n 0, 1) := by decide +kernel
theorem dX12_winning_15 : decode cX12_winning 15 = .ok (.invokevirtual 513, 3) := by decide +kernel
theorem dX12_winning_18 : decode cX12_winning 18 = .ok (.ifCond .ne 7, 3) := by decide +kernel
theorem dX12_winning_21 : decode cX12_winning 21 = .ok (.ldc_w 439, 3) := by decide +kernel
theorem dX12_winning_24 : decode cX12_winning 24 = .ok (.ireturn, 1) := by decide +kernel
theorem dX12_winning_25 : decode cX12_winning 25 = .ok (.iconst 0, 1) := by decide +kernel
theorem dX12_winning_26 : decode cX12_winning 26 = .ok (.istore_n 1, 1) := by decide +kernel
theorem dX12_winning_27 : decode cX12_winning 27 = .ok (.aload_n 0, 1) := by decide +kernel
theorem dX12_winning_28 : decode cX12_winning 28 = .ok (.iconst (-1), 1) := by decide +kernel
theorem dX12_winning_29 : decode cX12_winning 29 = .ok (.invokevirtual 493, 3) := by decide +kernel
theorem dX12_winning_32 : decode cX12_winning 32 = .ok (.istore_n 2, 1) := by decide +kernel
theorem dX12_winning_33 : decode cX12_winning 33 = .ok (.iconst 0, 1) := by decide +kernel
theorem dX12_winning_34 : decode cX12_winning 34 = .ok (.istore_n 3, 1) := by decide +kernel
theorem dX12_winning_35 : decode cX12_winning 35 = .ok (.iload_n 3, 1) := by decide +kernel
theorem dX12_winning_36 : decode cX12_winning 36 = .ok (.iload_n 2, 1) := by decide +kernel
theorem dX12_winning_37 : decode cX12_winning 37 = .ok (.if_icmp .ge 34, 3) := by decide +kernel
theorem dX12_winning_40 : decode cX12_winning 40 = .ok (.aload_n 0, 1) := by decide +kernel
theorem dX12_winning_41 : decode cX12_winning 41 = .ok (.aload_n 0, 1) := by decide +kernel
theorem dX12_winning_42 : decode cX12_winning 42 = .ok (.iload_n 3, 1) := by decide +kernel
theorem dX12_winning_43 : decode cX12_winning 43 = .ok (.invokevirtual 493, 3) := by decide +kernel
theorem dX12_winning_46 : decode cX12_winning 46 = .ok (.invokevirtual 510, 3) := by decide +kernel
theorem dX12_winning_49 : decode cX12_winning 49 = .ok (.iload_n 1, 1) := by decide +kernel
theorem dX12_winning_50 : decode cX12_winning 50 = .ok (.aload_n 0, 1) := by decide +kernel
theorem dX12_winning_51 : decode cX12_winning 51 = .ok (.getfield 78, 3) := by decide +kernel
theorem dX12_winning_54 : decode cX12_winning 54 = .ok (.iconst 1, 1) := by decide +kernel
theorem dX12_winning_55 : decode cX12_winning 55 = .ok (.aload_n 0, 1) := by decide +kernel
theorem dX12_winning_56 : decode cX12_winning 56 = .ok (.getfield 496, 3) := by decide +kernel
theorem dX12_winning_59 : decode cX12_winning 59 = .ok (.ishl, 1) := by decide +kernel
theorem dX12_winning_60 : decode cX12_winning 60 = .ok (.iconst 1, 1) := by decide +kernel
theorem dX12_winning_61 : decode cX12_winning 61 = .ok (.isub, 1) := by decide +kernel
theorem dX12_winning_62 : decode cX12_winning 62 = .ok (.iaload, 1) := by decide +kernel
theorem dX12_winning_63 : decode cX12_winning 63 = .ok (.ixor, 1) := by decide +kernel
theorem dX12_winning_64 : decode cX12_winning 64 = .ok (.istore_n 1, 1) := by decide +kernel
theorem dX12_winning_65 : decode cX12_winning 65 = .ok (.iinc 3 1, 3) := by decide +kernel
theorem dX12_winning_68 : decode cX12_winning 68 = .ok (.goto (-33), 3) := by decide +kernel
theorem dX12_winning_71 : decode cX12_winning 71 = .ok (.iconst (-1), 1) := by decide +kernel
theorem dX12_winning_72 : decode cX12_winning 72 = .ok (.istore_n 3, 1) := by decide +kernel
theorem dX12_winning_73 : decode cX12_winning 73 = .ok (.iconst 0, 1) := by decide +kernel
theorem dX12_winning_74 : decode cX12_winning 74 = .ok (.istore 4, 2) := by decide +kernel
theorem dX12_winning_76 : decode cX12_winning 76 = .ok (.iload 4, 2) := by decide +kernel
theorem dX12_winning_78 : decode cX12_winning 78 = .ok (.iload_n 2, 1) := by decide +kernel
theorem dX12_winning_79 : decode cX12_winning 79 = .ok (.if_icmp .ge 121, 3) := by decide +kernel
theorem dX12_winning_82 : decode cX12_winning 82 = .ok (.aload_n 0, 1) := by decide +kernel
theorem dX12_winning_83 : decode cX12_winning 83 = .ok (.iload 4, 2) := by decide +kernel
theorem dX12_winning_85 : decode cX12_winning 85 = .ok (.invokevirtual 493, 3) := by decide +kernel
theorem dX12_winning_88 : decode cX12_winning 88 = .ok (.istore 5, 2) := by decide +kernel
theorem dX12_winning_90 : decode cX12_winning 90 = .ok (.aload_n 0, 1) := by decide +kernel
theorem dX12_winning_91 : decode cX12_winning 91 = .ok (.iload 5, 2) := by decide +kernel
theorem dX12_winning_93 : decode cX12_winning 93 = .ok (.invokevirtual 510, 3) := by decide +kernel
theorem dX12_winning_96 : decode cX12_winning 96 = .ok (.iconst 1, 1) := by decide +kernel
theorem dX12_winning_97 : decode cX12_winning 97 = .ok (.aload_n 0, 1) := by decide +kernel
theorem dX12_winning_98 : decode cX12_winning 98 = .ok (.getfield 496, 3) := by decide +kernel
theorem dX12_winning_101 : decode cX12_winning 101 = .ok (.ishl, 1) := by decide +kernel
theorem dX12_winning_102 : decode cX12_winning 102 = .ok (.iconst 1, 1) := by decide +kernel
theorem dX12_winning_103 : decode cX12_winning 103 = .ok (.isub, 1) := by decide +kernel
theorem dX12_winning_104 : decode cX12_winning 104 = .ok (.istore 6, 2) := by decide +kernel
theorem dX12_winning_106 : decode cX12_winning 106 = .ok (.iconst 0, 1) := by decide +kernel
theorem dX12_winning_107 : decode cX12_winning 107 = .ok (.istore 7, 2) := by decide +kernel
theorem dX12_winning_109 : decode cX12_winning 109 = .ok (.iload 7, 2) := by decide +kernel
theorem dX12_winning_111 : decode cX12_winning 111 = .ok (.bipush 10, 2) := by decide +kernel
theorem dX12_winning_113 : decode cX12_winning 113 = .ok (.aload_n 0, 1) := by decide +kernel
theorem dX12_winning_114 : decode cX12_winning 114 = .ok (.getfield 302, 3) := by decide +kernel
theorem dX12_winning_117 : decode cX12_winning 117 = .ok (.imul, 1) := by decide +kernel
theorem dX12_winning_118 : decode cX12_winning 118 = .ok (.if_icmp .ge 76, 3) := by decide +kernel
theorem dX12_winning_121 : decode cX12_winning 121 = .ok (.aload_n 0, 1) := by decide +kernel
theorem dX12_winning_122 : decode cX12_winning 122 = .ok (.iload 5, 2) := by decide +kernel
theorem dX12_winning_124 : decode cX12_winning 124 = .ok (.iload 7, 2) := by decide +kernel
theorem dX12_winning_126 : decode cX12_winning 126 = .ok (.invokevirtual 468, 3) := by decide +kernel
theorem dX12_winning_129 : decode cX12_winning 129 = .ok (.istore 8, 2) := by decide +kernel
theorem dX12_winning_131 : decode cX12_winning 131 = .ok (.iload 8, 2) := by decide +kernel
theorem dX12_winning_133 : decode cX12_winning 133 = .ok (.iconst (-1), 1) := by decide +kernel
theorem dX12_winning_134 : decode cX12_winning 134 = .ok (.if_icmp .ne 6, 3) := by decide +kernel
theorem dX12_winning_137 : decode cX12_winning 137 = .ok (.goto 51, 3) := by decide +kernel
theorem dX12_winning_140 : decode cX12_winning 140 = .ok (.aload_n 0, 1) := by decide +kernel
theorem dX12_winning_141 : decode cX12_winning 141 = .ok (.aload_n 0, 1) := by decide +kernel
theorem dX12_winning_142 : decode cX12_winning 142 = .ok (.iload 5, 2) := by decide +kernel
theorem dX12_winning_144 : decode cX12_winning 144 = .ok (.iload 8, 2) := by decide +kernel
theorem dX12_winning_146 : decode cX12_winning 146 = .ok (.invokevirtual 471, 3) := by decide +kernel
theorem dX12_winning_149 : decode cX12_winning 149 = .ok (.invokevirtual 505, 3) := by decide +kernel
theorem dX12_winning_152 : decode cX12_winning 152 = .ok (.istore 9, 2) := by decide +kernel
theorem dX12_winning_154 : decode cX12_winning 154 = .ok (.iload_n 1, 1) := by decide +kernel
theorem dX12_winning_155 : decode cX12_winning 155 = .ok (.aload_n 0, 1) := by decide +kernel
theorem dX12_winning_156 : decode cX12_winning 156 = .ok (.getfield 78, 3) := by decide +kernel
theorem dX12_winning_159 : decode cX12_winning 159 = .ok (.iload 6, 2) := by decide +kernel
theorem dX12_winning_161 : decode cX12_winning 161 = .ok (.iaload, 1) := by decide +kernel
theorem dX12_winning_162 : decode cX12_winning 162 = .ok (.ixor, 1) := by decide +kernel
theorem dX12_winning_163 : decode cX12_winning 163 = .ok (.aload_n 0, 1) := by decide +kernel
theorem dX12_winning_164 : decode cX12_winning 164 = .ok (.getfield 78, 3) := by decide +kernel
theorem dX12_winning_167 : decode cX12_winning 167 = .ok (.iload 9, 2) := by decide +kernel
theorem dX12_winning_169 : decode cX12_winning 169 = .ok (.iaload, 1) := by decide +kernel
theorem dX12_winning_170 : decode cX12_winning 170 = .ok (.ixor, 1) := by decide +kernel
theorem dX12_winning_171 : decode cX12_winning 171 = .ok (.ifCond .ne 17, 3) := by decide +kernel
theorem dX12_winning_174 : decode cX12_winning 174 = .ok (.iload_n 3, 1) := by decide +kernel
theorem dX12_winning_175 : decode cX12_winning 175 = .ok (.iconst (-1), 1) := by decide +kernel
theorem dX12_winning_176 : decode cX12_winning 176 = .ok (.if_icmp .eq 9, 3) := by decide +kernel
theorem dX12_winning_179 : decode cX12_winning 179 = .ok (.iload 8, 2) := by decide +kernel
theorem dX12_winning_181 : decode cX12_winning 181 = .ok (.iload_n 3, 1) := by decide +kernel
theorem dX12_winning_182 : decode cX12_winning 182 = .ok (.if_icmp .ge 6, 3) := by decide +kernel
theorem dX12_winning_185 : decode cX12_winning 185 = .ok (.iload 8, 2) := by decide +kernel
theorem dX12_winning_187 : decode cX12_winning 187 = .ok (.istore_n 3, 1) := by decide +kernel
theorem dX12_winning_188 : decode cX12_winning 188 = .ok (.iinc 7 1, 3) := by decide +kernel
theorem dX12_winning_191 : decode cX12_winning 191 = .ok (.goto (-82), 3) := by decide +kernel
theorem dX12_winning_194 : decode cX12_winning 194 = .ok (.iinc 4 1, 3) := by decide +kernel
theorem dX12_winning_197 : decode cX12_winning 197 = .ok (.goto (-121), 3) := by decide +kernel
theorem dX12_winning_200 : decode cX12_winning 200 = .ok (.iload_n 3, 1) := by decide +kernel
theorem dX12_winning_201 : decode cX12_winning 201 = .ok (.ireturn, 1) := by decide +kernel
theorem wl_9_76 : (.methodLink RX12 513 yX12_areFew : Cond) ∈ sg_tbl := tb_9 _ (List.mem_of_getElem? (i := 76) (by decide +kernel)) (by decide +kernel)
section
variable {p : Program} {l : Launch} {e : Env} {R : Room} {s : State} {m : MethodId} {args : Array Value} {below : List Frame} {meth : Method} {c : Code} {H : Heap} {locs : List Loc} {cells slots : Nat} {Q : State → Prop} {cc : ByteArray} {nL pc : Nat} {ls : Array Slot} {rest : List Value} {own : String} {D : va_G} {A : Nat → Prop} {tys : List (ClassId × FieldType)} {ad ks : List Nat} {P : sgPm} {H0 : Heap} {index : Nat} {base : Nat} {st0 : List Value} {a : Nat}
theorem gg_X12_45   (X : CallFix p m c cc nL s args sg_tbl own) (hK : va_K D vwCl tys s) (hG : sgG (KT P) D vwCl A tys ad ks H) (ha : isK ad ks 12 a) (hl : Cond.fieldLink own index "LawnAheadModel" "sums" "[I" ∈ sg_tbl) {v : Value} (hf : fld D H 12 a 45 v) (hdg : decode cc pc = .ok (.getfield index, 3)) (kk : W p l e R s m args below meth c H locs cells slots Q (F0 m (pc + 3) ls (v :: rest))) : W p l e R s m args below meth c H locs cells slots Q (F0 m pc ls (.ref a :: rest)) :=
  sg_getf X hK hG ha (k := 12) (ci := 12) rfl (C := RX12) (T := TX12) (N := 53) rfl inL_X12 45 (by decide) (show 45 < 53 by decide) hl (fun _ h => h) hf hdg kk
set_option maxHeartbeats 8000000 in
set_option maxRecDepth 100000 in
theorem m_X12_winning_1 (l : Launch) {D : va_G} {base : Nat} {tys : List (ClassId × FieldType)} {ad ks : List Nat} {P : sgPm} (hp4 : P.2.2.2.2.1 = true) (hp10 : sgPin P = none) (a0 : Nat) (h0 : isK ad ks 12 a0) : sgMi l (KT P) D vwCl base tys ad ks yX12_winning cX12_winning 10 (some .int) ({ frames := 5, cells := 0, slots := 0, locals := 127 }) [.ref a0] (fun r : Int32 => True) := by
  refine sg_ofW (by decide +kernel) (Nat.le_of_ble_eq_true rfl) (fun p e s m below meth c X hr hlk hb hK hC hG ls hl => ?_)
  have hS : va_S (fun q : Nat => base ≤ q) s.heap s.heap [] := va_S.rf
  have hl : lv_has ls 10 [(0, .ref a0)] := hl
  obtain ⟨tp, hG⟩ := sg_dopin hp10 hG h0
  refine lv_aload_n X.1 X.2.1 dX12_winning_0 rfl (lv_at hl 0 rfl) ?_
  refine lv_iconst (v := 0) X.1 X.2.1 dX12_winning_1 (by decide +kernel) ?_
  refine pf_X12_0 X hK hG hS h0 wl_6_178 ⟨_, rfl, (iv_top _)⟩ dX12_winning_2 (fun H locs hG hS ku1 ru1 => ?_)
  refine lv_aload_n X.1 X.2.1 dX12_winning_5 rfl (lv_at hl 0 rfl) ?_
  refine gf_X12_23s X hK hG h0 hp4 wl_6_201 dX12_winning_6 (fun f2 hf2 kf2 => ?_)
  refine lv_if_ne (tgt := 14) X.1 X.2.1 dX12_winning_9 (by decide) (fun c3 => ?_) (fun c3 => ?_)
  · refine lv_aload_n X.1 X.2.1 dX12_winning_14 rfl (lv_at hl 0 rfl) ?_
    obtain ⟨rqp4, nqp4, hrkp4, hnkp4, hfrp4, hfnp4, hfcp4, hewp4, hetp4⟩ := sg_pk (P := (sgPs P (some tp.toInt))) hp4 rfl hG h0
    refine ca_X12_areFew_f X hK hG hC (fun _ h => h) hS hb hp4 a0 h0 (wP P) tp (nP P) rqp4 nqp4 (wP_iv P) (nP_iv P) hrkp4 hnkp4 hfrp4 hfnp4 hfcp4 hewp4 hetp4 wl_9_76 hl.1 (rest := []) rfl (Nat.le_of_ble_eq_true rfl) ⟨Nat.le_of_ble_eq_true rfl, Nat.le_of_ble_eq_true rfl⟩ ⟨Nat.le_of_ble_eq_true rfl, Nat.le_of_ble_eq_true rfl⟩ dX12_winning_15 (fun f5 locs hf5 hS => ?_)
    refine lv_if_ne (tgt := 25) X.1 X.2.1 dX12_winning_18 (by decide) (fun c6 => ?_) (fun c6 => ?_)
    · have hfew := hf5.2 c6
      refine lv_iconst (v := 0) X.1 X.2.1 dX12_winning_25 (by decide +kernel) ?_
      refine lv_istore_n (lv' := [(1, .int 0), (0, .ref a0)]) X.1 X.2.1 dX12_winning_26 rfl hl (by decide) rfl (fun ls hl => ?_)
      refine lv_aload_n X.1 X.2.1 dX12_winning_27 rfl (lv_at hl 1 rfl) ?_
      refine lv_iconst (v := (-1)) X.1 X.2.1 dX12_winning_28 (by decide +kernel) ?_
      obtain ⟨rqp7, nqp7, hrkp7, hnkp7, hfrp7, hfnp7, hfcp7, hewp7, hetp7⟩ := sg_pk (P := (sgPs P (some tp.toInt))) hp4 rfl hG h0
      refine ca_X12_partAt_f X hK hG hC (fun _ h => h) hS hb hp4 a0 h0 (-1) (wP P) tp (nP P) rqp7 nqp7 (wP_iv P) (nP_iv P) hrkp7 hnkp7 hfrp7 hfnp7 hfcp7 hewp7 hetp7 wl_9_43 hl.1 (rest := []) rfl (Nat.le_of_ble_eq_true rfl) ⟨Nat.le_of_ble_eq_true rfl, Nat.le_of_ble_eq_true rfl⟩ ⟨Nat.le_of_ble_eq_true rfl, Nat.le_of_ble_eq_true rfl⟩ dX12_winning_29 (fun f8 locs hf8 hS => ?_)
      refine lv_istore_n (lv' := [(2, .int f8), (1, .int 0), (0, .ref a0)]) X.1 X.2.1 dX12_winning_32 rfl hl (by decide) rfl (fun ls hl => ?_)
      refine lv_iconst (v := 0) X.1 X.2.1 dX12_winning_33 (by decide +kernel) ?_
      refine lv_istore_n (lv' := [(3, .int 0), (2, .int f8), (1, .int 0), (0, .ref a0)]) X.1 X.2.1 dX12_winning_34 rfl hl (by decide) rfl (fun ls hl => ?_)
      have B9_35 : ∀ (N : Nat) (H : Heap) (locs : List Loc) (ls : Array Slot) (z9_1 : Int32) (z9_3 : Int32), sgG (KT (sgPs P (some tp.toInt))) D vwCl (fun q : Nat => base ≤ q) tys ad ks H → va_S (fun q : Nat => base ≤ q) s.heap H locs → lv_has ls 10 [(0, .ref a0), (1, .int z9_1), (2, .int f8), (3, .int z9_3)] → iv 0 15 z9_1 → iv 0 2147483647 z9_3 → (2147483648 - z9_3.toInt).toNat ≤ N → W p l e (headSpec (Cond.code yX12_winning cX12_winning 10 (some .int) :: sg_tbl) ({ frames := 5, cells := 0, slots := 0, locals := 127 })).room s m #[.ref a0] below meth c H locs 0 0 (MQ below (va_Qi (fun r (_ : Unit) => (fun r : Int32 => True) r) (fun _ => sgB (KT P) D vwCl base tys ad ks) (fun q : Nat => base ≤ q)) #[.ref a0] s 0 0 (fun q : Nat => base ≤ q)) (F0 m 35 ls []) := by
        intro N; induction N with
        | zero =>
          intro H locs ls z9_1 z9_3 hG hS hl hz9_1 hz9_3 hN
          exact absurd hN (by have := iv_up hz9_3; omega)
        | succ N ih9 =>
          intro H locs ls z9_1 z9_3 hG hS hl hz9_1 hz9_3 hN9
          refine lv_iload_n X.1 X.2.1 dX12_winning_35 rfl (lv_at hl 3 rfl) ?_
          refine lv_iload_n X.1 X.2.1 dX12_winning_36 rfl (lv_at hl 2 rfl) ?_
          refine lv_icmp_ge (tgt := 71) X.1 X.2.1 dX12_winning_37 (by decide) (fun c10 => ?_) (fun c10 => ?_)
          · refine lv_iconst (v := (-1)) X.1 X.2.1 dX12_winning_71 (by decide +kernel) ?_
            refine lv_istore_n (lv' := [(3, .int (-1)), (0, .ref a0), (1, .int z9_1), (2, .int f8)]) X.1 X.2.1 dX12_winning_72 rfl hl (by decide) rfl (fun ls hl => ?_)
            refine lv_iconst (v := 0) X.1 X.2.1 dX12_winning_73 (by decide +kernel) ?_
            refine lv_istore (lv' := [(4, .int 0), (3, .int (-1)), (0, .ref a0), (1, .int z9_1), (2, .int f8)]) X.1 X.2.1 dX12_winning_74 hl (by decide) rfl (fun ls hl => ?_)
            have B11_76 : ∀ (N : Nat) (H : Heap) (locs : List Loc) (ls : Array Slot) (z11_3 : Int32) (z11_4 : Int32), sgG (KT (sgPs P (some tp.toInt))) D vwCl (fun q : Nat => base ≤ q) tys ad ks H → va_S (fun q : Nat => base ≤ q) s.heap H locs → lv_has ls 10 [(0, .ref a0), (1, .int z9_1), (2, .int f8), (3, .int z11_3), (4, .int z11_4)] → iv 0 2147483647 z11_4 → (2147483648 - z11_4.toInt).toNat ≤ N → W p l e (headSpec (Cond.code yX12_winning cX12_winning 10 (some .int) :: sg_tbl) ({ frames := 5, cells := 0, slots := 0, locals := 127 })).room s m #[.ref a0] below meth c H locs 0 0 (MQ below (va_Qi (fun r (_ : Unit) => (fun r : Int32 => True) r) (fun _ => sgB (KT P) D vwCl base tys ad ks) (fun q : Nat => base ≤ q)) #[.ref a0] s 0 0 (fun q : Nat => base ≤ q)) (F0 m 76 ls []) := by
              intro N; induction N with
              | zero =>
                intro H locs ls z11_3 z11_4 hG hS hl hz11_4 hN
                exact absurd hN (by have := iv_up hz11_4; omega)
              | succ N ih11 =>
                intro H locs ls z11_3 z11_4 hG hS hl hz11_4 hN11
                refine lv_iload X.1 X.2.1 dX12_winning_76 (lv_at hl 4 rfl) ?_
                refine lv_iload_n X.1 X.2.1 dX12_winning_78 rfl (lv_at hl 2 rfl) ?_
                refine lv_icmp_ge (tgt := 200) X.1 X.2.1 dX12_winning_79 (by decide) (fun c12 => ?_) (fun c12 => ?_)
                · refine lv_iload_n X.1 X.2.1 dX12_winning_200 rfl (lv_at hl 3 rfl) ?_
                  have hG := sg_unpin hp10 hG
                  exact sg_iret X hr hlk hb hK hC hG hS trivial dX12_winning_201
                · refine lv_aload_n X.1 X.2.1 dX12_winning_82 rfl (lv_at hl 0 rfl) ?_
                  refine lv_iload X.1 X.2.1 dX12_winning_83 (lv_at hl 4 rfl) ?_
                  obtain ⟨rqp13, nqp13, hrkp13, hnkp13, hfrp13, hfnp13, hfcp13, hewp13, hetp13⟩ := sg_pk (P := (sgPs P (some tp.toInt))) hp4 rfl hG h0
                  refine ca_X12_partAt_f X hK hG hC (fun _ h => h) hS hb hp4 a0 h0 z11_4 (wP P) tp (nP P) rqp13 nqp13 (wP_iv P) (nP_iv P) hrkp13 hnkp13 hfrp13 hfnp13 hfcp13 hewp13 hetp13 wl_9_43 hl.1 (rest := []) rfl (Nat.le_of_ble_eq_true rfl) ⟨Nat.le_of_ble_eq_true rfl, Nat.le_of_ble_eq_true rfl⟩ ⟨Nat.le_of_ble_eq_true rfl, Nat.le_of_ble_eq_true rfl⟩ dX12_winning_85 (fun f14 locs hf14 hS => ?_)
                  refine lv_istore (lv' := [(5, .int f14), (0, .ref a0), (1, .int z9_1), (2, .int f8), (3, .int z11_3), (4, .int z11_4)]) X.1 X.2.1 dX12_winning_88 hl (by decide) rfl (fun ls hl => ?_)
                  refine lv_aload_n X.1 X.2.1 dX12_winning_90 rfl (lv_at hl 1 rfl) ?_
                  refine lv_iload X.1 X.2.1 dX12_winning_91 (lv_at hl 0 rfl) ?_
                  refine ca_X12_layPart_1 X hK hG hC hS hb hp4 a0 h0 f14 (pa_few (M := f8) (fun j h1 h2 => hfew j h1 (by rw [← hf8]; exact h2)) hf14 ((iv_lt (b' := 2147483646) (iv_gt_of c12) hz11_4 (iv_top f8) (by decide +kernel))).1 (iv_gt_of c12)) wl_9_55 hl.1 (rest := []) rfl (Nat.le_of_ble_eq_true rfl) ⟨Nat.le_of_ble_eq_true rfl, Nat.le_of_ble_eq_true rfl⟩ ⟨Nat.le_of_ble_eq_true rfl, Nat.le_of_ble_eq_true rfl⟩ dX12_winning_93 (fun H locs hG hS => ?_)
                  refine lv_iconst (v := 1) X.1 X.2.1 dX12_winning_96 (by decide +kernel) ?_
                  refine lv_aload_n X.1 X.2.1 dX12_winning_97 rfl (lv_at hl 1 rfl) ?_
                  refine gf_X12_47 X hK hG h0 wl_6_225 dX12_winning_98 (fun f16 hf16 kf16 => ?_)
                  refine lv_ishl X.1 X.2.1 dX12_winning_101 ?_
                  refine lv_topi (fun f17 ef17 => ?_)
                  refine lv_iconst (v := 1) X.1 X.2.1 dX12_winning_102 (by decide +kernel) ?_
                  refine lv_isub X.1 X.2.1 dX12_winning_103 ?_
                  refine lv_topi (fun f18 ef18 => ?_)
                  refine lv_istore (lv' := [(6, .int f18), (5, .int f14), (0, .ref a0), (1, .int z9_1), (2, .int f8), (3, .int z11_3), (4, .int z11_4)]) X.1 X.2.1 dX12_winning_104 hl (by decide) rfl (fun ls hl => ?_)
                  refine lv_iconst (v := 0) X.1 X.2.1 dX12_winning_106 (by decide +kernel) ?_
                  refine lv_istore (lv' := [(7, .int 0), (6, .int f18), (5, .int f14), (0, .ref a0), (1, .int z9_1), (2, .int f8), (3, .int z11_3), (4, .int z11_4)]) X.1 X.2.1 dX12_winning_107 hl (by decide) rfl (fun ls hl => ?_)
                  have B19_109 : ∀ (N : Nat) (locs : List Loc) (ls : Array Slot) (z19_3 : Int32) (z19_7 : Int32), va_S (fun q : Nat => base ≤ q) s.heap H locs → lv_has ls 10 [(0, .ref a0), (1, .int z9_1), (2, .int f8), (3, .int z19_3), (4, .int z11_4), (5, .int f14), (6, .int f18), (7, .int z19_7)] → iv 0 300 z19_7 → (301 - z19_7.toInt).toNat ≤ N → W p l e (headSpec (Cond.code yX12_winning cX12_winning 10 (some .int) :: sg_tbl) ({ frames := 5, cells := 0, slots := 0, locals := 127 })).room s m #[.ref a0] below meth c H locs 0 0 (MQ below (va_Qi (fun r (_ : Unit) => (fun r : Int32 => True) r) (fun _ => sgB (KT P) D vwCl base tys ad ks) (fun q : Nat => base ≤ q)) #[.ref a0] s 0 0 (fun q : Nat => base ≤ q)) (F0 m 109 ls []) := by
                    intro N; induction N with
                    | zero =>
                      intro locs ls z19_3 z19_7 hS hl hz19_7 hN
                      exact absurd hN (by have := iv_up hz19_7; omega)
                    | succ N ih19 =>
                      intro locs ls z19_3 z19_7 hS hl hz19_7 hN19
                      refine lv_iload X.1 X.2.1 dX12_winning_109 (lv_at hl 7 rfl) ?_
                      refine lv_bipush (v := 10) X.1 X.2.1 dX12_winning_111 (by decide +kernel) ?_
                      refine lv_aload_n X.1 X.2.1 dX12_winning_113 rfl (lv_at hl 0 rfl) ?_
                      refine gf_X12_23s X hK hG h0 hp4 wl_6_201 dX12_winning_114 (fun f20 hf20 kf20 => ?_)
                      refine lv_imul X.1 X.2.1 dX12_winning_117 ?_
                      refine lv_topi (fun f21 ef21 => ?_)
                      refine lv_icmp_ge (tgt := 194) X.1 X.2.1 dX12_winning_118 (by decide) (fun c22 => ?_) (fun c22 => ?_)
                      · obtain ⟨y23, ey23⟩ : ∃ y : Int32, y = z11_4 + Int32.ofInt 1 := ⟨_, rfl⟩
                        refine lv_iinc (v := y23) (lv' := [(4, .int y23), (0, .ref a0), (1, .int z9_1), (2, .int f8), (3, .int z19_3), (5, .int f14), (6, .int f18), (7, .int z19_7)]) X.1 X.2.1 dX12_winning_194 hl (k := 4) rfl ey23.symm (by decide) rfl (fun ls hl => ?_)
                        refine lv_goto (tgt := 76) X.1 X.2.1 dX12_winning_197 (by decide) ?_
                        exact ih11 H _ _ z19_3 y23 hG hS (lv_sub hl [1, 2, 3, 4, 0] rfl) (iv_of (iv_add (a' := 1) (b' := 2147483647) ey23 (iv_lt (b' := 2147483646) (iv_gt_of c12) hz11_4 (iv_top f8) (by decide +kernel)) (iv_c _ (a := 1) (b := 1) (by decide +kernel)) (by decide +kernel)) (a' := 0) (b' := 2147483647) (by decide +kernel)) (iv_stepU ey23 (iv_lt (b' := 2147483646) (iv_gt_of c12) hz11_4 (iv_top f8) (by decide +kernel)) (by decide +kernel) hN11)
                      · refine lv_aload_n X.1 X.2.1 dX12_winning_121 rfl (lv_at hl 0 rfl) ?_
                        refine lv_iload X.1 X.2.1 dX12_winning_122 (lv_at hl 5 rfl) ?_
                        refine lv_iload X.1 X.2.1 dX12_winning_124 (lv_at hl 7 rfl) ?_
                        refine ca_X12_codeOf_1 X hK hG hC (fun _ h => h) hS hb hp4 a0 h0 f14 z19_7 (iv_of (iv_lt (b' := 299) (iv_gt_of c22) hz19_7 (iv_mul (a' := 10) (b' := 300) ef21 (iv_c 10 (a := 10) (b := 10) (by decide +kernel)) hf20 (by decide +kernel)) (by decide +kernel)) (a' := 0) (b' := 300) (by decide +kernel)) wl_8_173 hl.1 (rest := []) rfl (Nat.le_of_ble_eq_true rfl) ⟨Nat.le_of_ble_eq_true rfl, Nat.le_of_ble_eq_true rfl⟩ ⟨Nat.le_of_ble_eq_true rfl, Nat.le_of_ble_eq_true rfl⟩ dX12_winning_126 (fun f24 locs hf24 hS => ?_)
                        refine lv_istore (lv' := [(8, .int f24), (0, .ref a0), (1, .int z9_1), (2, .int f8), (3, .int z19_3), (4, .int z11_4), (5, .int f14), (6, .int f18), (7, .int z19_7)]) X.1 X.2.1 dX12_winning_129 hl (by decide) rfl (fun ls hl => ?_)
                        refine lv_iload X.1 X.2.1 dX12_winning_131 (lv_at hl 0 rfl) ?_
                        refine lv_iconst (v := (-1)) X.1 X.2.1 dX12_winning_133 (by decide +kernel) ?_
                        have B26_188 : ∀ (locs : List Loc) (ls : Array Slot) (z26_3 : Int32), va_S (fun q : Nat => base ≤ q) s.heap H locs → lv_has ls 10 [(0, .ref a0), (1, .int z9_1), (2, .int f8), (3, .int z26_3), (4, .int z11_4), (5, .int f14), (6, .int f18), (7, .int z19_7)] → W p l e (headSpec (Cond.code yX12_winning cX12_winning 10 (some .int) :: sg_tbl) ({ frames := 5, cells := 0, slots := 0, locals := 127 })).room s m #[.ref a0] below meth c H locs 0 0 (MQ below (va_Qi (fun r (_ : Unit) => (fun r : Int32 => True) r) (fun _ => sgB (KT P) D vwCl base tys ad ks) (fun q : Nat => base ≤ q)) #[.ref a0] s 0 0 (fun q : Nat => base ≤ q)) (F0 m 188 ls []) := by
                          intro locs ls z26_3 hS hl
                          obtain ⟨y27, ey27⟩ : ∃ y : Int32, y = z19_7 + Int32.ofInt 1 := ⟨_, rfl⟩
                          refine lv_iinc (v := y27) (lv' := [(7, .int y27), (0, .ref a0), (1, .int z9_1), (2, .int f8), (3, .int z26_3), (4, .int z11_4), (5, .int f14), (6, .int f18)]) X.1 X.2.1 dX12_winning_188 hl (k := 7) rfl ey27.symm (by decide) rfl (fun ls hl => ?_)
                          refine lv_goto (tgt := 109) X.1 X.2.1 dX12_winning_191 (by decide) ?_
                          exact ih19 _ _ z26_3 y27 hS (lv_sub hl [1, 2, 3, 4, 5, 6, 7, 0] rfl) (iv_of (iv_add (a' := 1) (b' := 300) ey27 (iv_lt (b' := 299) (iv_gt_of c22) hz19_7 (iv_mul (a' := 10) (b' := 300) ef21 (iv_c 10 (a := 10) (b := 10) (by decide +kernel)) hf20 (by decide +kernel)) (by decide +kernel)) (iv_c _ (a := 1) (b := 1) (by decide +kernel)) (by decide +kernel)) (a' := 0) (b' := 300) (by decide +kernel)) (iv_stepU ey27 (iv_lt (b' := 299) (iv_gt_of c22) hz19_7 (iv_mul (a' := 10) (b' := 300) ef21 (iv_c 10 (a := 10) (b := 10) (by decide +kernel)) hf20 (by decide +kernel)) (by decide +kernel)) (by decide +kernel) hN19)
                        refine lv_icmp_ne (tgt := 140) X.1 X.2.1 dX12_winning_134 (by decide) (fun c25 => ?_) (fun c25 => ?_)
                        · refine lv_aload_n X.1 X.2.1 dX12_winning_140 rfl (lv_at hl 1 rfl) ?_
                          refine lv_aload_n X.1 X.2.1 dX12_winning_141 rfl (lv_at hl 1 rfl) ?_
                          refine lv_iload X.1 X.2.1 dX12_winning_142 (lv_at hl 6 rfl) ?_
                          refine lv_iload X.1 X.2.1 dX12_winning_144 (lv_at hl 0 rfl) ?_
                          refine ca_X12_without_1 X hK hG hC (fun _ h => h) hS hb hp4 a0 h0 f14 f24 wl_8_177 hl.1 (rest := [.ref a0]) rfl (Nat.le_of_ble_eq_true rfl) ⟨Nat.le_of_ble_eq_true rfl, Nat.le_of_ble_eq_true rfl⟩ ⟨Nat.le_of_ble_eq_true rfl, Nat.le_of_ble_eq_true rfl⟩ dX12_winning_146 (fun f28 locs hf28 hS => ?_)
                          refine ca_X12_gathered_q X hK hG hC (fun _ h => h) hS hb hp4 a0 h0 f28 wl_9_67 hl.1 (rest := []) rfl (Nat.le_of_ble_eq_true rfl) ⟨Nat.le_of_ble_eq_true rfl, Nat.le_of_ble_eq_true rfl⟩ ⟨Nat.le_of_ble_eq_true rfl, Nat.le_of_ble_eq_true rfl⟩ dX12_winning_149 (fun f29 locs hf29 hS => ?_)
                          refine lv_istore (lv' := [(9, .int f29), (8, .int f24), (0, .ref a0), (1, .int z9_1), (2, .int f8), (3, .int z19_3), (4, .int z11_4), (5, .int f14), (6, .int f18), (7, .int z19_7)]) X.1 X.2.1 dX12_winning_152 hl (by decide) rfl (fun ls hl => ?_)
                          refine lv_iload_n X.1 X.2.1 dX12_winning_154 rfl (lv_at hl 3 rfl) ?_
                          refine lv_aload_n X.1 X.2.1 dX12_winning_155 rfl (lv_at hl 2 rfl) ?_
                          refine gf_X12_45 X hK hG h0 wl_6_223 dX12_winning_156 (fun q30 hq30 kq30 => ?_)
                          refine lv_iload X.1 X.2.1 dX12_winning_159 (lv_at hl 8 rfl) ?_
                          refine al_61 X hK hG hq30 (iv_vpin (iv_sub (a' := 0) (b' := 4095) ef18 (sg_shl1 ef17 hf16 (by decide +kernel)) (iv_c 1 (a := 1) (b := 1) (by decide +kernel)) (by decide +kernel)) (by decide +kernel)) dX12_winning_161 (fun f31 hf31 => ?_)
                          have of31 := hf31
                          have hf31 : iv 0 12 f31 := sg_sums hf31
                          refine lv_ixor X.1 X.2.1 dX12_winning_162 ?_
                          refine lv_topi (fun f32 ef32 => ?_)
                          refine lv_aload_n X.1 X.2.1 dX12_winning_163 rfl (lv_at hl 2 rfl) ?_
                          refine gg_X12_45 X hK hG h0 wl_6_223 kq30 dX12_winning_164 ?_
                          refine lv_iload X.1 X.2.1 dX12_winning_167 (lv_at hl 0 rfl) ?_
                          refine al_61 X hK hG hq30 (iv_vpin hf29 (by decide +kernel)) dX12_winning_169 (fun f33 hf33 => ?_)
                          have of33 := hf33
                          have hf33 : iv 0 12 f33 := sg_sums hf33
                          refine lv_ixor X.1 X.2.1 dX12_winning_170 ?_
                          refine lv_topi (fun f34 ef34 => ?_)
                          refine lv_if_ne (tgt := 188) X.1 X.2.1 dX12_winning_171 (by decide) (fun c35 => ?_) (fun c35 => ?_)
                          · exact B26_188 _ _ z19_3 hS (lv_sub hl [2, 3, 4, 5, 6, 7, 8, 9] rfl)
                          · refine lv_iload_n X.1 X.2.1 dX12_winning_174 rfl (lv_at hl 5 rfl) ?_
                            refine lv_iconst (v := (-1)) X.1 X.2.1 dX12_winning_175 (by decide +kernel) ?_
                            have B37_185 : ∀ (locs : List Loc) (ls : Array Slot), va_S (fun q : Nat => base ≤ q) s.heap H locs → lv_has ls 10 [(0, .ref a0), (1, .int z9_1), (2, .int f8), (4, .int z11_4), (5, .int f14), (6, .int f18), (7, .int z19_7), (8, .int f24)] → W p l e (headSpec (Cond.code yX12_winning cX12_winning 10 (some .int) :: sg_tbl) ({ frames := 5, cells := 0, slots := 0, locals := 127 })).room s m #[.ref a0] below meth c H locs 0 0 (MQ below (va_Qi (fun r (_ : Unit) => (fun r : Int32 => True) r) (fun _ => sgB (KT P) D vwCl base tys ad ks) (fun q : Nat => base ≤ q)) #[.ref a0] s 0 0 (fun q : Nat => base ≤ q)) (F0 m 185 ls []) := by
                              intro locs ls hS hl
                              refine lv_iload X.1 X.2.1 dX12_winning_185 (lv_at hl 7 rfl) ?_
                              refine lv_istore_n (lv' := [(3, .int f24), (0, .ref a0), (1, .int z9_1), (2, .int f8), (4, .int z11_4), (5, .int f14), (6, .int f18), (7, .int z19_7), (8, .int f24)]) X.1 X.2.1 dX12_winning_187 rfl hl (by decide) rfl (fun ls hl => ?_)
                              exact B26_188 _ _ f24 hS (lv_sub hl [1, 2, 3, 0, 4, 5, 6, 7] rfl)
                            refine lv_icmp_eq (tgt := 185) X.1 X.2.1 dX12_winning_176 (by decide) (fun c36 => ?_) (fun c36 => ?_)
                            · exact B37_185 _ _ hS (lv_sub hl [2, 3, 4, 6, 7, 8, 9, 1] rfl)
                            · refine lv_iload X.1 X.2.1 dX12_winning_179 (lv_at hl 1 rfl) ?_
                              refine lv_iload_n X.1 X.2.1 dX12_winning_181 rfl (lv_at hl 5 rfl) ?_
                              refine lv_icmp_ge (tgt := 188) X.1 X.2.1 dX12_winning_182 (by decide) (fun c38 => ?_) (fun c38 => ?_)
                              · exact B26_188 _ _ z19_3 hS (lv_sub hl [2, 3, 4, 5, 6, 7, 8, 9] rfl)
                              · exact B37_185 _ _ hS (lv_sub hl [2, 3, 4, 6, 7, 8, 9, 1] rfl)
                        · refine lv_goto (tgt := 188) X.1 X.2.1 dX12_winning_137 (by decide) ?_
                          exact B26_188 _ _ z19_3 hS (lv_sub hl [1, 2, 3, 4, 5, 6, 7, 8] rfl)
                  exact B19_109 _ _ _ z11_3 0 hS (lv_sub hl [3, 4, 5, 6, 7, 2, 1, 0] rfl) (iv_of (iv_c 0 (a := 0) (b := 0) (by decide +kernel)) (a' := 0) (b' := 300) (by decide +kernel)) (Nat.le_refl _)
            exact B11_76 _ H _ _ (-1) 0 hG hS (lv_sub hl [2, 3, 4, 1, 0] rfl) (iv_of (iv_c 0 (a := 0) (b := 0) (by decide +kernel)) (a' := 0) (b' := 2147483647) (by decide +kernel)) (Nat.le_refl _)
          · refine lv_aload_n X.1 X.2.1 dX12_winning_40 rfl (lv_at hl 0 rfl) ?_
            refine lv_aload_n X.1 X.2.1 dX12_winning_41 rfl (lv_at hl 0 rfl) ?_
            refine lv_iload_n X.1 X.2.1 dX12_winning_42 rfl (lv_at hl 3 rfl) ?_
            obtain ⟨rqp39, nqp39, hrkp39, hnkp39, hfrp39, hfnp39, hfcp39, hewp39, hetp39⟩ := sg_pk (P := (sgPs P (some tp.toInt))) hp4 rfl hG h0
            refine ca_X12_partAt_f X hK hG hC (fun _ h => h) hS hb hp4 a0 h0 z9_3 (wP P) tp (nP P) rqp39 nqp39 (wP_iv P) (nP_iv P) hrkp39 hnkp39 hfrp39 hfnp39 hfcp39 hewp39 hetp39 wl_9_43 hl.1 (rest := [.ref a0]) rfl (Nat.le_of_ble_eq_true rfl) ⟨Nat.le_of_ble_eq_true rfl, Nat.le_of_ble_eq_true rfl⟩ ⟨Nat.le_of_ble_eq_true rfl, Nat.le_of_ble_eq_true rfl⟩ dX12_winning_43 (fun f40 locs hf40 hS => ?_)
            refine ca_X12_layPart_1 X hK hG hC hS hb hp4 a0 h0 f40 (pa_few (M := f8) (fun j h1 h2 => hfew j h1 (by rw [← hf8]; exact h2)) hf40 ((iv_lt (b' := 2147483646) (iv_gt_of c10) hz9_3 (iv_top f8) (by decide +kernel))).1 (iv_gt_of c10)) wl_9_55 hl.1 (rest := []) rfl (Nat.le_of_ble_eq_true rfl) ⟨Nat.le_of_ble_eq_true rfl, Nat.le_of_ble_eq_true rfl⟩ ⟨Nat.le_of_ble_eq_true rfl, Nat.le_of_ble_eq_true rfl⟩ dX12_winning_46 (fun H locs hG hS => ?_)
            refine lv_iload_n X.1 X.2.1 dX12_winning_49 rfl (lv_at hl 1 rfl) ?_
            refine lv_aload_n X.1 X.2.1 dX12_winning_50 rfl (lv_at hl 0 rfl) ?_
            refine gf_X12_45 X hK hG h0 wl_6_223 dX12_winning_51 (fun q42 hq42 kq42 => ?_)
            refine lv_iconst (v := 1) X.1 X.2.1 dX12_winning_54 (by decide +kernel) ?_
            refine lv_aload_n X.1 X.2.1 dX12_winning_55 rfl (lv_at hl 0 rfl) ?_
            refine gf_X12_47 X hK hG h0 wl_6_225 dX12_winning_56 (fun f43 hf43 kf43 => ?_)
            refine lv_ishl X.1 X.2.1 dX12_winning_59 ?_
            refine lv_topi (fun f44 ef44 => ?_)
            refine lv_iconst (v := 1) X.1 X.2.1 dX12_winning_60 (by decide +kernel) ?_
            refine lv_isub X.1 X.2.1 dX12_winning_61 ?_
            refine lv_topi (fun f45 ef45 => ?_)
            refine al_61 X hK hG hq42 (iv_vpin (iv_sub (a' := 0) (b' := 4095) ef45 (sg_shl1 ef44 hf43 (by decide +kernel)) (iv_c 1 (a := 1) (b := 1) (by decide +kernel)) (by decide +kernel)) (by decide +kernel)) dX12_winning_62 (fun f46 hf46 => ?_)
            have of46 := hf46
            have hf46 : iv 0 12 f46 := sg_sums hf46
            refine lv_ixor X.1 X.2.1 dX12_winning_63 ?_
            refine lv_topi (fun f47 ef47 => ?_)
            refine lv_istore_n (lv' := [(1, .int f47), (0, .ref a0), (2, .int f8), (3, .int z9_3)]) X.1 X.2.1 dX12_winning_64 rfl hl (by decide) rfl (fun ls hl => ?_)
            obtain ⟨y48, ey48⟩ : ∃ y : Int32, y = z9_3 + Int32.ofInt 1 := ⟨_, rfl⟩
            refine lv_iinc (v := y48) (lv' := [(3, .int y48), (1, .int f47), (0, .ref a0), (2, .int f8)]) X.1 X.2.1 dX12_winning_65 hl (k := 3) rfl ey48.symm (by decide) rfl (fun ls hl => ?_)
            refine lv_goto (tgt := 35) X.1 X.2.1 dX12_winning_68 (by decide) ?_
            exact ih9 H _ _ f47 y48 hG hS (lv_sub hl [2, 1, 3, 0] rfl) (iv_of (iv_xor 4 ef47 hz9_1 hf46 (by decide +kernel)) (a' := 0) (b' := 15) (by decide +kernel)) (iv_of (iv_add (a' := 1) (b' := 2147483647) ey48 (iv_lt (b' := 2147483646) (iv_gt_of c10) hz9_3 (iv_top f8) (by decide +kernel)) (iv_c _ (a := 1) (b := 1) (by decide +kernel)) (by decide +kernel)) (a' := 0) (b' := 2147483647) (by decide +kernel)) (iv_stepU ey48 (iv_lt (b' := 2147483646) (iv_gt_of c10) hz9_3 (iv_top f8) (by decide +kernel)) (by decide +kernel) hN9)
      exact B9_35 _ H _ _ 0 0 hG hS (lv_sub hl [3, 2, 1, 0] rfl) (iv_of (iv_c 0 (a := 0) (b := 0) (by decide +kernel)) (a' := 0) (b' := 15) (by decide +kernel)) (iv_of (iv_c 0 (a := 0) (b := 0) (by decide +kernel)) (a' := 0) (b' := 2147483647) (by decide +kernel)) (Nat.le_refl _)
    · refine lv_ldcw X.1 X.2.1 X.2.2.2.1 (X.2.2.2.2 _ wl_8_190) dX12_winning_21 ?_
      have hG := sg_unpin hp10 hG
      exact sg_iret X hr hlk hb hK hC hG hS trivial dX12_winning_24
  · exact ((iv_no (a := 1) (b := 0) (iv_eqm c3 hf2 (iv_c 0 (a := 0) (b := 0) (by decide +kernel)) (by decide +kernel)) (by decide +kernel))).elim

theorem ca_X12_winning_1   (X : CallFix p m c cc nL s args sg_tbl own) (hK : va_K D vwCl tys s) (hG : sgG (KT P) D vwCl (fun q : Nat => base ≤ q) tys ad ks H) (hC : sgC base s) (hS : va_S (fun q : Nat => base ≤ q) s.heap H locs) (hb : base ≤ s.heap.size) (hp4 : P.2.2.2.2.1 = true) (hp10 : sgPin P = none) (a0 : Nat) (h0 : isK ad ks 12 a0) (hl : Cond.methodLink own index yX12_winning ∈ sg_tbl) (hsize : ls.size = nL) (hst : st0 = [].reverse ++ .ref a0 :: rest) (hW : (rest.map fun v => v.category).sum ≤ 8) (hR : 6 ≤ R.frames ∧ 156 ≤ R.locals) (hf : cells ≤ R.cells ∧ slots ≤ R.slots) (hdg : decode cc pc = .ok (.invokevirtual index, 3)) (kk : ∀ (r : Int32) (H1 : Heap) (locs1 : List Loc), (fun r : Int32 => True) r → sgG (KT P) D vwCl (fun q : Nat => base ≤ q) tys ad ks H1 → va_S (fun q : Nat => base ≤ q) s.heap H1 locs1 → W p l e R s m args below meth c H1 locs1 cells slots Q (F0 m (pc + 3) ls (.int r :: rest))) : W p l e R s m args below meth c H locs cells slots Q (F0 m pc ls st0) :=
  sg_callVi X hK hG hC hS hb (m_X12_winning_1 l hp4 hp10 a0 h0) h0 (k := 12) (ci := 12) rfl (C := RX12) (T := TX12) (N := 53) rfl wl_9_75 wl_1_13 wl_9_73 wl_9_74 (n := 0) (by decide +kernel) rfl rfl rfl hl hsize hst hW hR hf hdg kk
end
