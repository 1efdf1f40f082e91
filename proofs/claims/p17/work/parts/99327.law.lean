
section
variable {p : Program} {l : Launch} {e : Env} {R : Room} {s : State} {m : MethodId} {args : Array Value} {below : List Frame} {meth : Method} {c : Code} {H : Heap} {locs : List Loc} {cells slots : Nat} {Q : State → Prop} {cc : ByteArray} {nL pc : Nat} {ls : Array Slot} {rest : List Value} {own : String} {D : va_G} {A : Nat → Prop} {tys : List (ClassId × FieldType)} {ad ks : List Nat} {P : sgPm} {H0 : Heap} {index : Nat} {base : Nat} {st0 : List Value} {a : Nat}
theorem gf_X6_2a  {a1 a2 w1 w2 : Int} (X : CallFix p m c cc nL s args sg_tbl own) (hK : va_K D vwCl tys s) (hG : sgG (KA a1 a2 w1 w2 P) D vwCl A tys ad ks H) (ha : isK ad ks 6 a) (hl : Cond.fieldLink own index "LawnAhead$Law" "conditions" "[I" ∈ sg_tbl) (hdg : decode cc pc = .ok (.getfield index, 3)) (kk : ∀ x : Nat, isK ad ks 31 x → fld D H 6 a 2 (.ref x) → W p l e R s m args below meth c H locs cells slots Q (F0 m (pc + 3) ls (.ref x :: rest))) : W p l e R s m args below meth c H locs cells slots Q (F0 m pc ls (.ref a :: rest)) :=
  sg_get X hK hG ha (k := 6) (ci := 6) rfl (C := RX6) (T := TX6) (N := 7) rfl inL_X6 2 (by decide) rfl hl (fun _ h => h) hdg (fun v hv hf => by
    obtain ⟨h1, -⟩ | ⟨x, rfl, hx⟩ := hv
    · cases h1
    · exact kk x hx hf)
theorem gf_X6_3a  {a1 a2 w1 w2 : Int} (X : CallFix p m c cc nL s args sg_tbl own) (hK : va_K D vwCl tys s) (hG : sgG (KA a1 a2 w1 w2 P) D vwCl A tys ad ks H) (ha : isK ad ks 6 a) (hl : Cond.fieldLink own index "LawnAhead$Law" "sums" "[I" ∈ sg_tbl) (hdg : decode cc pc = .ok (.getfield index, 3)) (kk : ∀ x : Nat, isK ad ks 32 x → fld D H 6 a 3 (.ref x) → W p l e R s m args below meth c H locs cells slots Q (F0 m (pc + 3) ls (.ref x :: rest))) : W p l e R s m args below meth c H locs cells slots Q (F0 m pc ls (.ref a :: rest)) :=
  sg_get X hK hG ha (k := 6) (ci := 6) rfl (C := RX6) (T := TX6) (N := 7) rfl inL_X6 3 (by decide) rfl hl (fun _ h => h) hdg (fun v hv hf => by
    obtain ⟨h1, -⟩ | ⟨x, rfl, hx⟩ := hv
    · cases h1
    · exact kk x hx hf)
theorem gf_X6_5a  {a1 a2 w1 w2 : Int} (X : CallFix p m c cc nL s args sg_tbl own) (hK : va_K D vwCl tys s) (hG : sgG (KA a1 a2 w1 w2 P) D vwCl A tys ad ks H) (ha : isK ad ks 6 a) (hl : Cond.fieldLink own index "LawnAhead$Law" "clauses" "I" ∈ sg_tbl) (hdg : decode cc pc = .ok (.getfield index, 3)) (kk : ∀ x : Int32, iv 0 64 x → fld D H 6 a 5 (.int x) → W p l e R s m args below meth c H locs cells slots Q (F0 m (pc + 3) ls (.int x :: rest))) : W p l e R s m args below meth c H locs cells slots Q (F0 m pc ls (.ref a :: rest)) :=
  sg_get X hK hG ha (k := 6) (ci := 6) rfl (C := RX6) (T := TX6) (N := 7) rfl inL_X6 5 (by decide) rfl hl (fun _ h => h) hdg (fun v hv hf => by obtain ⟨x, rfl, hx⟩ := hv; exact kk x hx hf)
theorem gg_X6_5a  {a1 a2 w1 w2 : Int} (X : CallFix p m c cc nL s args sg_tbl own) (hK : va_K D vwCl tys s) (hG : sgG (KA a1 a2 w1 w2 P) D vwCl A tys ad ks H) (ha : isK ad ks 6 a) (hl : Cond.fieldLink own index "LawnAhead$Law" "clauses" "I" ∈ sg_tbl) {v : Value} (hf : fld D H 6 a 5 v) (hdg : decode cc pc = .ok (.getfield index, 3)) (kk : W p l e R s m args below meth c H locs cells slots Q (F0 m (pc + 3) ls (v :: rest))) : W p l e R s m args below meth c H locs cells slots Q (F0 m pc ls (.ref a :: rest)) :=
  sg_getf X hK hG ha (k := 6) (ci := 6) rfl (C := RX6) (T := TX6) (N := 7) rfl inL_X6 5 (by decide) (show 5 < 7 by decide) hl (fun _ h => h) hf hdg kk
theorem pf_X6_5a  {x : Int32} {a1 a2 w1 w2 : Int} (X : CallFix p m c cc nL s args sg_tbl own) (hK : va_K D vwCl tys s) (hG : sgG (KA a1 a2 w1 w2 P) D vwCl A tys ad ks H) (hS : va_S A H0 H locs) (ha : isK ad ks 6 a) (hl : Cond.fieldLink own index "LawnAhead$Law" "clauses" "I" ∈ sg_tbl) (hv : okV ad ks (.inl (0, 64)) (.int x)) (hdg : decode cc pc = .ok (.putfield index, 3)) (kk : ∀ (H1 : Heap) (locs1 : List Loc), sgG (KA a1 a2 w1 w2 P) D vwCl A tys ad ks H1 → va_S A H0 H1 locs1 → fld D H1 6 a 5 (.int x) → sgFr (KA a1 a2 w1 w2 P) D vwCl ad ks H H1 (fun a' j' => a' = a ∧ j' = 5) → W p l e R s m args below meth c H1 locs1 cells slots Q (F0 m (pc + 3) ls rest)) : W p l e R s m args below meth c H locs cells slots Q (F0 m pc ls (.int x :: .ref a :: rest)) :=
  sg_put X hK hG hS ha (k := 6) (ci := 6) rfl (C := RX6) (T := TX6) (N := 7) rfl inL_X6 tyX6 tyX6_ok nmX6 5 (by decide) rfl hl (fun _ h => h) rfl (ty := .int) rfl rfl rfl hv hdg kk
theorem as_31a  {i : Int32} {x : Int32} {a1 a2 w1 w2 : Int} (X : CallFix p m c cc nL s args sg_tbl own) (hK : va_K D vwCl tys s) (hG : sgG (KA a1 a2 w1 w2 P) D vwCl A tys ad ks H) (hS : va_S A H0 H locs) (ha : isK ad ks 31 a) (hin : vp_in i 65) (hv : okV ad ks (.inl (0, 240)) (.int x)) (hdg : decode cc pc = .ok (.iastore, 1)) (kk : ∀ (H1 : Heap) (locs1 : List Loc), sgG (KA a1 a2 w1 w2 P) D vwCl A tys ad ks H1 → va_S A H0 H1 locs1 → sgFr (KA a1 a2 w1 w2 P) D vwCl ad ks H H1 (fun _ _ => False) → W p l e R s m args below meth c H1 locs1 cells slots Q (F0 m (pc + 1) ls rest)) : W p l e R s m args below meth c H locs cells slots Q (F0 m pc ls (.int x :: .int i :: .ref a :: rest)) :=
  sg_iast X hK hG hS ha (k := 31) rfl hin hv hdg kk
theorem as_32a  {i : Int32} {x : Int32} {a1 a2 w1 w2 : Int} (X : CallFix p m c cc nL s args sg_tbl own) (hK : va_K D vwCl tys s) (hG : sgG (KA a1 a2 w1 w2 P) D vwCl A tys ad ks H) (hS : va_S A H0 H locs) (ha : isK ad ks 32 a) (hin : vp_in i 64) (hv : okV ad ks (.inl (0, 240)) (.int x)) (hdg : decode cc pc = .ok (.iastore, 1)) (kk : ∀ (H1 : Heap) (locs1 : List Loc), sgG (KA a1 a2 w1 w2 P) D vwCl A tys ad ks H1 → va_S A H0 H1 locs1 → sgFr (KA a1 a2 w1 w2 P) D vwCl ad ks H H1 (fun _ _ => False) → W p l e R s m args below meth c H1 locs1 cells slots Q (F0 m (pc + 1) ls rest)) : W p l e R s m args below meth c H locs cells slots Q (F0 m pc ls (.int x :: .int i :: .ref a :: rest)) :=
  sg_iast X hK hG hS ha (k := 32) rfl hin hv hdg kk
set_option maxHeartbeats 8000000 in
set_option maxRecDepth 100000 in
theorem m_X6_readClause_v (l : Launch) {D : va_G} {base : Nat} {tys : List (ClassId × FieldType)} {ad ks : List Nat} {P : sgPm}{a w1 w2 : Int}  (a0 : Nat) (h0 : isK ad ks 6 a0) (a1 : Nat) (h1 : isK ad ks 10 a1) (x2 : Int32) (h2 : iv 0 63 x2) (hl0 : 0 ≤ sgL1 P ∧ sgL1 P ≤ 240) (hav : 0 ≤ a ∧ a ≤ sgL1 P) (hby : ∀ j : Nat, (↑j : Int) < sgL1 P → 1 ≤ sgT1 P j ∧ sgT1 P j ≤ 255) : Met l yX6_readClause (Cond.code yX6_readClause cX6_readClause 4 (some .boolean) :: sg_tbl) ({ frames := 21, cells := 0, slots := 0, locals := 520 }) (va_Pc [.ref a0, .ref a1, .int x2] (sgB (KA a a w1 w2 P) D vwCl base tys ad ks)) (va_Qi (fun r (u : Int32) => u = r ∧ (fun r : Int32 => iv 0 1 r) r) (fun u t => (u = 1 ∧ ∃ a1 : Int, vCl (sgT1 P) (sgL1 P) a = (true, a1) ∧ a + 3 ≤ a1 ∧ a1 ≤ sgL1 P ∧ sgB (KA a1 a1 w1 w2 P) D vwCl base tys ad ks t) ∨ (u = 0 ∧ ∃ w : Int, vCl (sgT1 P) (sgL1 P) a = (false, w) ∧ sgB (KA 0 240 w w P) D vwCl base tys ad ks t)) (fun q : Nat => base ≤ q)) 0 0 (fun q : Nat => base ≤ q) := by
  refine sg_ofW (by decide +kernel) (Nat.le_of_ble_eq_true rfl) (fun p e s m below meth c X hr hlk hb hK hC hG ls hl => ?_)
  have hS : va_S (fun q : Nat => base ≤ q) s.heap s.heap [] := va_S.rf
  have hl : lv_has ls 4 [(0, .ref a0), (1, .ref a1), (2, .int x2)] := hl
  refine lv_aload_n X.1 X.2.1 dX6_readClause_0 rfl (lv_at hl 1 rfl) ?_
  refine lv_bipush (v := 121) X.1 X.2.1 dX6_readClause_1 (by decide +kernel) ?_
  refine ca_X10_demand_v X hK hG hC hS hb a1 h1 121 hl0 hav (show (121 : Int32).toInt = 121 ∧ (121 : Int) ≠ 0 from by decide +kernel) wl_3_214 hl.1 (rest := []) rfl (Nat.le_of_ble_eq_true rfl) ⟨Nat.le_of_ble_eq_true rfl, Nat.le_of_ble_eq_true rfl⟩ ⟨Nat.le_of_ble_eq_true rfl, Nat.le_of_ble_eq_true rfl⟩ dX6_readClause_3 (fun f1 tf1 H locs htf1 hf1 hWf1 hS => ?_)
  rcases hWf1 with ⟨rfl, av2, pv2, gav2, gbv2, hBf1⟩ | ⟨rfl, wv2, pv2, hBf1⟩
  · have hG := hBf1.2.2.2
    rw [htf1] at hG
    have bv2 := vq_bd2 (k := 1) hav (by decide) gav2 gbv2
    have p2v2 : a + 1 ≤ av2 := vq_pg (vq_pg0 a) gav2 (by decide)
    refine lv_if_eq (tgt := 18) X.1 X.2.1 dX6_readClause_6 (by decide) (fun c3 => ?_) (fun c3 => ?_)
    · exact ((iv_no (a := 1) (b := 0) (iv_eqm c3 (iv_c 1 (a := 1) (b := 1) (by decide +kernel)) (iv_c 0 (a := 0) (b := 0) (by decide +kernel)) (by decide +kernel)) (by decide +kernel))).elim
    · refine lv_aload_n X.1 X.2.1 dX6_readClause_9 rfl (lv_at hl 1 rfl) ?_
      refine lv_bipush (v := 58) X.1 X.2.1 dX6_readClause_10 (by decide +kernel) ?_
      refine ca_X10_demand_v X hK hG hC hS hb a1 h1 58 hl0 bv2 (show (58 : Int32).toInt = 58 ∧ (58 : Int) ≠ 0 from by decide +kernel) wl_3_214 hl.1 (rest := []) rfl (Nat.le_of_ble_eq_true rfl) ⟨Nat.le_of_ble_eq_true rfl, Nat.le_of_ble_eq_true rfl⟩ ⟨Nat.le_of_ble_eq_true rfl, Nat.le_of_ble_eq_true rfl⟩ dX6_readClause_12 (fun f4 tf4 H locs htf4 hf4 hWf4 hS => ?_)
      rcases hWf4 with ⟨rfl, av5, pv5, gav5, gbv5, hBf4⟩ | ⟨rfl, wv5, pv5, hBf4⟩
      · have hG := hBf4.2.2.2
        rw [htf4] at hG
        have bv5 := vq_bd2 (k := 1) bv2 (by decide) gav5 gbv5
        have p2v5 : a + 2 ≤ av5 := vq_pg p2v2 gav5 (by decide)
        refine lv_if_ne (tgt := 20) X.1 X.2.1 dX6_readClause_15 (by decide) (fun c6 => ?_) (fun c6 => ?_)
        · refine lv_aload_n X.1 X.2.1 dX6_readClause_20 rfl (lv_at hl 0 rfl) ?_
          refine gf_X6_3a X hK hG h0 wl_1_69 dX6_readClause_21 (fun q7 hq7 kq7 => ?_)
          refine lv_iload_n X.1 X.2.1 dX6_readClause_24 rfl (lv_at hl 2 rfl) ?_
          refine lv_aload_n X.1 X.2.1 dX6_readClause_25 rfl (lv_at hl 0 rfl) ?_
          refine gf_X6_4a X hK hG h0 wl_1_70 dX6_readClause_26 (fun f8 hf8 kf8 => ?_)
          refine as_32a X hK hG hS hq7 (iv_vpin h2 (by decide +kernel)) ⟨_, rfl, hf8⟩ dX6_readClause_29 (fun H locs hG hS ru9 => ?_)
          refine lv_iconst (v := 0) X.1 X.2.1 dX6_readClause_30 (by decide +kernel) ?_
          refine lv_istore_n (lv' := [(3, .int 0), (0, .ref a0), (1, .ref a1), (2, .int x2)]) X.1 X.2.1 dX6_readClause_31 rfl hl (by decide) rfl (fun ls hl => ?_)
          refine lv_aload_n X.1 X.2.1 dX6_readClause_32 rfl (lv_at hl 2 rfl) ?_
          refine ca_X10_sign_v X hK hG hC (fun _ h => h) hS hb a1 h1 hl0 bv5 wl_3_219 hl.1 (rest := []) rfl (Nat.le_of_ble_eq_true rfl) ⟨Nat.le_of_ble_eq_true rfl, Nat.le_of_ble_eq_true rfl⟩ ⟨Nat.le_of_ble_eq_true rfl, Nat.le_of_ble_eq_true rfl⟩ dX6_readClause_33 (fun f10 locs hf10 hS => ?_)
          have yf10 : iv 0 255 f10 := vq_255 hf10 hby
          refine lv_bipush (v := 33) X.1 X.2.1 dX6_readClause_36 (by decide +kernel) ?_
          refine lv_icmp_eq (tgt := 86) X.1 X.2.1 dX6_readClause_38 (by decide) (fun c11 => ?_) (fun c11 => ?_)
          · have i12 : vC (sgT1 P) (sgL1 P) av5 = (33 : Int) := vq_eq c11 hf10 (by decide +kernel)
            refine lv_aload_n X.1 X.2.1 dX6_readClause_86 rfl (lv_at hl 1 rfl) ?_
            refine lv_aload_n X.1 X.2.1 dX6_readClause_87 rfl (lv_at hl 2 rfl) ?_
            refine lv_iconst (v := 0) X.1 X.2.1 dX6_readClause_88 (by decide +kernel) ?_
            refine lv_iload_n X.1 X.2.1 dX6_readClause_89 rfl (lv_at hl 0 rfl) ?_
            refine ca_X6_readCondition_v0_0 X hK hG hC hS hb a0 h0 a1 h1 0 (iv_c 0 (a := 0) (b := 0) (by decide +kernel)) 0 (iv_c 0 (a := 0) (b := 0) (by decide +kernel)) hl0 bv5 hby wl_4_5 hl.1 (rest := []) rfl (Nat.le_of_ble_eq_true rfl) ⟨Nat.le_of_ble_eq_true rfl, Nat.le_of_ble_eq_true rfl⟩ ⟨Nat.le_of_ble_eq_true rfl, Nat.le_of_ble_eq_true rfl⟩ dX6_readClause_90 (fun f14 tf14 H locs htf14 hf14 hWf14 hS => ?_)
            rcases hWf14 with ⟨rfl, av15, pv15, gav15, gbv15, hBf14⟩ | ⟨rfl, wv15, pv15, hBf14⟩
            · have hG := hBf14.2.2.2
              rw [htf14] at hG
              have bv15 := vq_bd2 (k := 1) bv5 (by decide) gav15 gbv15
              have p2v15 : a + 3 ≤ av15 := vq_pg p2v5 gav15 (by decide)
              refine lv_if_eq (tgt := 105) X.1 X.2.1 dX6_readClause_93 (by decide) (fun c16 => ?_) (fun c16 => ?_)
              · exact ((iv_no (a := 1) (b := 0) (iv_eqm c16 (iv_c 1 (a := 1) (b := 1) (by decide +kernel)) (iv_c 0 (a := 0) (b := 0) (by decide +kernel)) (by decide +kernel)) (by decide +kernel))).elim
              · refine lv_aload_n X.1 X.2.1 dX6_readClause_96 rfl (lv_at hl 2 rfl) ?_
                refine lv_bipush (v := 63) X.1 X.2.1 dX6_readClause_97 (by decide +kernel) ?_
                refine ca_X10_demand_v X hK hG hC hS hb a1 h1 63 hl0 bv15 (show (63 : Int32).toInt = 63 ∧ (63 : Int) ≠ 0 from by decide +kernel) wl_3_214 hl.1 (rest := []) rfl (Nat.le_of_ble_eq_true rfl) ⟨Nat.le_of_ble_eq_true rfl, Nat.le_of_ble_eq_true rfl⟩ ⟨Nat.le_of_ble_eq_true rfl, Nat.le_of_ble_eq_true rfl⟩ dX6_readClause_99 (fun f17 tf17 H locs htf17 hf17 hWf17 hS => ?_)
                rcases hWf17 with ⟨rfl, av18, pv18, gav18, gbv18, hBf17⟩ | ⟨rfl, wv18, pv18, hBf17⟩
                · have hG := hBf17.2.2.2
                  rw [htf17] at hG
                  have bv18 := vq_bd2 (k := 1) bv15 (by decide) gav18 gbv18
                  have p2v18 : a + 4 ≤ av18 := vq_pg p2v15 gav18 (by decide)
                  refine lv_if_ne (tgt := 107) X.1 X.2.1 dX6_readClause_102 (by decide) (fun c19 => ?_) (fun c19 => ?_)
                  · refine lv_aload_n X.1 X.2.1 dX6_readClause_107 rfl (lv_at hl 1 rfl) ?_
                    refine gf_X6_3a X hK hG h0 wl_1_69 dX6_readClause_108 (fun q20 hq20 kq20 => ?_)
                    refine lv_iload_n X.1 X.2.1 dX6_readClause_111 rfl (lv_at hl 3 rfl) ?_
                    refine lv_aload_n X.1 X.2.1 dX6_readClause_112 rfl (lv_at hl 1 rfl) ?_
                    refine gf_X6_4a X hK hG h0 wl_1_70 dX6_readClause_113 (fun f21 hf21 kf21 => ?_)
                    refine as_32a X hK hG hS hq20 (iv_vpin h2 (by decide +kernel)) ⟨_, rfl, hf21⟩ dX6_readClause_116 (fun H locs hG hS ru22 => ?_)
                    refine lv_aload_n X.1 X.2.1 dX6_readClause_117 rfl (lv_at hl 1 rfl) ?_
                    refine lv_aload_n X.1 X.2.1 dX6_readClause_118 rfl (lv_at hl 2 rfl) ?_
                    refine lv_iconst (v := 0) X.1 X.2.1 dX6_readClause_119 (by decide +kernel) ?_
                    refine ca_X6_readSum_v0 X hK hG hC hS hb a0 h0 a1 h1 0 (iv_c 0 (a := 0) (b := 0) (by decide +kernel)) hl0 bv18 hby wl_3_220 hl.1 (rest := []) rfl (Nat.le_of_ble_eq_true rfl) ⟨Nat.le_of_ble_eq_true rfl, Nat.le_of_ble_eq_true rfl⟩ ⟨Nat.le_of_ble_eq_true rfl, Nat.le_of_ble_eq_true rfl⟩ dX6_readClause_120 (fun f23 tf23 H locs htf23 hf23 hWf23 hS => ?_)
                    rcases hWf23 with ⟨rfl, av24, pv24, gav24, gbv24, hBf23⟩ | ⟨rfl, wv24, pv24, hBf23⟩
                    · have hG := hBf23.2.2.2
                      rw [htf23] at hG
                      have bv24 := vq_bd2 (k := 1) bv18 (by decide) gav24 gbv24
                      have p2v24 : a + 5 ≤ av24 := vq_pg p2v18 gav24 (by decide)
                      have spr : vCl (sgT1 P) (sgL1 P) a = (true, av24) := by simp only [vCl, vCo, pv2, pv5, i12, pv15, pv18, pv24, cond_true, cond_false, vB_t, vB_f, if_true, if_false, eq_self, not_true_eq_false, not_false_eq_true, Int.reduceEq, Int.reduceLT, or_false, false_or, or_true, true_or]
                      exact sg_zret2 X hr (sg_zn (iv_of (iv_c 1 (a := 1) (b := 1) (by decide +kernel)) (a' := 0) (b' := 1) (by decide +kernel))) hlk hS (iv_of (iv_c 1 (a := 1) (b := 1) (by decide +kernel)) (a' := 0) (b' := 1) (by decide +kernel)) (fun t ht hW => (Or.inl ⟨rfl, _, spr, vq_pgw p2v24 (by decide), (bv24).2, sg_post hb hK hC hG hS ht hW⟩)) dX6_readClause_123
                    · have hG := hBf23.2.2.2
                      rw [htf23] at hG
                      have spr : vCl (sgT1 P) (sgL1 P) a = (false, wv24) := by simp only [vCl, vCo, pv2, pv5, i12, pv15, pv18, pv24, cond_true, cond_false, vB_t, vB_f, if_true, if_false, eq_self, not_true_eq_false, not_false_eq_true, Int.reduceEq, Int.reduceLT, or_false, false_or, or_true, true_or]
                      have hG := ka_weak (b1 := 0) (b2 := 240) (c1 := wv24) (c2 := wv24) hG (by omega) (by omega) (Int.le_refl _) (Int.le_refl _)
                      exact sg_zret2 X hr (sg_zn (iv_of (iv_c 0 (a := 0) (b := 0) (by decide +kernel)) (a' := 0) (b' := 1) (by decide +kernel))) hlk hS (iv_of (iv_c 0 (a := 0) (b := 0) (by decide +kernel)) (a' := 0) (b' := 1) (by decide +kernel)) (fun t ht hW => (Or.inr ⟨rfl, _, spr, sg_post hb hK hC hG hS ht hW⟩)) dX6_readClause_123
                  · exact ((iv_no (a := 1) (b := 0) (iv_eqm c19 (iv_c 1 (a := 1) (b := 1) (by decide +kernel)) (iv_c 0 (a := 0) (b := 0) (by decide +kernel)) (by decide +kernel)) (by decide +kernel))).elim
                · have hG := hBf17.2.2.2
                  rw [htf17] at hG
                  refine lv_if_ne (tgt := 107) X.1 X.2.1 dX6_readClause_102 (by decide) (fun c25 => ?_) (fun c25 => ?_)
                  · exact ((c25 (iv_one (iv_c 0 (a := 0) (b := 0) (by decide +kernel)) (iv_c 0 (a := 0) (b := 0) (by decide +kernel)) (by decide +kernel)))).elim
                  · refine lv_iconst (v := 0) X.1 X.2.1 dX6_readClause_105 (by decide +kernel) ?_
                    have spr : vCl (sgT1 P) (sgL1 P) a = (false, wv18) := by simp only [vCl, vCo, pv2, pv5, i12, pv15, pv18, cond_true, cond_false, vB_t, vB_f, if_true, if_false, eq_self, not_true_eq_false, not_false_eq_true, Int.reduceEq, Int.reduceLT, or_false, false_or, or_true, true_or]
                    have hG := ka_weak (b1 := 0) (b2 := 240) (c1 := wv18) (c2 := wv18) hG (by omega) (by omega) (Int.le_refl _) (Int.le_refl _)
                    exact sg_zret2 X hr (sg_zn (iv_of (iv_c 0 (a := 0) (b := 0) (by decide +kernel)) (a' := 0) (b' := 1) (by decide +kernel))) hlk hS (iv_of (iv_c 0 (a := 0) (b := 0) (by decide +kernel)) (a' := 0) (b' := 1) (by decide +kernel)) (fun t ht hW => (Or.inr ⟨rfl, _, spr, sg_post hb hK hC hG hS ht hW⟩)) dX6_readClause_106
            · have hG := hBf14.2.2.2
              rw [htf14] at hG
              refine lv_if_eq (tgt := 105) X.1 X.2.1 dX6_readClause_93 (by decide) (fun c26 => ?_) (fun c26 => ?_)
              · refine lv_iconst (v := 0) X.1 X.2.1 dX6_readClause_105 (by decide +kernel) ?_
                have spr : vCl (sgT1 P) (sgL1 P) a = (false, wv15) := by simp only [vCl, vCo, pv2, pv5, i12, pv15, cond_true, cond_false, vB_t, vB_f, if_true, if_false, eq_self, not_true_eq_false, not_false_eq_true, Int.reduceEq, Int.reduceLT, or_false, false_or, or_true, true_or]
                have hG := ka_weak (b1 := 0) (b2 := 240) (c1 := wv15) (c2 := wv15) hG (by omega) (by omega) (Int.le_refl _) (Int.le_refl _)
                exact sg_zret2 X hr (sg_zn (iv_of (iv_c 0 (a := 0) (b := 0) (by decide +kernel)) (a' := 0) (b' := 1) (by decide +kernel))) hlk hS (iv_of (iv_c 0 (a := 0) (b := 0) (by decide +kernel)) (a' := 0) (b' := 1) (by decide +kernel)) (fun t ht hW => (Or.inr ⟨rfl, _, spr, sg_post hb hK hC hG hS ht hW⟩)) dX6_readClause_106
              · exact ((c26 (iv_one (iv_c 0 (a := 0) (b := 0) (by decide +kernel)) (iv_c 0 (a := 0) (b := 0) (by decide +kernel)) (by decide +kernel)))).elim
          · have i13 : (vC (sgT1 P) (sgL1 P) av5 = (33 : Int)) = False := vq_ne c11 hf10 (by decide +kernel)
            refine lv_aload_n X.1 X.2.1 dX6_readClause_41 rfl (lv_at hl 2 rfl) ?_
            refine ca_X10_sign_v X hK hG hC (fun _ h => h) hS hb a1 h1 hl0 bv5 wl_3_219 hl.1 (rest := []) rfl (Nat.le_of_ble_eq_true rfl) ⟨Nat.le_of_ble_eq_true rfl, Nat.le_of_ble_eq_true rfl⟩ ⟨Nat.le_of_ble_eq_true rfl, Nat.le_of_ble_eq_true rfl⟩ dX6_readClause_42 (fun f27 locs hf27 hS => ?_)
            have yf27 : iv 0 255 f27 := vq_255 hf27 hby
            refine lv_bipush (v := 40) X.1 X.2.1 dX6_readClause_45 (by decide +kernel) ?_
            refine lv_icmp_eq (tgt := 86) X.1 X.2.1 dX6_readClause_47 (by decide) (fun c28 => ?_) (fun c28 => ?_)
            · have i29 : vC (sgT1 P) (sgL1 P) av5 = (40 : Int) := vq_eq c28 hf27 (by decide +kernel)
              refine lv_aload_n X.1 X.2.1 dX6_readClause_86 rfl (lv_at hl 1 rfl) ?_
              refine lv_aload_n X.1 X.2.1 dX6_readClause_87 rfl (lv_at hl 2 rfl) ?_
              refine lv_iconst (v := 0) X.1 X.2.1 dX6_readClause_88 (by decide +kernel) ?_
              refine lv_iload_n X.1 X.2.1 dX6_readClause_89 rfl (lv_at hl 0 rfl) ?_
              refine ca_X6_readCondition_v0_0 X hK hG hC hS hb a0 h0 a1 h1 0 (iv_c 0 (a := 0) (b := 0) (by decide +kernel)) 0 (iv_c 0 (a := 0) (b := 0) (by decide +kernel)) hl0 bv5 hby wl_4_5 hl.1 (rest := []) rfl (Nat.le_of_ble_eq_true rfl) ⟨Nat.le_of_ble_eq_true rfl, Nat.le_of_ble_eq_true rfl⟩ ⟨Nat.le_of_ble_eq_true rfl, Nat.le_of_ble_eq_true rfl⟩ dX6_readClause_90 (fun f31 tf31 H locs htf31 hf31 hWf31 hS => ?_)
              rcases hWf31 with ⟨rfl, av32, pv32, gav32, gbv32, hBf31⟩ | ⟨rfl, wv32, pv32, hBf31⟩
              · have hG := hBf31.2.2.2
                rw [htf31] at hG
                have bv32 := vq_bd2 (k := 1) bv5 (by decide) gav32 gbv32
                have p2v32 : a + 3 ≤ av32 := vq_pg p2v5 gav32 (by decide)
                refine lv_if_eq (tgt := 105) X.1 X.2.1 dX6_readClause_93 (by decide) (fun c33 => ?_) (fun c33 => ?_)
                · exact ((iv_no (a := 1) (b := 0) (iv_eqm c33 (iv_c 1 (a := 1) (b := 1) (by decide +kernel)) (iv_c 0 (a := 0) (b := 0) (by decide +kernel)) (by decide +kernel)) (by decide +kernel))).elim
                · refine lv_aload_n X.1 X.2.1 dX6_readClause_96 rfl (lv_at hl 2 rfl) ?_
                  refine lv_bipush (v := 63) X.1 X.2.1 dX6_readClause_97 (by decide +kernel) ?_
                  refine ca_X10_demand_v X hK hG hC hS hb a1 h1 63 hl0 bv32 (show (63 : Int32).toInt = 63 ∧ (63 : Int) ≠ 0 from by decide +kernel) wl_3_214 hl.1 (rest := []) rfl (Nat.le_of_ble_eq_true rfl) ⟨Nat.le_of_ble_eq_true rfl, Nat.le_of_ble_eq_true rfl⟩ ⟨Nat.le_of_ble_eq_true rfl, Nat.le_of_ble_eq_true rfl⟩ dX6_readClause_99 (fun f34 tf34 H locs htf34 hf34 hWf34 hS => ?_)
                  rcases hWf34 with ⟨rfl, av35, pv35, gav35, gbv35, hBf34⟩ | ⟨rfl, wv35, pv35, hBf34⟩
                  · have hG := hBf34.2.2.2
                    rw [htf34] at hG
                    have bv35 := vq_bd2 (k := 1) bv32 (by decide) gav35 gbv35
                    have p2v35 : a + 4 ≤ av35 := vq_pg p2v32 gav35 (by decide)
                    refine lv_if_ne (tgt := 107) X.1 X.2.1 dX6_readClause_102 (by decide) (fun c36 => ?_) (fun c36 => ?_)
                    · refine lv_aload_n X.1 X.2.1 dX6_readClause_107 rfl (lv_at hl 1 rfl) ?_
                      refine gf_X6_3a X hK hG h0 wl_1_69 dX6_readClause_108 (fun q37 hq37 kq37 => ?_)
                      refine lv_iload_n X.1 X.2.1 dX6_readClause_111 rfl (lv_at hl 3 rfl) ?_
                      refine lv_aload_n X.1 X.2.1 dX6_readClause_112 rfl (lv_at hl 1 rfl) ?_
                      refine gf_X6_4a X hK hG h0 wl_1_70 dX6_readClause_113 (fun f38 hf38 kf38 => ?_)
                      refine as_32a X hK hG hS hq37 (iv_vpin h2 (by decide +kernel)) ⟨_, rfl, hf38⟩ dX6_readClause_116 (fun H locs hG hS ru39 => ?_)
                      refine lv_aload_n X.1 X.2.1 dX6_readClause_117 rfl (lv_at hl 1 rfl) ?_
                      refine lv_aload_n X.1 X.2.1 dX6_readClause_118 rfl (lv_at hl 2 rfl) ?_
                      refine lv_iconst (v := 0) X.1 X.2.1 dX6_readClause_119 (by decide +kernel) ?_
                      refine ca_X6_readSum_v0 X hK hG hC hS hb a0 h0 a1 h1 0 (iv_c 0 (a := 0) (b := 0) (by decide +kernel)) hl0 bv35 hby wl_3_220 hl.1 (rest := []) rfl (Nat.le_of_ble_eq_true rfl) ⟨Nat.le_of_ble_eq_true rfl, Nat.le_of_ble_eq_true rfl⟩ ⟨Nat.le_of_ble_eq_true rfl, Nat.le_of_ble_eq_true rfl⟩ dX6_readClause_120 (fun f40 tf40 H locs htf40 hf40 hWf40 hS => ?_)
                      rcases hWf40 with ⟨rfl, av41, pv41, gav41, gbv41, hBf40⟩ | ⟨rfl, wv41, pv41, hBf40⟩
                      · have hG := hBf40.2.2.2
                        rw [htf40] at hG
                        have bv41 := vq_bd2 (k := 1) bv35 (by decide) gav41 gbv41
                        have p2v41 : a + 5 ≤ av41 := vq_pg p2v35 gav41 (by decide)
                        have spr : vCl (sgT1 P) (sgL1 P) a = (true, av41) := by simp only [vCl, vCo, pv2, pv5, i13, i29, pv32, pv35, pv41, cond_true, cond_false, vB_t, vB_f, if_true, if_false, eq_self, not_true_eq_false, not_false_eq_true, Int.reduceEq, Int.reduceLT, or_false, false_or, or_true, true_or]
                        exact sg_zret2 X hr (sg_zn (iv_of (iv_c 1 (a := 1) (b := 1) (by decide +kernel)) (a' := 0) (b' := 1) (by decide +kernel))) hlk hS (iv_of (iv_c 1 (a := 1) (b := 1) (by decide +kernel)) (a' := 0) (b' := 1) (by decide +kernel)) (fun t ht hW => (Or.inl ⟨rfl, _, spr, vq_pgw p2v41 (by decide), (bv41).2, sg_post hb hK hC hG hS ht hW⟩)) dX6_readClause_123
                      · have hG := hBf40.2.2.2
                        rw [htf40] at hG
                        have spr : vCl (sgT1 P) (sgL1 P) a = (false, wv41) := by simp only [vCl, vCo, pv2, pv5, i13, i29, pv32, pv35, pv41, cond_true, cond_false, vB_t, vB_f, if_true, if_false, eq_self, not_true_eq_false, not_false_eq_true, Int.reduceEq, Int.reduceLT, or_false, false_or, or_true, true_or]
                        have hG := ka_weak (b1 := 0) (b2 := 240) (c1 := wv41) (c2 := wv41) hG (by omega) (by omega) (Int.le_refl _) (Int.le_refl _)
                        exact sg_zret2 X hr (sg_zn (iv_of (iv_c 0 (a := 0) (b := 0) (by decide +kernel)) (a' := 0) (b' := 1) (by decide +kernel))) hlk hS (iv_of (iv_c 0 (a := 0) (b := 0) (by decide +kernel)) (a' := 0) (b' := 1) (by decide +kernel)) (fun t ht hW => (Or.inr ⟨rfl, _, spr, sg_post hb hK hC hG hS ht hW⟩)) dX6_readClause_123
                    · exact ((iv_no (a := 1) (b := 0) (iv_eqm c36 (iv_c 1 (a := 1) (b := 1) (by decide +kernel)) (iv_c 0 (a := 0) (b := 0) (by decide +kernel)) (by decide +kernel)) (by decide +kernel))).elim
                  · have hG := hBf34.2.2.2
                    rw [htf34] at hG
                    refine lv_if_ne (tgt := 107) X.1 X.2.1 dX6_readClause_102 (by decide) (fun c42 => ?_) (fun c42 => ?_)
                    · exact ((c42 (iv_one (iv_c 0 (a := 0) (b := 0) (by decide +kernel)) (iv_c 0 (a := 0) (b := 0) (by decide +kernel)) (by decide +kernel)))).elim
                    · refine lv_iconst (v := 0) X.1 X.2.1 dX6_readClause_105 (by decide +kernel) ?_
                      have spr : vCl (sgT1 P) (sgL1 P) a = (false, wv35) := by simp only [vCl, vCo, pv2, pv5, i13, i29, pv32, pv35, cond_true, cond_false, vB_t, vB_f, if_true, if_false, eq_self, not_true_eq_false, not_false_eq_true, Int.reduceEq, Int.reduceLT, or_false, false_or, or_true, true_or]
                      have hG := ka_weak (b1 := 0) (b2 := 240) (c1 := wv35) (c2 := wv35) hG (by omega) (by omega) (Int.le_refl _) (Int.le_refl _)
                      exact sg_zret2 X hr (sg_zn (iv_of (iv_c 0 (a := 0) (b := 0) (by decide +kernel)) (a' := 0) (b' := 1) (by decide +kernel))) hlk hS (iv_of (iv_c 0 (a := 0) (b := 0) (by decide +kernel)) (a' := 0) (b' := 1) (by decide +kernel)) (fun t ht hW => (Or.inr ⟨rfl, _, spr, sg_post hb hK hC hG hS ht hW⟩)) dX6_readClause_106
              · have hG := hBf31.2.2.2
                rw [htf31] at hG
                refine lv_if_eq (tgt := 105) X.1 X.2.1 dX6_readClause_93 (by decide) (fun c43 => ?_) (fun c43 => ?_)
                · refine lv_iconst (v := 0) X.1 X.2.1 dX6_readClause_105 (by decide +kernel) ?_
                  have spr : vCl (sgT1 P) (sgL1 P) a = (false, wv32) := by simp only [vCl, vCo, pv2, pv5, i13, i29, pv32, cond_true, cond_false, vB_t, vB_f, if_true, if_false, eq_self, not_true_eq_false, not_false_eq_true, Int.reduceEq, Int.reduceLT, or_false, false_or, or_true, true_or]
                  have hG := ka_weak (b1 := 0) (b2 := 240) (c1 := wv32) (c2 := wv32) hG (by omega) (by omega) (Int.le_refl _) (Int.le_refl _)
                  exact sg_zret2 X hr (sg_zn (iv_of (iv_c 0 (a := 0) (b := 0) (by decide +kernel)) (a' := 0) (b' := 1) (by decide +kernel))) hlk hS (iv_of (iv_c 0 (a := 0) (b := 0) (by decide +kernel)) (a' := 0) (b' := 1) (by decide +kernel)) (fun t ht hW => (Or.inr ⟨rfl, _, spr, sg_post hb hK hC hG hS ht hW⟩)) dX6_readClause_106
                · exact ((c43 (iv_one (iv_c 0 (a := 0) (b := 0) (by decide +kernel)) (iv_c 0 (a := 0) (b := 0) (by decide +kernel)) (by decide +kernel)))).elim
            · have i30 : (vC (sgT1 P) (sgL1 P) av5 = (40 : Int)) = False := vq_ne c28 hf27 (by decide +kernel)
              refine lv_aload_n X.1 X.2.1 dX6_readClause_50 rfl (lv_at hl 1 rfl) ?_
              refine lv_aload_n X.1 X.2.1 dX6_readClause_51 rfl (lv_at hl 2 rfl) ?_
              refine lv_iconst (v := 0) X.1 X.2.1 dX6_readClause_52 (by decide +kernel) ?_
              refine ca_X6_readSum_v0 X hK hG hC hS hb a0 h0 a1 h1 0 (iv_c 0 (a := 0) (b := 0) (by decide +kernel)) hl0 bv5 hby wl_3_220 hl.1 (rest := []) rfl (Nat.le_of_ble_eq_true rfl) ⟨Nat.le_of_ble_eq_true rfl, Nat.le_of_ble_eq_true rfl⟩ ⟨Nat.le_of_ble_eq_true rfl, Nat.le_of_ble_eq_true rfl⟩ dX6_readClause_53 (fun f44 tf44 H locs htf44 hf44 hWf44 hS => ?_)
              rcases hWf44 with ⟨rfl, av45, pv45, gav45, gbv45, hBf44⟩ | ⟨rfl, wv45, pv45, hBf44⟩
              · have hG := hBf44.2.2.2
                rw [htf44] at hG
                have bv45 := vq_bd2 (k := 1) bv5 (by decide) gav45 gbv45
                have p2v45 : a + 3 ≤ av45 := vq_pg p2v5 gav45 (by decide)
                refine lv_if_ne (tgt := 61) X.1 X.2.1 dX6_readClause_56 (by decide) (fun c46 => ?_) (fun c46 => ?_)
                · refine lv_aload_n X.1 X.2.1 dX6_readClause_61 rfl (lv_at hl 2 rfl) ?_
                  refine ca_X10_sign_v X hK hG hC (fun _ h => h) hS hb a1 h1 hl0 bv45 wl_3_219 hl.1 (rest := []) rfl (Nat.le_of_ble_eq_true rfl) ⟨Nat.le_of_ble_eq_true rfl, Nat.le_of_ble_eq_true rfl⟩ ⟨Nat.le_of_ble_eq_true rfl, Nat.le_of_ble_eq_true rfl⟩ dX6_readClause_62 (fun f47 locs hf47 hS => ?_)
                  have yf47 : iv 0 255 f47 := vq_255 hf47 hby
                  refine ca_X6_comparison_v X hK (ka_toKT hG (bv45).1 (Int.le_trans (bv45).2 hl0.2)) hC (fun _ h => h) hS hb f47 wl_3_238 hl.1 (rest := []) rfl (Nat.le_of_ble_eq_true rfl) ⟨Nat.le_of_ble_eq_true rfl, Nat.le_of_ble_eq_true rfl⟩ ⟨Nat.le_of_ble_eq_true rfl, Nat.le_of_ble_eq_true rfl⟩ dX6_readClause_65 (fun f48 locs hf48 hS => ?_)
                  have xf48 : f48.toInt = vCm (vC (sgT1 P) (sgL1 P) av45) := hf48.trans (by rw [hf47])
                  refine lv_if_ne (tgt := 73) X.1 X.2.1 dX6_readClause_68 (by decide) (fun c49 => ?_) (fun c49 => ?_)
                  · have i50 : (vCm (vC (sgT1 P) (sgL1 P) av45) = (0 : Int)) = False := vq_ne c49 xf48 (by decide +kernel)
                    refine lv_aload_n X.1 X.2.1 dX6_readClause_73 rfl (lv_at hl 1 rfl) ?_
                    refine lv_aload_n X.1 X.2.1 dX6_readClause_74 rfl (lv_at hl 2 rfl) ?_
                    refine lv_iconst (v := 0) X.1 X.2.1 dX6_readClause_75 (by decide +kernel) ?_
                    refine ca_X6_readComparison_v0 X hK hG hC hS hb a0 h0 a1 h1 0 (iv_c 0 (a := 0) (b := 0) (by decide +kernel)) hl0 bv45 hby wl_4_1 hl.1 (rest := []) rfl (Nat.le_of_ble_eq_true rfl) ⟨Nat.le_of_ble_eq_true rfl, Nat.le_of_ble_eq_true rfl⟩ ⟨Nat.le_of_ble_eq_true rfl, Nat.le_of_ble_eq_true rfl⟩ dX6_readClause_76 (fun f52 tf52 H locs htf52 hf52 hWf52 hS => ?_)
                    rcases hWf52 with ⟨rfl, av53, pv53, gav53, gbv53, hBf52⟩ | ⟨rfl, wv53, pv53, hBf52⟩
                    · have hG := hBf52.2.2.2
                      rw [htf52] at hG
                      have bv53 := vq_bd2 (k := 1) bv45 (by decide) gav53 gbv53
                      have p2v53 : a + 4 ≤ av53 := vq_pg p2v45 gav53 (by decide)
                      refine lv_if_ne (tgt := 84) X.1 X.2.1 dX6_readClause_79 (by decide) (fun c54 => ?_) (fun c54 => ?_)
                      · refine lv_iconst (v := 1) X.1 X.2.1 dX6_readClause_84 (by decide +kernel) ?_
                        refine lv_istore_n (lv' := [(3, .int 1), (0, .ref a0), (1, .ref a1), (2, .int x2)]) X.1 X.2.1 dX6_readClause_85 rfl hl (by decide) rfl (fun ls hl => ?_)
                        refine lv_aload_n X.1 X.2.1 dX6_readClause_86 rfl (lv_at hl 1 rfl) ?_
                        refine lv_aload_n X.1 X.2.1 dX6_readClause_87 rfl (lv_at hl 2 rfl) ?_
                        refine lv_iconst (v := 0) X.1 X.2.1 dX6_readClause_88 (by decide +kernel) ?_
                        refine lv_iload_n X.1 X.2.1 dX6_readClause_89 rfl (lv_at hl 0 rfl) ?_
                        refine ca_X6_readCondition_v0_1 X hK hG hC hS hb a0 h0 a1 h1 0 (iv_c 0 (a := 0) (b := 0) (by decide +kernel)) 1 (iv_c 1 (a := 1) (b := 1) (by decide +kernel)) hl0 bv53 hby wl_4_5 hl.1 (rest := []) rfl (Nat.le_of_ble_eq_true rfl) ⟨Nat.le_of_ble_eq_true rfl, Nat.le_of_ble_eq_true rfl⟩ ⟨Nat.le_of_ble_eq_true rfl, Nat.le_of_ble_eq_true rfl⟩ dX6_readClause_90 (fun f55 tf55 H locs htf55 hf55 hWf55 hS => ?_)
                        rcases hWf55 with ⟨rfl, av56, pv56, gav56, gbv56, hBf55⟩ | ⟨rfl, wv56, pv56, hBf55⟩
                        · have hG := hBf55.2.2.2
                          rw [htf55] at hG
                          have bv56 := vq_bd2 (k := 0) bv53 (by decide) gav56 gbv56
                          have p2v56 : a + 4 ≤ av56 := vq_pg p2v53 gav56 (by decide)
                          refine lv_if_eq (tgt := 105) X.1 X.2.1 dX6_readClause_93 (by decide) (fun c57 => ?_) (fun c57 => ?_)
                          · exact ((iv_no (a := 1) (b := 0) (iv_eqm c57 (iv_c 1 (a := 1) (b := 1) (by decide +kernel)) (iv_c 0 (a := 0) (b := 0) (by decide +kernel)) (by decide +kernel)) (by decide +kernel))).elim
                          · refine lv_aload_n X.1 X.2.1 dX6_readClause_96 rfl (lv_at hl 2 rfl) ?_
                            refine lv_bipush (v := 63) X.1 X.2.1 dX6_readClause_97 (by decide +kernel) ?_
                            refine ca_X10_demand_v X hK hG hC hS hb a1 h1 63 hl0 bv56 (show (63 : Int32).toInt = 63 ∧ (63 : Int) ≠ 0 from by decide +kernel) wl_3_214 hl.1 (rest := []) rfl (Nat.le_of_ble_eq_true rfl) ⟨Nat.le_of_ble_eq_true rfl, Nat.le_of_ble_eq_true rfl⟩ ⟨Nat.le_of_ble_eq_true rfl, Nat.le_of_ble_eq_true rfl⟩ dX6_readClause_99 (fun f58 tf58 H locs htf58 hf58 hWf58 hS => ?_)
                            rcases hWf58 with ⟨rfl, av59, pv59, gav59, gbv59, hBf58⟩ | ⟨rfl, wv59, pv59, hBf58⟩
                            · have hG := hBf58.2.2.2
                              rw [htf58] at hG
                              have bv59 := vq_bd2 (k := 1) bv56 (by decide) gav59 gbv59
                              have p2v59 : a + 5 ≤ av59 := vq_pg p2v56 gav59 (by decide)
                              refine lv_if_ne (tgt := 107) X.1 X.2.1 dX6_readClause_102 (by decide) (fun c60 => ?_) (fun c60 => ?_)
                              · refine lv_aload_n X.1 X.2.1 dX6_readClause_107 rfl (lv_at hl 1 rfl) ?_
                                refine gf_X6_3a X hK hG h0 wl_1_69 dX6_readClause_108 (fun q61 hq61 kq61 => ?_)
                                refine lv_iload_n X.1 X.2.1 dX6_readClause_111 rfl (lv_at hl 3 rfl) ?_
                                refine lv_aload_n X.1 X.2.1 dX6_readClause_112 rfl (lv_at hl 1 rfl) ?_
                                refine gf_X6_4a X hK hG h0 wl_1_70 dX6_readClause_113 (fun f62 hf62 kf62 => ?_)
                                refine as_32a X hK hG hS hq61 (iv_vpin h2 (by decide +kernel)) ⟨_, rfl, hf62⟩ dX6_readClause_116 (fun H locs hG hS ru63 => ?_)
                                refine lv_aload_n X.1 X.2.1 dX6_readClause_117 rfl (lv_at hl 1 rfl) ?_
                                refine lv_aload_n X.1 X.2.1 dX6_readClause_118 rfl (lv_at hl 2 rfl) ?_
                                refine lv_iconst (v := 0) X.1 X.2.1 dX6_readClause_119 (by decide +kernel) ?_
                                refine ca_X6_readSum_v0 X hK hG hC hS hb a0 h0 a1 h1 0 (iv_c 0 (a := 0) (b := 0) (by decide +kernel)) hl0 bv59 hby wl_3_220 hl.1 (rest := []) rfl (Nat.le_of_ble_eq_true rfl) ⟨Nat.le_of_ble_eq_true rfl, Nat.le_of_ble_eq_true rfl⟩ ⟨Nat.le_of_ble_eq_true rfl, Nat.le_of_ble_eq_true rfl⟩ dX6_readClause_120 (fun f64 tf64 H locs htf64 hf64 hWf64 hS => ?_)
                                rcases hWf64 with ⟨rfl, av65, pv65, gav65, gbv65, hBf64⟩ | ⟨rfl, wv65, pv65, hBf64⟩
                                · have hG := hBf64.2.2.2
                                  rw [htf64] at hG
                                  have bv65 := vq_bd2 (k := 1) bv59 (by decide) gav65 gbv65
                                  have p2v65 : a + 6 ≤ av65 := vq_pg p2v59 gav65 (by decide)
                                  have spr : vCl (sgT1 P) (sgL1 P) a = (true, av65) := by simp only [vCl, vCo, pv2, pv5, i13, i30, pv45, i50, pv53, pv56, pv59, pv65, cond_true, cond_false, vB_t, vB_f, if_true, if_false, eq_self, not_true_eq_false, not_false_eq_true, Int.reduceEq, Int.reduceLT, or_false, false_or, or_true, true_or]
                                  exact sg_zret2 X hr (sg_zn (iv_of (iv_c 1 (a := 1) (b := 1) (by decide +kernel)) (a' := 0) (b' := 1) (by decide +kernel))) hlk hS (iv_of (iv_c 1 (a := 1) (b := 1) (by decide +kernel)) (a' := 0) (b' := 1) (by decide +kernel)) (fun t ht hW => (Or.inl ⟨rfl, _, spr, vq_pgw p2v65 (by decide), (bv65).2, sg_post hb hK hC hG hS ht hW⟩)) dX6_readClause_123
                                · have hG := hBf64.2.2.2
                                  rw [htf64] at hG
                                  have spr : vCl (sgT1 P) (sgL1 P) a = (false, wv65) := by simp only [vCl, vCo, pv2, pv5, i13, i30, pv45, i50, pv53, pv56, pv59, pv65, cond_true, cond_false, vB_t, vB_f, if_true, if_false, eq_self, not_true_eq_false, not_false_eq_true, Int.reduceEq, Int.reduceLT, or_false, false_or, or_true, true_or]
                                  have hG := ka_weak (b1 := 0) (b2 := 240) (c1 := wv65) (c2 := wv65) hG (by omega) (by omega) (Int.le_refl _) (Int.le_refl _)
                                  exact sg_zret2 X hr (sg_zn (iv_of (iv_c 0 (a := 0) (b := 0) (by decide +kernel)) (a' := 0) (b' := 1) (by decide +kernel))) hlk hS (iv_of (iv_c 0 (a := 0) (b := 0) (by decide +kernel)) (a' := 0) (b' := 1) (by decide +kernel)) (fun t ht hW => (Or.inr ⟨rfl, _, spr, sg_post hb hK hC hG hS ht hW⟩)) dX6_readClause_123
                              · exact ((iv_no (a := 1) (b := 0) (iv_eqm c60 (iv_c 1 (a := 1) (b := 1) (by decide +kernel)) (iv_c 0 (a := 0) (b := 0) (by decide +kernel)) (by decide +kernel)) (by decide +kernel))).elim
                            · have hG := hBf58.2.2.2
                              rw [htf58] at hG
                              refine lv_if_ne (tgt := 107) X.1 X.2.1 dX6_readClause_102 (by decide) (fun c66 => ?_) (fun c66 => ?_)
                              · exact ((c66 (iv_one (iv_c 0 (a := 0) (b := 0) (by decide +kernel)) (iv_c 0 (a := 0) (b := 0) (by decide +kernel)) (by decide +kernel)))).elim
                              · refine lv_iconst (v := 0) X.1 X.2.1 dX6_readClause_105 (by decide +kernel) ?_
                                have spr : vCl (sgT1 P) (sgL1 P) a = (false, wv59) := by simp only [vCl, vCo, pv2, pv5, i13, i30, pv45, i50, pv53, pv56, pv59, cond_true, cond_false, vB_t, vB_f, if_true, if_false, eq_self, not_true_eq_false, not_false_eq_true, Int.reduceEq, Int.reduceLT, or_false, false_or, or_true, true_or]
                                have hG := ka_weak (b1 := 0) (b2 := 240) (c1 := wv59) (c2 := wv59) hG (by omega) (by omega) (Int.le_refl _) (Int.le_refl _)
                                exact sg_zret2 X hr (sg_zn (iv_of (iv_c 0 (a := 0) (b := 0) (by decide +kernel)) (a' := 0) (b' := 1) (by decide +kernel))) hlk hS (iv_of (iv_c 0 (a := 0) (b := 0) (by decide +kernel)) (a' := 0) (b' := 1) (by decide +kernel)) (fun t ht hW => (Or.inr ⟨rfl, _, spr, sg_post hb hK hC hG hS ht hW⟩)) dX6_readClause_106
                        · have hG := hBf55.2.2.2
                          rw [htf55] at hG
                          refine lv_if_eq (tgt := 105) X.1 X.2.1 dX6_readClause_93 (by decide) (fun c67 => ?_) (fun c67 => ?_)
                          · refine lv_iconst (v := 0) X.1 X.2.1 dX6_readClause_105 (by decide +kernel) ?_
                            have spr : vCl (sgT1 P) (sgL1 P) a = (false, wv56) := by simp only [vCl, vCo, pv2, pv5, i13, i30, pv45, i50, pv53, pv56, cond_true, cond_false, vB_t, vB_f, if_true, if_false, eq_self, not_true_eq_false, not_false_eq_true, Int.reduceEq, Int.reduceLT, or_false, false_or, or_true, true_or]
                            have hG := ka_weak (b1 := 0) (b2 := 240) (c1 := wv56) (c2 := wv56) hG (by omega) (by omega) (Int.le_refl _) (Int.le_refl _)
                            exact sg_zret2 X hr (sg_zn (iv_of (iv_c 0 (a := 0) (b := 0) (by decide +kernel)) (a' := 0) (b' := 1) (by decide +kernel))) hlk hS (iv_of (iv_c 0 (a := 0) (b := 0) (by decide +kernel)) (a' := 0) (b' := 1) (by decide +kernel)) (fun t ht hW => (Or.inr ⟨rfl, _, spr, sg_post hb hK hC hG hS ht hW⟩)) dX6_readClause_106
                          · exact ((c67 (iv_one (iv_c 0 (a := 0) (b := 0) (by decide +kernel)) (iv_c 0 (a := 0) (b := 0) (by decide +kernel)) (by decide +kernel)))).elim
                      · exact ((iv_no (a := 1) (b := 0) (iv_eqm c54 (iv_c 1 (a := 1) (b := 1) (by decide +kernel)) (iv_c 0 (a := 0) (b := 0) (by decide +kernel)) (by decide +kernel)) (by decide +kernel))).elim
                    · have hG := hBf52.2.2.2
                      rw [htf52] at hG
                      refine lv_if_ne (tgt := 84) X.1 X.2.1 dX6_readClause_79 (by decide) (fun c68 => ?_) (fun c68 => ?_)
                      · exact ((c68 (iv_one (iv_c 0 (a := 0) (b := 0) (by decide +kernel)) (iv_c 0 (a := 0) (b := 0) (by decide +kernel)) (by decide +kernel)))).elim
                      · refine lv_iconst (v := 0) X.1 X.2.1 dX6_readClause_82 (by decide +kernel) ?_
                        have spr : vCl (sgT1 P) (sgL1 P) a = (false, wv53) := by simp only [vCl, vCo, pv2, pv5, i13, i30, pv45, i50, pv53, cond_true, cond_false, vB_t, vB_f, if_true, if_false, eq_self, not_true_eq_false, not_false_eq_true, Int.reduceEq, Int.reduceLT, or_false, false_or, or_true, true_or]
                        have hG := ka_weak (b1 := 0) (b2 := 240) (c1 := wv53) (c2 := wv53) hG (by omega) (by omega) (Int.le_refl _) (Int.le_refl _)
                        exact sg_zret2 X hr (sg_zn (iv_of (iv_c 0 (a := 0) (b := 0) (by decide +kernel)) (a' := 0) (b' := 1) (by decide +kernel))) hlk hS (iv_of (iv_c 0 (a := 0) (b := 0) (by decide +kernel)) (a' := 0) (b' := 1) (by decide +kernel)) (fun t ht hW => (Or.inr ⟨rfl, _, spr, sg_post hb hK hC hG hS ht hW⟩)) dX6_readClause_83
                  · have i51 : vCm (vC (sgT1 P) (sgL1 P) av45) = (0 : Int) := vq_eq c49 xf48 (by decide +kernel)
                    refine lv_iconst (v := 1) X.1 X.2.1 dX6_readClause_71 (by decide +kernel) ?_
                    have spr : vCl (sgT1 P) (sgL1 P) a = (true, av45) := by simp only [vCl, vCo, pv2, pv5, i13, i30, pv45, i51, cond_true, cond_false, vB_t, vB_f, if_true, if_false, eq_self, not_true_eq_false, not_false_eq_true, Int.reduceEq, Int.reduceLT, or_false, false_or, or_true, true_or]
                    exact sg_zret2 X hr (sg_zn (iv_of (iv_c 1 (a := 1) (b := 1) (by decide +kernel)) (a' := 0) (b' := 1) (by decide +kernel))) hlk hS (iv_of (iv_c 1 (a := 1) (b := 1) (by decide +kernel)) (a' := 0) (b' := 1) (by decide +kernel)) (fun t ht hW => (Or.inl ⟨rfl, _, spr, vq_pgw p2v45 (by decide), (bv45).2, sg_post hb hK hC hG hS ht hW⟩)) dX6_readClause_72
                · exact ((iv_no (a := 1) (b := 0) (iv_eqm c46 (iv_c 1 (a := 1) (b := 1) (by decide +kernel)) (iv_c 0 (a := 0) (b := 0) (by decide +kernel)) (by decide +kernel)) (by decide +kernel))).elim
              · have hG := hBf44.2.2.2
                rw [htf44] at hG
                refine lv_if_ne (tgt := 61) X.1 X.2.1 dX6_readClause_56 (by decide) (fun c69 => ?_) (fun c69 => ?_)
                · exact ((c69 (iv_one (iv_c 0 (a := 0) (b := 0) (by decide +kernel)) (iv_c 0 (a := 0) (b := 0) (by decide +kernel)) (by decide +kernel)))).elim
                · refine lv_iconst (v := 0) X.1 X.2.1 dX6_readClause_59 (by decide +kernel) ?_
                  have spr : vCl (sgT1 P) (sgL1 P) a = (false, wv45) := by simp only [vCl, vCo, pv2, pv5, i13, i30, pv45, cond_true, cond_false, vB_t, vB_f, if_true, if_false, eq_self, not_true_eq_false, not_false_eq_true, Int.reduceEq, Int.reduceLT, or_false, false_or, or_true, true_or]
                  have hG := ka_weak (b1 := 0) (b2 := 240) (c1 := wv45) (c2 := wv45) hG (by omega) (by omega) (Int.le_refl _) (Int.le_refl _)
                  exact sg_zret2 X hr (sg_zn (iv_of (iv_c 0 (a := 0) (b := 0) (by decide +kernel)) (a' := 0) (b' := 1) (by decide +kernel))) hlk hS (iv_of (iv_c 0 (a := 0) (b := 0) (by decide +kernel)) (a' := 0) (b' := 1) (by decide +kernel)) (fun t ht hW => (Or.inr ⟨rfl, _, spr, sg_post hb hK hC hG hS ht hW⟩)) dX6_readClause_60
        · exact ((iv_no (a := 1) (b := 0) (iv_eqm c6 (iv_c 1 (a := 1) (b := 1) (by decide +kernel)) (iv_c 0 (a := 0) (b := 0) (by decide +kernel)) (by decide +kernel)) (by decide +kernel))).elim
      · have hG := hBf4.2.2.2
        rw [htf4] at hG
        refine lv_if_ne (tgt := 20) X.1 X.2.1 dX6_readClause_15 (by decide) (fun c70 => ?_) (fun c70 => ?_)
        · exact ((c70 (iv_one (iv_c 0 (a := 0) (b := 0) (by decide +kernel)) (iv_c 0 (a := 0) (b := 0) (by decide +kernel)) (by decide +kernel)))).elim
        · refine lv_iconst (v := 0) X.1 X.2.1 dX6_readClause_18 (by decide +kernel) ?_
          have spr : vCl (sgT1 P) (sgL1 P) a = (false, wv5) := by simp only [vCl, vCo, pv2, pv5, cond_true, cond_false, vB_t, vB_f, if_true, if_false, eq_self, not_true_eq_false, not_false_eq_true, Int.reduceEq, Int.reduceLT, or_false, false_or, or_true, true_or]
          have hG := ka_weak (b1 := 0) (b2 := 240) (c1 := wv5) (c2 := wv5) hG (by omega) (by omega) (Int.le_refl _) (Int.le_refl _)
          exact sg_zret2 X hr (sg_zn (iv_of (iv_c 0 (a := 0) (b := 0) (by decide +kernel)) (a' := 0) (b' := 1) (by decide +kernel))) hlk hS (iv_of (iv_c 0 (a := 0) (b := 0) (by decide +kernel)) (a' := 0) (b' := 1) (by decide +kernel)) (fun t ht hW => (Or.inr ⟨rfl, _, spr, sg_post hb hK hC hG hS ht hW⟩)) dX6_readClause_19
  · have hG := hBf1.2.2.2
    rw [htf1] at hG
    refine lv_if_eq (tgt := 18) X.1 X.2.1 dX6_readClause_6 (by decide) (fun c71 => ?_) (fun c71 => ?_)
    · refine lv_iconst (v := 0) X.1 X.2.1 dX6_readClause_18 (by decide +kernel) ?_
      have spr : vCl (sgT1 P) (sgL1 P) a = (false, wv2) := by simp only [vCl, vCo, pv2, cond_true, cond_false, vB_t, vB_f, if_true, if_false, eq_self, not_true_eq_false, not_false_eq_true, Int.reduceEq, Int.reduceLT, or_false, false_or, or_true, true_or]
      have hG := ka_weak (b1 := 0) (b2 := 240) (c1 := wv2) (c2 := wv2) hG (by omega) (by omega) (Int.le_refl _) (Int.le_refl _)
      exact sg_zret2 X hr (sg_zn (iv_of (iv_c 0 (a := 0) (b := 0) (by decide +kernel)) (a' := 0) (b' := 1) (by decide +kernel))) hlk hS (iv_of (iv_c 0 (a := 0) (b := 0) (by decide +kernel)) (a' := 0) (b' := 1) (by decide +kernel)) (fun t ht hW => (Or.inr ⟨rfl, _, spr, sg_post hb hK hC hG hS ht hW⟩)) dX6_readClause_19
    · exact ((c71 (iv_one (iv_c 0 (a := 0) (b := 0) (by decide +kernel)) (iv_c 0 (a := 0) (b := 0) (by decide +kernel)) (by decide +kernel)))).elim

theorem ca_X6_readClause_v  {a w1 w2 : Int}  (X : CallFix p m c cc nL s args sg_tbl own) (hK : va_K D vwCl tys s) (hG : sgG (KA a a w1 w2 P) D vwCl (fun q : Nat => base ≤ q) tys ad ks H) (hC : sgC base s) (hS : va_S (fun q : Nat => base ≤ q) s.heap H locs) (hb : base ≤ s.heap.size) (a0 : Nat) (h0 : isK ad ks 6 a0) (a1 : Nat) (h1 : isK ad ks 10 a1) (x2 : Int32) (h2 : iv 0 63 x2) (hl0 : 0 ≤ sgL1 P ∧ sgL1 P ≤ 240) (hav : 0 ≤ a ∧ a ≤ sgL1 P) (hby : ∀ j : Nat, (↑j : Int) < sgL1 P → 1 ≤ sgT1 P j ∧ sgT1 P j ≤ 255) (hl : Cond.methodLink own index yX6_readClause ∈ sg_tbl) (hsize : ls.size = nL) (hst : st0 = [.ref a1, .int x2].reverse ++ .ref a0 :: rest) (hW : (rest.map fun v => v.category).sum ≤ 8) (hR : 22 ≤ R.frames ∧ 543 ≤ R.locals) (hf : cells ≤ R.cells ∧ slots ≤ R.slots) (hdg : decode cc pc = .ok (.invokevirtual index, 3)) (kk : ∀ (r : Int32) (t : State) (H1 : Heap) (locs1 : List Loc), t.heap = H1 → (fun r : Int32 => iv 0 1 r) r → ((r = 1 ∧ ∃ a1 : Int, vCl (sgT1 P) (sgL1 P) a = (true, a1) ∧ a + 3 ≤ a1 ∧ a1 ≤ sgL1 P ∧ sgB (KA a1 a1 w1 w2 P) D vwCl base tys ad ks t) ∨ (r = 0 ∧ ∃ w : Int, vCl (sgT1 P) (sgL1 P) a = (false, w) ∧ sgB (KA 0 240 w w P) D vwCl base tys ad ks t)) → va_S (fun q : Nat => base ≤ q) s.heap H1 locs1 → W p l e R s m args below meth c H1 locs1 cells slots Q (F0 m (pc + 3) ls (.int r :: rest))) : W p l e R s m args below meth c H locs cells slots Q (F0 m pc ls st0) :=
  sg_callV2i X hK hG hC hS hb (m_X6_readClause_v l a0 h0 a1 h1 x2 h2 hl0 hav hby) h0 (k := 6) (ci := 6) rfl (C := RX6) (T := TX6) (N := 7) rfl wl_3_213 wl_1_3 wl_3_212 wl_0_10 (n := 2) (by decide +kernel) rfl rfl rfl hl hsize hst hW hR hf hdg kk

set_option maxHeartbeats 8000000 in
set_option maxRecDepth 100000 in
theorem m_X6_read_v (l : Launch) {D : va_G} {base : Nat} {tys : List (ClassId × FieldType)} {ad ks : List Nat} {P : sgPm} (a0 : Nat) (h0 : isK ad ks 6 a0) (a1 : Nat) (h1 : isK ad ks 10 a1) (hl0 : 0 ≤ sgL1 P ∧ sgL1 P ≤ 240) (hby : ∀ j : Nat, (↑j : Int) < sgL1 P → 1 ≤ sgT1 P j ∧ sgT1 P j ≤ 255) : Met l yX6_read (Cond.code yX6_read cX6_read 3 (some .boolean) :: sg_tbl) ({ frames := 22, cells := 0, slots := 0, locals := 543 }) (va_Pc [.ref a0, .ref a1] (sgB (KT P) D vwCl base tys ad ks)) (va_Qi (fun r (u : Int32) => u = r ∧ (fun r : Int32 => iv 0 1 r) r) (fun u t => (u = 1 ∧ ∃ a1 : Int, vLaw (sgT1 P) (sgL1 P) = (true, a1) ∧ sgB (KA a1 a1 (-1) (-1) P) D vwCl base tys ad ks t) ∨ (u = 0 ∧ ∃ w : Int, vLaw (sgT1 P) (sgL1 P) = (false, w) ∧ sgB (KA 0 240 w w P) D vwCl base tys ad ks t)) (fun q : Nat => base ≤ q)) 0 0 (fun q : Nat => base ≤ q) := by
  refine sg_ofW (by decide +kernel) (Nat.le_of_ble_eq_true rfl) (fun p e s m below meth c X hr hlk hb hK hC hG ls hl => ?_)
  have hS : va_S (fun q : Nat => base ≤ q) s.heap s.heap [] := va_S.rf
  have hl : lv_has ls 3 [(0, .ref a0), (1, .ref a1)] := hl
  refine lv_aload_n X.1 X.2.1 dX6_read_0 rfl (lv_at hl 1 rfl) ?_
  refine ca_X10_rewind_v X hK hG hC hS hb a1 h1 hl0 wl_3_209 hl.1 (rest := []) rfl (Nat.le_of_ble_eq_true rfl) ⟨Nat.le_of_ble_eq_true rfl, Nat.le_of_ble_eq_true rfl⟩ ⟨Nat.le_of_ble_eq_true rfl, Nat.le_of_ble_eq_true rfl⟩ dX6_read_1 (fun tg1 H locs htg1 hWg1 hS => ?_)
  have hG := hWg1.2.2.2
  rw [htg1] at hG
  refine lv_aload_n X.1 X.2.1 dX6_read_4 rfl (lv_at hl 0 rfl) ?_
  refine lv_iconst (v := 0) X.1 X.2.1 dX6_read_5 (by decide +kernel) ?_
  refine pf_X6_4a X hK hG hS h0 wl_1_70 ⟨_, rfl, (iv_of (iv_c 0 (a := 0) (b := 0) (by decide +kernel)) (a' := 0) (b' := 240) (by decide +kernel))⟩ dX6_read_6 (fun H locs hG hS ku2 ru2 => ?_)
  refine lv_aload_n X.1 X.2.1 dX6_read_9 rfl (lv_at hl 0 rfl) ?_
  refine lv_iconst (v := 0) X.1 X.2.1 dX6_read_10 (by decide +kernel) ?_
  refine pf_X6_6a X hK hG hS h0 wl_1_72 ⟨_, rfl, (iv_of (iv_c 0 (a := 0) (b := 0) (by decide +kernel)) (a' := 0) (b' := 1) (by decide +kernel))⟩ dX6_read_11 (fun H locs hG hS ku3 ru3 => ?_)
  refine lv_aload_n X.1 X.2.1 dX6_read_14 rfl (lv_at hl 0 rfl) ?_
  refine lv_iconst (v := 0) X.1 X.2.1 dX6_read_15 (by decide +kernel) ?_
  refine pf_X6_5a X hK hG hS h0 wl_1_71 ⟨_, rfl, (iv_of (iv_c 0 (a := 0) (b := 0) (by decide +kernel)) (a' := 0) (b' := 64) (by decide +kernel))⟩ dX6_read_16 (fun H locs hG hS ku4 ru4 => ?_)
  refine lv_iconst (v := 0) X.1 X.2.1 dX6_read_19 (by decide +kernel) ?_
  refine lv_istore_n (lv' := [(2, .int 0), (0, .ref a0), (1, .ref a1)]) X.1 X.2.1 dX6_read_20 rfl hl (by decide) rfl (fun ls hl => ?_)
  have B5_21 : ∀ (N : Nat) (H : Heap) (locs : List Loc) (ls : Array Slot) (z5_2 : Int32) (a5 : Int), 0 ≤ a5 → a5 ≤ sgL1 P → sgG (KA a5 a5 (-1) (-1) P) D vwCl (fun q : Nat => base ≤ q) tys ad ks H → va_S (fun q : Nat => base ≤ q) s.heap H locs → lv_has ls 3 [(0, .ref a0), (1, .ref a1), (2, .int z5_2)] → iv 0 64 z5_2 → (vLaw (sgT1 P) (sgL1 P) = vB (vM (vCl (sgT1 P) (sgL1 P)) op59 (sgT1 P) (sgL1 P) (64 - (z5_2 : Int32).toInt).toNat a5) (vEn (sgT1 P) (sgL1 P)) ∧ 4 * (z5_2 : Int32).toInt ≤ a5) → (65 - z5_2.toInt).toNat ≤ N → W p l e (headSpec (Cond.code yX6_read cX6_read 3 (some .boolean) :: sg_tbl) ({ frames := 22, cells := 0, slots := 0, locals := 543 })).room s m #[.ref a0, .ref a1] below meth c H locs 0 0 (MQ below (va_Qi (fun r (u : Int32) => u = r ∧ (fun r : Int32 => iv 0 1 r) r) (fun u t => (u = 1 ∧ ∃ a1 : Int, vLaw (sgT1 P) (sgL1 P) = (true, a1) ∧ sgB (KA a1 a1 (-1) (-1) P) D vwCl base tys ad ks t) ∨ (u = 0 ∧ ∃ w : Int, vLaw (sgT1 P) (sgL1 P) = (false, w) ∧ sgB (KA 0 240 w w P) D vwCl base tys ad ks t)) (fun q : Nat => base ≤ q)) #[.ref a0, .ref a1] s 0 0 (fun q : Nat => base ≤ q)) (F0 m 21 ls []) := by
    intro N; induction N with
    | zero =>
      intro H locs ls z5_2 a5 jl5 jm5 hG hS hl hz5_2 xf5 hN
      exact absurd hN (by have := iv_up hz5_2; omega)
    | succ N ih5 =>
      intro H locs ls z5_2 a5 jl5 jm5 hG hS hl hz5_2 xf5 hN5
      refine lv_iload_n X.1 X.2.1 dX6_read_21 rfl (lv_at hl 2 rfl) ?_
      refine lv_bipush (v := 64) X.1 X.2.1 dX6_read_22 (by decide +kernel) ?_
      refine lv_icmp_ge (tgt := 77) X.1 X.2.1 dX6_read_24 (by decide) (fun c6 => ?_) (fun c6 => ?_)
      · have i7 : ¬ z5_2.toInt < (64 : Int) := vq_le c6 (by decide +kernel) rfl
        exact absurd xf5.2 (vq_dead77 (And.intro jl5 jm5) hl0 i7)
      · have i8 : z5_2.toInt < (64 : Int) := vq_lt (iv_gt_of c6) rfl (by decide +kernel)
        refine lv_aload_n X.1 X.2.1 dX6_read_27 rfl (lv_at hl 0 rfl) ?_
        refine gf_X6_2a X hK hG h0 wl_1_68 dX6_read_28 (fun q9 hq9 kq9 => ?_)
        refine lv_iload_n X.1 X.2.1 dX6_read_31 rfl (lv_at hl 2 rfl) ?_
        refine lv_aload_n X.1 X.2.1 dX6_read_32 rfl (lv_at hl 0 rfl) ?_
        refine gf_X6_4a X hK hG h0 wl_1_70 dX6_read_33 (fun f10 hf10 kf10 => ?_)
        refine as_31a X hK hG hS hq9 (iv_vpin (iv_lt (b' := 63) (iv_gt_of c6) hz5_2 (iv_c 64 (a := 64) (b := 64) (by decide +kernel)) (by decide +kernel)) (by decide +kernel)) ⟨_, rfl, hf10⟩ dX6_read_36 (fun H locs hG hS ru11 => ?_)
        refine lv_aload_n X.1 X.2.1 dX6_read_37 rfl (lv_at hl 0 rfl) ?_
        refine lv_aload_n X.1 X.2.1 dX6_read_38 rfl (lv_at hl 1 rfl) ?_
        refine lv_iload_n X.1 X.2.1 dX6_read_39 rfl (lv_at hl 2 rfl) ?_
        refine ca_X6_readClause_v X hK hG hC hS hb a0 h0 a1 h1 z5_2 (iv_lt (b' := 63) (iv_gt_of c6) hz5_2 (iv_c 64 (a := 64) (b := 64) (by decide +kernel)) (by decide +kernel)) hl0 (And.intro jl5 jm5) hby wl_3_210 hl.1 (rest := []) rfl (Nat.le_of_ble_eq_true rfl) ⟨Nat.le_of_ble_eq_true rfl, Nat.le_of_ble_eq_true rfl⟩ ⟨Nat.le_of_ble_eq_true rfl, Nat.le_of_ble_eq_true rfl⟩ dX6_read_40 (fun f12 tf12 H locs htf12 hf12 hWf12 hS => ?_)
        rcases hWf12 with ⟨rfl, av13, pv13, gav13, gbv13, hBf12⟩ | ⟨rfl, wv13, pv13, hBf12⟩
        · have hG := hBf12.2.2.2
          rw [htf12] at hG
          have bv13 := vq_bd2 (k := 3) (And.intro jl5 jm5) (by decide) gav13 gbv13
          refine lv_if_ne (tgt := 48) X.1 X.2.1 dX6_read_43 (by decide) (fun c14 => ?_) (fun c14 => ?_)
          · refine lv_aload_n X.1 X.2.1 dX6_read_48 rfl (lv_at hl 0 rfl) ?_
            refine lv_iload_n X.1 X.2.1 dX6_read_49 rfl (lv_at hl 2 rfl) ?_
            refine lv_iconst (v := 1) X.1 X.2.1 dX6_read_50 (by decide +kernel) ?_
            refine lv_iadd X.1 X.2.1 dX6_read_51 ?_
            refine lv_topi (fun f15 ef15 => ?_)
            have xf15 : f15.toInt = (z5_2.toInt + 1) := sg_exadd ef15 (iv_lt (b' := 63) (iv_gt_of c6) hz5_2 (iv_c 64 (a := 64) (b := 64) (by decide +kernel)) (by decide +kernel)) (iv_c 1 (a := 1) (b := 1) (by decide +kernel)) (by decide +kernel) rfl (by decide +kernel)
            refine pf_X6_5a X hK hG hS h0 wl_1_71 ⟨_, rfl, (iv_of (iv_add (a' := 1) (b' := 64) ef15 (iv_lt (b' := 63) (iv_gt_of c6) hz5_2 (iv_c 64 (a := 64) (b := 64) (by decide +kernel)) (by decide +kernel)) (iv_c 1 (a := 1) (b := 1) (by decide +kernel)) (by decide +kernel)) (a' := 0) (b' := 64) (by decide +kernel))⟩ dX6_read_52 (fun H locs hG hS ku16 ru16 => ?_)
            refine lv_aload_n X.1 X.2.1 dX6_read_55 rfl (lv_at hl 1 rfl) ?_
            refine ca_X10_sign_v X hK hG hC (fun _ h => h) hS hb a1 h1 hl0 bv13 wl_3_219 hl.1 (rest := []) rfl (Nat.le_of_ble_eq_true rfl) ⟨Nat.le_of_ble_eq_true rfl, Nat.le_of_ble_eq_true rfl⟩ ⟨Nat.le_of_ble_eq_true rfl, Nat.le_of_ble_eq_true rfl⟩ dX6_read_56 (fun f17 locs hf17 hS => ?_)
            have yf17 : iv 0 255 f17 := vq_255 hf17 hby
            refine lv_bipush (v := 59) X.1 X.2.1 dX6_read_59 (by decide +kernel) ?_
            refine lv_icmp_eq (tgt := 67) X.1 X.2.1 dX6_read_61 (by decide) (fun c18 => ?_) (fun c18 => ?_)
            · have i19 : vC (sgT1 P) (sgL1 P) av13 = (59 : Int) := vq_eq c18 hf17 (by decide +kernel)
              refine lv_aload_n X.1 X.2.1 dX6_read_67 rfl (lv_at hl 1 rfl) ?_
              refine ca_X10_step_v X hK hG hC hS hb a1 h1 hl0 (vC_lt (b := sgT1 P) (by rw [i19]; decide)) wl_3_229 hl.1 (rest := []) rfl (Nat.le_of_ble_eq_true rfl) ⟨Nat.le_of_ble_eq_true rfl, Nat.le_of_ble_eq_true rfl⟩ ⟨Nat.le_of_ble_eq_true rfl, Nat.le_of_ble_eq_true rfl⟩ dX6_read_68 (fun tg21 H locs htg21 hWg21 hS => ?_)
              have b22 := vC_lt (b := sgT1 P) (n := sgL1 P) (a := av13) (by rw [i19]; decide)
              have bb22 := vq_bdX (b := sgT1 P) b22
              have hG := hWg21.2.2.2
              rw [htg21] at hG
              obtain ⟨y23, ey23⟩ : ∃ y : Int32, y = z5_2 + Int32.ofInt 1 := ⟨_, rfl⟩
              have xy23 : y23.toInt = (z5_2.toInt + 1) := sg_exadd ey23 (iv_lt (b' := 63) (iv_gt_of c6) hz5_2 (iv_c 64 (a := 64) (b := 64) (by decide +kernel)) (by decide +kernel)) (iv_c _ (a := 1) (b := 1) (by decide +kernel)) (by decide +kernel) rfl (by decide +kernel)
              refine lv_iinc (v := y23) (lv' := [(2, .int y23), (0, .ref a0), (1, .ref a1)]) X.1 X.2.1 dX6_read_71 hl (k := 2) rfl ey23.symm (by decide) rfl (fun ls hl => ?_)
              refine lv_goto (tgt := 21) X.1 X.2.1 dX6_read_74 (by decide) ?_
              exact ih5 H _ _ y23 ((vX (sgT1 P) (sgL1 P) (av13 + 1))) (bb22).1 (bb22).2 hG hS (lv_sub hl [1, 2, 0] rfl) (iv_of (iv_add (a' := 1) (b' := 64) ey23 (iv_lt (b' := 63) (iv_gt_of c6) hz5_2 (iv_c 64 (a := 64) (b := 64) (by decide +kernel)) (by decide +kernel)) (iv_c _ (a := 1) (b := 1) (by decide +kernel)) (by decide +kernel)) (a' := 0) (b' := 64) (by decide +kernel)) ⟨xf5.1.trans (congrArg (fun r => vB r (vEn (sgT1 P) (sgL1 P))) (vM_step i8 pv13 (by rw [i19]; rfl) (vq_k64 i8 xy23))), vq_w1 xf5.2 xy23 gav13 (vX_ge (sgT1 P) (sgL1 P) (av13 + 1)).1⟩ (iv_stepU ey23 (iv_lt (b' := 63) (iv_gt_of c6) hz5_2 (iv_c 64 (a := 64) (b := 64) (by decide +kernel)) (by decide +kernel)) (by decide +kernel) hN5)
            · have i20 : (vC (sgT1 P) (sgL1 P) av13 = (59 : Int)) = False := vq_ne c18 hf17 (by decide +kernel)
              refine lv_goto (tgt := 77) X.1 X.2.1 dX6_read_64 (by decide) ?_
              refine lv_aload_n X.1 X.2.1 dX6_read_77 rfl (lv_at hl 0 rfl) ?_
              refine gf_X6_2a X hK hG h0 wl_1_68 dX6_read_78 (fun q24 hq24 kq24 => ?_)
              refine lv_aload_n X.1 X.2.1 dX6_read_81 rfl (lv_at hl 0 rfl) ?_
              refine gg_X6_5a X hK hG h0 wl_1_71 ku16 dX6_read_82 ?_
              refine lv_aload_n X.1 X.2.1 dX6_read_85 rfl (lv_at hl 0 rfl) ?_
              refine gf_X6_4a X hK hG h0 wl_1_70 dX6_read_86 (fun f25 hf25 kf25 => ?_)
              refine as_31a X hK hG hS hq24 (iv_vpin (iv_add (a' := 1) (b' := 64) ef15 (iv_lt (b' := 63) (iv_gt_of c6) hz5_2 (iv_c 64 (a := 64) (b := 64) (by decide +kernel)) (by decide +kernel)) (iv_c 1 (a := 1) (b := 1) (by decide +kernel)) (by decide +kernel)) (by decide +kernel)) ⟨_, rfl, hf25⟩ dX6_read_89 (fun H locs hG hS ru26 => ?_)
              refine lv_aload_n X.1 X.2.1 dX6_read_90 rfl (lv_at hl 1 rfl) ?_
              refine ca_X10_ended_v X hK hG hC hS hb a1 h1 hl0 bv13 wl_4_13 hl.1 (rest := []) rfl (Nat.le_of_ble_eq_true rfl) ⟨Nat.le_of_ble_eq_true rfl, Nat.le_of_ble_eq_true rfl⟩ ⟨Nat.le_of_ble_eq_true rfl, Nat.le_of_ble_eq_true rfl⟩ dX6_read_91 (fun f27 tf27 H locs htf27 hf27 hWf27 hS => ?_)
              rcases hWf27 with ⟨rfl, av28, pv28, gav28, gbv28, hBf27⟩ | ⟨rfl, wv28, pv28, hBf27⟩
              · have hG := hBf27.2.2.2
                rw [htf27] at hG
                have bv28 := vq_bd2 (k := 0) bv13 (by decide) gav28 gbv28
                have spr : vLaw (sgT1 P) (sgL1 P) = (true, av28) := by exact xf5.1.trans ((congrArg (fun r => vB r (vEn (sgT1 P) (sgL1 P))) (vM_end i8 pv13 (op59_no i20))).trans pv28)
                exact sg_zret2 X hr (sg_zn (iv_of (iv_c 1 (a := 1) (b := 1) (by decide +kernel)) (a' := 0) (b' := 1) (by decide +kernel))) hlk hS (iv_of (iv_c 1 (a := 1) (b := 1) (by decide +kernel)) (a' := 0) (b' := 1) (by decide +kernel)) (fun t ht hW => (Or.inl ⟨rfl, _, spr, sg_post hb hK hC hG hS ht hW⟩)) dX6_read_94
              · have hG := hBf27.2.2.2
                rw [htf27] at hG
                have spr : vLaw (sgT1 P) (sgL1 P) = (false, wv28) := by exact xf5.1.trans ((congrArg (fun r => vB r (vEn (sgT1 P) (sgL1 P))) (vM_end i8 pv13 (op59_no i20))).trans pv28)
                have hG := ka_weak (b1 := 0) (b2 := 240) (c1 := wv28) (c2 := wv28) hG (Int.le_refl _) (Int.le_refl _) (Int.le_refl _) (Int.le_refl _)
                exact sg_zret2 X hr (sg_zn (iv_of (iv_c 0 (a := 0) (b := 0) (by decide +kernel)) (a' := 0) (b' := 1) (by decide +kernel))) hlk hS (iv_of (iv_c 0 (a := 0) (b := 0) (by decide +kernel)) (a' := 0) (b' := 1) (by decide +kernel)) (fun t ht hW => (Or.inr ⟨rfl, _, spr, sg_post hb hK hC hG hS ht hW⟩)) dX6_read_94
          · exact ((iv_no (a := 1) (b := 0) (iv_eqm c14 (iv_c 1 (a := 1) (b := 1) (by decide +kernel)) (iv_c 0 (a := 0) (b := 0) (by decide +kernel)) (by decide +kernel)) (by decide +kernel))).elim
        · have hG := hBf12.2.2.2
          rw [htf12] at hG
          refine lv_if_ne (tgt := 48) X.1 X.2.1 dX6_read_43 (by decide) (fun c29 => ?_) (fun c29 => ?_)
          · exact ((c29 (iv_one (iv_c 0 (a := 0) (b := 0) (by decide +kernel)) (iv_c 0 (a := 0) (b := 0) (by decide +kernel)) (by decide +kernel)))).elim
          · refine lv_iconst (v := 0) X.1 X.2.1 dX6_read_46 (by decide +kernel) ?_
            have spr : vLaw (sgT1 P) (sgL1 P) = (false, wv13) := by exact xf5.1.trans (congrArg (fun r => vB r (vEn (sgT1 P) (sgL1 P))) (vM_bad i8 pv13))
            have hG := ka_weak (b1 := 0) (b2 := 240) (c1 := wv13) (c2 := wv13) hG (Int.le_refl _) (Int.le_refl _) (Int.le_refl _) (Int.le_refl _)
            exact sg_zret2 X hr (sg_zn (iv_of (iv_c 0 (a := 0) (b := 0) (by decide +kernel)) (a' := 0) (b' := 1) (by decide +kernel))) hlk hS (iv_of (iv_c 0 (a := 0) (b := 0) (by decide +kernel)) (a' := 0) (b' := 1) (by decide +kernel)) (fun t ht hW => (Or.inr ⟨rfl, _, spr, sg_post hb hK hC hG hS ht hW⟩)) dX6_read_47
  exact B5_21 _ H _ _ 0 ((vX (sgT1 P) (sgL1 P) 0)) ((vq_bd0 (b := sgT1 P) hl0.1)).1 ((vq_bd0 (b := sgT1 P) hl0.1)).2 hG hS (lv_sub hl [1, 2, 0] rfl) (iv_of (iv_c 0 (a := 0) (b := 0) (by decide +kernel)) (a' := 0) (b' := 64) (by decide +kernel)) ⟨rfl, vq_w0 (vq_bd0 (b := sgT1 P) hl0.1).1⟩ (Nat.le_refl _)

theorem ca_X6_read_v   (X : CallFix p m c cc nL s args sg_tbl own) (hK : va_K D vwCl tys s) (hG : sgG (KT P) D vwCl (fun q : Nat => base ≤ q) tys ad ks H) (hC : sgC base s) (hS : va_S (fun q : Nat => base ≤ q) s.heap H locs) (hb : base ≤ s.heap.size) (a0 : Nat) (h0 : isK ad ks 6 a0) (a1 : Nat) (h1 : isK ad ks 10 a1) (hl0 : 0 ≤ sgL1 P ∧ sgL1 P ≤ 240) (hby : ∀ j : Nat, (↑j : Int) < sgL1 P → 1 ≤ sgT1 P j ∧ sgT1 P j ≤ 255) (hl : Cond.methodLink own index yX6_read ∈ sg_tbl) (hsize : ls.size = nL) (hst : st0 = [.ref a1].reverse ++ .ref a0 :: rest) (hW : (rest.map fun v => v.category).sum ≤ 8) (hR : 23 ≤ R.frames ∧ 565 ≤ R.locals) (hf : cells ≤ R.cells ∧ slots ≤ R.slots) (hdg : decode cc pc = .ok (.invokevirtual index, 3)) (kk : ∀ (r : Int32) (t : State) (H1 : Heap) (locs1 : List Loc), t.heap = H1 → (fun r : Int32 => iv 0 1 r) r → ((r = 1 ∧ ∃ a1 : Int, vLaw (sgT1 P) (sgL1 P) = (true, a1) ∧ sgB (KA a1 a1 (-1) (-1) P) D vwCl base tys ad ks t) ∨ (r = 0 ∧ ∃ w : Int, vLaw (sgT1 P) (sgL1 P) = (false, w) ∧ sgB (KA 0 240 w w P) D vwCl base tys ad ks t)) → va_S (fun q : Nat => base ≤ q) s.heap H1 locs1 → W p l e R s m args below meth c H1 locs1 cells slots Q (F0 m (pc + 3) ls (.int r :: rest))) : W p l e R s m args below meth c H locs cells slots Q (F0 m pc ls st0) :=
  sg_callV2i X hK hG hC hS hb (m_X6_read_v l a0 h0 a1 h1 hl0 hby) h0 (k := 6) (ci := 6) rfl (C := RX6) (T := TX6) (N := 7) rfl wl_3_208 wl_1_3 wl_3_206 wl_3_207 (n := 1) (by decide +kernel) rfl rfl rfl hl hsize hst hW hR hf hdg kk
end
