
section
variable {p : Program} {l : Launch} {e : Env} {R : Room} {s : State} {m : MethodId} {args : Array Value} {below : List Frame} {meth : Method} {c : Code} {H : Heap} {locs : List Loc} {cells slots : Nat} {Q : State → Prop} {cc : ByteArray} {nL pc : Nat} {ls : Array Slot} {rest : List Value} {own : String} {D : va_G} {A : Nat → Prop} {tys : List (ClassId × FieldType)} {ad ks : List Nat} {P : sgPm} {H0 : Heap} {index : Nat} {base : Nat} {st0 : List Value} {a : Nat}
theorem gf_X12_19e  {a1 a2 f1 f2 d1 d2 : Int} {z : sgZt} (X : CallFix p m c cc nL s args sg_tbl own) (hK : va_K D vwCl tys s) (hG : sgG (KE a1 a2 f1 f2 d1 d2 z P) D vwCl A tys ad ks H) (ha : isK ad ks 12 a) (hl : Cond.fieldLink own index "LawnAheadModel" "ruleRead" "[I" ∈ sg_tbl) (hdg : decode cc pc = .ok (.getfield index, 3)) (kk : ∀ x : Nat, isK ad ks 50 x → fld D H 12 a 19 (.ref x) → W p l e R s m args below meth c H locs cells slots Q (F0 m (pc + 3) ls (.ref x :: rest))) : W p l e R s m args below meth c H locs cells slots Q (F0 m pc ls (.ref a :: rest)) :=
  sg_get X hK hG ha (k := 12) (ci := 12) rfl (C := RX12) (T := TX12) (N := 53) rfl inL_X12 19 (by decide) rfl hl (fun _ h => h) hdg (fun v hv hf => by
    obtain ⟨h1, -⟩ | ⟨x, rfl, hx⟩ := hv
    · cases h1
    · exact kk x hx hf)
theorem gf_X12_20e  {a1 a2 f1 f2 d1 d2 : Int} {z : sgZt} (X : CallFix p m c cc nL s args sg_tbl own) (hK : va_K D vwCl tys s) (hG : sgG (KE a1 a2 f1 f2 d1 d2 z P) D vwCl A tys ad ks H) (ha : isK ad ks 12 a) (hl : Cond.fieldLink own index "LawnAheadModel" "one" "[I" ∈ sg_tbl) (hdg : decode cc pc = .ok (.getfield index, 3)) (kk : ∀ x : Nat, isK ad ks 51 x → fld D H 12 a 20 (.ref x) → W p l e R s m args below meth c H locs cells slots Q (F0 m (pc + 3) ls (.ref x :: rest))) : W p l e R s m args below meth c H locs cells slots Q (F0 m pc ls (.ref a :: rest)) :=
  sg_get X hK hG ha (k := 12) (ci := 12) rfl (C := RX12) (T := TX12) (N := 53) rfl inL_X12 20 (by decide) rfl hl (fun _ h => h) hdg (fun v hv hf => by
    obtain ⟨h1, -⟩ | ⟨x, rfl, hx⟩ := hv
    · cases h1
    · exact kk x hx hf)
set_option maxHeartbeats 8000000 in
set_option maxRecDepth 100000 in
theorem m_X12_readClause_e (l : Launch) {D : va_G} {base : Nat} {tys : List (ClassId × FieldType)} {ad ks : List Nat} {P : sgPm}{a d1 d2 : Int} {q : sgLwn} {o : sgO}  (a0 : Nat) (h0 : isK ad ks 12 a0) (hl0 : 0 ≤ sgL2 P ∧ sgL2 P ≤ 240) (hav : 0 ≤ a ∧ a ≤ sgL2 P) (hby : sgBy2 P) (hd0 : 0 ≤ d1 ∧ d2 ≤ 6) (hq0 : (0 ≤ q.2.2.2.1 ∧ q.2.2.2.1 ≤ 12) ∧ (0 ≤ q.2.2.2.2.1 ∧ q.2.2.2.2.1 ≤ 8)) : Met l yX12_readClause (Cond.code yX12_readClause cX12_readClause 3 none :: sg_tbl) ({ frames := 6, cells := 0, slots := 0, locals := 132 }) (va_Pc [.ref a0] (sgB (KE a a (-1) (-1) d1 d2 (zQ q o) P) D vwCl base tys ad ks)) (va_Qv (fun (_ : Unit) => True) (fun _ => fun t => (∃ (a1 : Int) (q1 : sgLwn) (o1 : sgO), vLcM (sgU2 P) (sgL2 P) q (vX (sgU2 P) (sgL2 P) a) = (true, vX (sgU2 P) (sgL2 P) a1, q1) ∧ ((0 ≤ q1.2.2.2.1 ∧ q1.2.2.2.1 ≤ 12) ∧ (0 ≤ q1.2.2.2.2.1 ∧ q1.2.2.2.2.1 ≤ 8)) ∧ a + 1 ≤ a1 ∧ a1 ≤ sgL2 P ∧ sgB (KE a1 a1 (-1) (-1) d1 d2 (zQ q1 o1) P) D vwCl base tys ad ks t) ∨ (∃ (w : Int) (q1 : sgLwn) (z1 : sgZt), vLcM (sgU2 P) (sgL2 P) q (vX (sgU2 P) (sgL2 P) a) = (false, w, q1) ∧ 0 ≤ w ∧ w ≤ 240 ∧ sgB (KE 0 241 w w d1 d2 z1 P) D vwCl base tys ad ks t)) (fun q : Nat => base ≤ q)) 0 0 (fun q : Nat => base ≤ q) := by
  refine sg_ofW (by decide +kernel) (Nat.le_of_ble_eq_true rfl) (fun p e s m below meth c X hr hlk hb hK hC hG ls hl => ?_)
  have hS : va_S (fun q : Nat => base ≤ q) s.heap s.heap [] := va_S.rf
  have hl : lv_has ls 3 [(0, .ref a0)] := hl
  refine lv_aload_n X.1 X.2.1 dX12_readClause_0 rfl (lv_at hl 0 rfl) ?_
  refine ca_X12_look_e X hK hG hC hS hb a0 h0 hl0 hav hby wl_7_137 hl.1 (rest := []) rfl (Nat.le_of_ble_eq_true rfl) ⟨Nat.le_of_ble_eq_true rfl, Nat.le_of_ble_eq_true rfl⟩ ⟨Nat.le_of_ble_eq_true rfl, Nat.le_of_ble_eq_true rfl⟩ dX12_readClause_1 (fun f1 tf1 H locs htf1 hf1 hWf1 hS => ?_)
  have hBf1 := hWf1.2
  have xf1 := hWf1.1
  have hG := hBf1.2.2.2
  rw [htf1] at hG
  have b2 := vq_bdL (b := sgU2 P) hav
  have eb2 : a ≤ vX (sgU2 P) (sgL2 P) a := (vX_ge (sgU2 P) (sgL2 P) a).1
  have pb2 : a + 0 ≤ vX (sgU2 P) (sgL2 P) a := Int.le_trans (vq_pg0 a) (vX_ge (sgU2 P) (sgL2 P) a).1
  have yf1 : iv (-1) 255 f1 := vq_lk xf1 (vC_by2 hby _)
  refine lv_istore_n (lv' := [(1, .int f1), (0, .ref a0)]) X.1 X.2.1 dX12_readClause_4 rfl hl (by decide) rfl (fun ls hl => ?_)
  refine lv_iload_n X.1 X.2.1 dX12_readClause_5 rfl (lv_at hl 0 rfl) ?_
  refine lv_bipush (v := 115) X.1 X.2.1 dX12_readClause_6 (by decide +kernel) ?_
  refine lv_icmp_ne (tgt := 18) X.1 X.2.1 dX12_readClause_8 (by decide) (fun c3 => ?_) (fun c3 => ?_)
  · have i4 : (vE (vC (sgU2 P) (sgL2 P) (vX (sgU2 P) (sgL2 P) a)) = (115 : Int)) = False := vq_ne c3 xf1 (by decide +kernel)
    have mi4 : (vC (sgU2 P) (sgL2 P) (vX (sgU2 P) (sgL2 P) a) = (115 : Int)) = False := vE_ne i4 (by decide)
    refine lv_iload_n X.1 X.2.1 dX12_readClause_18 rfl (lv_at hl 0 rfl) ?_
    refine lv_bipush (v := 116) X.1 X.2.1 dX12_readClause_19 (by decide +kernel) ?_
    refine lv_icmp_ne (tgt := 33) X.1 X.2.1 dX12_readClause_21 (by decide) (fun c6 => ?_) (fun c6 => ?_)
    · have i7 : (vE (vC (sgU2 P) (sgL2 P) (vX (sgU2 P) (sgL2 P) a)) = (116 : Int)) = False := vq_ne c6 xf1 (by decide +kernel)
      have mi7 : (vC (sgU2 P) (sgL2 P) (vX (sgU2 P) (sgL2 P) a) = (116 : Int)) = False := vE_ne i7 (by decide)
      refine lv_iload_n X.1 X.2.1 dX12_readClause_33 rfl (lv_at hl 0 rfl) ?_
      refine lv_bipush (v := 98) X.1 X.2.1 dX12_readClause_34 (by decide +kernel) ?_
      refine lv_icmp_ne (tgt := 52) X.1 X.2.1 dX12_readClause_36 (by decide) (fun c9 => ?_) (fun c9 => ?_)
      · have i10 : (vE (vC (sgU2 P) (sgL2 P) (vX (sgU2 P) (sgL2 P) a)) = (98 : Int)) = False := vq_ne c9 xf1 (by decide +kernel)
        have mi10 : (vC (sgU2 P) (sgL2 P) (vX (sgU2 P) (sgL2 P) a) = (98 : Int)) = False := vE_ne i10 (by decide)
        refine lv_iconst (v := 0) X.1 X.2.1 dX12_readClause_52 (by decide +kernel) ?_
        refine lv_istore_n (lv' := [(2, .int 0), (1, .int f1), (0, .ref a0)]) X.1 X.2.1 dX12_readClause_53 rfl hl (by decide) rfl (fun ls hl => ?_)
        refine lv_iload_n X.1 X.2.1 dX12_readClause_54 rfl (lv_at hl 0 rfl) ?_
        refine lv_if_ne (tgt := 64) X.1 X.2.1 dX12_readClause_55 (by decide) (fun c12 => ?_) (fun c12 => ?_)
        · exact ((c12 (iv_one (iv_c 0 (a := 0) (b := 0) (by decide +kernel)) (iv_c 0 (a := 0) (b := 0) (by decide +kernel)) (by decide +kernel)))).elim
        · refine lv_aload_n X.1 X.2.1 dX12_readClause_58 rfl (lv_at hl 2 rfl) ?_
          refine ca_X12_fails_e X hK hG hC hS hb a0 h0 hl0 b2 wl_7_141 hl.1 (rest := []) rfl (Nat.le_of_ble_eq_true rfl) ⟨Nat.le_of_ble_eq_true rfl, Nat.le_of_ble_eq_true rfl⟩ ⟨Nat.le_of_ble_eq_true rfl, Nat.le_of_ble_eq_true rfl⟩ dX12_readClause_59 (fun f13 tf13 H locs htf13 hf13 hWf13 hS => ?_)
          have hG := hWf13.2.2.2
          rw [htf13] at hG
          obtain rfl : f13 = 0 := sg_is0 hf13
          refine lv_pop X.1 X.2.1 dX12_readClause_62 rfl ?_
          have spr : vLcM (sgU2 P) (sgL2 P) q (vX (sgU2 P) (sgL2 P) a) = (false, (vX (sgU2 P) (sgL2 P) a), _) := vLcM_n (fun z => (of_eq_false mi4) z.1) (fun z => z.elim (fun z => (of_eq_false mi7) z.1) (fun z => (of_eq_false mi10) z.1))
          have hG := ke_weak (b1 := 0) (b2 := 241) (g1 := (vX (sgU2 P) (sgL2 P) a)) (g2 := (vX (sgU2 P) (sgL2 P) a)) (e1 := d1) (e2 := d2) hG (b2).1 (Int.le_trans (b2).2 (Int.le_trans hl0.2 (by decide))) (Int.le_refl _) (Int.le_refl _) (Int.le_refl _) (Int.le_refl _)
          exact sg_vret2 X hr hlk hS (fun t ht hW => (Or.inr ⟨_, _, _, spr, ((vq_bw b2 hl0)).1, ((vq_bw b2 hl0)).2, sg_post hb hK hC hG hS ht hW⟩)) dX12_readClause_63
      · have i11 : vE (vC (sgU2 P) (sgL2 P) (vX (sgU2 P) (sgL2 P) a)) = (98 : Int) := vq_eq c9 xf1 (by decide +kernel)
        have mi11 : vC (sgU2 P) (sgL2 P) (vX (sgU2 P) (sgL2 P) a) = (98 : Int) := vE_eq i11 (by decide)
        refine lv_aload_n X.1 X.2.1 dX12_readClause_39 rfl (lv_at hl 1 rfl) ?_
        refine gf_X12_28e X hK hG h0 wl_6_206 dX12_readClause_40 (fun f14 hf14 => ?_)
        have xf14 : f14.toInt = q.2.2.2.2.1 := zg_28 (q := q) (o := o) hf14
        have yf14 : iv 0 8 f14 := vq_of xf14 hq0.2
        refine lv_bipush (v := 8) X.1 X.2.1 dX12_readClause_43 (by decide +kernel) ?_
        refine lv_icmp_ge (tgt := 52) X.1 X.2.1 dX12_readClause_45 (by decide) (fun c15 => ?_) (fun c15 => ?_)
        · have i16 : ¬ q.2.2.2.2.1 < (8 : Int) := vq_le c15 (by decide +kernel) xf14
          refine lv_iconst (v := 0) X.1 X.2.1 dX12_readClause_52 (by decide +kernel) ?_
          refine lv_istore_n (lv' := [(2, .int 0), (1, .int f1), (0, .ref a0)]) X.1 X.2.1 dX12_readClause_53 rfl hl (by decide) rfl (fun ls hl => ?_)
          refine lv_iload_n X.1 X.2.1 dX12_readClause_54 rfl (lv_at hl 0 rfl) ?_
          refine lv_if_ne (tgt := 64) X.1 X.2.1 dX12_readClause_55 (by decide) (fun c18 => ?_) (fun c18 => ?_)
          · exact ((c18 (iv_one (iv_c 0 (a := 0) (b := 0) (by decide +kernel)) (iv_c 0 (a := 0) (b := 0) (by decide +kernel)) (by decide +kernel)))).elim
          · refine lv_aload_n X.1 X.2.1 dX12_readClause_58 rfl (lv_at hl 2 rfl) ?_
            refine ca_X12_fails_e X hK hG hC hS hb a0 h0 hl0 b2 wl_7_141 hl.1 (rest := []) rfl (Nat.le_of_ble_eq_true rfl) ⟨Nat.le_of_ble_eq_true rfl, Nat.le_of_ble_eq_true rfl⟩ ⟨Nat.le_of_ble_eq_true rfl, Nat.le_of_ble_eq_true rfl⟩ dX12_readClause_59 (fun f19 tf19 H locs htf19 hf19 hWf19 hS => ?_)
            have hG := hWf19.2.2.2
            rw [htf19] at hG
            obtain rfl : f19 = 0 := sg_is0 hf19
            refine lv_pop X.1 X.2.1 dX12_readClause_62 rfl ?_
            have spr : vLcM (sgU2 P) (sgL2 P) q (vX (sgU2 P) (sgL2 P) a) = (false, (vX (sgU2 P) (sgL2 P) a), _) := vLcM_n (fun z => (of_eq_false mi4) z.1) (fun z => z.elim (fun z => (of_eq_false mi7) z.1) (fun z => absurd z.2 i16))
            have hG := ke_weak (b1 := 0) (b2 := 241) (g1 := (vX (sgU2 P) (sgL2 P) a)) (g2 := (vX (sgU2 P) (sgL2 P) a)) (e1 := d1) (e2 := d2) hG (b2).1 (Int.le_trans (b2).2 (Int.le_trans hl0.2 (by decide))) (Int.le_refl _) (Int.le_refl _) (Int.le_refl _) (Int.le_refl _)
            exact sg_vret2 X hr hlk hS (fun t ht hW => (Or.inr ⟨_, _, _, spr, ((vq_bw b2 hl0)).1, ((vq_bw b2 hl0)).2, sg_post hb hK hC hG hS ht hW⟩)) dX12_readClause_63
        · have i17 : q.2.2.2.2.1 < (8 : Int) := vq_lt (iv_gt_of c15) xf14 (by decide +kernel)
          refine lv_iconst (v := 1) X.1 X.2.1 dX12_readClause_48 (by decide +kernel) ?_
          refine lv_goto (tgt := 53) X.1 X.2.1 dX12_readClause_49 (by decide) ?_
          refine lv_istore_n (lv' := [(2, .int 1), (1, .int f1), (0, .ref a0)]) X.1 X.2.1 dX12_readClause_53 rfl hl (by decide) rfl (fun ls hl => ?_)
          refine lv_iload_n X.1 X.2.1 dX12_readClause_54 rfl (lv_at hl 0 rfl) ?_
          refine lv_if_ne (tgt := 64) X.1 X.2.1 dX12_readClause_55 (by decide) (fun c20 => ?_) (fun c20 => ?_)
          · refine lv_aload_n X.1 X.2.1 dX12_readClause_64 rfl (lv_at hl 2 rfl) ?_
            refine lv_dup X.1 X.2.1 dX12_readClause_65 rfl ?_
            refine gf_X12_10e X hK hG h0 wl_6_188 dX12_readClause_66 (fun f21 hf21 => ?_)
            have xf21 : f21.toInt = (vX (sgU2 P) (sgL2 P) a) := vq_iv hf21
            have yf21 : iv 0 240 f21 := vq_240 hl0 b2 xf21
            refine lv_iconst (v := 1) X.1 X.2.1 dX12_readClause_69 (by decide +kernel) ?_
            refine lv_iadd X.1 X.2.1 dX12_readClause_70 ?_
            refine lv_topi (fun f22 ef22 => ?_)
            have xf22 : f22.toInt = ((vX (sgU2 P) (sgL2 P) a) + 1) := sg_exadd ef22 yf21 (iv_c 1 (a := 1) (b := 1) (by decide +kernel)) (by decide +kernel) xf21 (by decide +kernel)
            refine pf_X12_10E (b1 := ((vX (sgU2 P) (sgL2 P) a) + 1)) (b2 := ((vX (sgU2 P) (sgL2 P) a) + 1)) X hK hG hS h0 wl_6_188 (vq_of (lo := ((vX (sgU2 P) (sgL2 P) a) + 1)) (hi := ((vX (sgU2 P) (sgL2 P) a) + 1)) xf22 ⟨Int.le_refl _, Int.le_refl _⟩) dX12_readClause_71 (fun H locs hG hS => ?_)
            have l23 := (vC_lt (b := sgU2 P) (n := sgL2 P) (a := (vX (sgU2 P) (sgL2 P) a)) (by rw [mi11]; decide)).2
            have b24 := vq_bd1 b2 l23
            have pb24 : a + 1 ≤ ((vX (sgU2 P) (sgL2 P) a) + 1) := vq_pg pb2 (m := 1) (Int.le_refl _) (by decide)
            refine lv_iload_n X.1 X.2.1 dX12_readClause_74 rfl (lv_at hl 1 rfl) ?_
            refine lv_bipush (v := 115) X.1 X.2.1 dX12_readClause_75 (by decide +kernel) ?_
            refine lv_icmp_ne (tgt := 97) X.1 X.2.1 dX12_readClause_77 (by decide) (fun c25 => ?_) (fun c25 => ?_)
            · have i26 : (vE (vC (sgU2 P) (sgL2 P) (vX (sgU2 P) (sgL2 P) a)) = (115 : Int)) = False := vq_ne c25 xf1 (by decide +kernel)
              have mi26 : (vC (sgU2 P) (sgL2 P) (vX (sgU2 P) (sgL2 P) a) = (115 : Int)) = False := vE_ne i26 (by decide)
              refine lv_aload_n X.1 X.2.1 dX12_readClause_97 rfl (lv_at hl 2 rfl) ?_
              refine lv_iload_n X.1 X.2.1 dX12_readClause_98 rfl (lv_at hl 1 rfl) ?_
              refine lv_aload_n X.1 X.2.1 dX12_readClause_99 rfl (lv_at hl 2 rfl) ?_
              refine gf_X12_20e X hK hG h0 wl_6_198 dX12_readClause_100 (fun q28 hq28 kq28 => ?_)
              obtain ⟨t29, vt29, pt29, rt29⟩ := hC.2.2.2.2.1
              refine va_ldcS X.1 X.2.1 X.2.2.2.1 rt29 dX12_readClause_103 ?_
              refine ca_X12_readItems_eo98 X hK hG hC hS hb pt29 a0 h0 f1 (iv_eqm (a' := 98) (b' := 98) c9 yf1 (iv_c 98 (a := 98) (b := 98) (by decide +kernel)) (by decide +kernel)) q28 hq28 hl0 b24 hby (by omega) (sg_htb (by decide +kernel)) rfl wl_7_146 hl.1 (rest := []) rfl (Nat.le_of_ble_eq_true rfl) ⟨Nat.le_of_ble_eq_true rfl, Nat.le_of_ble_eq_true rfl⟩ ⟨Nat.le_of_ble_eq_true rfl, Nat.le_of_ble_eq_true rfl⟩ dX12_readClause_105 (fun tg30 H locs htg30 hWg30 hS => ?_)
              rcases hWg30 with ⟨av31, nv31, pv31, g1v31, g2v31, gav31, gbv31, hBg30⟩ | ⟨wv31, nv31, zv31, pv31, w1v31, w2v31, hBg30⟩
              · have hG := hBg30.2.2.2
                rw [htg30] at hG
                have bv31 := vq_bd2 (k := 0) b24 (by decide) gav31 gbv31
                have p2v31 : a + 1 ≤ av31 := vq_pg pb24 gav31 (by decide)
                refine lv_aload_n X.1 X.2.1 dX12_readClause_108 rfl (lv_at hl 2 rfl) ?_
                refine gf_X12_11e X hK hG h0 wl_6_189 dX12_readClause_109 (fun f32 hf32 => ?_)
                refine lv_iconst (v := (-1)) X.1 X.2.1 dX12_readClause_112 (by decide +kernel) ?_
                refine lv_icmp_eq (tgt := 117) X.1 X.2.1 dX12_readClause_113 (by decide) (fun c33 => ?_) (fun c33 => ?_)
                · have i34 : ((-1) : Int) = ((-1) : Int) := vq_eq c33 (vq_iv hf32) (by decide +kernel)
                  refine lv_aload_n X.1 X.2.1 dX12_readClause_117 rfl (lv_at hl 2 rfl) ?_
                  refine lv_aload_n X.1 X.2.1 dX12_readClause_118 rfl (lv_at hl 2 rfl) ?_
                  refine gf_X12_31e X hK hG h0 wl_6_209 dX12_readClause_119 (fun f36 hf36 => ?_)
                  have zf36 : f36.toInt = (bif q.2.2.2.2.2.2 then 1 else 0) := zg_31 (q := q) (o := (zO nv31 o)) hf36
                  refine lv_if_ne (tgt := 146) X.1 X.2.1 dX12_readClause_122 (by decide) (fun c37 => ?_) (fun c37 => ?_)
                  · have k38 : q.2.2.2.2.2.2 = true := zb_t zf36 c37
                    refine lv_iconst (v := 1) X.1 X.2.1 dX12_readClause_146 (by decide +kernel) ?_
                    refine lv_goto (tgt := 151) X.1 X.2.1 dX12_readClause_147 (by decide) ?_
                    refine pf_X12_31Z X hK hG hS h0 wl_6_209 (iv_of (iv_c 1 (a := 1) (b := 1) (by decide +kernel)) (a' := 0) (b' := 1) (by decide +kernel)) dX12_readClause_151 (fun H locs hG hS => ?_)
                    rw [show (1 : Int32).toInt = (bif true then 1 else 0) from by decide +kernel, zq_31] at hG
                    have hG : sgG (KE av31 av31 (-1) (-1) d1 d2 (zQ (q.1, q.2.1, q.2.2.1, q.2.2.2.1, q.2.2.2.2.1, q.2.2.2.2.2.1, true) (zO nv31 o)) P) D vwCl _ tys ad ks _ := hG
                    refine lv_iload_n X.1 X.2.1 dX12_readClause_154 rfl (lv_at hl 1 rfl) ?_
                    refine lv_bipush (v := 116) X.1 X.2.1 dX12_readClause_155 (by decide +kernel) ?_
                    refine lv_icmp_ne (tgt := 190) X.1 X.2.1 dX12_readClause_157 (by decide) (fun c40 => ?_) (fun c40 => ?_)
                    · have i41 : (vE (vC (sgU2 P) (sgL2 P) (vX (sgU2 P) (sgL2 P) a)) = (116 : Int)) = False := vq_ne c40 xf1 (by decide +kernel)
                      have mi41 : (vC (sgU2 P) (sgL2 P) (vX (sgU2 P) (sgL2 P) a) = (116 : Int)) = False := vE_ne i41 (by decide)
                      refine lv_aload_n X.1 X.2.1 dX12_readClause_190 rfl (lv_at hl 2 rfl) ?_
                      refine lv_dup X.1 X.2.1 dX12_readClause_191 rfl ?_
                      refine gf_X12_26e X hK hG h0 wl_6_204 dX12_readClause_192 (fun f43 hf43 => ?_)
                      have wf43 : f43 = q.2.2.1 := zg_26 (q := (q.1, q.2.1, q.2.2.1, q.2.2.2.1, q.2.2.2.2.1, q.2.2.2.2.2.1, true)) (o := (zO nv31 o)) hf43
                      refine lv_iconst (v := 1) X.1 X.2.1 dX12_readClause_195 (by decide +kernel) ?_
                      refine lv_aload_n X.1 X.2.1 dX12_readClause_196 rfl (lv_at hl 2 rfl) ?_
                      refine gf_X12_20e X hK hG h0 wl_6_198 dX12_readClause_197 (fun q44 hq44 kq44 => ?_)
                      refine lv_iconst (v := 0) X.1 X.2.1 dX12_readClause_200 (by decide +kernel) ?_
                      refine al_51e X hK hG hq44 (iv_vpin (iv_c 0 (a := 0) (b := 0) (by decide +kernel)) (by decide +kernel)) dX12_readClause_201 (fun f45 hf45 => ?_)
                      have xf45 : f45.toInt = nv31 := vq_iv hf45
                      refine lv_ishl X.1 X.2.1 dX12_readClause_202 ?_
                      refine lv_topi (fun f46 ef46 => ?_)
                      have wf46 : f46 = ((1 : Int32) <<< ((Int32.ofInt nv31) &&& 31)) := ef46.trans (by rw [(vq_oi (x := f45) xf45)])
                      refine lv_ior X.1 X.2.1 dX12_readClause_203 ?_
                      refine lv_topi (fun f47 ef47 => ?_)
                      have wf47 : f47 = (q.2.2.1 ||| ((1 : Int32) <<< ((Int32.ofInt nv31) &&& 31))) := ef47.trans (by rw [wf43, wf46])
                      refine pf_X12_26Z X hK hG hS h0 wl_6_204 dX12_readClause_204 (fun H locs hG hS => ?_)
                      rw [zq_26, wf47] at hG
                      have hG : sgG (KE av31 av31 (-1) (-1) d1 d2 (zQ (q.1, q.2.1, (q.2.2.1 ||| ((1 : Int32) <<< ((Int32.ofInt nv31) &&& 31))), q.2.2.2.1, q.2.2.2.2.1, q.2.2.2.2.2.1, true) (zO nv31 o)) P) D vwCl _ tys ad ks _ := hG
                      refine lv_aload_n X.1 X.2.1 dX12_readClause_207 rfl (lv_at hl 2 rfl) ?_
                      refine lv_dup X.1 X.2.1 dX12_readClause_208 rfl ?_
                      refine gf_X12_28e X hK hG h0 wl_6_206 dX12_readClause_209 (fun f48 hf48 => ?_)
                      have xf48 : f48.toInt = q.2.2.2.2.1 := zg_28 (q := (q.1, q.2.1, (q.2.2.1 ||| ((1 : Int32) <<< ((Int32.ofInt nv31) &&& 31))), q.2.2.2.1, q.2.2.2.2.1, q.2.2.2.2.2.1, true)) (o := (zO nv31 o)) hf48
                      have yf48 : iv 0 8 f48 := vq_of xf48 hq0.2
                      refine lv_iconst (v := 1) X.1 X.2.1 dX12_readClause_212 (by decide +kernel) ?_
                      refine lv_iadd X.1 X.2.1 dX12_readClause_213 ?_
                      refine lv_topi (fun f49 ef49 => ?_)
                      have xf49 : f49.toInt = (q.2.2.2.2.1 + 1) := sg_exadd ef49 yf48 (iv_c 1 (a := 1) (b := 1) (by decide +kernel)) (by decide +kernel) xf48 (by decide +kernel)
                      refine pf_X12_28Z X hK hG hS h0 wl_6_206 dX12_readClause_214 (fun H locs hG hS => ?_)
                      rw [xf49, zq_28] at hG
                      have hG : sgG (KE av31 av31 (-1) (-1) d1 d2 (zQ (q.1, q.2.1, (q.2.2.1 ||| ((1 : Int32) <<< ((Int32.ofInt nv31) &&& 31))), q.2.2.2.1, (q.2.2.2.2.1 + 1), q.2.2.2.2.2.1, true) (zO nv31 o)) P) D vwCl _ tys ad ks _ := hG
                      have spr : vLcM (sgU2 P) (sgL2 P) q (vX (sgU2 P) (sgL2 P) a) = (true, vX (sgU2 P) (sgL2 P) av31, (q.1, q.2.1, (q.2.2.1 ||| ((1 : Int32) <<< ((Int32.ofInt nv31) &&& 31))), q.2.2.2.1, (q.2.2.2.2.1 + 1), q.2.2.2.2.2.1, true)) := (vLcM_p (of_eq_false mi26) (Or.inr ⟨mi11, i17⟩) pv31).trans (by rw [lwPut_b mi11 (lw_d1 k38)]; rfl)
                      exact sg_vret2 X hr hlk hS (fun t ht hW => (Or.inl ⟨_, _, _, spr, ⟨⟨by have h1 := hq0.1; show 0 ≤ q.2.2.2.1; omega, by have h1 := hq0.1; show q.2.2.2.1 ≤ 12; omega⟩, ⟨by have h1 := hq0.2; show 0 ≤ (q.2.2.2.2.1 + 1); omega, by have h1 := hq0.2; show (q.2.2.2.2.1 + 1) ≤ 8; omega⟩⟩, vq_pgw p2v31 (by decide), (bv31).2, sg_post hb hK hC hG hS ht hW⟩)) dX12_readClause_217
                    · have i42 : vE (vC (sgU2 P) (sgL2 P) (vX (sgU2 P) (sgL2 P) a)) = (116 : Int) := vq_eq c40 xf1 (by decide +kernel)
                      have mi42 : vC (sgU2 P) (sgL2 P) (vX (sgU2 P) (sgL2 P) a) = (116 : Int) := vE_eq i42 (by decide)
                      exact ((iv_no (a := 116) (b := 98) (iv_eqm c40 (iv_eqm (a' := 98) (b' := 98) c9 yf1 (iv_c 98 (a := 98) (b := 98) (by decide +kernel)) (by decide +kernel)) (iv_c 116 (a := 116) (b := 116) (by decide +kernel)) (by decide +kernel)) (by decide +kernel))).elim
                  · have k39 : q.2.2.2.2.2.2 = false := zb_f zf36 c37
                    refine lv_aload_n X.1 X.2.1 dX12_readClause_125 rfl (lv_at hl 2 rfl) ?_
                    refine gf_X12_25e X hK hG h0 wl_6_203 dX12_readClause_126 (fun f50 hf50 => ?_)
                    have wf50 : f50 = q.2.1 := zg_25 (q := q) (o := (zO nv31 o)) hf50
                    refine lv_aload_n X.1 X.2.1 dX12_readClause_129 rfl (lv_at hl 2 rfl) ?_
                    refine gf_X12_26e X hK hG h0 wl_6_204 dX12_readClause_130 (fun f51 hf51 => ?_)
                    have wf51 : f51 = q.2.2.1 := zg_26 (q := q) (o := (zO nv31 o)) hf51
                    refine lv_ior X.1 X.2.1 dX12_readClause_133 ?_
                    refine lv_topi (fun f52 ef52 => ?_)
                    have wf52 : f52 = (q.2.1 ||| q.2.2.1) := ef52.trans (by rw [wf50, wf51])
                    refine lv_aload_n X.1 X.2.1 dX12_readClause_134 rfl (lv_at hl 2 rfl) ?_
                    refine gf_X12_20e X hK hG h0 wl_6_198 dX12_readClause_135 (fun q53 hq53 kq53 => ?_)
                    refine lv_iconst (v := 0) X.1 X.2.1 dX12_readClause_138 (by decide +kernel) ?_
                    refine al_51e X hK hG hq53 (iv_vpin (iv_c 0 (a := 0) (b := 0) (by decide +kernel)) (by decide +kernel)) dX12_readClause_139 (fun f54 hf54 => ?_)
                    have xf54 : f54.toInt = nv31 := vq_iv hf54
                    refine ca_X12_has_e X hK (ke_toKT hG (by decide) (by decide) hd0.1 hd0.2) hC (fun _ h => h) hS hb f52 f54 wl_7_174 hl.1 (rest := [.ref a0]) rfl (Nat.le_of_ble_eq_true rfl) ⟨Nat.le_of_ble_eq_true rfl, Nat.le_of_ble_eq_true rfl⟩ ⟨Nat.le_of_ble_eq_true rfl, Nat.le_of_ble_eq_true rfl⟩ dX12_readClause_140 (fun f55 locs hf55 hS => ?_)
                    refine lv_if_eq (tgt := 150) X.1 X.2.1 dX12_readClause_143 (by decide) (fun c56 => ?_) (fun c56 => ?_)
                    · have j57 := vq_says0 hf55 c56
                      have k58 : (((q.2.1 ||| q.2.2.1) >>> ((Int32.ofInt nv31) &&& 31)) &&& 1 = 1) = False := by have z := j57; rw [wf52] at z; rw [(vq_oi (x := f54) xf54)] at z; exact z
                      refine lv_iconst (v := 0) X.1 X.2.1 dX12_readClause_150 (by decide +kernel) ?_
                      refine pf_X12_31Z X hK hG hS h0 wl_6_209 (iv_of (iv_c 0 (a := 0) (b := 0) (by decide +kernel)) (a' := 0) (b' := 1) (by decide +kernel)) dX12_readClause_151 (fun H locs hG hS => ?_)
                      rw [show (0 : Int32).toInt = (bif false then 1 else 0) from by decide +kernel, zq_31] at hG
                      have hG : sgG (KE av31 av31 (-1) (-1) d1 d2 (zQ (q.1, q.2.1, q.2.2.1, q.2.2.2.1, q.2.2.2.2.1, q.2.2.2.2.2.1, false) (zO nv31 o)) P) D vwCl _ tys ad ks _ := hG
                      refine lv_iload_n X.1 X.2.1 dX12_readClause_154 rfl (lv_at hl 1 rfl) ?_
                      refine lv_bipush (v := 116) X.1 X.2.1 dX12_readClause_155 (by decide +kernel) ?_
                      refine lv_icmp_ne (tgt := 190) X.1 X.2.1 dX12_readClause_157 (by decide) (fun c61 => ?_) (fun c61 => ?_)
                      · have i62 : (vE (vC (sgU2 P) (sgL2 P) (vX (sgU2 P) (sgL2 P) a)) = (116 : Int)) = False := vq_ne c61 xf1 (by decide +kernel)
                        have mi62 : (vC (sgU2 P) (sgL2 P) (vX (sgU2 P) (sgL2 P) a) = (116 : Int)) = False := vE_ne i62 (by decide)
                        refine lv_aload_n X.1 X.2.1 dX12_readClause_190 rfl (lv_at hl 2 rfl) ?_
                        refine lv_dup X.1 X.2.1 dX12_readClause_191 rfl ?_
                        refine gf_X12_26e X hK hG h0 wl_6_204 dX12_readClause_192 (fun f64 hf64 => ?_)
                        have wf64 : f64 = q.2.2.1 := zg_26 (q := (q.1, q.2.1, q.2.2.1, q.2.2.2.1, q.2.2.2.2.1, q.2.2.2.2.2.1, false)) (o := (zO nv31 o)) hf64
                        refine lv_iconst (v := 1) X.1 X.2.1 dX12_readClause_195 (by decide +kernel) ?_
                        refine lv_aload_n X.1 X.2.1 dX12_readClause_196 rfl (lv_at hl 2 rfl) ?_
                        refine gf_X12_20e X hK hG h0 wl_6_198 dX12_readClause_197 (fun q65 hq65 kq65 => ?_)
                        refine lv_iconst (v := 0) X.1 X.2.1 dX12_readClause_200 (by decide +kernel) ?_
                        refine al_51e X hK hG hq65 (iv_vpin (iv_c 0 (a := 0) (b := 0) (by decide +kernel)) (by decide +kernel)) dX12_readClause_201 (fun f66 hf66 => ?_)
                        have xf66 : f66.toInt = nv31 := vq_iv hf66
                        refine lv_ishl X.1 X.2.1 dX12_readClause_202 ?_
                        refine lv_topi (fun f67 ef67 => ?_)
                        have wf67 : f67 = ((1 : Int32) <<< ((Int32.ofInt nv31) &&& 31)) := ef67.trans (by rw [(vq_oi (x := f66) xf66)])
                        refine lv_ior X.1 X.2.1 dX12_readClause_203 ?_
                        refine lv_topi (fun f68 ef68 => ?_)
                        have wf68 : f68 = (q.2.2.1 ||| ((1 : Int32) <<< ((Int32.ofInt nv31) &&& 31))) := ef68.trans (by rw [wf64, wf67])
                        refine pf_X12_26Z X hK hG hS h0 wl_6_204 dX12_readClause_204 (fun H locs hG hS => ?_)
                        rw [zq_26, wf68] at hG
                        have hG : sgG (KE av31 av31 (-1) (-1) d1 d2 (zQ (q.1, q.2.1, (q.2.2.1 ||| ((1 : Int32) <<< ((Int32.ofInt nv31) &&& 31))), q.2.2.2.1, q.2.2.2.2.1, q.2.2.2.2.2.1, false) (zO nv31 o)) P) D vwCl _ tys ad ks _ := hG
                        refine lv_aload_n X.1 X.2.1 dX12_readClause_207 rfl (lv_at hl 2 rfl) ?_
                        refine lv_dup X.1 X.2.1 dX12_readClause_208 rfl ?_
                        refine gf_X12_28e X hK hG h0 wl_6_206 dX12_readClause_209 (fun f69 hf69 => ?_)
                        have xf69 : f69.toInt = q.2.2.2.2.1 := zg_28 (q := (q.1, q.2.1, (q.2.2.1 ||| ((1 : Int32) <<< ((Int32.ofInt nv31) &&& 31))), q.2.2.2.1, q.2.2.2.2.1, q.2.2.2.2.2.1, false)) (o := (zO nv31 o)) hf69
                        have yf69 : iv 0 8 f69 := vq_of xf69 hq0.2
                        refine lv_iconst (v := 1) X.1 X.2.1 dX12_readClause_212 (by decide +kernel) ?_
                        refine lv_iadd X.1 X.2.1 dX12_readClause_213 ?_
                        refine lv_topi (fun f70 ef70 => ?_)
                        have xf70 : f70.toInt = (q.2.2.2.2.1 + 1) := sg_exadd ef70 yf69 (iv_c 1 (a := 1) (b := 1) (by decide +kernel)) (by decide +kernel) xf69 (by decide +kernel)
                        refine pf_X12_28Z X hK hG hS h0 wl_6_206 dX12_readClause_214 (fun H locs hG hS => ?_)
                        rw [xf70, zq_28] at hG
                        have hG : sgG (KE av31 av31 (-1) (-1) d1 d2 (zQ (q.1, q.2.1, (q.2.2.1 ||| ((1 : Int32) <<< ((Int32.ofInt nv31) &&& 31))), q.2.2.2.1, (q.2.2.2.2.1 + 1), q.2.2.2.2.2.1, false) (zO nv31 o)) P) D vwCl _ tys ad ks _ := hG
                        have spr : vLcM (sgU2 P) (sgL2 P) q (vX (sgU2 P) (sgL2 P) a) = (true, vX (sgU2 P) (sgL2 P) av31, (q.1, q.2.1, (q.2.2.1 ||| ((1 : Int32) <<< ((Int32.ofInt nv31) &&& 31))), q.2.2.2.1, (q.2.2.2.2.1 + 1), q.2.2.2.2.2.1, false)) := (vLcM_p (of_eq_false mi26) (Or.inr ⟨mi11, i17⟩) pv31).trans (by rw [lwPut_b mi11 (lw_d3 k39 (lwHas_f k58))]; rfl)
                        exact sg_vret2 X hr hlk hS (fun t ht hW => (Or.inl ⟨_, _, _, spr, ⟨⟨by have h1 := hq0.1; show 0 ≤ q.2.2.2.1; omega, by have h1 := hq0.1; show q.2.2.2.1 ≤ 12; omega⟩, ⟨by have h1 := hq0.2; show 0 ≤ (q.2.2.2.2.1 + 1); omega, by have h1 := hq0.2; show (q.2.2.2.2.1 + 1) ≤ 8; omega⟩⟩, vq_pgw p2v31 (by decide), (bv31).2, sg_post hb hK hC hG hS ht hW⟩)) dX12_readClause_217
                      · have i63 : vE (vC (sgU2 P) (sgL2 P) (vX (sgU2 P) (sgL2 P) a)) = (116 : Int) := vq_eq c61 xf1 (by decide +kernel)
                        have mi63 : vC (sgU2 P) (sgL2 P) (vX (sgU2 P) (sgL2 P) a) = (116 : Int) := vE_eq i63 (by decide)
                        exact ((iv_no (a := 116) (b := 98) (iv_eqm c61 (iv_eqm (a' := 98) (b' := 98) c9 yf1 (iv_c 98 (a := 98) (b := 98) (by decide +kernel)) (by decide +kernel)) (iv_c 116 (a := 116) (b := 116) (by decide +kernel)) (by decide +kernel)) (by decide +kernel))).elim
                    · have j59 := vq_says1 hf55 c56
                      have k60 : ((q.2.1 ||| q.2.2.1) >>> ((Int32.ofInt nv31) &&& 31)) &&& 1 = 1 := by have z := j59; rw [wf52] at z; rw [(vq_oi (x := f54) xf54)] at z; exact z
                      refine lv_iconst (v := 1) X.1 X.2.1 dX12_readClause_146 (by decide +kernel) ?_
                      refine lv_goto (tgt := 151) X.1 X.2.1 dX12_readClause_147 (by decide) ?_
                      refine pf_X12_31Z X hK hG hS h0 wl_6_209 (iv_of (iv_c 1 (a := 1) (b := 1) (by decide +kernel)) (a' := 0) (b' := 1) (by decide +kernel)) dX12_readClause_151 (fun H locs hG hS => ?_)
                      rw [show (1 : Int32).toInt = (bif true then 1 else 0) from by decide +kernel, zq_31] at hG
                      have hG : sgG (KE av31 av31 (-1) (-1) d1 d2 (zQ (q.1, q.2.1, q.2.2.1, q.2.2.2.1, q.2.2.2.2.1, q.2.2.2.2.2.1, true) (zO nv31 o)) P) D vwCl _ tys ad ks _ := hG
                      refine lv_iload_n X.1 X.2.1 dX12_readClause_154 rfl (lv_at hl 1 rfl) ?_
                      refine lv_bipush (v := 116) X.1 X.2.1 dX12_readClause_155 (by decide +kernel) ?_
                      refine lv_icmp_ne (tgt := 190) X.1 X.2.1 dX12_readClause_157 (by decide) (fun c71 => ?_) (fun c71 => ?_)
                      · have i72 : (vE (vC (sgU2 P) (sgL2 P) (vX (sgU2 P) (sgL2 P) a)) = (116 : Int)) = False := vq_ne c71 xf1 (by decide +kernel)
                        have mi72 : (vC (sgU2 P) (sgL2 P) (vX (sgU2 P) (sgL2 P) a) = (116 : Int)) = False := vE_ne i72 (by decide)
                        refine lv_aload_n X.1 X.2.1 dX12_readClause_190 rfl (lv_at hl 2 rfl) ?_
                        refine lv_dup X.1 X.2.1 dX12_readClause_191 rfl ?_
                        refine gf_X12_26e X hK hG h0 wl_6_204 dX12_readClause_192 (fun f74 hf74 => ?_)
                        have wf74 : f74 = q.2.2.1 := zg_26 (q := (q.1, q.2.1, q.2.2.1, q.2.2.2.1, q.2.2.2.2.1, q.2.2.2.2.2.1, true)) (o := (zO nv31 o)) hf74
                        refine lv_iconst (v := 1) X.1 X.2.1 dX12_readClause_195 (by decide +kernel) ?_
                        refine lv_aload_n X.1 X.2.1 dX12_readClause_196 rfl (lv_at hl 2 rfl) ?_
                        refine gf_X12_20e X hK hG h0 wl_6_198 dX12_readClause_197 (fun q75 hq75 kq75 => ?_)
                        refine lv_iconst (v := 0) X.1 X.2.1 dX12_readClause_200 (by decide +kernel) ?_
                        refine al_51e X hK hG hq75 (iv_vpin (iv_c 0 (a := 0) (b := 0) (by decide +kernel)) (by decide +kernel)) dX12_readClause_201 (fun f76 hf76 => ?_)
                        have xf76 : f76.toInt = nv31 := vq_iv hf76
                        refine lv_ishl X.1 X.2.1 dX12_readClause_202 ?_
                        refine lv_topi (fun f77 ef77 => ?_)
                        have wf77 : f77 = ((1 : Int32) <<< ((Int32.ofInt nv31) &&& 31)) := ef77.trans (by rw [(vq_oi (x := f76) xf76)])
                        refine lv_ior X.1 X.2.1 dX12_readClause_203 ?_
                        refine lv_topi (fun f78 ef78 => ?_)
                        have wf78 : f78 = (q.2.2.1 ||| ((1 : Int32) <<< ((Int32.ofInt nv31) &&& 31))) := ef78.trans (by rw [wf74, wf77])
                        refine pf_X12_26Z X hK hG hS h0 wl_6_204 dX12_readClause_204 (fun H locs hG hS => ?_)
                        rw [zq_26, wf78] at hG
                        have hG : sgG (KE av31 av31 (-1) (-1) d1 d2 (zQ (q.1, q.2.1, (q.2.2.1 ||| ((1 : Int32) <<< ((Int32.ofInt nv31) &&& 31))), q.2.2.2.1, q.2.2.2.2.1, q.2.2.2.2.2.1, true) (zO nv31 o)) P) D vwCl _ tys ad ks _ := hG
                        refine lv_aload_n X.1 X.2.1 dX12_readClause_207 rfl (lv_at hl 2 rfl) ?_
                        refine lv_dup X.1 X.2.1 dX12_readClause_208 rfl ?_
                        refine gf_X12_28e X hK hG h0 wl_6_206 dX12_readClause_209 (fun f79 hf79 => ?_)
                        have xf79 : f79.toInt = q.2.2.2.2.1 := zg_28 (q := (q.1, q.2.1, (q.2.2.1 ||| ((1 : Int32) <<< ((Int32.ofInt nv31) &&& 31))), q.2.2.2.1, q.2.2.2.2.1, q.2.2.2.2.2.1, true)) (o := (zO nv31 o)) hf79
                        have yf79 : iv 0 8 f79 := vq_of xf79 hq0.2
                        refine lv_iconst (v := 1) X.1 X.2.1 dX12_readClause_212 (by decide +kernel) ?_
                        refine lv_iadd X.1 X.2.1 dX12_readClause_213 ?_
                        refine lv_topi (fun f80 ef80 => ?_)
                        have xf80 : f80.toInt = (q.2.2.2.2.1 + 1) := sg_exadd ef80 yf79 (iv_c 1 (a := 1) (b := 1) (by decide +kernel)) (by decide +kernel) xf79 (by decide +kernel)
                        refine pf_X12_28Z X hK hG hS h0 wl_6_206 dX12_readClause_214 (fun H locs hG hS => ?_)
                        rw [xf80, zq_28] at hG
                        have hG : sgG (KE av31 av31 (-1) (-1) d1 d2 (zQ (q.1, q.2.1, (q.2.2.1 ||| ((1 : Int32) <<< ((Int32.ofInt nv31) &&& 31))), q.2.2.2.1, (q.2.2.2.2.1 + 1), q.2.2.2.2.2.1, true) (zO nv31 o)) P) D vwCl _ tys ad ks _ := hG
                        have spr : vLcM (sgU2 P) (sgL2 P) q (vX (sgU2 P) (sgL2 P) a) = (true, vX (sgU2 P) (sgL2 P) av31, (q.1, q.2.1, (q.2.2.1 ||| ((1 : Int32) <<< ((Int32.ofInt nv31) &&& 31))), q.2.2.2.1, (q.2.2.2.2.1 + 1), q.2.2.2.2.2.1, true)) := (vLcM_p (of_eq_false mi26) (Or.inr ⟨mi11, i17⟩) pv31).trans (by rw [lwPut_b mi11 (lw_d2 (lwHas_t k60))]; rfl)
                        exact sg_vret2 X hr hlk hS (fun t ht hW => (Or.inl ⟨_, _, _, spr, ⟨⟨by have h1 := hq0.1; show 0 ≤ q.2.2.2.1; omega, by have h1 := hq0.1; show q.2.2.2.1 ≤ 12; omega⟩, ⟨by have h1 := hq0.2; show 0 ≤ (q.2.2.2.2.1 + 1); omega, by have h1 := hq0.2; show (q.2.2.2.2.1 + 1) ≤ 8; omega⟩⟩, vq_pgw p2v31 (by decide), (bv31).2, sg_post hb hK hC hG hS ht hW⟩)) dX12_readClause_217
                      · have i73 : vE (vC (sgU2 P) (sgL2 P) (vX (sgU2 P) (sgL2 P) a)) = (116 : Int) := vq_eq c71 xf1 (by decide +kernel)
                        have mi73 : vC (sgU2 P) (sgL2 P) (vX (sgU2 P) (sgL2 P) a) = (116 : Int) := vE_eq i73 (by decide)
                        exact ((iv_no (a := 116) (b := 98) (iv_eqm c71 (iv_eqm (a' := 98) (b' := 98) c9 yf1 (iv_c 98 (a := 98) (b := 98) (by decide +kernel)) (by decide +kernel)) (iv_c 116 (a := 116) (b := 116) (by decide +kernel)) (by decide +kernel)) (by decide +kernel))).elim
                · have i35 : (((-1) : Int) = ((-1) : Int)) = False := vq_ne c33 (vq_iv hf32) (by decide +kernel)
                  exact ((c33 (iv_one hf32 (iv_c (-1) (a := (-1)) (b := (-1)) (by decide +kernel)) (by decide +kernel)))).elim
              · have hG := hBg30.2.2.2
                rw [htg30] at hG
                refine lv_aload_n X.1 X.2.1 dX12_readClause_108 rfl (lv_at hl 2 rfl) ?_
                refine gf_X12_11e X hK hG h0 wl_6_189 dX12_readClause_109 (fun f81 hf81 => ?_)
                have xf81 : f81.toInt = wv31 := vq_iv hf81
                have yf81 : iv 0 240 f81 := vq_of xf81 (And.intro w1v31 w2v31)
                refine lv_iconst (v := (-1)) X.1 X.2.1 dX12_readClause_112 (by decide +kernel) ?_
                refine lv_icmp_eq (tgt := 117) X.1 X.2.1 dX12_readClause_113 (by decide) (fun c82 => ?_) (fun c82 => ?_)
                · have i83 : wv31 = ((-1) : Int) := vq_eq c82 xf81 (by decide +kernel)
                  exact ((iv_no (a := 0) (b := (-1)) (iv_eqm c82 yf81 (iv_c (-1) (a := (-1)) (b := (-1)) (by decide +kernel)) (by decide +kernel)) (by decide +kernel))).elim
                · have i84 : (wv31 = ((-1) : Int)) = False := vq_ne c82 xf81 (by decide +kernel)
                  have spr : vLcM (sgU2 P) (sgL2 P) q (vX (sgU2 P) (sgL2 P) a) = (false, wv31, _) := vLcM_p (of_eq_false mi26) (Or.inr ⟨mi11, i17⟩) pv31
                  have hG := ke_weak (b1 := 0) (b2 := 241) (g1 := wv31) (g2 := wv31) (e1 := d1) (e2 := d2) hG (Int.le_refl _) (Int.le_refl _) (Int.le_refl _) (Int.le_refl _) (Int.le_refl _) (Int.le_refl _)
                  exact sg_vret2 X hr hlk hS (fun t ht hW => (Or.inr ⟨_, _, _, spr, ((And.intro w1v31 w2v31)).1, ((And.intro w1v31 w2v31)).2, sg_post hb hK hC hG hS ht hW⟩)) dX12_readClause_116
            · have i27 : vE (vC (sgU2 P) (sgL2 P) (vX (sgU2 P) (sgL2 P) a)) = (115 : Int) := vq_eq c25 xf1 (by decide +kernel)
              have mi27 : vC (sgU2 P) (sgL2 P) (vX (sgU2 P) (sgL2 P) a) = (115 : Int) := vE_eq i27 (by decide)
              exact ((iv_no (a := 115) (b := 98) (iv_eqm c25 (iv_eqm (a' := 98) (b' := 98) c9 yf1 (iv_c 98 (a := 98) (b := 98) (by decide +kernel)) (by decide +kernel)) (iv_c 115 (a := 115) (b := 115) (by decide +kernel)) (by decide +kernel)) (by decide +kernel))).elim
          · exact ((iv_no (a := 1) (b := 0) (iv_eqm c20 (iv_c 1 (a := 1) (b := 1) (by decide +kernel)) (iv_c 0 (a := 0) (b := 0) (by decide +kernel)) (by decide +kernel)) (by decide +kernel))).elim
    · have i8 : vE (vC (sgU2 P) (sgL2 P) (vX (sgU2 P) (sgL2 P) a)) = (116 : Int) := vq_eq c6 xf1 (by decide +kernel)
      have mi8 : vC (sgU2 P) (sgL2 P) (vX (sgU2 P) (sgL2 P) a) = (116 : Int) := vE_eq i8 (by decide)
      refine lv_aload_n X.1 X.2.1 dX12_readClause_24 rfl (lv_at hl 1 rfl) ?_
      refine gf_X12_27e X hK hG h0 wl_6_205 dX12_readClause_25 (fun f85 hf85 => ?_)
      have xf85 : f85.toInt = q.2.2.2.1 := zg_27 (q := q) (o := o) hf85
      have yf85 : iv 0 12 f85 := vq_of xf85 hq0.1
      refine lv_bipush (v := 12) X.1 X.2.1 dX12_readClause_28 (by decide +kernel) ?_
      refine lv_icmp_lt (tgt := 48) X.1 X.2.1 dX12_readClause_30 (by decide) (fun c86 => ?_) (fun c86 => ?_)
      · have i87 : q.2.2.2.1 < (12 : Int) := vq_lt c86 xf85 (by decide +kernel)
        refine lv_iconst (v := 1) X.1 X.2.1 dX12_readClause_48 (by decide +kernel) ?_
        refine lv_goto (tgt := 53) X.1 X.2.1 dX12_readClause_49 (by decide) ?_
        refine lv_istore_n (lv' := [(2, .int 1), (1, .int f1), (0, .ref a0)]) X.1 X.2.1 dX12_readClause_53 rfl hl (by decide) rfl (fun ls hl => ?_)
        refine lv_iload_n X.1 X.2.1 dX12_readClause_54 rfl (lv_at hl 0 rfl) ?_
        refine lv_if_ne (tgt := 64) X.1 X.2.1 dX12_readClause_55 (by decide) (fun c89 => ?_) (fun c89 => ?_)
        · refine lv_aload_n X.1 X.2.1 dX12_readClause_64 rfl (lv_at hl 2 rfl) ?_
          refine lv_dup X.1 X.2.1 dX12_readClause_65 rfl ?_
          refine gf_X12_10e X hK hG h0 wl_6_188 dX12_readClause_66 (fun f90 hf90 => ?_)
          have xf90 : f90.toInt = (vX (sgU2 P) (sgL2 P) a) := vq_iv hf90
          have yf90 : iv 0 240 f90 := vq_240 hl0 b2 xf90
          refine lv_iconst (v := 1) X.1 X.2.1 dX12_readClause_69 (by decide +kernel) ?_
          refine lv_iadd X.1 X.2.1 dX12_readClause_70 ?_
          refine lv_topi (fun f91 ef91 => ?_)
          have xf91 : f91.toInt = ((vX (sgU2 P) (sgL2 P) a) + 1) := sg_exadd ef91 yf90 (iv_c 1 (a := 1) (b := 1) (by decide +kernel)) (by decide +kernel) xf90 (by decide +kernel)
          refine pf_X12_10E (b1 := ((vX (sgU2 P) (sgL2 P) a) + 1)) (b2 := ((vX (sgU2 P) (sgL2 P) a) + 1)) X hK hG hS h0 wl_6_188 (vq_of (lo := ((vX (sgU2 P) (sgL2 P) a) + 1)) (hi := ((vX (sgU2 P) (sgL2 P) a) + 1)) xf91 ⟨Int.le_refl _, Int.le_refl _⟩) dX12_readClause_71 (fun H locs hG hS => ?_)
          have l92 := (vC_lt (b := sgU2 P) (n := sgL2 P) (a := (vX (sgU2 P) (sgL2 P) a)) (by rw [mi8]; decide)).2
          have b93 := vq_bd1 b2 l92
          have pb93 : a + 1 ≤ ((vX (sgU2 P) (sgL2 P) a) + 1) := vq_pg pb2 (m := 1) (Int.le_refl _) (by decide)
          refine lv_iload_n X.1 X.2.1 dX12_readClause_74 rfl (lv_at hl 1 rfl) ?_
          refine lv_bipush (v := 115) X.1 X.2.1 dX12_readClause_75 (by decide +kernel) ?_
          refine lv_icmp_ne (tgt := 97) X.1 X.2.1 dX12_readClause_77 (by decide) (fun c94 => ?_) (fun c94 => ?_)
          · have i95 : (vE (vC (sgU2 P) (sgL2 P) (vX (sgU2 P) (sgL2 P) a)) = (115 : Int)) = False := vq_ne c94 xf1 (by decide +kernel)
            have mi95 : (vC (sgU2 P) (sgL2 P) (vX (sgU2 P) (sgL2 P) a) = (115 : Int)) = False := vE_ne i95 (by decide)
            refine lv_aload_n X.1 X.2.1 dX12_readClause_97 rfl (lv_at hl 2 rfl) ?_
            refine lv_iload_n X.1 X.2.1 dX12_readClause_98 rfl (lv_at hl 1 rfl) ?_
            refine lv_aload_n X.1 X.2.1 dX12_readClause_99 rfl (lv_at hl 2 rfl) ?_
            refine gf_X12_20e X hK hG h0 wl_6_198 dX12_readClause_100 (fun q97 hq97 kq97 => ?_)
            obtain ⟨t98, vt98, pt98, rt98⟩ := hC.2.2.2.2.1
            refine va_ldcS X.1 X.2.1 X.2.2.2.1 rt98 dX12_readClause_103 ?_
            refine ca_X12_readItems_eo116 X hK hG hC hS hb pt98 a0 h0 f1 (iv_eqm (a' := 116) (b' := 116) c6 yf1 (iv_c 116 (a := 116) (b := 116) (by decide +kernel)) (by decide +kernel)) q97 hq97 hl0 b93 hby (by omega) (sg_htb (by decide +kernel)) rfl wl_7_146 hl.1 (rest := []) rfl (Nat.le_of_ble_eq_true rfl) ⟨Nat.le_of_ble_eq_true rfl, Nat.le_of_ble_eq_true rfl⟩ ⟨Nat.le_of_ble_eq_true rfl, Nat.le_of_ble_eq_true rfl⟩ dX12_readClause_105 (fun tg99 H locs htg99 hWg99 hS => ?_)
            rcases hWg99 with ⟨av100, nv100, pv100, g1v100, g2v100, gav100, gbv100, hBg99⟩ | ⟨wv100, nv100, zv100, pv100, w1v100, w2v100, hBg99⟩
            · have hG := hBg99.2.2.2
              rw [htg99] at hG
              have bv100 := vq_bd2 (k := 0) b93 (by decide) gav100 gbv100
              have p2v100 : a + 1 ≤ av100 := vq_pg pb93 gav100 (by decide)
              refine lv_aload_n X.1 X.2.1 dX12_readClause_108 rfl (lv_at hl 2 rfl) ?_
              refine gf_X12_11e X hK hG h0 wl_6_189 dX12_readClause_109 (fun f101 hf101 => ?_)
              refine lv_iconst (v := (-1)) X.1 X.2.1 dX12_readClause_112 (by decide +kernel) ?_
              refine lv_icmp_eq (tgt := 117) X.1 X.2.1 dX12_readClause_113 (by decide) (fun c102 => ?_) (fun c102 => ?_)
              · have i103 : ((-1) : Int) = ((-1) : Int) := vq_eq c102 (vq_iv hf101) (by decide +kernel)
                refine lv_aload_n X.1 X.2.1 dX12_readClause_117 rfl (lv_at hl 2 rfl) ?_
                refine lv_aload_n X.1 X.2.1 dX12_readClause_118 rfl (lv_at hl 2 rfl) ?_
                refine gf_X12_31e X hK hG h0 wl_6_209 dX12_readClause_119 (fun f105 hf105 => ?_)
                have zf105 : f105.toInt = (bif q.2.2.2.2.2.2 then 1 else 0) := zg_31 (q := q) (o := (zO nv100 o)) hf105
                refine lv_if_ne (tgt := 146) X.1 X.2.1 dX12_readClause_122 (by decide) (fun c106 => ?_) (fun c106 => ?_)
                · have k107 : q.2.2.2.2.2.2 = true := zb_t zf105 c106
                  refine lv_iconst (v := 1) X.1 X.2.1 dX12_readClause_146 (by decide +kernel) ?_
                  refine lv_goto (tgt := 151) X.1 X.2.1 dX12_readClause_147 (by decide) ?_
                  refine pf_X12_31Z X hK hG hS h0 wl_6_209 (iv_of (iv_c 1 (a := 1) (b := 1) (by decide +kernel)) (a' := 0) (b' := 1) (by decide +kernel)) dX12_readClause_151 (fun H locs hG hS => ?_)
                  rw [show (1 : Int32).toInt = (bif true then 1 else 0) from by decide +kernel, zq_31] at hG
                  have hG : sgG (KE av100 av100 (-1) (-1) d1 d2 (zQ (q.1, q.2.1, q.2.2.1, q.2.2.2.1, q.2.2.2.2.1, q.2.2.2.2.2.1, true) (zO nv100 o)) P) D vwCl _ tys ad ks _ := hG
                  refine lv_iload_n X.1 X.2.1 dX12_readClause_154 rfl (lv_at hl 1 rfl) ?_
                  refine lv_bipush (v := 116) X.1 X.2.1 dX12_readClause_155 (by decide +kernel) ?_
                  refine lv_icmp_ne (tgt := 190) X.1 X.2.1 dX12_readClause_157 (by decide) (fun c109 => ?_) (fun c109 => ?_)
                  · have i110 : (vE (vC (sgU2 P) (sgL2 P) (vX (sgU2 P) (sgL2 P) a)) = (116 : Int)) = False := vq_ne c109 xf1 (by decide +kernel)
                    have mi110 : (vC (sgU2 P) (sgL2 P) (vX (sgU2 P) (sgL2 P) a) = (116 : Int)) = False := vE_ne i110 (by decide)
                    exact ((c109 (iv_one (iv_eqm (a' := 116) (b' := 116) c6 yf1 (iv_c 116 (a := 116) (b := 116) (by decide +kernel)) (by decide +kernel)) (iv_c 116 (a := 116) (b := 116) (by decide +kernel)) (by decide +kernel)))).elim
                  · have i111 : vE (vC (sgU2 P) (sgL2 P) (vX (sgU2 P) (sgL2 P) a)) = (116 : Int) := vq_eq c109 xf1 (by decide +kernel)
                    have mi111 : vC (sgU2 P) (sgL2 P) (vX (sgU2 P) (sgL2 P) a) = (116 : Int) := vE_eq i111 (by decide)
                    refine lv_aload_n X.1 X.2.1 dX12_readClause_160 rfl (lv_at hl 2 rfl) ?_
                    refine lv_dup X.1 X.2.1 dX12_readClause_161 rfl ?_
                    refine gf_X12_25e X hK hG h0 wl_6_203 dX12_readClause_162 (fun f112 hf112 => ?_)
                    have wf112 : f112 = q.2.1 := zg_25 (q := (q.1, q.2.1, q.2.2.1, q.2.2.2.1, q.2.2.2.2.1, q.2.2.2.2.2.1, true)) (o := (zO nv100 o)) hf112
                    refine lv_iconst (v := 1) X.1 X.2.1 dX12_readClause_165 (by decide +kernel) ?_
                    refine lv_aload_n X.1 X.2.1 dX12_readClause_166 rfl (lv_at hl 2 rfl) ?_
                    refine gf_X12_20e X hK hG h0 wl_6_198 dX12_readClause_167 (fun q113 hq113 kq113 => ?_)
                    refine lv_iconst (v := 0) X.1 X.2.1 dX12_readClause_170 (by decide +kernel) ?_
                    refine al_51e X hK hG hq113 (iv_vpin (iv_c 0 (a := 0) (b := 0) (by decide +kernel)) (by decide +kernel)) dX12_readClause_171 (fun f114 hf114 => ?_)
                    have xf114 : f114.toInt = nv100 := vq_iv hf114
                    refine lv_ishl X.1 X.2.1 dX12_readClause_172 ?_
                    refine lv_topi (fun f115 ef115 => ?_)
                    have wf115 : f115 = ((1 : Int32) <<< ((Int32.ofInt nv100) &&& 31)) := ef115.trans (by rw [(vq_oi (x := f114) xf114)])
                    refine lv_ior X.1 X.2.1 dX12_readClause_173 ?_
                    refine lv_topi (fun f116 ef116 => ?_)
                    have wf116 : f116 = (q.2.1 ||| ((1 : Int32) <<< ((Int32.ofInt nv100) &&& 31))) := ef116.trans (by rw [wf112, wf115])
                    refine pf_X12_25Z X hK hG hS h0 wl_6_203 dX12_readClause_174 (fun H locs hG hS => ?_)
                    rw [zq_25, wf116] at hG
                    have hG : sgG (KE av100 av100 (-1) (-1) d1 d2 (zQ (q.1, (q.2.1 ||| ((1 : Int32) <<< ((Int32.ofInt nv100) &&& 31))), q.2.2.1, q.2.2.2.1, q.2.2.2.2.1, q.2.2.2.2.2.1, true) (zO nv100 o)) P) D vwCl _ tys ad ks _ := hG
                    refine lv_aload_n X.1 X.2.1 dX12_readClause_177 rfl (lv_at hl 2 rfl) ?_
                    refine lv_dup X.1 X.2.1 dX12_readClause_178 rfl ?_
                    refine gf_X12_27e X hK hG h0 wl_6_205 dX12_readClause_179 (fun f117 hf117 => ?_)
                    have xf117 : f117.toInt = q.2.2.2.1 := zg_27 (q := (q.1, (q.2.1 ||| ((1 : Int32) <<< ((Int32.ofInt nv100) &&& 31))), q.2.2.1, q.2.2.2.1, q.2.2.2.2.1, q.2.2.2.2.2.1, true)) (o := (zO nv100 o)) hf117
                    have yf117 : iv 0 12 f117 := vq_of xf117 hq0.1
                    refine lv_iconst (v := 1) X.1 X.2.1 dX12_readClause_182 (by decide +kernel) ?_
                    refine lv_iadd X.1 X.2.1 dX12_readClause_183 ?_
                    refine lv_topi (fun f118 ef118 => ?_)
                    have xf118 : f118.toInt = (q.2.2.2.1 + 1) := sg_exadd ef118 yf117 (iv_c 1 (a := 1) (b := 1) (by decide +kernel)) (by decide +kernel) xf117 (by decide +kernel)
                    refine pf_X12_27Z X hK hG hS h0 wl_6_205 dX12_readClause_184 (fun H locs hG hS => ?_)
                    rw [xf118, zq_27] at hG
                    have hG : sgG (KE av100 av100 (-1) (-1) d1 d2 (zQ (q.1, (q.2.1 ||| ((1 : Int32) <<< ((Int32.ofInt nv100) &&& 31))), q.2.2.1, (q.2.2.2.1 + 1), q.2.2.2.2.1, q.2.2.2.2.2.1, true) (zO nv100 o)) P) D vwCl _ tys ad ks _ := hG
                    refine lv_goto (tgt := 217) X.1 X.2.1 dX12_readClause_187 (by decide) ?_
                    have spr : vLcM (sgU2 P) (sgL2 P) q (vX (sgU2 P) (sgL2 P) a) = (true, vX (sgU2 P) (sgL2 P) av100, (q.1, (q.2.1 ||| ((1 : Int32) <<< ((Int32.ofInt nv100) &&& 31))), q.2.2.1, (q.2.2.2.1 + 1), q.2.2.2.2.1, q.2.2.2.2.2.1, true)) := (vLcM_p (of_eq_false mi95) (Or.inl ⟨mi111, i87⟩) pv100).trans (by rw [lwPut_t mi111 (lw_d1 k107)]; rfl)
                    exact sg_vret2 X hr hlk hS (fun t ht hW => (Or.inl ⟨_, _, _, spr, ⟨⟨by have h1 := hq0.1; show 0 ≤ (q.2.2.2.1 + 1); omega, by have h1 := hq0.1; show (q.2.2.2.1 + 1) ≤ 12; omega⟩, ⟨by have h1 := hq0.2; show 0 ≤ q.2.2.2.2.1; omega, by have h1 := hq0.2; show q.2.2.2.2.1 ≤ 8; omega⟩⟩, vq_pgw p2v100 (by decide), (bv100).2, sg_post hb hK hC hG hS ht hW⟩)) dX12_readClause_217
                · have k108 : q.2.2.2.2.2.2 = false := zb_f zf105 c106
                  refine lv_aload_n X.1 X.2.1 dX12_readClause_125 rfl (lv_at hl 2 rfl) ?_
                  refine gf_X12_25e X hK hG h0 wl_6_203 dX12_readClause_126 (fun f119 hf119 => ?_)
                  have wf119 : f119 = q.2.1 := zg_25 (q := q) (o := (zO nv100 o)) hf119
                  refine lv_aload_n X.1 X.2.1 dX12_readClause_129 rfl (lv_at hl 2 rfl) ?_
                  refine gf_X12_26e X hK hG h0 wl_6_204 dX12_readClause_130 (fun f120 hf120 => ?_)
                  have wf120 : f120 = q.2.2.1 := zg_26 (q := q) (o := (zO nv100 o)) hf120
                  refine lv_ior X.1 X.2.1 dX12_readClause_133 ?_
                  refine lv_topi (fun f121 ef121 => ?_)
                  have wf121 : f121 = (q.2.1 ||| q.2.2.1) := ef121.trans (by rw [wf119, wf120])
                  refine lv_aload_n X.1 X.2.1 dX12_readClause_134 rfl (lv_at hl 2 rfl) ?_
                  refine gf_X12_20e X hK hG h0 wl_6_198 dX12_readClause_135 (fun q122 hq122 kq122 => ?_)
                  refine lv_iconst (v := 0) X.1 X.2.1 dX12_readClause_138 (by decide +kernel) ?_
                  refine al_51e X hK hG hq122 (iv_vpin (iv_c 0 (a := 0) (b := 0) (by decide +kernel)) (by decide +kernel)) dX12_readClause_139 (fun f123 hf123 => ?_)
                  have xf123 : f123.toInt = nv100 := vq_iv hf123
                  refine ca_X12_has_e X hK (ke_toKT hG (by decide) (by decide) hd0.1 hd0.2) hC (fun _ h => h) hS hb f121 f123 wl_7_174 hl.1 (rest := [.ref a0]) rfl (Nat.le_of_ble_eq_true rfl) ⟨Nat.le_of_ble_eq_true rfl, Nat.le_of_ble_eq_true rfl⟩ ⟨Nat.le_of_ble_eq_true rfl, Nat.le_of_ble_eq_true rfl⟩ dX12_readClause_140 (fun f124 locs hf124 hS => ?_)
                  refine lv_if_eq (tgt := 150) X.1 X.2.1 dX12_readClause_143 (by decide) (fun c125 => ?_) (fun c125 => ?_)
                  · have j126 := vq_says0 hf124 c125
                    have k127 : (((q.2.1 ||| q.2.2.1) >>> ((Int32.ofInt nv100) &&& 31)) &&& 1 = 1) = False := by have z := j126; rw [wf121] at z; rw [(vq_oi (x := f123) xf123)] at z; exact z
                    refine lv_iconst (v := 0) X.1 X.2.1 dX12_readClause_150 (by decide +kernel) ?_
                    refine pf_X12_31Z X hK hG hS h0 wl_6_209 (iv_of (iv_c 0 (a := 0) (b := 0) (by decide +kernel)) (a' := 0) (b' := 1) (by decide +kernel)) dX12_readClause_151 (fun H locs hG hS => ?_)
                    rw [show (0 : Int32).toInt = (bif false then 1 else 0) from by decide +kernel, zq_31] at hG
                    have hG : sgG (KE av100 av100 (-1) (-1) d1 d2 (zQ (q.1, q.2.1, q.2.2.1, q.2.2.2.1, q.2.2.2.2.1, q.2.2.2.2.2.1, false) (zO nv100 o)) P) D vwCl _ tys ad ks _ := hG
                    refine lv_iload_n X.1 X.2.1 dX12_readClause_154 rfl (lv_at hl 1 rfl) ?_
                    refine lv_bipush (v := 116) X.1 X.2.1 dX12_readClause_155 (by decide +kernel) ?_
                    refine lv_icmp_ne (tgt := 190) X.1 X.2.1 dX12_readClause_157 (by decide) (fun c130 => ?_) (fun c130 => ?_)
                    · have i131 : (vE (vC (sgU2 P) (sgL2 P) (vX (sgU2 P) (sgL2 P) a)) = (116 : Int)) = False := vq_ne c130 xf1 (by decide +kernel)
                      have mi131 : (vC (sgU2 P) (sgL2 P) (vX (sgU2 P) (sgL2 P) a) = (116 : Int)) = False := vE_ne i131 (by decide)
                      exact ((c130 (iv_one (iv_eqm (a' := 116) (b' := 116) c6 yf1 (iv_c 116 (a := 116) (b := 116) (by decide +kernel)) (by decide +kernel)) (iv_c 116 (a := 116) (b := 116) (by decide +kernel)) (by decide +kernel)))).elim
                    · have i132 : vE (vC (sgU2 P) (sgL2 P) (vX (sgU2 P) (sgL2 P) a)) = (116 : Int) := vq_eq c130 xf1 (by decide +kernel)
                      have mi132 : vC (sgU2 P) (sgL2 P) (vX (sgU2 P) (sgL2 P) a) = (116 : Int) := vE_eq i132 (by decide)
                      refine lv_aload_n X.1 X.2.1 dX12_readClause_160 rfl (lv_at hl 2 rfl) ?_
                      refine lv_dup X.1 X.2.1 dX12_readClause_161 rfl ?_
                      refine gf_X12_25e X hK hG h0 wl_6_203 dX12_readClause_162 (fun f133 hf133 => ?_)
                      have wf133 : f133 = q.2.1 := zg_25 (q := (q.1, q.2.1, q.2.2.1, q.2.2.2.1, q.2.2.2.2.1, q.2.2.2.2.2.1, false)) (o := (zO nv100 o)) hf133
                      refine lv_iconst (v := 1) X.1 X.2.1 dX12_readClause_165 (by decide +kernel) ?_
                      refine lv_aload_n X.1 X.2.1 dX12_readClause_166 rfl (lv_at hl 2 rfl) ?_
                      refine gf_X12_20e X hK hG h0 wl_6_198 dX12_readClause_167 (fun q134 hq134 kq134 => ?_)
                      refine lv_iconst (v := 0) X.1 X.2.1 dX12_readClause_170 (by decide +kernel) ?_
                      refine al_51e X hK hG hq134 (iv_vpin (iv_c 0 (a := 0) (b := 0) (by decide +kernel)) (by decide +kernel)) dX12_readClause_171 (fun f135 hf135 => ?_)
                      have xf135 : f135.toInt = nv100 := vq_iv hf135
                      refine lv_ishl X.1 X.2.1 dX12_readClause_172 ?_
                      refine lv_topi (fun f136 ef136 => ?_)
                      have wf136 : f136 = ((1 : Int32) <<< ((Int32.ofInt nv100) &&& 31)) := ef136.trans (by rw [(vq_oi (x := f135) xf135)])
                      refine lv_ior X.1 X.2.1 dX12_readClause_173 ?_
                      refine lv_topi (fun f137 ef137 => ?_)
                      have wf137 : f137 = (q.2.1 ||| ((1 : Int32) <<< ((Int32.ofInt nv100) &&& 31))) := ef137.trans (by rw [wf133, wf136])
                      refine pf_X12_25Z X hK hG hS h0 wl_6_203 dX12_readClause_174 (fun H locs hG hS => ?_)
                      rw [zq_25, wf137] at hG
                      have hG : sgG (KE av100 av100 (-1) (-1) d1 d2 (zQ (q.1, (q.2.1 ||| ((1 : Int32) <<< ((Int32.ofInt nv100) &&& 31))), q.2.2.1, q.2.2.2.1, q.2.2.2.2.1, q.2.2.2.2.2.1, false) (zO nv100 o)) P) D vwCl _ tys ad ks _ := hG
                      refine lv_aload_n X.1 X.2.1 dX12_readClause_177 rfl (lv_at hl 2 rfl) ?_
                      refine lv_dup X.1 X.2.1 dX12_readClause_178 rfl ?_
                      refine gf_X12_27e X hK hG h0 wl_6_205 dX12_readClause_179 (fun f138 hf138 => ?_)
                      have xf138 : f138.toInt = q.2.2.2.1 := zg_27 (q := (q.1, (q.2.1 ||| ((1 : Int32) <<< ((Int32.ofInt nv100) &&& 31))), q.2.2.1, q.2.2.2.1, q.2.2.2.2.1, q.2.2.2.2.2.1, false)) (o := (zO nv100 o)) hf138
                      have yf138 : iv 0 12 f138 := vq_of xf138 hq0.1
                      refine lv_iconst (v := 1) X.1 X.2.1 dX12_readClause_182 (by decide +kernel) ?_
                      refine lv_iadd X.1 X.2.1 dX12_readClause_183 ?_
                      refine lv_topi (fun f139 ef139 => ?_)
                      have xf139 : f139.toInt = (q.2.2.2.1 + 1) := sg_exadd ef139 yf138 (iv_c 1 (a := 1) (b := 1) (by decide +kernel)) (by decide +kernel) xf138 (by decide +kernel)
                      refine pf_X12_27Z X hK hG hS h0 wl_6_205 dX12_readClause_184 (fun H locs hG hS => ?_)
                      rw [xf139, zq_27] at hG
                      have hG : sgG (KE av100 av100 (-1) (-1) d1 d2 (zQ (q.1, (q.2.1 ||| ((1 : Int32) <<< ((Int32.ofInt nv100) &&& 31))), q.2.2.1, (q.2.2.2.1 + 1), q.2.2.2.2.1, q.2.2.2.2.2.1, false) (zO nv100 o)) P) D vwCl _ tys ad ks _ := hG
                      refine lv_goto (tgt := 217) X.1 X.2.1 dX12_readClause_187 (by decide) ?_
                      have spr : vLcM (sgU2 P) (sgL2 P) q (vX (sgU2 P) (sgL2 P) a) = (true, vX (sgU2 P) (sgL2 P) av100, (q.1, (q.2.1 ||| ((1 : Int32) <<< ((Int32.ofInt nv100) &&& 31))), q.2.2.1, (q.2.2.2.1 + 1), q.2.2.2.2.1, q.2.2.2.2.2.1, false)) := (vLcM_p (of_eq_false mi95) (Or.inl ⟨mi132, i87⟩) pv100).trans (by rw [lwPut_t mi132 (lw_d3 k108 (lwHas_f k127))]; rfl)
                      exact sg_vret2 X hr hlk hS (fun t ht hW => (Or.inl ⟨_, _, _, spr, ⟨⟨by have h1 := hq0.1; show 0 ≤ (q.2.2.2.1 + 1); omega, by have h1 := hq0.1; show (q.2.2.2.1 + 1) ≤ 12; omega⟩, ⟨by have h1 := hq0.2; show 0 ≤ q.2.2.2.2.1; omega, by have h1 := hq0.2; show q.2.2.2.2.1 ≤ 8; omega⟩⟩, vq_pgw p2v100 (by decide), (bv100).2, sg_post hb hK hC hG hS ht hW⟩)) dX12_readClause_217
                  · have j128 := vq_says1 hf124 c125
                    have k129 : ((q.2.1 ||| q.2.2.1) >>> ((Int32.ofInt nv100) &&& 31)) &&& 1 = 1 := by have z := j128; rw [wf121] at z; rw [(vq_oi (x := f123) xf123)] at z; exact z
                    refine lv_iconst (v := 1) X.1 X.2.1 dX12_readClause_146 (by decide +kernel) ?_
                    refine lv_goto (tgt := 151) X.1 X.2.1 dX12_readClause_147 (by decide) ?_
                    refine pf_X12_31Z X hK hG hS h0 wl_6_209 (iv_of (iv_c 1 (a := 1) (b := 1) (by decide +kernel)) (a' := 0) (b' := 1) (by decide +kernel)) dX12_readClause_151 (fun H locs hG hS => ?_)
                    rw [show (1 : Int32).toInt = (bif true then 1 else 0) from by decide +kernel, zq_31] at hG
                    have hG : sgG (KE av100 av100 (-1) (-1) d1 d2 (zQ (q.1, q.2.1, q.2.2.1, q.2.2.2.1, q.2.2.2.2.1, q.2.2.2.2.2.1, true) (zO nv100 o)) P) D vwCl _ tys ad ks _ := hG
                    refine lv_iload_n X.1 X.2.1 dX12_readClause_154 rfl (lv_at hl 1 rfl) ?_
                    refine lv_bipush (v := 116) X.1 X.2.1 dX12_readClause_155 (by decide +kernel) ?_
                    refine lv_icmp_ne (tgt := 190) X.1 X.2.1 dX12_readClause_157 (by decide) (fun c140 => ?_) (fun c140 => ?_)
                    · have i141 : (vE (vC (sgU2 P) (sgL2 P) (vX (sgU2 P) (sgL2 P) a)) = (116 : Int)) = False := vq_ne c140 xf1 (by decide +kernel)
                      have mi141 : (vC (sgU2 P) (sgL2 P) (vX (sgU2 P) (sgL2 P) a) = (116 : Int)) = False := vE_ne i141 (by decide)
                      exact ((c140 (iv_one (iv_eqm (a' := 116) (b' := 116) c6 yf1 (iv_c 116 (a := 116) (b := 116) (by decide +kernel)) (by decide +kernel)) (iv_c 116 (a := 116) (b := 116) (by decide +kernel)) (by decide +kernel)))).elim
                    · have i142 : vE (vC (sgU2 P) (sgL2 P) (vX (sgU2 P) (sgL2 P) a)) = (116 : Int) := vq_eq c140 xf1 (by decide +kernel)
                      have mi142 : vC (sgU2 P) (sgL2 P) (vX (sgU2 P) (sgL2 P) a) = (116 : Int) := vE_eq i142 (by decide)
                      refine lv_aload_n X.1 X.2.1 dX12_readClause_160 rfl (lv_at hl 2 rfl) ?_
                      refine lv_dup X.1 X.2.1 dX12_readClause_161 rfl ?_
                      refine gf_X12_25e X hK hG h0 wl_6_203 dX12_readClause_162 (fun f143 hf143 => ?_)
                      have wf143 : f143 = q.2.1 := zg_25 (q := (q.1, q.2.1, q.2.2.1, q.2.2.2.1, q.2.2.2.2.1, q.2.2.2.2.2.1, true)) (o := (zO nv100 o)) hf143
                      refine lv_iconst (v := 1) X.1 X.2.1 dX12_readClause_165 (by decide +kernel) ?_
                      refine lv_aload_n X.1 X.2.1 dX12_readClause_166 rfl (lv_at hl 2 rfl) ?_
                      refine gf_X12_20e X hK hG h0 wl_6_198 dX12_readClause_167 (fun q144 hq144 kq144 => ?_)
                      refine lv_iconst (v := 0) X.1 X.2.1 dX12_readClause_170 (by decide +kernel) ?_
                      refine al_51e X hK hG hq144 (iv_vpin (iv_c 0 (a := 0) (b := 0) (by decide +kernel)) (by decide +kernel)) dX12_readClause_171 (fun f145 hf145 => ?_)
                      have xf145 : f145.toInt = nv100 := vq_iv hf145
                      refine lv_ishl X.1 X.2.1 dX12_readClause_172 ?_
                      refine lv_topi (fun f146 ef146 => ?_)
                      have wf146 : f146 = ((1 : Int32) <<< ((Int32.ofInt nv100) &&& 31)) := ef146.trans (by rw [(vq_oi (x := f145) xf145)])
                      refine lv_ior X.1 X.2.1 dX12_readClause_173 ?_
                      refine lv_topi (fun f147 ef147 => ?_)
                      have wf147 : f147 = (q.2.1 ||| ((1 : Int32) <<< ((Int32.ofInt nv100) &&& 31))) := ef147.trans (by rw [wf143, wf146])
                      refine pf_X12_25Z X hK hG hS h0 wl_6_203 dX12_readClause_174 (fun H locs hG hS => ?_)
                      rw [zq_25, wf147] at hG
                      have hG : sgG (KE av100 av100 (-1) (-1) d1 d2 (zQ (q.1, (q.2.1 ||| ((1 : Int32) <<< ((Int32.ofInt nv100) &&& 31))), q.2.2.1, q.2.2.2.1, q.2.2.2.2.1, q.2.2.2.2.2.1, true) (zO nv100 o)) P) D vwCl _ tys ad ks _ := hG
                      refine lv_aload_n X.1 X.2.1 dX12_readClause_177 rfl (lv_at hl 2 rfl) ?_
                      refine lv_dup X.1 X.2.1 dX12_readClause_178 rfl ?_
                      refine gf_X12_27e X hK hG h0 wl_6_205 dX12_readClause_179 (fun f148 hf148 => ?_)
                      have xf148 : f148.toInt = q.2.2.2.1 := zg_27 (q := (q.1, (q.2.1 ||| ((1 : Int32) <<< ((Int32.ofInt nv100) &&& 31))), q.2.2.1, q.2.2.2.1, q.2.2.2.2.1, q.2.2.2.2.2.1, true)) (o := (zO nv100 o)) hf148
                      have yf148 : iv 0 12 f148 := vq_of xf148 hq0.1
                      refine lv_iconst (v := 1) X.1 X.2.1 dX12_readClause_182 (by decide +kernel) ?_
                      refine lv_iadd X.1 X.2.1 dX12_readClause_183 ?_
                      refine lv_topi (fun f149 ef149 => ?_)
                      have xf149 : f149.toInt = (q.2.2.2.1 + 1) := sg_exadd ef149 yf148 (iv_c 1 (a := 1) (b := 1) (by decide +kernel)) (by decide +kernel) xf148 (by decide +kernel)
                      refine pf_X12_27Z X hK hG hS h0 wl_6_205 dX12_readClause_184 (fun H locs hG hS => ?_)
                      rw [xf149, zq_27] at hG
                      have hG : sgG (KE av100 av100 (-1) (-1) d1 d2 (zQ (q.1, (q.2.1 ||| ((1 : Int32) <<< ((Int32.ofInt nv100) &&& 31))), q.2.2.1, (q.2.2.2.1 + 1), q.2.2.2.2.1, q.2.2.2.2.2.1, true) (zO nv100 o)) P) D vwCl _ tys ad ks _ := hG
                      refine lv_goto (tgt := 217) X.1 X.2.1 dX12_readClause_187 (by decide) ?_
                      have spr : vLcM (sgU2 P) (sgL2 P) q (vX (sgU2 P) (sgL2 P) a) = (true, vX (sgU2 P) (sgL2 P) av100, (q.1, (q.2.1 ||| ((1 : Int32) <<< ((Int32.ofInt nv100) &&& 31))), q.2.2.1, (q.2.2.2.1 + 1), q.2.2.2.2.1, q.2.2.2.2.2.1, true)) := (vLcM_p (of_eq_false mi95) (Or.inl ⟨mi142, i87⟩) pv100).trans (by rw [lwPut_t mi142 (lw_d2 (lwHas_t k129))]; rfl)
                      exact sg_vret2 X hr hlk hS (fun t ht hW => (Or.inl ⟨_, _, _, spr, ⟨⟨by have h1 := hq0.1; show 0 ≤ (q.2.2.2.1 + 1); omega, by have h1 := hq0.1; show (q.2.2.2.1 + 1) ≤ 12; omega⟩, ⟨by have h1 := hq0.2; show 0 ≤ q.2.2.2.2.1; omega, by have h1 := hq0.2; show q.2.2.2.2.1 ≤ 8; omega⟩⟩, vq_pgw p2v100 (by decide), (bv100).2, sg_post hb hK hC hG hS ht hW⟩)) dX12_readClause_217
              · have i104 : (((-1) : Int) = ((-1) : Int)) = False := vq_ne c102 (vq_iv hf101) (by decide +kernel)
                exact ((c102 (iv_one hf101 (iv_c (-1) (a := (-1)) (b := (-1)) (by decide +kernel)) (by decide +kernel)))).elim
            · have hG := hBg99.2.2.2
              rw [htg99] at hG
              refine lv_aload_n X.1 X.2.1 dX12_readClause_108 rfl (lv_at hl 2 rfl) ?_
              refine gf_X12_11e X hK hG h0 wl_6_189 dX12_readClause_109 (fun f150 hf150 => ?_)
              have xf150 : f150.toInt = wv100 := vq_iv hf150
              have yf150 : iv 0 240 f150 := vq_of xf150 (And.intro w1v100 w2v100)
              refine lv_iconst (v := (-1)) X.1 X.2.1 dX12_readClause_112 (by decide +kernel) ?_
              refine lv_icmp_eq (tgt := 117) X.1 X.2.1 dX12_readClause_113 (by decide) (fun c151 => ?_) (fun c151 => ?_)
              · have i152 : wv100 = ((-1) : Int) := vq_eq c151 xf150 (by decide +kernel)
                exact ((iv_no (a := 0) (b := (-1)) (iv_eqm c151 yf150 (iv_c (-1) (a := (-1)) (b := (-1)) (by decide +kernel)) (by decide +kernel)) (by decide +kernel))).elim
              · have i153 : (wv100 = ((-1) : Int)) = False := vq_ne c151 xf150 (by decide +kernel)
                have spr : vLcM (sgU2 P) (sgL2 P) q (vX (sgU2 P) (sgL2 P) a) = (false, wv100, _) := vLcM_p (of_eq_false mi95) (Or.inl ⟨mi8, i87⟩) pv100
                have hG := ke_weak (b1 := 0) (b2 := 241) (g1 := wv100) (g2 := wv100) (e1 := d1) (e2 := d2) hG (Int.le_refl _) (Int.le_refl _) (Int.le_refl _) (Int.le_refl _) (Int.le_refl _) (Int.le_refl _)
                exact sg_vret2 X hr hlk hS (fun t ht hW => (Or.inr ⟨_, _, _, spr, ((And.intro w1v100 w2v100)).1, ((And.intro w1v100 w2v100)).2, sg_post hb hK hC hG hS ht hW⟩)) dX12_readClause_116
          · have i96 : vE (vC (sgU2 P) (sgL2 P) (vX (sgU2 P) (sgL2 P) a)) = (115 : Int) := vq_eq c94 xf1 (by decide +kernel)
            have mi96 : vC (sgU2 P) (sgL2 P) (vX (sgU2 P) (sgL2 P) a) = (115 : Int) := vE_eq i96 (by decide)
            exact ((iv_no (a := 116) (b := 115) (iv_eqm c94 (iv_eqm (a' := 116) (b' := 116) c6 yf1 (iv_c 116 (a := 116) (b := 116) (by decide +kernel)) (by decide +kernel)) (iv_c 115 (a := 115) (b := 115) (by decide +kernel)) (by decide +kernel)) (by decide +kernel))).elim
        · exact ((iv_no (a := 1) (b := 0) (iv_eqm c89 (iv_c 1 (a := 1) (b := 1) (by decide +kernel)) (iv_c 0 (a := 0) (b := 0) (by decide +kernel)) (by decide +kernel)) (by decide +kernel))).elim
      · have i88 : ¬ q.2.2.2.1 < (12 : Int) := vq_le (iv_ge_of c86) (by decide +kernel) xf85
        refine lv_iload_n X.1 X.2.1 dX12_readClause_33 rfl (lv_at hl 0 rfl) ?_
        refine lv_bipush (v := 98) X.1 X.2.1 dX12_readClause_34 (by decide +kernel) ?_
        refine lv_icmp_ne (tgt := 52) X.1 X.2.1 dX12_readClause_36 (by decide) (fun c154 => ?_) (fun c154 => ?_)
        · have i155 : (vE (vC (sgU2 P) (sgL2 P) (vX (sgU2 P) (sgL2 P) a)) = (98 : Int)) = False := vq_ne c154 xf1 (by decide +kernel)
          have mi155 : (vC (sgU2 P) (sgL2 P) (vX (sgU2 P) (sgL2 P) a) = (98 : Int)) = False := vE_ne i155 (by decide)
          refine lv_iconst (v := 0) X.1 X.2.1 dX12_readClause_52 (by decide +kernel) ?_
          refine lv_istore_n (lv' := [(2, .int 0), (1, .int f1), (0, .ref a0)]) X.1 X.2.1 dX12_readClause_53 rfl hl (by decide) rfl (fun ls hl => ?_)
          refine lv_iload_n X.1 X.2.1 dX12_readClause_54 rfl (lv_at hl 0 rfl) ?_
          refine lv_if_ne (tgt := 64) X.1 X.2.1 dX12_readClause_55 (by decide) (fun c157 => ?_) (fun c157 => ?_)
          · exact ((c157 (iv_one (iv_c 0 (a := 0) (b := 0) (by decide +kernel)) (iv_c 0 (a := 0) (b := 0) (by decide +kernel)) (by decide +kernel)))).elim
          · refine lv_aload_n X.1 X.2.1 dX12_readClause_58 rfl (lv_at hl 2 rfl) ?_
            refine ca_X12_fails_e X hK hG hC hS hb a0 h0 hl0 b2 wl_7_141 hl.1 (rest := []) rfl (Nat.le_of_ble_eq_true rfl) ⟨Nat.le_of_ble_eq_true rfl, Nat.le_of_ble_eq_true rfl⟩ ⟨Nat.le_of_ble_eq_true rfl, Nat.le_of_ble_eq_true rfl⟩ dX12_readClause_59 (fun f158 tf158 H locs htf158 hf158 hWf158 hS => ?_)
            have hG := hWf158.2.2.2
            rw [htf158] at hG
            obtain rfl : f158 = 0 := sg_is0 hf158
            refine lv_pop X.1 X.2.1 dX12_readClause_62 rfl ?_
            have spr : vLcM (sgU2 P) (sgL2 P) q (vX (sgU2 P) (sgL2 P) a) = (false, (vX (sgU2 P) (sgL2 P) a), _) := vLcM_n (fun z => (of_eq_false mi4) z.1) (fun z => z.elim (fun z => absurd z.2 i88) (fun z => (of_eq_false mi155) z.1))
            have hG := ke_weak (b1 := 0) (b2 := 241) (g1 := (vX (sgU2 P) (sgL2 P) a)) (g2 := (vX (sgU2 P) (sgL2 P) a)) (e1 := d1) (e2 := d2) hG (b2).1 (Int.le_trans (b2).2 (Int.le_trans hl0.2 (by decide))) (Int.le_refl _) (Int.le_refl _) (Int.le_refl _) (Int.le_refl _)
            exact sg_vret2 X hr hlk hS (fun t ht hW => (Or.inr ⟨_, _, _, spr, ((vq_bw b2 hl0)).1, ((vq_bw b2 hl0)).2, sg_post hb hK hC hG hS ht hW⟩)) dX12_readClause_63
        · have i156 : vE (vC (sgU2 P) (sgL2 P) (vX (sgU2 P) (sgL2 P) a)) = (98 : Int) := vq_eq c154 xf1 (by decide +kernel)
          have mi156 : vC (sgU2 P) (sgL2 P) (vX (sgU2 P) (sgL2 P) a) = (98 : Int) := vE_eq i156 (by decide)
          exact ((iv_no (a := 116) (b := 98) (iv_eqm c154 (iv_eqm (a' := 116) (b' := 116) c6 yf1 (iv_c 116 (a := 116) (b := 116) (by decide +kernel)) (by decide +kernel)) (iv_c 98 (a := 98) (b := 98) (by decide +kernel)) (by decide +kernel)) (by decide +kernel))).elim
  · have i5 : vE (vC (sgU2 P) (sgL2 P) (vX (sgU2 P) (sgL2 P) a)) = (115 : Int) := vq_eq c3 xf1 (by decide +kernel)
    have mi5 : vC (sgU2 P) (sgL2 P) (vX (sgU2 P) (sgL2 P) a) = (115 : Int) := vE_eq i5 (by decide)
    refine lv_aload_n X.1 X.2.1 dX12_readClause_11 rfl (lv_at hl 1 rfl) ?_
    refine gf_X12_30e X hK hG h0 wl_6_208 dX12_readClause_12 (fun f159 hf159 => ?_)
    have zf159 : f159.toInt = (bif q.2.2.2.2.2.1 then 1 else 0) := zg_30 (q := q) (o := o) hf159
    refine lv_if_eq (tgt := 48) X.1 X.2.1 dX12_readClause_15 (by decide) (fun c160 => ?_) (fun c160 => ?_)
    · have k161 : q.2.2.2.2.2.1 = false := zb_f zf159 c160
      refine lv_iconst (v := 1) X.1 X.2.1 dX12_readClause_48 (by decide +kernel) ?_
      refine lv_goto (tgt := 53) X.1 X.2.1 dX12_readClause_49 (by decide) ?_
      refine lv_istore_n (lv' := [(2, .int 1), (1, .int f1), (0, .ref a0)]) X.1 X.2.1 dX12_readClause_53 rfl hl (by decide) rfl (fun ls hl => ?_)
      refine lv_iload_n X.1 X.2.1 dX12_readClause_54 rfl (lv_at hl 0 rfl) ?_
      refine lv_if_ne (tgt := 64) X.1 X.2.1 dX12_readClause_55 (by decide) (fun c163 => ?_) (fun c163 => ?_)
      · refine lv_aload_n X.1 X.2.1 dX12_readClause_64 rfl (lv_at hl 2 rfl) ?_
        refine lv_dup X.1 X.2.1 dX12_readClause_65 rfl ?_
        refine gf_X12_10e X hK hG h0 wl_6_188 dX12_readClause_66 (fun f164 hf164 => ?_)
        have xf164 : f164.toInt = (vX (sgU2 P) (sgL2 P) a) := vq_iv hf164
        have yf164 : iv 0 240 f164 := vq_240 hl0 b2 xf164
        refine lv_iconst (v := 1) X.1 X.2.1 dX12_readClause_69 (by decide +kernel) ?_
        refine lv_iadd X.1 X.2.1 dX12_readClause_70 ?_
        refine lv_topi (fun f165 ef165 => ?_)
        have xf165 : f165.toInt = ((vX (sgU2 P) (sgL2 P) a) + 1) := sg_exadd ef165 yf164 (iv_c 1 (a := 1) (b := 1) (by decide +kernel)) (by decide +kernel) xf164 (by decide +kernel)
        refine pf_X12_10E (b1 := ((vX (sgU2 P) (sgL2 P) a) + 1)) (b2 := ((vX (sgU2 P) (sgL2 P) a) + 1)) X hK hG hS h0 wl_6_188 (vq_of (lo := ((vX (sgU2 P) (sgL2 P) a) + 1)) (hi := ((vX (sgU2 P) (sgL2 P) a) + 1)) xf165 ⟨Int.le_refl _, Int.le_refl _⟩) dX12_readClause_71 (fun H locs hG hS => ?_)
        have l166 := (vC_lt (b := sgU2 P) (n := sgL2 P) (a := (vX (sgU2 P) (sgL2 P) a)) (by rw [mi5]; decide)).2
        have b167 := vq_bd1 b2 l166
        have pb167 : a + 1 ≤ ((vX (sgU2 P) (sgL2 P) a) + 1) := vq_pg pb2 (m := 1) (Int.le_refl _) (by decide)
        refine lv_iload_n X.1 X.2.1 dX12_readClause_74 rfl (lv_at hl 1 rfl) ?_
        refine lv_bipush (v := 115) X.1 X.2.1 dX12_readClause_75 (by decide +kernel) ?_
        refine lv_icmp_ne (tgt := 97) X.1 X.2.1 dX12_readClause_77 (by decide) (fun c168 => ?_) (fun c168 => ?_)
        · have i169 : (vE (vC (sgU2 P) (sgL2 P) (vX (sgU2 P) (sgL2 P) a)) = (115 : Int)) = False := vq_ne c168 xf1 (by decide +kernel)
          have mi169 : (vC (sgU2 P) (sgL2 P) (vX (sgU2 P) (sgL2 P) a) = (115 : Int)) = False := vE_ne i169 (by decide)
          exact ((c168 (iv_one (iv_eqm (a' := 115) (b' := 115) c3 yf1 (iv_c 115 (a := 115) (b := 115) (by decide +kernel)) (by decide +kernel)) (iv_c 115 (a := 115) (b := 115) (by decide +kernel)) (by decide +kernel)))).elim
        · have i170 : vE (vC (sgU2 P) (sgL2 P) (vX (sgU2 P) (sgL2 P) a)) = (115 : Int) := vq_eq c168 xf1 (by decide +kernel)
          have mi170 : vC (sgU2 P) (sgL2 P) (vX (sgU2 P) (sgL2 P) a) = (115 : Int) := vE_eq i170 (by decide)
          refine lv_aload_n X.1 X.2.1 dX12_readClause_80 rfl (lv_at hl 2 rfl) ?_
          refine lv_iconst (v := 1) X.1 X.2.1 dX12_readClause_81 (by decide +kernel) ?_
          refine pf_X12_30Z X hK hG hS h0 wl_6_208 (iv_of (iv_c 1 (a := 1) (b := 1) (by decide +kernel)) (a' := 0) (b' := 1) (by decide +kernel)) dX12_readClause_82 (fun H locs hG hS => ?_)
          rw [show (1 : Int32).toInt = (bif true then 1 else 0) from by decide +kernel, zq_30] at hG
          have hG : sgG (KE ((vX (sgU2 P) (sgL2 P) a) + 1) ((vX (sgU2 P) (sgL2 P) a) + 1) (-1) (-1) d1 d2 (zQ (q.1, q.2.1, q.2.2.1, q.2.2.2.1, q.2.2.2.2.1, true, q.2.2.2.2.2.2) o) P) D vwCl _ tys ad ks _ := hG
          refine lv_aload_n X.1 X.2.1 dX12_readClause_85 rfl (lv_at hl 2 rfl) ?_
          refine lv_iload_n X.1 X.2.1 dX12_readClause_86 rfl (lv_at hl 1 rfl) ?_
          refine lv_aload_n X.1 X.2.1 dX12_readClause_87 rfl (lv_at hl 2 rfl) ?_
          refine gf_X12_19e X hK hG h0 wl_6_197 dX12_readClause_88 (fun q171 hq171 kq171 => ?_)
          obtain ⟨t172, vt172, pt172, rt172⟩ := hC.2.2.2.1
          refine va_ldcS X.1 X.2.1 X.2.2.2.1 rt172 dX12_readClause_91 ?_
          refine ca_X12_readItems_es X hK hG hC hS hb pt172 a0 h0 f1 (iv_eqm (a' := 115) (b' := 115) c3 yf1 (iv_c 115 (a := 115) (b := 115) (by decide +kernel)) (by decide +kernel)) q171 hq171 hl0 b167 hby (by omega) (sg_htb (by decide +kernel)) rfl wl_7_146 hl.1 (rest := []) rfl (Nat.le_of_ble_eq_true rfl) ⟨Nat.le_of_ble_eq_true rfl, Nat.le_of_ble_eq_true rfl⟩ ⟨Nat.le_of_ble_eq_true rfl, Nat.le_of_ble_eq_true rfl⟩ dX12_readClause_93 (fun tg173 H locs htg173 hWg173 hS => ?_)
          rcases hWg173 with ⟨av174, fv174, pv174, gav174, gbv174, hBg173⟩ | ⟨wv174, fv174, zv174, pv174, w1v174, w2v174, hBg173⟩
          · have hG := hBg173.2.2.2
            rw [htg173] at hG
            have bv174 := vq_bd2 (k := 0) b167 (by decide) gav174 gbv174
            have p2v174 : a + 1 ≤ av174 := vq_pg pb167 gav174 (by decide)
            have hG : sgG (KE av174 av174 (-1) (-1) d1 d2 (zQ (fv174, q.2.1, q.2.2.1, q.2.2.2.1, q.2.2.2.2.1, true, q.2.2.2.2.2.2) o) P) D vwCl _ tys ad ks _ := hG
            have spr : vLcM (sgU2 P) (sgL2 P) q (vX (sgU2 P) (sgL2 P) a) = (true, vX (sgU2 P) (sgL2 P) av174, (fv174, q.2.1, q.2.2.1, q.2.2.2.1, q.2.2.2.2.1, true, q.2.2.2.2.2.2)) := vLcM_s mi170 k161 pv174
            exact sg_vret2 X hr hlk hS (fun t ht hW => (Or.inl ⟨_, _, _, spr, ⟨⟨by have h1 := hq0.1; show 0 ≤ q.2.2.2.1; omega, by have h1 := hq0.1; show q.2.2.2.1 ≤ 12; omega⟩, ⟨by have h1 := hq0.2; show 0 ≤ q.2.2.2.2.1; omega, by have h1 := hq0.2; show q.2.2.2.2.1 ≤ 8; omega⟩⟩, vq_pgw p2v174 (by decide), (bv174).2, sg_post hb hK hC hG hS ht hW⟩)) dX12_readClause_96
          · have hG := hBg173.2.2.2
            rw [htg173] at hG
            have spr : vLcM (sgU2 P) (sgL2 P) q (vX (sgU2 P) (sgL2 P) a) = (false, wv174, _) := vLcM_s mi170 k161 pv174
            have hG := ke_weak (b1 := 0) (b2 := 241) (g1 := wv174) (g2 := wv174) (e1 := d1) (e2 := d2) hG (Int.le_refl _) (Int.le_refl _) (Int.le_refl _) (Int.le_refl _) (Int.le_refl _) (Int.le_refl _)
            exact sg_vret2 X hr hlk hS (fun t ht hW => (Or.inr ⟨_, _, _, spr, ((And.intro w1v174 w2v174)).1, ((And.intro w1v174 w2v174)).2, sg_post hb hK hC hG hS ht hW⟩)) dX12_readClause_96
      · exact ((iv_no (a := 1) (b := 0) (iv_eqm c163 (iv_c 1 (a := 1) (b := 1) (by decide +kernel)) (iv_c 0 (a := 0) (b := 0) (by decide +kernel)) (by decide +kernel)) (by decide +kernel))).elim
    · have k162 : q.2.2.2.2.2.1 = true := zb_t zf159 c160
      refine lv_iload_n X.1 X.2.1 dX12_readClause_18 rfl (lv_at hl 0 rfl) ?_
      refine lv_bipush (v := 116) X.1 X.2.1 dX12_readClause_19 (by decide +kernel) ?_
      refine lv_icmp_ne (tgt := 33) X.1 X.2.1 dX12_readClause_21 (by decide) (fun c175 => ?_) (fun c175 => ?_)
      · have i176 : (vE (vC (sgU2 P) (sgL2 P) (vX (sgU2 P) (sgL2 P) a)) = (116 : Int)) = False := vq_ne c175 xf1 (by decide +kernel)
        have mi176 : (vC (sgU2 P) (sgL2 P) (vX (sgU2 P) (sgL2 P) a) = (116 : Int)) = False := vE_ne i176 (by decide)
        refine lv_iload_n X.1 X.2.1 dX12_readClause_33 rfl (lv_at hl 0 rfl) ?_
        refine lv_bipush (v := 98) X.1 X.2.1 dX12_readClause_34 (by decide +kernel) ?_
        refine lv_icmp_ne (tgt := 52) X.1 X.2.1 dX12_readClause_36 (by decide) (fun c178 => ?_) (fun c178 => ?_)
        · have i179 : (vE (vC (sgU2 P) (sgL2 P) (vX (sgU2 P) (sgL2 P) a)) = (98 : Int)) = False := vq_ne c178 xf1 (by decide +kernel)
          have mi179 : (vC (sgU2 P) (sgL2 P) (vX (sgU2 P) (sgL2 P) a) = (98 : Int)) = False := vE_ne i179 (by decide)
          refine lv_iconst (v := 0) X.1 X.2.1 dX12_readClause_52 (by decide +kernel) ?_
          refine lv_istore_n (lv' := [(2, .int 0), (1, .int f1), (0, .ref a0)]) X.1 X.2.1 dX12_readClause_53 rfl hl (by decide) rfl (fun ls hl => ?_)
          refine lv_iload_n X.1 X.2.1 dX12_readClause_54 rfl (lv_at hl 0 rfl) ?_
          refine lv_if_ne (tgt := 64) X.1 X.2.1 dX12_readClause_55 (by decide) (fun c181 => ?_) (fun c181 => ?_)
          · exact ((c181 (iv_one (iv_c 0 (a := 0) (b := 0) (by decide +kernel)) (iv_c 0 (a := 0) (b := 0) (by decide +kernel)) (by decide +kernel)))).elim
          · refine lv_aload_n X.1 X.2.1 dX12_readClause_58 rfl (lv_at hl 2 rfl) ?_
            refine ca_X12_fails_e X hK hG hC hS hb a0 h0 hl0 b2 wl_7_141 hl.1 (rest := []) rfl (Nat.le_of_ble_eq_true rfl) ⟨Nat.le_of_ble_eq_true rfl, Nat.le_of_ble_eq_true rfl⟩ ⟨Nat.le_of_ble_eq_true rfl, Nat.le_of_ble_eq_true rfl⟩ dX12_readClause_59 (fun f182 tf182 H locs htf182 hf182 hWf182 hS => ?_)
            have hG := hWf182.2.2.2
            rw [htf182] at hG
            obtain rfl : f182 = 0 := sg_is0 hf182
            refine lv_pop X.1 X.2.1 dX12_readClause_62 rfl ?_
            have spr : vLcM (sgU2 P) (sgL2 P) q (vX (sgU2 P) (sgL2 P) a) = (false, (vX (sgU2 P) (sgL2 P) a), _) := vLcM_n (fun z => absurd z.2 (by rw [k162]; decide)) (fun z => z.elim (fun z => (of_eq_false mi176) z.1) (fun z => (of_eq_false mi179) z.1))
            have hG := ke_weak (b1 := 0) (b2 := 241) (g1 := (vX (sgU2 P) (sgL2 P) a)) (g2 := (vX (sgU2 P) (sgL2 P) a)) (e1 := d1) (e2 := d2) hG (b2).1 (Int.le_trans (b2).2 (Int.le_trans hl0.2 (by decide))) (Int.le_refl _) (Int.le_refl _) (Int.le_refl _) (Int.le_refl _)
            exact sg_vret2 X hr hlk hS (fun t ht hW => (Or.inr ⟨_, _, _, spr, ((vq_bw b2 hl0)).1, ((vq_bw b2 hl0)).2, sg_post hb hK hC hG hS ht hW⟩)) dX12_readClause_63
        · have i180 : vE (vC (sgU2 P) (sgL2 P) (vX (sgU2 P) (sgL2 P) a)) = (98 : Int) := vq_eq c178 xf1 (by decide +kernel)
          have mi180 : vC (sgU2 P) (sgL2 P) (vX (sgU2 P) (sgL2 P) a) = (98 : Int) := vE_eq i180 (by decide)
          exact ((iv_no (a := 115) (b := 98) (iv_eqm c178 (iv_eqm (a' := 115) (b' := 115) c3 yf1 (iv_c 115 (a := 115) (b := 115) (by decide +kernel)) (by decide +kernel)) (iv_c 98 (a := 98) (b := 98) (by decide +kernel)) (by decide +kernel)) (by decide +kernel))).elim
      · have i177 : vE (vC (sgU2 P) (sgL2 P) (vX (sgU2 P) (sgL2 P) a)) = (116 : Int) := vq_eq c175 xf1 (by decide +kernel)
        have mi177 : vC (sgU2 P) (sgL2 P) (vX (sgU2 P) (sgL2 P) a) = (116 : Int) := vE_eq i177 (by decide)
        exact ((iv_no (a := 116) (b := 115) (iv_eqm c175 (iv_eqm (a' := 115) (b' := 115) c3 yf1 (iv_c 115 (a := 115) (b := 115) (by decide +kernel)) (by decide +kernel)) (iv_c 116 (a := 116) (b := 116) (by decide +kernel)) (by decide +kernel)) (by decide +kernel))).elim

theorem ca_X12_readClause_e  {a d1 d2 : Int} {q : sgLwn} {o : sgO}  (X : CallFix p m c cc nL s args sg_tbl own) (hK : va_K D vwCl tys s) (hG : sgG (KE a a (-1) (-1) d1 d2 (zQ q o) P) D vwCl (fun q : Nat => base ≤ q) tys ad ks H) (hC : sgC base s) (hS : va_S (fun q : Nat => base ≤ q) s.heap H locs) (hb : base ≤ s.heap.size) (a0 : Nat) (h0 : isK ad ks 12 a0) (hl0 : 0 ≤ sgL2 P ∧ sgL2 P ≤ 240) (hav : 0 ≤ a ∧ a ≤ sgL2 P) (hby : sgBy2 P) (hd0 : 0 ≤ d1 ∧ d2 ≤ 6) (hq0 : (0 ≤ q.2.2.2.1 ∧ q.2.2.2.1 ≤ 12) ∧ (0 ≤ q.2.2.2.2.1 ∧ q.2.2.2.2.1 ≤ 8)) (hl : Cond.methodLink own index yX12_readClause ∈ sg_tbl) (hsize : ls.size = nL) (hst : st0 = [].reverse ++ .ref a0 :: rest) (hW : (rest.map fun v => v.category).sum ≤ 8) (hR : 7 ≤ R.frames ∧ 154 ≤ R.locals) (hf : cells ≤ R.cells ∧ slots ≤ R.slots) (hdg : decode cc pc = .ok (.invokevirtual index, 3)) (kk : ∀ (t : State) (H1 : Heap) (locs1 : List Loc), t.heap = H1 → ((fun t => (∃ (a1 : Int) (q1 : sgLwn) (o1 : sgO), vLcM (sgU2 P) (sgL2 P) q (vX (sgU2 P) (sgL2 P) a) = (true, vX (sgU2 P) (sgL2 P) a1, q1) ∧ ((0 ≤ q1.2.2.2.1 ∧ q1.2.2.2.1 ≤ 12) ∧ (0 ≤ q1.2.2.2.2.1 ∧ q1.2.2.2.2.1 ≤ 8)) ∧ a + 1 ≤ a1 ∧ a1 ≤ sgL2 P ∧ sgB (KE a1 a1 (-1) (-1) d1 d2 (zQ q1 o1) P) D vwCl base tys ad ks t) ∨ (∃ (w : Int) (q1 : sgLwn) (z1 : sgZt), vLcM (sgU2 P) (sgL2 P) q (vX (sgU2 P) (sgL2 P) a) = (false, w, q1) ∧ 0 ≤ w ∧ w ≤ 240 ∧ sgB (KE 0 241 w w d1 d2 z1 P) D vwCl base tys ad ks t)) t) → va_S (fun q : Nat => base ≤ q) s.heap H1 locs1 → W p l e R s m args below meth c H1 locs1 cells slots Q (F0 m (pc + 3) ls rest)) : W p l e R s m args below meth c H locs cells slots Q (F0 m pc ls st0) :=
  sg_callV2v X hK hG hC hS hb (m_X12_readClause_e l a0 h0 hl0 hav hby hd0 hq0) h0 (k := 12) (ci := 12) rfl (C := RX12) (T := TX12) (N := 53) rfl wl_7_136 wl_1_13 wl_7_135 wl_0_51 (n := 0) (by decide +kernel) rfl rfl rfl hl hsize hst hW hR hf hdg kk
end
