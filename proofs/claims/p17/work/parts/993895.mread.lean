
section
variable {p : Program} {l : Launch} {e : Env} {R : Room} {s : State} {m : MethodId} {args : Array Value} {below : List Frame} {meth : Method} {c : Code} {H : Heap} {locs : List Loc} {cells slots : Nat} {Q : State → Prop} {cc : ByteArray} {nL pc : Nat} {ls : Array Slot} {rest : List Value} {own : String} {D : va_G} {A : Nat → Prop} {tys : List (ClassId × FieldType)} {ad ks : List Nat} {P : sgPm} {H0 : Heap} {index : Nat} {base : Nat} {st0 : List Value} {a : Nat}
theorem gg_X12_19e  {a1 a2 f1 f2 d1 d2 : Int} {z : sgZt} (X : CallFix p m c cc nL s args sg_tbl own) (hK : va_K D vwCl tys s) (hG : sgG (KE a1 a2 f1 f2 d1 d2 z P) D vwCl A tys ad ks H) (ha : isK ad ks 12 a) (hl : Cond.fieldLink own index "LawnAheadModel" "ruleRead" "[I" ∈ sg_tbl) {v : Value} (hf : fld D H 12 a 19 v) (hdg : decode cc pc = .ok (.getfield index, 3)) (kk : W p l e R s m args below meth c H locs cells slots Q (F0 m (pc + 3) ls (v :: rest))) : W p l e R s m args below meth c H locs cells slots Q (F0 m pc ls (.ref a :: rest)) :=
  sg_getf X hK hG ha (k := 12) (ci := 12) rfl (C := RX12) (T := TX12) (N := 53) rfl inL_X12 19 (by decide) (show 19 < 53 by decide) hl (fun _ h => h) hf hdg kk
set_option maxHeartbeats 8000000 in
set_option maxRecDepth 100000 in
theorem m_X12_readLawn_e (l : Launch) {D : va_G} {base : Nat} {tys : List (ClassId × FieldType)} {ad ks : List Nat} {P : sgPm} (a0 : Nat) (h0 : isK ad ks 12 a0) (hl0 : 0 ≤ sgL2 P ∧ sgL2 P ≤ 240) (hby : sgBy2 P) : Met l yX12_readLawn (Cond.code yX12_readLawn cX12_readLawn 3 none :: sg_tbl) ({ frames := 7, cells := 0, slots := 0, locals := 154 }) (va_Pc [.ref a0] (sgB (KT P) D vwCl base tys ad ks)) (va_Qv (fun (_ : Unit) => True) (fun _ => fun t => (∃ (a1 : Int) (q1 : sgLwn) (o1 : sgO), vLnM (sgU2 P) (sgL2 P) lw0 (vX (sgU2 P) (sgL2 P) 0) = (true, a1, q1) ∧ vC (sgU2 P) (sgL2 P) a1 = 0 ∧ lwOk q1 ∧ ruOk q1.1 ∧ 0 ≤ a1 ∧ a1 ≤ sgL2 P ∧ sgB (KE a1 a1 (-1) (-1) 0 6 (zQ q1 o1) P) D vwCl base tys ad ks t) ∨ (∃ (ok : Bool) (w : Int) (q1 : sgLwn) (z1 : sgZt), vLnM (sgU2 P) (sgL2 P) lw0 (vX (sgU2 P) (sgL2 P) 0) = (ok, w, q1) ∧ (ok = false ∨ ¬ (vC (sgU2 P) (sgL2 P) w = 0 ∧ lwOk q1)) ∧ 0 ≤ w ∧ w ≤ 240 ∧ sgB (KE 0 241 w w 0 6 z1 P) D vwCl base tys ad ks t)) (fun q : Nat => base ≤ q)) 0 0 (fun q : Nat => base ≤ q) := by
  refine sg_ofW (by decide +kernel) (Nat.le_of_ble_eq_true rfl) (fun p e s m below meth c X hr hlk hb hK hC hG ls hl => ?_)
  have hS : va_S (fun q : Nat => base ≤ q) s.heap s.heap [] := va_S.rf
  have hl : lv_has ls 3 [(0, .ref a0)] := hl
  refine lv_aload_n X.1 X.2.1 dX12_readLawn_0 rfl (lv_at hl 0 rfl) ?_
  refine lv_aload_n X.1 X.2.1 dX12_readLawn_1 rfl (lv_at hl 0 rfl) ?_
  refine gf_X12_1 X hK hG h0 wl_6_179 dX12_readLawn_2 (fun q1 hq1 kq1 => ?_)
  refine lv_iconst (v := 0) X.1 X.2.1 dX12_readLawn_5 (by decide +kernel) ?_
  refine lv_aload_n X.1 X.2.1 dX12_readLawn_6 rfl (lv_at hl 0 rfl) ?_
  refine gf_X12_6 X hK hG h0 wl_6_184 dX12_readLawn_7 (fun f2 hf2 pf2 kf2 => ?_)
  have xf2 : f2.toInt = sgL2 P := sgC240_eq pf2 hl0.1 hl0.2
  refine ca_X12_starts_e X hK hG hC hS hb a0 h0 q1 hq1 0 (iv_c 0 (a := 0) (b := 0) (by decide +kernel)) f2 hf2 hl0 xf2 wl_7_126 hl.1 (rest := []) rfl (Nat.le_of_ble_eq_true rfl) ⟨Nat.le_of_ble_eq_true rfl, Nat.le_of_ble_eq_true rfl⟩ ⟨Nat.le_of_ble_eq_true rfl, Nat.le_of_ble_eq_true rfl⟩ dX12_readLawn_10 (fun tg3 H locs htg3 hWg3 hS => ?_)
  have hG := hWg3.2.2.2
  rw [htg3] at hG
  have hG : sgG (KE 0 0 (-1) (-1) 0 6 (sgZ0.1, sgZ0.2.1, sgZ0.2.2) P) D vwCl _ tys ad ks _ := hG
  refine lv_aload_n X.1 X.2.1 dX12_readLawn_13 rfl (lv_at hl 0 rfl) ?_
  refine lv_iconst (v := 0) X.1 X.2.1 dX12_readLawn_14 (by decide +kernel) ?_
  refine pf_X12_25Z X hK hG hS h0 wl_6_203 dX12_readLawn_15 (fun H locs hG hS => ?_)
  rw [show (0 : Int32).toInt = 0 from by decide +kernel] at hG
  have hG : sgG (KE 0 0 (-1) (-1) 0 6 ((zUp sgZ0.1 25 0), sgZ0.2.1, sgZ0.2.2) P) D vwCl _ tys ad ks _ := hG
  refine lv_aload_n X.1 X.2.1 dX12_readLawn_18 rfl (lv_at hl 0 rfl) ?_
  refine lv_iconst (v := 0) X.1 X.2.1 dX12_readLawn_19 (by decide +kernel) ?_
  refine pf_X12_26Z X hK hG hS h0 wl_6_204 dX12_readLawn_20 (fun H locs hG hS => ?_)
  rw [show (0 : Int32).toInt = 0 from by decide +kernel] at hG
  have hG : sgG (KE 0 0 (-1) (-1) 0 6 ((zUp (zUp sgZ0.1 25 0) 26 0), sgZ0.2.1, sgZ0.2.2) P) D vwCl _ tys ad ks _ := hG
  refine lv_aload_n X.1 X.2.1 dX12_readLawn_23 rfl (lv_at hl 0 rfl) ?_
  refine lv_iconst (v := 0) X.1 X.2.1 dX12_readLawn_24 (by decide +kernel) ?_
  refine pf_X12_27Z X hK hG hS h0 wl_6_205 dX12_readLawn_25 (fun H locs hG hS => ?_)
  rw [show (0 : Int32).toInt = 0 from by decide +kernel] at hG
  have hG : sgG (KE 0 0 (-1) (-1) 0 6 ((zUp (zUp (zUp sgZ0.1 25 0) 26 0) 27 0), sgZ0.2.1, sgZ0.2.2) P) D vwCl _ tys ad ks _ := hG
  refine lv_aload_n X.1 X.2.1 dX12_readLawn_28 rfl (lv_at hl 0 rfl) ?_
  refine lv_iconst (v := 0) X.1 X.2.1 dX12_readLawn_29 (by decide +kernel) ?_
  refine pf_X12_28Z X hK hG hS h0 wl_6_206 dX12_readLawn_30 (fun H locs hG hS => ?_)
  rw [show (0 : Int32).toInt = 0 from by decide +kernel] at hG
  have hG : sgG (KE 0 0 (-1) (-1) 0 6 ((zUp (zUp (zUp (zUp sgZ0.1 25 0) 26 0) 27 0) 28 0), sgZ0.2.1, sgZ0.2.2) P) D vwCl _ tys ad ks _ := hG
  refine lv_aload_n X.1 X.2.1 dX12_readLawn_33 rfl (lv_at hl 0 rfl) ?_
  refine lv_iconst (v := 0) X.1 X.2.1 dX12_readLawn_34 (by decide +kernel) ?_
  refine pf_X12_30Z X hK hG hS h0 wl_6_208 (iv_of (iv_c 0 (a := 0) (b := 0) (by decide +kernel)) (a' := 0) (b' := 1) (by decide +kernel)) dX12_readLawn_35 (fun H locs hG hS => ?_)
  rw [show (0 : Int32).toInt = 0 from by decide +kernel] at hG
  have hG : sgG (KE 0 0 (-1) (-1) 0 6 ((zUp (zUp (zUp (zUp (zUp sgZ0.1 25 0) 26 0) 27 0) 28 0) 30 0), sgZ0.2.1, sgZ0.2.2) P) D vwCl _ tys ad ks _ := hG
  refine lv_aload_n X.1 X.2.1 dX12_readLawn_38 rfl (lv_at hl 0 rfl) ?_
  refine lv_iconst (v := 0) X.1 X.2.1 dX12_readLawn_39 (by decide +kernel) ?_
  refine pf_X12_31Z X hK hG hS h0 wl_6_209 (iv_of (iv_c 0 (a := 0) (b := 0) (by decide +kernel)) (a' := 0) (b' := 1) (by decide +kernel)) dX12_readLawn_40 (fun H locs hG hS => ?_)
  rw [show (0 : Int32).toInt = 0 from by decide +kernel] at hG
  have hG : sgG (KE 0 0 (-1) (-1) 0 6 ((zUp (zUp (zUp (zUp (zUp (zUp sgZ0.1 25 0) 26 0) 27 0) 28 0) 30 0) 31 0), sgZ0.2.1, sgZ0.2.2) P) D vwCl _ tys ad ks _ := hG
  refine lv_iconst (v := 0) X.1 X.2.1 dX12_readLawn_43 (by decide +kernel) ?_
  refine lv_istore_n (lv' := [(1, .int 0), (0, .ref a0)]) X.1 X.2.1 dX12_readLawn_44 rfl hl (by decide) rfl (fun ls hl => ?_)
  refine lv_iload_n X.1 X.2.1 dX12_readLawn_45 rfl (lv_at hl 0 rfl) ?_
  refine lv_bipush (v := 7) X.1 X.2.1 dX12_readLawn_46 (by decide +kernel) ?_
  refine lv_icmp_ge (tgt := 69) X.1 X.2.1 dX12_readLawn_48 (by decide) (fun c4 => ?_) (fun c4 => ?_)
  · exact ((iv_no (iv_le (b' := 0) c4 (iv_c 7 (a := 7) (b := 7) (by decide +kernel)) (iv_c 0 (a := 0) (b := 0) (by decide +kernel)) (by decide +kernel)) (by decide +kernel))).elim
  · refine lv_aload_n X.1 X.2.1 dX12_readLawn_51 rfl (lv_at hl 1 rfl) ?_
    refine gf_X12_19e X hK hG h0 wl_6_197 dX12_readLawn_52 (fun q5 hq5 kq5 => ?_)
    refine lv_iload_n X.1 X.2.1 dX12_readLawn_55 rfl (lv_at hl 0 rfl) ?_
    refine lv_bipush (v := 115) X.1 X.2.1 dX12_readLawn_56 (by decide +kernel) ?_
    refine lv_iload_n X.1 X.2.1 dX12_readLawn_58 rfl (lv_at hl 0 rfl) ?_
    refine ca_X12_usual_k0 X hK (ke_toKT hG (by decide) (by decide) (by decide) (by decide)) hC (fun _ h => h) hS hb 115 (iv_c 115 (a := 115) (b := 115) (by decide +kernel)) 0 (iv_c 0 (a := 0) (b := 0) (by decide +kernel)) wl_7_130 hl.1 (rest := [.int 0, .ref q5]) rfl (Nat.le_of_ble_eq_true rfl) ⟨Nat.le_of_ble_eq_true rfl, Nat.le_of_ble_eq_true rfl⟩ ⟨Nat.le_of_ble_eq_true rfl, Nat.le_of_ble_eq_true rfl⟩ dX12_readLawn_59 (fun f6 locs hf6 hS => ?_)
    refine as_50Z X hK hG hS hq5 (iv_vpin (iv_c 0 (a := 0) (b := 0) (by decide +kernel)) (by decide +kernel)) dX12_readLawn_62 (fun H locs hG hS => ?_)
    rw [show (0 : Int32).toNatClampNeg = 0 from sg_cl (iv_c 0 (a := 0) (b := 0) (by decide +kernel)) (by decide), (vq_iv hf6)] at hG
    have hG : sgG (KE 0 0 (-1) (-1) 0 6 ((zUp (zUp (zUp (zUp (zUp (zUp sgZ0.1 25 0) 26 0) 27 0) 28 0) 30 0) 31 0), (zUp sgZ0.2.1 0 5), sgZ0.2.2) P) D vwCl _ tys ad ks _ := hG
    obtain ⟨y7, ey7⟩ : ∃ y : Int32, y = 0 + Int32.ofInt 1 := ⟨_, rfl⟩
    have xy7 : y7.toInt = (0 + 1) := sg_exadd ey7 (iv_c 0 (a := 0) (b := 0) (by decide +kernel)) (iv_c _ (a := 1) (b := 1) (by decide +kernel)) (by decide +kernel) (by decide +kernel) (by decide +kernel)
    refine lv_iinc (v := y7) (lv' := [(1, .int y7), (0, .ref a0)]) X.1 X.2.1 dX12_readLawn_63 hl (k := 0) rfl ey7.symm (by decide) rfl (fun ls hl => ?_)
    refine lv_goto (tgt := 45) X.1 X.2.1 dX12_readLawn_66 (by decide) ?_
    refine lv_iload_n X.1 X.2.1 dX12_readLawn_45 rfl (lv_at hl 0 rfl) ?_
    refine lv_bipush (v := 7) X.1 X.2.1 dX12_readLawn_46 (by decide +kernel) ?_
    refine lv_icmp_ge (tgt := 69) X.1 X.2.1 dX12_readLawn_48 (by decide) (fun c8 => ?_) (fun c8 => ?_)
    · have i9 : ¬ ((0 + 1) : Int) < (7 : Int) := vq_le c8 (by decide +kernel) xy7
      exact ((iv_no (iv_le (b' := 1) c8 (iv_c 7 (a := 7) (b := 7) (by decide +kernel)) (iv_add (a' := 1) (b' := 1) ey7 (iv_c 0 (a := 0) (b := 0) (by decide +kernel)) (iv_c _ (a := 1) (b := 1) (by decide +kernel)) (by decide +kernel)) (by decide +kernel)) (by decide +kernel))).elim
    · have i10 : ((0 + 1) : Int) < (7 : Int) := vq_lt (iv_gt_of c8) xy7 (by decide +kernel)
      refine lv_aload_n X.1 X.2.1 dX12_readLawn_51 rfl (lv_at hl 1 rfl) ?_
      refine gf_X12_19e X hK hG h0 wl_6_197 dX12_readLawn_52 (fun q11 hq11 kq11 => ?_)
      refine lv_iload_n X.1 X.2.1 dX12_readLawn_55 rfl (lv_at hl 0 rfl) ?_
      refine lv_bipush (v := 115) X.1 X.2.1 dX12_readLawn_56 (by decide +kernel) ?_
      refine lv_iload_n X.1 X.2.1 dX12_readLawn_58 rfl (lv_at hl 0 rfl) ?_
      refine ca_X12_usual_k1 X hK (ke_toKT hG (by decide) (by decide) (by decide) (by decide)) hC (fun _ h => h) hS hb 115 (iv_c 115 (a := 115) (b := 115) (by decide +kernel)) y7 (iv_add (a' := 1) (b' := 1) ey7 (iv_c 0 (a := 0) (b := 0) (by decide +kernel)) (iv_c _ (a := 1) (b := 1) (by decide +kernel)) (by decide +kernel)) wl_7_130 hl.1 (rest := [.int y7, .ref q11]) rfl (Nat.le_of_ble_eq_true rfl) ⟨Nat.le_of_ble_eq_true rfl, Nat.le_of_ble_eq_true rfl⟩ ⟨Nat.le_of_ble_eq_true rfl, Nat.le_of_ble_eq_true rfl⟩ dX12_readLawn_59 (fun f12 locs hf12 hS => ?_)
      refine as_50Z X hK hG hS hq11 (iv_vpin (iv_add (a' := 1) (b' := 1) ey7 (iv_c 0 (a := 0) (b := 0) (by decide +kernel)) (iv_c _ (a := 1) (b := 1) (by decide +kernel)) (by decide +kernel)) (by decide +kernel)) dX12_readLawn_62 (fun H locs hG hS => ?_)
      rw [show (y7 : Int32).toNatClampNeg = 1 from sg_cl (iv_add (a' := 1) (b' := 1) ey7 (iv_c 0 (a := 0) (b := 0) (by decide +kernel)) (iv_c _ (a := 1) (b := 1) (by decide +kernel)) (by decide +kernel)) (by decide), (vq_iv hf12)] at hG
      have hG : sgG (KE 0 0 (-1) (-1) 0 6 ((zUp (zUp (zUp (zUp (zUp (zUp sgZ0.1 25 0) 26 0) 27 0) 28 0) 30 0) 31 0), (zUp (zUp sgZ0.2.1 0 5) 1 4), sgZ0.2.2) P) D vwCl _ tys ad ks _ := hG
      obtain ⟨y13, ey13⟩ : ∃ y : Int32, y = y7 + Int32.ofInt 1 := ⟨_, rfl⟩
      have xy13 : y13.toInt = ((0 + 1) + 1) := sg_exadd ey13 (iv_add (a' := 1) (b' := 1) ey7 (iv_c 0 (a := 0) (b := 0) (by decide +kernel)) (iv_c _ (a := 1) (b := 1) (by decide +kernel)) (by decide +kernel)) (iv_c _ (a := 1) (b := 1) (by decide +kernel)) (by decide +kernel) xy7 (by decide +kernel)
      refine lv_iinc (v := y13) (lv' := [(1, .int y13), (0, .ref a0)]) X.1 X.2.1 dX12_readLawn_63 hl (k := 0) rfl ey13.symm (by decide) rfl (fun ls hl => ?_)
      refine lv_goto (tgt := 45) X.1 X.2.1 dX12_readLawn_66 (by decide) ?_
      refine lv_iload_n X.1 X.2.1 dX12_readLawn_45 rfl (lv_at hl 0 rfl) ?_
      refine lv_bipush (v := 7) X.1 X.2.1 dX12_readLawn_46 (by decide +kernel) ?_
      refine lv_icmp_ge (tgt := 69) X.1 X.2.1 dX12_readLawn_48 (by decide) (fun c14 => ?_) (fun c14 => ?_)
      · have i15 : ¬ (((0 + 1) + 1) : Int) < (7 : Int) := vq_le c14 (by decide +kernel) xy13
        exact ((iv_no (iv_le (b' := 2) c14 (iv_c 7 (a := 7) (b := 7) (by decide +kernel)) (iv_add (a' := 2) (b' := 2) ey13 (iv_add (a' := 1) (b' := 1) ey7 (iv_c 0 (a := 0) (b := 0) (by decide +kernel)) (iv_c _ (a := 1) (b := 1) (by decide +kernel)) (by decide +kernel)) (iv_c _ (a := 1) (b := 1) (by decide +kernel)) (by decide +kernel)) (by decide +kernel)) (by decide +kernel))).elim
      · have i16 : (((0 + 1) + 1) : Int) < (7 : Int) := vq_lt (iv_gt_of c14) xy13 (by decide +kernel)
        refine lv_aload_n X.1 X.2.1 dX12_readLawn_51 rfl (lv_at hl 1 rfl) ?_
        refine gf_X12_19e X hK hG h0 wl_6_197 dX12_readLawn_52 (fun q17 hq17 kq17 => ?_)
        refine lv_iload_n X.1 X.2.1 dX12_readLawn_55 rfl (lv_at hl 0 rfl) ?_
        refine lv_bipush (v := 115) X.1 X.2.1 dX12_readLawn_56 (by decide +kernel) ?_
        refine lv_iload_n X.1 X.2.1 dX12_readLawn_58 rfl (lv_at hl 0 rfl) ?_
        refine ca_X12_usual_k2 X hK (ke_toKT hG (by decide) (by decide) (by decide) (by decide)) hC (fun _ h => h) hS hb 115 (iv_c 115 (a := 115) (b := 115) (by decide +kernel)) y13 (iv_add (a' := 2) (b' := 2) ey13 (iv_add (a' := 1) (b' := 1) ey7 (iv_c 0 (a := 0) (b := 0) (by decide +kernel)) (iv_c _ (a := 1) (b := 1) (by decide +kernel)) (by decide +kernel)) (iv_c _ (a := 1) (b := 1) (by decide +kernel)) (by decide +kernel)) wl_7_130 hl.1 (rest := [.int y13, .ref q17]) rfl (Nat.le_of_ble_eq_true rfl) ⟨Nat.le_of_ble_eq_true rfl, Nat.le_of_ble_eq_true rfl⟩ ⟨Nat.le_of_ble_eq_true rfl, Nat.le_of_ble_eq_true rfl⟩ dX12_readLawn_59 (fun f18 locs hf18 hS => ?_)
        refine as_50Z X hK hG hS hq17 (iv_vpin (iv_add (a' := 2) (b' := 2) ey13 (iv_add (a' := 1) (b' := 1) ey7 (iv_c 0 (a := 0) (b := 0) (by decide +kernel)) (iv_c _ (a := 1) (b := 1) (by decide +kernel)) (by decide +kernel)) (iv_c _ (a := 1) (b := 1) (by decide +kernel)) (by decide +kernel)) (by decide +kernel)) dX12_readLawn_62 (fun H locs hG hS => ?_)
        rw [show (y13 : Int32).toNatClampNeg = 2 from sg_cl (iv_add (a' := 2) (b' := 2) ey13 (iv_add (a' := 1) (b' := 1) ey7 (iv_c 0 (a := 0) (b := 0) (by decide +kernel)) (iv_c _ (a := 1) (b := 1) (by decide +kernel)) (by decide +kernel)) (iv_c _ (a := 1) (b := 1) (by decide +kernel)) (by decide +kernel)) (by decide), (vq_iv hf18)] at hG
        have hG : sgG (KE 0 0 (-1) (-1) 0 6 ((zUp (zUp (zUp (zUp (zUp (zUp sgZ0.1 25 0) 26 0) 27 0) 28 0) 30 0) 31 0), (zUp (zUp (zUp sgZ0.2.1 0 5) 1 4) 2 3), sgZ0.2.2) P) D vwCl _ tys ad ks _ := hG
        obtain ⟨y19, ey19⟩ : ∃ y : Int32, y = y13 + Int32.ofInt 1 := ⟨_, rfl⟩
        have xy19 : y19.toInt = (((0 + 1) + 1) + 1) := sg_exadd ey19 (iv_add (a' := 2) (b' := 2) ey13 (iv_add (a' := 1) (b' := 1) ey7 (iv_c 0 (a := 0) (b := 0) (by decide +kernel)) (iv_c _ (a := 1) (b := 1) (by decide +kernel)) (by decide +kernel)) (iv_c _ (a := 1) (b := 1) (by decide +kernel)) (by decide +kernel)) (iv_c _ (a := 1) (b := 1) (by decide +kernel)) (by decide +kernel) xy13 (by decide +kernel)
        refine lv_iinc (v := y19) (lv' := [(1, .int y19), (0, .ref a0)]) X.1 X.2.1 dX12_readLawn_63 hl (k := 0) rfl ey19.symm (by decide) rfl (fun ls hl => ?_)
        refine lv_goto (tgt := 45) X.1 X.2.1 dX12_readLawn_66 (by decide) ?_
        refine lv_iload_n X.1 X.2.1 dX12_readLawn_45 rfl (lv_at hl 0 rfl) ?_
        refine lv_bipush (v := 7) X.1 X.2.1 dX12_readLawn_46 (by decide +kernel) ?_
        refine lv_icmp_ge (tgt := 69) X.1 X.2.1 dX12_readLawn_48 (by decide) (fun c20 => ?_) (fun c20 => ?_)
        · have i21 : ¬ ((((0 + 1) + 1) + 1) : Int) < (7 : Int) := vq_le c20 (by decide +kernel) xy19
          exact ((iv_no (iv_le (b' := 3) c20 (iv_c 7 (a := 7) (b := 7) (by decide +kernel)) (iv_add (a' := 3) (b' := 3) ey19 (iv_add (a' := 2) (b' := 2) ey13 (iv_add (a' := 1) (b' := 1) ey7 (iv_c 0 (a := 0) (b := 0) (by decide +kernel)) (iv_c _ (a := 1) (b := 1) (by decide +kernel)) (by decide +kernel)) (iv_c _ (a := 1) (b := 1) (by decide +kernel)) (by decide +kernel)) (iv_c _ (a := 1) (b := 1) (by decide +kernel)) (by decide +kernel)) (by decide +kernel)) (by decide +kernel))).elim
        · have i22 : ((((0 + 1) + 1) + 1) : Int) < (7 : Int) := vq_lt (iv_gt_of c20) xy19 (by decide +kernel)
          refine lv_aload_n X.1 X.2.1 dX12_readLawn_51 rfl (lv_at hl 1 rfl) ?_
          refine gf_X12_19e X hK hG h0 wl_6_197 dX12_readLawn_52 (fun q23 hq23 kq23 => ?_)
          refine lv_iload_n X.1 X.2.1 dX12_readLawn_55 rfl (lv_at hl 0 rfl) ?_
          refine lv_bipush (v := 115) X.1 X.2.1 dX12_readLawn_56 (by decide +kernel) ?_
          refine lv_iload_n X.1 X.2.1 dX12_readLawn_58 rfl (lv_at hl 0 rfl) ?_
          refine ca_X12_usual_k3 X hK (ke_toKT hG (by decide) (by decide) (by decide) (by decide)) hC (fun _ h => h) hS hb 115 (iv_c 115 (a := 115) (b := 115) (by decide +kernel)) y19 (iv_add (a' := 3) (b' := 3) ey19 (iv_add (a' := 2) (b' := 2) ey13 (iv_add (a' := 1) (b' := 1) ey7 (iv_c 0 (a := 0) (b := 0) (by decide +kernel)) (iv_c _ (a := 1) (b := 1) (by decide +kernel)) (by decide +kernel)) (iv_c _ (a := 1) (b := 1) (by decide +kernel)) (by decide +kernel)) (iv_c _ (a := 1) (b := 1) (by decide +kernel)) (by decide +kernel)) wl_7_130 hl.1 (rest := [.int y19, .ref q23]) rfl (Nat.le_of_ble_eq_true rfl) ⟨Nat.le_of_ble_eq_true rfl, Nat.le_of_ble_eq_true rfl⟩ ⟨Nat.le_of_ble_eq_true rfl, Nat.le_of_ble_eq_true rfl⟩ dX12_readLawn_59 (fun f24 locs hf24 hS => ?_)
          refine as_50Z X hK hG hS hq23 (iv_vpin (iv_add (a' := 3) (b' := 3) ey19 (iv_add (a' := 2) (b' := 2) ey13 (iv_add (a' := 1) (b' := 1) ey7 (iv_c 0 (a := 0) (b := 0) (by decide +kernel)) (iv_c _ (a := 1) (b := 1) (by decide +kernel)) (by decide +kernel)) (iv_c _ (a := 1) (b := 1) (by decide +kernel)) (by decide +kernel)) (iv_c _ (a := 1) (b := 1) (by decide +kernel)) (by decide +kernel)) (by decide +kernel)) dX12_readLawn_62 (fun H locs hG hS => ?_)
          rw [show (y19 : Int32).toNatClampNeg = 3 from sg_cl (iv_add (a' := 3) (b' := 3) ey19 (iv_add (a' := 2) (b' := 2) ey13 (iv_add (a' := 1) (b' := 1) ey7 (iv_c 0 (a := 0) (b := 0) (by decide +kernel)) (iv_c _ (a := 1) (b := 1) (by decide +kernel)) (by decide +kernel)) (iv_c _ (a := 1) (b := 1) (by decide +kernel)) (by decide +kernel)) (iv_c _ (a := 1) (b := 1) (by decide +kernel)) (by decide +kernel)) (by decide), (vq_iv hf24)] at hG
          have hG : sgG (KE 0 0 (-1) (-1) 0 6 ((zUp (zUp (zUp (zUp (zUp (zUp sgZ0.1 25 0) 26 0) 27 0) 28 0) 30 0) 31 0), (zUp (zUp (zUp (zUp sgZ0.2.1 0 5) 1 4) 2 3) 3 2), sgZ0.2.2) P) D vwCl _ tys ad ks _ := hG
          obtain ⟨y25, ey25⟩ : ∃ y : Int32, y = y19 + Int32.ofInt 1 := ⟨_, rfl⟩
          have xy25 : y25.toInt = ((((0 + 1) + 1) + 1) + 1) := sg_exadd ey25 (iv_add (a' := 3) (b' := 3) ey19 (iv_add (a' := 2) (b' := 2) ey13 (iv_add (a' := 1) (b' := 1) ey7 (iv_c 0 (a := 0) (b := 0) (by decide +kernel)) (iv_c _ (a := 1) (b := 1) (by decide +kernel)) (by decide +kernel)) (iv_c _ (a := 1) (b := 1) (by decide +kernel)) (by decide +kernel)) (iv_c _ (a := 1) (b := 1) (by decide +kernel)) (by decide +kernel)) (iv_c _ (a := 1) (b := 1) (by decide +kernel)) (by decide +kernel) xy19 (by decide +kernel)
          refine lv_iinc (v := y25) (lv' := [(1, .int y25), (0, .ref a0)]) X.1 X.2.1 dX12_readLawn_63 hl (k := 0) rfl ey25.symm (by decide) rfl (fun ls hl => ?_)
          refine lv_goto (tgt := 45) X.1 X.2.1 dX12_readLawn_66 (by decide) ?_
          refine lv_iload_n X.1 X.2.1 dX12_readLawn_45 rfl (lv_at hl 0 rfl) ?_
          refine lv_bipush (v := 7) X.1 X.2.1 dX12_readLawn_46 (by decide +kernel) ?_
          refine lv_icmp_ge (tgt := 69) X.1 X.2.1 dX12_readLawn_48 (by decide) (fun c26 => ?_) (fun c26 => ?_)
          · have i27 : ¬ (((((0 + 1) + 1) + 1) + 1) : Int) < (7 : Int) := vq_le c26 (by decide +kernel) xy25
            exact ((iv_no (iv_le (b' := 4) c26 (iv_c 7 (a := 7) (b := 7) (by decide +kernel)) (iv_add (a' := 4) (b' := 4) ey25 (iv_add (a' := 3) (b' := 3) ey19 (iv_add (a' := 2) (b' := 2) ey13 (iv_add (a' := 1) (b' := 1) ey7 (iv_c 0 (a := 0) (b := 0) (by decide +kernel)) (iv_c _ (a := 1) (b := 1) (by decide +kernel)) (by decide +kernel)) (iv_c _ (a := 1) (b := 1) (by decide +kernel)) (by decide +kernel)) (iv_c _ (a := 1) (b := 1) (by decide +kernel)) (by decide +kernel)) (iv_c _ (a := 1) (b := 1) (by decide +kernel)) (by decide +kernel)) (by decide +kernel)) (by decide +kernel))).elim
          · have i28 : (((((0 + 1) + 1) + 1) + 1) : Int) < (7 : Int) := vq_lt (iv_gt_of c26) xy25 (by decide +kernel)
            refine lv_aload_n X.1 X.2.1 dX12_readLawn_51 rfl (lv_at hl 1 rfl) ?_
            refine gf_X12_19e X hK hG h0 wl_6_197 dX12_readLawn_52 (fun q29 hq29 kq29 => ?_)
            refine lv_iload_n X.1 X.2.1 dX12_readLawn_55 rfl (lv_at hl 0 rfl) ?_
            refine lv_bipush (v := 115) X.1 X.2.1 dX12_readLawn_56 (by decide +kernel) ?_
            refine lv_iload_n X.1 X.2.1 dX12_readLawn_58 rfl (lv_at hl 0 rfl) ?_
            refine ca_X12_usual_k4 X hK (ke_toKT hG (by decide) (by decide) (by decide) (by decide)) hC (fun _ h => h) hS hb 115 (iv_c 115 (a := 115) (b := 115) (by decide +kernel)) y25 (iv_add (a' := 4) (b' := 4) ey25 (iv_add (a' := 3) (b' := 3) ey19 (iv_add (a' := 2) (b' := 2) ey13 (iv_add (a' := 1) (b' := 1) ey7 (iv_c 0 (a := 0) (b := 0) (by decide +kernel)) (iv_c _ (a := 1) (b := 1) (by decide +kernel)) (by decide +kernel)) (iv_c _ (a := 1) (b := 1) (by decide +kernel)) (by decide +kernel)) (iv_c _ (a := 1) (b := 1) (by decide +kernel)) (by decide +kernel)) (iv_c _ (a := 1) (b := 1) (by decide +kernel)) (by decide +kernel)) wl_7_130 hl.1 (rest := [.int y25, .ref q29]) rfl (Nat.le_of_ble_eq_true rfl) ⟨Nat.le_of_ble_eq_true rfl, Nat.le_of_ble_eq_true rfl⟩ ⟨Nat.le_of_ble_eq_true rfl, Nat.le_of_ble_eq_true rfl⟩ dX12_readLawn_59 (fun f30 locs hf30 hS => ?_)
            refine as_50Z X hK hG hS hq29 (iv_vpin (iv_add (a' := 4) (b' := 4) ey25 (iv_add (a' := 3) (b' := 3) ey19 (iv_add (a' := 2) (b' := 2) ey13 (iv_add (a' := 1) (b' := 1) ey7 (iv_c 0 (a := 0) (b := 0) (by decide +kernel)) (iv_c _ (a := 1) (b := 1) (by decide +kernel)) (by decide +kernel)) (iv_c _ (a := 1) (b := 1) (by decide +kernel)) (by decide +kernel)) (iv_c _ (a := 1) (b := 1) (by decide +kernel)) (by decide +kernel)) (iv_c _ (a := 1) (b := 1) (by decide +kernel)) (by decide +kernel)) (by decide +kernel)) dX12_readLawn_62 (fun H locs hG hS => ?_)
            rw [show (y25 : Int32).toNatClampNeg = 4 from sg_cl (iv_add (a' := 4) (b' := 4) ey25 (iv_add (a' := 3) (b' := 3) ey19 (iv_add (a' := 2) (b' := 2) ey13 (iv_add (a' := 1) (b' := 1) ey7 (iv_c 0 (a := 0) (b := 0) (by decide +kernel)) (iv_c _ (a := 1) (b := 1) (by decide +kernel)) (by decide +kernel)) (iv_c _ (a := 1) (b := 1) (by decide +kernel)) (by decide +kernel)) (iv_c _ (a := 1) (b := 1) (by decide +kernel)) (by decide +kernel)) (iv_c _ (a := 1) (b := 1) (by decide +kernel)) (by decide +kernel)) (by decide), (vq_iv hf30)] at hG
            have hG : sgG (KE 0 0 (-1) (-1) 0 6 ((zUp (zUp (zUp (zUp (zUp (zUp sgZ0.1 25 0) 26 0) 27 0) 28 0) 30 0) 31 0), (zUp (zUp (zUp (zUp (zUp sgZ0.2.1 0 5) 1 4) 2 3) 3 2) 4 0), sgZ0.2.2) P) D vwCl _ tys ad ks _ := hG
            obtain ⟨y31, ey31⟩ : ∃ y : Int32, y = y25 + Int32.ofInt 1 := ⟨_, rfl⟩
            have xy31 : y31.toInt = (((((0 + 1) + 1) + 1) + 1) + 1) := sg_exadd ey31 (iv_add (a' := 4) (b' := 4) ey25 (iv_add (a' := 3) (b' := 3) ey19 (iv_add (a' := 2) (b' := 2) ey13 (iv_add (a' := 1) (b' := 1) ey7 (iv_c 0 (a := 0) (b := 0) (by decide +kernel)) (iv_c _ (a := 1) (b := 1) (by decide +kernel)) (by decide +kernel)) (iv_c _ (a := 1) (b := 1) (by decide +kernel)) (by decide +kernel)) (iv_c _ (a := 1) (b := 1) (by decide +kernel)) (by decide +kernel)) (iv_c _ (a := 1) (b := 1) (by decide +kernel)) (by decide +kernel)) (iv_c _ (a := 1) (b := 1) (by decide +kernel)) (by decide +kernel) xy25 (by decide +kernel)
            refine lv_iinc (v := y31) (lv' := [(1, .int y31), (0, .ref a0)]) X.1 X.2.1 dX12_readLawn_63 hl (k := 0) rfl ey31.symm (by decide) rfl (fun ls hl => ?_)
            refine lv_goto (tgt := 45) X.1 X.2.1 dX12_readLawn_66 (by decide) ?_
            refine lv_iload_n X.1 X.2.1 dX12_readLawn_45 rfl (lv_at hl 0 rfl) ?_
            refine lv_bipush (v := 7) X.1 X.2.1 dX12_readLawn_46 (by decide +kernel) ?_
            refine lv_icmp_ge (tgt := 69) X.1 X.2.1 dX12_readLawn_48 (by decide) (fun c32 => ?_) (fun c32 => ?_)
            · have i33 : ¬ ((((((0 + 1) + 1) + 1) + 1) + 1) : Int) < (7 : Int) := vq_le c32 (by decide +kernel) xy31
              exact ((iv_no (iv_le (b' := 5) c32 (iv_c 7 (a := 7) (b := 7) (by decide +kernel)) (iv_add (a' := 5) (b' := 5) ey31 (iv_add (a' := 4) (b' := 4) ey25 (iv_add (a' := 3) (b' := 3) ey19 (iv_add (a' := 2) (b' := 2) ey13 (iv_add (a' := 1) (b' := 1) ey7 (iv_c 0 (a := 0) (b := 0) (by decide +kernel)) (iv_c _ (a := 1) (b := 1) (by decide +kernel)) (by decide +kernel)) (iv_c _ (a := 1) (b := 1) (by decide +kernel)) (by decide +kernel)) (iv_c _ (a := 1) (b := 1) (by decide +kernel)) (by decide +kernel)) (iv_c _ (a := 1) (b := 1) (by decide +kernel)) (by decide +kernel)) (iv_c _ (a := 1) (b := 1) (by decide +kernel)) (by decide +kernel)) (by decide +kernel)) (by decide +kernel))).elim
            · have i34 : ((((((0 + 1) + 1) + 1) + 1) + 1) : Int) < (7 : Int) := vq_lt (iv_gt_of c32) xy31 (by decide +kernel)
              refine lv_aload_n X.1 X.2.1 dX12_readLawn_51 rfl (lv_at hl 1 rfl) ?_
              refine gf_X12_19e X hK hG h0 wl_6_197 dX12_readLawn_52 (fun q35 hq35 kq35 => ?_)
              refine lv_iload_n X.1 X.2.1 dX12_readLawn_55 rfl (lv_at hl 0 rfl) ?_
              refine lv_bipush (v := 115) X.1 X.2.1 dX12_readLawn_56 (by decide +kernel) ?_
              refine lv_iload_n X.1 X.2.1 dX12_readLawn_58 rfl (lv_at hl 0 rfl) ?_
              refine ca_X12_usual_k5 X hK (ke_toKT hG (by decide) (by decide) (by decide) (by decide)) hC (fun _ h => h) hS hb 115 (iv_c 115 (a := 115) (b := 115) (by decide +kernel)) y31 (iv_add (a' := 5) (b' := 5) ey31 (iv_add (a' := 4) (b' := 4) ey25 (iv_add (a' := 3) (b' := 3) ey19 (iv_add (a' := 2) (b' := 2) ey13 (iv_add (a' := 1) (b' := 1) ey7 (iv_c 0 (a := 0) (b := 0) (by decide +kernel)) (iv_c _ (a := 1) (b := 1) (by decide +kernel)) (by decide +kernel)) (iv_c _ (a := 1) (b := 1) (by decide +kernel)) (by decide +kernel)) (iv_c _ (a := 1) (b := 1) (by decide +kernel)) (by decide +kernel)) (iv_c _ (a := 1) (b := 1) (by decide +kernel)) (by decide +kernel)) (iv_c _ (a := 1) (b := 1) (by decide +kernel)) (by decide +kernel)) wl_7_130 hl.1 (rest := [.int y31, .ref q35]) rfl (Nat.le_of_ble_eq_true rfl) ⟨Nat.le_of_ble_eq_true rfl, Nat.le_of_ble_eq_true rfl⟩ ⟨Nat.le_of_ble_eq_true rfl, Nat.le_of_ble_eq_true rfl⟩ dX12_readLawn_59 (fun f36 locs hf36 hS => ?_)
              refine as_50Z X hK hG hS hq35 (iv_vpin (iv_add (a' := 5) (b' := 5) ey31 (iv_add (a' := 4) (b' := 4) ey25 (iv_add (a' := 3) (b' := 3) ey19 (iv_add (a' := 2) (b' := 2) ey13 (iv_add (a' := 1) (b' := 1) ey7 (iv_c 0 (a := 0) (b := 0) (by decide +kernel)) (iv_c _ (a := 1) (b := 1) (by decide +kernel)) (by decide +kernel)) (iv_c _ (a := 1) (b := 1) (by decide +kernel)) (by decide +kernel)) (iv_c _ (a := 1) (b := 1) (by decide +kernel)) (by decide +kernel)) (iv_c _ (a := 1) (b := 1) (by decide +kernel)) (by decide +kernel)) (iv_c _ (a := 1) (b := 1) (by decide +kernel)) (by decide +kernel)) (by decide +kernel)) dX12_readLawn_62 (fun H locs hG hS => ?_)
              rw [show (y31 : Int32).toNatClampNeg = 5 from sg_cl (iv_add (a' := 5) (b' := 5) ey31 (iv_add (a' := 4) (b' := 4) ey25 (iv_add (a' := 3) (b' := 3) ey19 (iv_add (a' := 2) (b' := 2) ey13 (iv_add (a' := 1) (b' := 1) ey7 (iv_c 0 (a := 0) (b := 0) (by decide +kernel)) (iv_c _ (a := 1) (b := 1) (by decide +kernel)) (by decide +kernel)) (iv_c _ (a := 1) (b := 1) (by decide +kernel)) (by decide +kernel)) (iv_c _ (a := 1) (b := 1) (by decide +kernel)) (by decide +kernel)) (iv_c _ (a := 1) (b := 1) (by decide +kernel)) (by decide +kernel)) (iv_c _ (a := 1) (b := 1) (by decide +kernel)) (by decide +kernel)) (by decide), (vq_iv hf36)] at hG
              have hG : sgG (KE 0 0 (-1) (-1) 0 6 ((zUp (zUp (zUp (zUp (zUp (zUp sgZ0.1 25 0) 26 0) 27 0) 28 0) 30 0) 31 0), (zUp (zUp (zUp (zUp (zUp (zUp sgZ0.2.1 0 5) 1 4) 2 3) 3 2) 4 0) 5 8), sgZ0.2.2) P) D vwCl _ tys ad ks _ := hG
              obtain ⟨y37, ey37⟩ : ∃ y : Int32, y = y31 + Int32.ofInt 1 := ⟨_, rfl⟩
              have xy37 : y37.toInt = ((((((0 + 1) + 1) + 1) + 1) + 1) + 1) := sg_exadd ey37 (iv_add (a' := 5) (b' := 5) ey31 (iv_add (a' := 4) (b' := 4) ey25 (iv_add (a' := 3) (b' := 3) ey19 (iv_add (a' := 2) (b' := 2) ey13 (iv_add (a' := 1) (b' := 1) ey7 (iv_c 0 (a := 0) (b := 0) (by decide +kernel)) (iv_c _ (a := 1) (b := 1) (by decide +kernel)) (by decide +kernel)) (iv_c _ (a := 1) (b := 1) (by decide +kernel)) (by decide +kernel)) (iv_c _ (a := 1) (b := 1) (by decide +kernel)) (by decide +kernel)) (iv_c _ (a := 1) (b := 1) (by decide +kernel)) (by decide +kernel)) (iv_c _ (a := 1) (b := 1) (by decide +kernel)) (by decide +kernel)) (iv_c _ (a := 1) (b := 1) (by decide +kernel)) (by decide +kernel) xy31 (by decide +kernel)
              refine lv_iinc (v := y37) (lv' := [(1, .int y37), (0, .ref a0)]) X.1 X.2.1 dX12_readLawn_63 hl (k := 0) rfl ey37.symm (by decide) rfl (fun ls hl => ?_)
              refine lv_goto (tgt := 45) X.1 X.2.1 dX12_readLawn_66 (by decide) ?_
              refine lv_iload_n X.1 X.2.1 dX12_readLawn_45 rfl (lv_at hl 0 rfl) ?_
              refine lv_bipush (v := 7) X.1 X.2.1 dX12_readLawn_46 (by decide +kernel) ?_
              refine lv_icmp_ge (tgt := 69) X.1 X.2.1 dX12_readLawn_48 (by decide) (fun c38 => ?_) (fun c38 => ?_)
              · have i39 : ¬ (((((((0 + 1) + 1) + 1) + 1) + 1) + 1) : Int) < (7 : Int) := vq_le c38 (by decide +kernel) xy37
                exact ((iv_no (iv_le (b' := 6) c38 (iv_c 7 (a := 7) (b := 7) (by decide +kernel)) (iv_add (a' := 6) (b' := 6) ey37 (iv_add (a' := 5) (b' := 5) ey31 (iv_add (a' := 4) (b' := 4) ey25 (iv_add (a' := 3) (b' := 3) ey19 (iv_add (a' := 2) (b' := 2) ey13 (iv_add (a' := 1) (b' := 1) ey7 (iv_c 0 (a := 0) (b := 0) (by decide +kernel)) (iv_c _ (a := 1) (b := 1) (by decide +kernel)) (by decide +kernel)) (iv_c _ (a := 1) (b := 1) (by decide +kernel)) (by decide +kernel)) (iv_c _ (a := 1) (b := 1) (by decide +kernel)) (by decide +kernel)) (iv_c _ (a := 1) (b := 1) (by decide +kernel)) (by decide +kernel)) (iv_c _ (a := 1) (b := 1) (by decide +kernel)) (by decide +kernel)) (iv_c _ (a := 1) (b := 1) (by decide +kernel)) (by decide +kernel)) (by decide +kernel)) (by decide +kernel))).elim
              · have i40 : (((((((0 + 1) + 1) + 1) + 1) + 1) + 1) : Int) < (7 : Int) := vq_lt (iv_gt_of c38) xy37 (by decide +kernel)
                refine lv_aload_n X.1 X.2.1 dX12_readLawn_51 rfl (lv_at hl 1 rfl) ?_
                refine gf_X12_19e X hK hG h0 wl_6_197 dX12_readLawn_52 (fun q41 hq41 kq41 => ?_)
                refine lv_iload_n X.1 X.2.1 dX12_readLawn_55 rfl (lv_at hl 0 rfl) ?_
                refine lv_bipush (v := 115) X.1 X.2.1 dX12_readLawn_56 (by decide +kernel) ?_
                refine lv_iload_n X.1 X.2.1 dX12_readLawn_58 rfl (lv_at hl 0 rfl) ?_
                refine ca_X12_usual_k6 X hK (ke_toKT hG (by decide) (by decide) (by decide) (by decide)) hC (fun _ h => h) hS hb 115 (iv_c 115 (a := 115) (b := 115) (by decide +kernel)) y37 (iv_add (a' := 6) (b' := 6) ey37 (iv_add (a' := 5) (b' := 5) ey31 (iv_add (a' := 4) (b' := 4) ey25 (iv_add (a' := 3) (b' := 3) ey19 (iv_add (a' := 2) (b' := 2) ey13 (iv_add (a' := 1) (b' := 1) ey7 (iv_c 0 (a := 0) (b := 0) (by decide +kernel)) (iv_c _ (a := 1) (b := 1) (by decide +kernel)) (by decide +kernel)) (iv_c _ (a := 1) (b := 1) (by decide +kernel)) (by decide +kernel)) (iv_c _ (a := 1) (b := 1) (by decide +kernel)) (by decide +kernel)) (iv_c _ (a := 1) (b := 1) (by decide +kernel)) (by decide +kernel)) (iv_c _ (a := 1) (b := 1) (by decide +kernel)) (by decide +kernel)) (iv_c _ (a := 1) (b := 1) (by decide +kernel)) (by decide +kernel)) wl_7_130 hl.1 (rest := [.int y37, .ref q41]) rfl (Nat.le_of_ble_eq_true rfl) ⟨Nat.le_of_ble_eq_true rfl, Nat.le_of_ble_eq_true rfl⟩ ⟨Nat.le_of_ble_eq_true rfl, Nat.le_of_ble_eq_true rfl⟩ dX12_readLawn_59 (fun f42 locs hf42 hS => ?_)
                refine as_50Z X hK hG hS hq41 (iv_vpin (iv_add (a' := 6) (b' := 6) ey37 (iv_add (a' := 5) (b' := 5) ey31 (iv_add (a' := 4) (b' := 4) ey25 (iv_add (a' := 3) (b' := 3) ey19 (iv_add (a' := 2) (b' := 2) ey13 (iv_add (a' := 1) (b' := 1) ey7 (iv_c 0 (a := 0) (b := 0) (by decide +kernel)) (iv_c _ (a := 1) (b := 1) (by decide +kernel)) (by decide +kernel)) (iv_c _ (a := 1) (b := 1) (by decide +kernel)) (by decide +kernel)) (iv_c _ (a := 1) (b := 1) (by decide +kernel)) (by decide +kernel)) (iv_c _ (a := 1) (b := 1) (by decide +kernel)) (by decide +kernel)) (iv_c _ (a := 1) (b := 1) (by decide +kernel)) (by decide +kernel)) (iv_c _ (a := 1) (b := 1) (by decide +kernel)) (by decide +kernel)) (by decide +kernel)) dX12_readLawn_62 (fun H locs hG hS => ?_)
                rw [show (y37 : Int32).toNatClampNeg = 6 from sg_cl (iv_add (a' := 6) (b' := 6) ey37 (iv_add (a' := 5) (b' := 5) ey31 (iv_add (a' := 4) (b' := 4) ey25 (iv_add (a' := 3) (b' := 3) ey19 (iv_add (a' := 2) (b' := 2) ey13 (iv_add (a' := 1) (b' := 1) ey7 (iv_c 0 (a := 0) (b := 0) (by decide +kernel)) (iv_c _ (a := 1) (b := 1) (by decide +kernel)) (by decide +kernel)) (iv_c _ (a := 1) (b := 1) (by decide +kernel)) (by decide +kernel)) (iv_c _ (a := 1) (b := 1) (by decide +kernel)) (by decide +kernel)) (iv_c _ (a := 1) (b := 1) (by decide +kernel)) (by decide +kernel)) (iv_c _ (a := 1) (b := 1) (by decide +kernel)) (by decide +kernel)) (iv_c _ (a := 1) (b := 1) (by decide +kernel)) (by decide +kernel)) (by decide), (vq_iv hf42)] at hG
                have hG : sgG (KE 0 0 (-1) (-1) 0 6 ((zUp (zUp (zUp (zUp (zUp (zUp sgZ0.1 25 0) 26 0) 27 0) 28 0) 30 0) 31 0), (zUp (zUp (zUp (zUp (zUp (zUp (zUp sgZ0.2.1 0 5) 1 4) 2 3) 3 2) 4 0) 5 8) 6 0), sgZ0.2.2) P) D vwCl _ tys ad ks _ := hG
                obtain ⟨y43, ey43⟩ : ∃ y : Int32, y = y37 + Int32.ofInt 1 := ⟨_, rfl⟩
                have xy43 : y43.toInt = (((((((0 + 1) + 1) + 1) + 1) + 1) + 1) + 1) := sg_exadd ey43 (iv_add (a' := 6) (b' := 6) ey37 (iv_add (a' := 5) (b' := 5) ey31 (iv_add (a' := 4) (b' := 4) ey25 (iv_add (a' := 3) (b' := 3) ey19 (iv_add (a' := 2) (b' := 2) ey13 (iv_add (a' := 1) (b' := 1) ey7 (iv_c 0 (a := 0) (b := 0) (by decide +kernel)) (iv_c _ (a := 1) (b := 1) (by decide +kernel)) (by decide +kernel)) (iv_c _ (a := 1) (b := 1) (by decide +kernel)) (by decide +kernel)) (iv_c _ (a := 1) (b := 1) (by decide +kernel)) (by decide +kernel)) (iv_c _ (a := 1) (b := 1) (by decide +kernel)) (by decide +kernel)) (iv_c _ (a := 1) (b := 1) (by decide +kernel)) (by decide +kernel)) (iv_c _ (a := 1) (b := 1) (by decide +kernel)) (by decide +kernel)) (iv_c _ (a := 1) (b := 1) (by decide +kernel)) (by decide +kernel) xy37 (by decide +kernel)
                refine lv_iinc (v := y43) (lv' := [(1, .int y43), (0, .ref a0)]) X.1 X.2.1 dX12_readLawn_63 hl (k := 0) rfl ey43.symm (by decide) rfl (fun ls hl => ?_)
                refine lv_goto (tgt := 45) X.1 X.2.1 dX12_readLawn_66 (by decide) ?_
                refine lv_iload_n X.1 X.2.1 dX12_readLawn_45 rfl (lv_at hl 0 rfl) ?_
                refine lv_bipush (v := 7) X.1 X.2.1 dX12_readLawn_46 (by decide +kernel) ?_
                refine lv_icmp_ge (tgt := 69) X.1 X.2.1 dX12_readLawn_48 (by decide) (fun c44 => ?_) (fun c44 => ?_)
                · have i45 : ¬ ((((((((0 + 1) + 1) + 1) + 1) + 1) + 1) + 1) : Int) < (7 : Int) := vq_le c44 (by decide +kernel) xy43
                  rw [zq_start] at hG
                  have hG : sgG (KE 0 0 (-1) (-1) 0 6 (zQ lw0 sgZ0.2.2) P) D vwCl _ tys ad ks _ := hG
                  refine lv_iconst (v := 1) X.1 X.2.1 dX12_readLawn_69 (by decide +kernel) ?_
                  refine lv_istore_n (lv' := [(1, .int 1), (0, .ref a0)]) X.1 X.2.1 dX12_readLawn_70 rfl hl (by decide) rfl (fun ls hl => ?_)
                  refine lv_iload_n X.1 X.2.1 dX12_readLawn_71 rfl (lv_at hl 0 rfl) ?_
                  refine lv_if_eq (tgt := 127) X.1 X.2.1 dX12_readLawn_72 (by decide) (fun c47 => ?_) (fun c47 => ?_)
                  · exact ((iv_no (a := 1) (b := 0) (iv_eqm c47 (iv_c 1 (a := 1) (b := 1) (by decide +kernel)) (iv_c 0 (a := 0) (b := 0) (by decide +kernel)) (by decide +kernel)) (by decide +kernel))).elim
                  · refine lv_aload_n X.1 X.2.1 dX12_readLawn_75 rfl (lv_at hl 1 rfl) ?_
                    refine gf_X12_11e X hK hG h0 wl_6_189 dX12_readLawn_76 (fun f48 hf48 => ?_)
                    refine lv_iconst (v := (-1)) X.1 X.2.1 dX12_readLawn_79 (by decide +kernel) ?_
                    refine lv_icmp_ne (tgt := 127) X.1 X.2.1 dX12_readLawn_80 (by decide) (fun c49 => ?_) (fun c49 => ?_)
                    · have i50 : (((-1) : Int) = ((-1) : Int)) = False := vq_ne c49 (vq_iv hf48) (by decide +kernel)
                      exact ((c49 (iv_one hf48 (iv_c (-1) (a := (-1)) (b := (-1)) (by decide +kernel)) (by decide +kernel)))).elim
                    · have i51 : ((-1) : Int) = ((-1) : Int) := vq_eq c49 (vq_iv hf48) (by decide +kernel)
                      have B52_83 : ∀ (N : Nat) (H : Heap) (locs : List Loc) (ls : Array Slot) (a52 : Int) (q52 : sgLwn) (o52 : sgO), 0 ≤ a52 → a52 ≤ sgL2 P → sgG (KE a52 a52 (-1) (-1) 0 6 (zQ q52 o52) P) D vwCl (fun q : Nat => base ≤ q) tys ad ks H → va_S (fun q : Nat => base ≤ q) s.heap H locs → lv_has ls 3 [(0, .ref a0)] → (vLnM (sgU2 P) (sgL2 P) lw0 (vX (sgU2 P) (sgL2 P) 0) = vLnM (sgU2 P) (sgL2 P) q52 (vX (sgU2 P) (sgL2 P) a52) ∧ ((0 ≤ q52.2.2.2.1 ∧ q52.2.2.2.1 ≤ 12) ∧ (0 ≤ q52.2.2.2.2.1 ∧ q52.2.2.2.2.1 ≤ 8))) → (242 - a52).toNat ≤ N → W p l e (headSpec (Cond.code yX12_readLawn cX12_readLawn 3 none :: sg_tbl) ({ frames := 7, cells := 0, slots := 0, locals := 154 })).room s m #[.ref a0] below meth c H locs 0 0 (MQ below (va_Qv (fun (_ : Unit) => True) (fun _ => fun t => (∃ (a1 : Int) (q1 : sgLwn) (o1 : sgO), vLnM (sgU2 P) (sgL2 P) lw0 (vX (sgU2 P) (sgL2 P) 0) = (true, a1, q1) ∧ vC (sgU2 P) (sgL2 P) a1 = 0 ∧ lwOk q1 ∧ ruOk q1.1 ∧ 0 ≤ a1 ∧ a1 ≤ sgL2 P ∧ sgB (KE a1 a1 (-1) (-1) 0 6 (zQ q1 o1) P) D vwCl base tys ad ks t) ∨ (∃ (ok : Bool) (w : Int) (q1 : sgLwn) (z1 : sgZt), vLnM (sgU2 P) (sgL2 P) lw0 (vX (sgU2 P) (sgL2 P) 0) = (ok, w, q1) ∧ (ok = false ∨ ¬ (vC (sgU2 P) (sgL2 P) w = 0 ∧ lwOk q1)) ∧ 0 ≤ w ∧ w ≤ 240 ∧ sgB (KE 0 241 w w 0 6 z1 P) D vwCl base tys ad ks t)) (fun q : Nat => base ≤ q)) #[.ref a0] s 0 0 (fun q : Nat => base ≤ q)) (F0 m 83 ls []) := by
                        intro N; induction N with
                        | zero =>
                          intro H locs ls a52 q52 o52 jl52 jm52 hG hS hl xf52 hN
                          exact absurd hN (by have := jm52; omega)
                        | succ N ih52 =>
                          intro H locs ls a52 q52 o52 jl52 jm52 hG hS hl xf52 hN52
                          refine lv_aload_n X.1 X.2.1 dX12_readLawn_83 rfl (lv_at hl 0 rfl) ?_
                          refine ca_X12_readClause_e X hK hG hC hS hb a0 h0 hl0 (And.intro jl52 jm52) hby (by omega) xf52.2 wl_7_133 hl.1 (rest := []) rfl (Nat.le_of_ble_eq_true rfl) ⟨Nat.le_of_ble_eq_true rfl, Nat.le_of_ble_eq_true rfl⟩ ⟨Nat.le_of_ble_eq_true rfl, Nat.le_of_ble_eq_true rfl⟩ dX12_readLawn_84 (fun tg53 H locs htg53 hWg53 hS => ?_)
                          rcases hWg53 with ⟨av54, qv54, ov54, pv54, hqv54, gav54, gbv54, hBg53⟩ | ⟨wv54, qv54, zv54, pv54, w1v54, w2v54, hBg53⟩
                          · have hG := hBg53.2.2.2
                            rw [htg53] at hG
                            have bv54 := vq_bd2 (k := 1) (And.intro jl52 jm52) (by decide) gav54 gbv54
                            refine lv_aload_n X.1 X.2.1 dX12_readLawn_87 rfl (lv_at hl 0 rfl) ?_
                            refine gf_X12_11e X hK hG h0 wl_6_189 dX12_readLawn_88 (fun f55 hf55 => ?_)
                            refine lv_iconst (v := (-1)) X.1 X.2.1 dX12_readLawn_91 (by decide +kernel) ?_
                            refine lv_icmp_ne (tgt := 108) X.1 X.2.1 dX12_readLawn_92 (by decide) (fun c56 => ?_) (fun c56 => ?_)
                            · have i57 : (((-1) : Int) = ((-1) : Int)) = False := vq_ne c56 (vq_iv hf55) (by decide +kernel)
                              exact ((c56 (iv_one hf55 (iv_c (-1) (a := (-1)) (b := (-1)) (by decide +kernel)) (by decide +kernel)))).elim
                            · have i58 : ((-1) : Int) = ((-1) : Int) := vq_eq c56 (vq_iv hf55) (by decide +kernel)
                              refine lv_aload_n X.1 X.2.1 dX12_readLawn_95 rfl (lv_at hl 0 rfl) ?_
                              refine ca_X12_look_e X hK hG hC hS hb a0 h0 hl0 bv54 hby wl_7_137 hl.1 (rest := []) rfl (Nat.le_of_ble_eq_true rfl) ⟨Nat.le_of_ble_eq_true rfl, Nat.le_of_ble_eq_true rfl⟩ ⟨Nat.le_of_ble_eq_true rfl, Nat.le_of_ble_eq_true rfl⟩ dX12_readLawn_96 (fun f59 tf59 H locs htf59 hf59 hWf59 hS => ?_)
                              have hBf59 := hWf59.2
                              have xf59 := hWf59.1
                              have hG := hBf59.2.2.2
                              rw [htf59] at hG
                              have b60 := vq_bdL (b := sgU2 P) bv54
                              have eb60 : av54 ≤ vX (sgU2 P) (sgL2 P) av54 := (vX_ge (sgU2 P) (sgL2 P) av54).1
                              have yf59 : iv (-1) 255 f59 := vq_lk xf59 (vC_by2 hby _)
                              refine lv_bipush (v := 59) X.1 X.2.1 dX12_readLawn_99 (by decide +kernel) ?_
                              refine lv_icmp_ne (tgt := 108) X.1 X.2.1 dX12_readLawn_101 (by decide) (fun c61 => ?_) (fun c61 => ?_)
                              · have i62 : (vE (vC (sgU2 P) (sgL2 P) (vX (sgU2 P) (sgL2 P) av54)) = (59 : Int)) = False := vq_ne c61 xf59 (by decide +kernel)
                                have mi62 : (vC (sgU2 P) (sgL2 P) (vX (sgU2 P) (sgL2 P) av54) = (59 : Int)) = False := vE_ne i62 (by decide)
                                refine lv_iconst (v := 0) X.1 X.2.1 dX12_readLawn_108 (by decide +kernel) ?_
                                refine lv_istore_n (lv' := [(1, .int 0), (0, .ref a0)]) X.1 X.2.1 dX12_readLawn_109 rfl hl (by decide) rfl (fun ls hl => ?_)
                                refine lv_iload_n X.1 X.2.1 dX12_readLawn_110 rfl (lv_at hl 0 rfl) ?_
                                refine lv_if_eq (tgt := 71) X.1 X.2.1 dX12_readLawn_111 (by decide) (fun c64 => ?_) (fun c64 => ?_)
                                · refine lv_iload_n X.1 X.2.1 dX12_readLawn_71 rfl (lv_at hl 0 rfl) ?_
                                  refine lv_if_eq (tgt := 127) X.1 X.2.1 dX12_readLawn_72 (by decide) (fun c65 => ?_) (fun c65 => ?_)
                                  · refine lv_aload_n X.1 X.2.1 dX12_readLawn_127 rfl (lv_at hl 1 rfl) ?_
                                    refine gf_X12_11e X hK hG h0 wl_6_189 dX12_readLawn_128 (fun f66 hf66 => ?_)
                                    refine lv_iconst (v := (-1)) X.1 X.2.1 dX12_readLawn_131 (by decide +kernel) ?_
                                    refine lv_icmp_eq (tgt := 136) X.1 X.2.1 dX12_readLawn_132 (by decide) (fun c67 => ?_) (fun c67 => ?_)
                                    · have i68 : ((-1) : Int) = ((-1) : Int) := vq_eq c67 (vq_iv hf66) (by decide +kernel)
                                      refine lv_aload_n X.1 X.2.1 dX12_readLawn_136 rfl (lv_at hl 1 rfl) ?_
                                      refine ca_X12_look_e X hK hG hC hS hb a0 h0 hl0 b60 hby wl_7_137 hl.1 (rest := []) rfl (Nat.le_of_ble_eq_true rfl) ⟨Nat.le_of_ble_eq_true rfl, Nat.le_of_ble_eq_true rfl⟩ ⟨Nat.le_of_ble_eq_true rfl, Nat.le_of_ble_eq_true rfl⟩ dX12_readLawn_137 (fun f70 tf70 H locs htf70 hf70 hWf70 hS => ?_)
                                      have hBf70 := hWf70.2
                                      have xf70 := hWf70.1
                                      have hG := hBf70.2.2.2
                                      rw [htf70] at hG
                                      rw [vX_idem] at hG xf70
                                      have yf70 : iv (-1) 255 f70 := vq_lk xf70 (vC_by2 hby _)
                                      refine lv_iconst (v := (-1)) X.1 X.2.1 dX12_readLawn_140 (by decide +kernel) ?_
                                      refine lv_icmp_ne (tgt := 196) X.1 X.2.1 dX12_readLawn_141 (by decide) (fun c71 => ?_) (fun c71 => ?_)
                                      · have i72 : (vE (vC (sgU2 P) (sgL2 P) (vX (sgU2 P) (sgL2 P) av54)) = ((-1) : Int)) = False := vq_ne c71 xf70 (by decide +kernel)
                                        have mi72 : (vC (sgU2 P) (sgL2 P) (vX (sgU2 P) (sgL2 P) av54) = (0 : Int)) = False := vE_nend i72
                                        refine lv_iconst (v := 0) X.1 X.2.1 dX12_readLawn_196 (by decide +kernel) ?_
                                        refine lv_istore_n (lv' := [(2, .int 0), (1, .int 0), (0, .ref a0)]) X.1 X.2.1 dX12_readLawn_197 rfl hl (by decide) rfl (fun ls hl => ?_)
                                        refine lv_iload_n X.1 X.2.1 dX12_readLawn_198 rfl (lv_at hl 0 rfl) ?_
                                        refine lv_if_eq (tgt := 216) X.1 X.2.1 dX12_readLawn_199 (by decide) (fun c74 => ?_) (fun c74 => ?_)
                                        · refine lv_aload_n X.1 X.2.1 dX12_readLawn_216 rfl (lv_at hl 2 rfl) ?_
                                          refine ca_X12_fails_e X hK hG hC hS hb a0 h0 hl0 b60 wl_7_141 hl.1 (rest := []) rfl (Nat.le_of_ble_eq_true rfl) ⟨Nat.le_of_ble_eq_true rfl, Nat.le_of_ble_eq_true rfl⟩ ⟨Nat.le_of_ble_eq_true rfl, Nat.le_of_ble_eq_true rfl⟩ dX12_readLawn_217 (fun f75 tf75 H locs htf75 hf75 hWf75 hS => ?_)
                                          have hG := hWf75.2.2.2
                                          rw [htf75] at hG
                                          obtain rfl : f75 = 0 := sg_is0 hf75
                                          refine lv_pop X.1 X.2.1 dX12_readLawn_220 rfl ?_
                                          have spr : vLnM (sgU2 P) (sgL2 P) lw0 (vX (sgU2 P) (sgL2 P) 0) = (true, vX (sgU2 P) (sgL2 P) av54, qv54) := xf52.1.trans (vLnM_end pv54 (Or.inr mi62))
                                          have hG := ke_weak (b1 := 0) (b2 := 241) (g1 := (vX (sgU2 P) (sgL2 P) av54)) (g2 := (vX (sgU2 P) (sgL2 P) av54)) (e1 := 0) (e2 := 6) hG (b60).1 (Int.le_trans (b60).2 (Int.le_trans hl0.2 (by decide))) (Int.le_refl _) (Int.le_refl _) (by decide) (by decide)
                                          exact sg_vret2 X hr hlk hS (fun t ht hW => (Or.inr ⟨_, _, _, _, spr, (Or.inr (fun z => of_eq_false mi72 z.1)), ((vq_bw b60 hl0)).1, ((vq_bw b60 hl0)).2, sg_post hb hK hC hG hS ht hW⟩)) dX12_readLawn_221
                                        · exact ((c74 (iv_one (iv_c 0 (a := 0) (b := 0) (by decide +kernel)) (iv_c 0 (a := 0) (b := 0) (by decide +kernel)) (by decide +kernel)))).elim
                                      · have i73 : vE (vC (sgU2 P) (sgL2 P) (vX (sgU2 P) (sgL2 P) av54)) = ((-1) : Int) := vq_eq c71 xf70 (by decide +kernel)
                                        have mi73 : vC (sgU2 P) (sgL2 P) (vX (sgU2 P) (sgL2 P) av54) = (0 : Int) := vE_end i73 (vC_by2 hby _)
                                        have hln : vLnM (sgU2 P) (sgL2 P) lw0 (vX (sgU2 P) (sgL2 P) 0) = (true, vX (sgU2 P) (sgL2 P) av54, qv54) := xf52.1.trans (vLnM_end pv54 (Or.inr mi62))
                                        have hrk : ruOk qv54.1 := by have z := vLnM_in (b := sgU2 P) (n := sgL2 P) lw0 (vX (sgU2 P) (sgL2 P) 0) ruOk_us; rw [hln] at z; exact z
                                        obtain ⟨hr0, hr1, hr2⟩ := ruOk_w hrk
                                        refine lv_aload_n X.1 X.2.1 dX12_readLawn_144 rfl (lv_at hl 1 rfl) ?_
                                        refine gf_X12_31e X hK hG h0 wl_6_209 dX12_readLawn_145 (fun f76 hf76 => ?_)
                                        have zf76 : f76.toInt = (bif qv54.2.2.2.2.2.2 then 1 else 0) := zg_31 (q := qv54) (o := ov54) hf76
                                        refine lv_if_ne (tgt := 196) X.1 X.2.1 dX12_readLawn_148 (by decide) (fun c77 => ?_) (fun c77 => ?_)
                                        · have k78 : qv54.2.2.2.2.2.2 = true := zb_t zf76 c77
                                          refine lv_iconst (v := 0) X.1 X.2.1 dX12_readLawn_196 (by decide +kernel) ?_
                                          refine lv_istore_n (lv' := [(2, .int 0), (1, .int 0), (0, .ref a0)]) X.1 X.2.1 dX12_readLawn_197 rfl hl (by decide) rfl (fun ls hl => ?_)
                                          refine lv_iload_n X.1 X.2.1 dX12_readLawn_198 rfl (lv_at hl 0 rfl) ?_
                                          refine lv_if_eq (tgt := 216) X.1 X.2.1 dX12_readLawn_199 (by decide) (fun c80 => ?_) (fun c80 => ?_)
                                          · refine lv_aload_n X.1 X.2.1 dX12_readLawn_216 rfl (lv_at hl 2 rfl) ?_
                                            refine ca_X12_fails_e X hK hG hC hS hb a0 h0 hl0 b60 wl_7_141 hl.1 (rest := []) rfl (Nat.le_of_ble_eq_true rfl) ⟨Nat.le_of_ble_eq_true rfl, Nat.le_of_ble_eq_true rfl⟩ ⟨Nat.le_of_ble_eq_true rfl, Nat.le_of_ble_eq_true rfl⟩ dX12_readLawn_217 (fun f81 tf81 H locs htf81 hf81 hWf81 hS => ?_)
                                            have hG := hWf81.2.2.2
                                            rw [htf81] at hG
                                            obtain rfl : f81 = 0 := sg_is0 hf81
                                            refine lv_pop X.1 X.2.1 dX12_readLawn_220 rfl ?_
                                            have spr := hln
                                            have hG := ke_weak (b1 := 0) (b2 := 241) (g1 := (vX (sgU2 P) (sgL2 P) av54)) (g2 := (vX (sgU2 P) (sgL2 P) av54)) (e1 := 0) (e2 := 6) hG (b60).1 (Int.le_trans (b60).2 (Int.le_trans hl0.2 (by decide))) (Int.le_refl _) (Int.le_refl _) (by decide) (by decide)
                                            exact sg_vret2 X hr hlk hS (fun t ht hW => (Or.inr ⟨_, _, _, _, spr, (Or.inr (fun z => absurd (z.2.1.symm.trans k78) (by decide))), ((vq_bw b60 hl0)).1, ((vq_bw b60 hl0)).2, sg_post hb hK hC hG hS ht hW⟩)) dX12_readLawn_221
                                          · exact ((c80 (iv_one (iv_c 0 (a := 0) (b := 0) (by decide +kernel)) (iv_c 0 (a := 0) (b := 0) (by decide +kernel)) (by decide +kernel)))).elim
                                        · have k79 : qv54.2.2.2.2.2.2 = false := zb_f zf76 c77
                                          refine lv_aload_n X.1 X.2.1 dX12_readLawn_151 rfl (lv_at hl 1 rfl) ?_
                                          refine gf_X12_25e X hK hG h0 wl_6_203 dX12_readLawn_152 (fun f82 hf82 => ?_)
                                          have wf82 : f82 = qv54.2.1 := zg_25 (q := qv54) (o := ov54) hf82
                                          refine lv_aload_n X.1 X.2.1 dX12_readLawn_155 rfl (lv_at hl 1 rfl) ?_
                                          refine gf_X12_26e X hK hG h0 wl_6_204 dX12_readLawn_156 (fun f83 hf83 => ?_)
                                          have wf83 : f83 = qv54.2.2.1 := zg_26 (q := qv54) (o := ov54) hf83
                                          refine lv_ior X.1 X.2.1 dX12_readLawn_159 ?_
                                          refine lv_topi (fun f84 ef84 => ?_)
                                          have wf84 : f84 = (qv54.2.1 ||| qv54.2.2.1) := ef84.trans (by rw [wf82, wf83])
                                          refine lv_aload_n X.1 X.2.1 dX12_readLawn_160 rfl (lv_at hl 1 rfl) ?_
                                          refine gf_X12_19e X hK hG h0 wl_6_197 dX12_readLawn_161 (fun q85 hq85 kq85 => ?_)
                                          refine lv_iconst (v := 0) X.1 X.2.1 dX12_readLawn_164 (by decide +kernel) ?_
                                          refine al_50e X hK hG hq85 (iv_vpin (iv_c 0 (a := 0) (b := 0) (by decide +kernel)) (by decide +kernel)) dX12_readLawn_165 (fun f86 hf86 => ?_)
                                          have xf86 : f86.toInt = (qv54.1 0) := zg_r (q := qv54) (o := ov54) (sg_cl (iv_c 0 (a := 0) (b := 0) (by decide +kernel)) (by decide)) (by decide) hf86
                                          have yf86 : iv 1 6 f86 := vq_of xf86 hr0
                                          refine lv_aload_n X.1 X.2.1 dX12_readLawn_166 rfl (lv_at hl 1 rfl) ?_
                                          refine gg_X12_19e X hK hG h0 wl_6_197 kq85 dX12_readLawn_167 ?_
                                          refine lv_iconst (v := 1) X.1 X.2.1 dX12_readLawn_170 (by decide +kernel) ?_
                                          refine al_50e X hK hG hq85 (iv_vpin (iv_c 1 (a := 1) (b := 1) (by decide +kernel)) (by decide +kernel)) dX12_readLawn_171 (fun f87 hf87 => ?_)
                                          have xf87 : f87.toInt = (qv54.1 1) := zg_r (q := qv54) (o := ov54) (sg_cl (iv_c 1 (a := 1) (b := 1) (by decide +kernel)) (by decide)) (by decide) hf87
                                          have yf87 : iv 1 5 f87 := vq_of xf87 hr1
                                          refine lv_imul X.1 X.2.1 dX12_readLawn_172 ?_
                                          refine lv_topi (fun f88 ef88 => ?_)
                                          have xf88 : f88.toInt = ((qv54.1 0) * (qv54.1 1)) := sg_exmul ef88 yf86 yf87 (by decide +kernel) xf86 xf87
                                          refine lv_ishr X.1 X.2.1 dX12_readLawn_173 ?_
                                          refine lv_topi (fun f89 ef89 => ?_)
                                          have wf89 : f89 = ((qv54.2.1 ||| qv54.2.2.1) >>> ((Int32.ofInt ((qv54.1 0) * (qv54.1 1))) &&& 31)) := ef89.trans (by rw [wf84, (vq_oi (x := f88) xf88)])
                                          refine lv_if_ne (tgt := 196) X.1 X.2.1 dX12_readLawn_174 (by decide) (fun c90 => ?_) (fun c90 => ?_)
                                          · have k91 : (((qv54.2.1 ||| qv54.2.2.1) >>> ((Int32.ofInt ((qv54.1 0) * (qv54.1 1))) &&& 31)) = 0) = False := eq_false (fun z => c90 ((wf89).trans z))
                                            refine lv_iconst (v := 0) X.1 X.2.1 dX12_readLawn_196 (by decide +kernel) ?_
                                            refine lv_istore_n (lv' := [(2, .int 0), (1, .int 0), (0, .ref a0)]) X.1 X.2.1 dX12_readLawn_197 rfl hl (by decide) rfl (fun ls hl => ?_)
                                            refine lv_iload_n X.1 X.2.1 dX12_readLawn_198 rfl (lv_at hl 0 rfl) ?_
                                            refine lv_if_eq (tgt := 216) X.1 X.2.1 dX12_readLawn_199 (by decide) (fun c93 => ?_) (fun c93 => ?_)
                                            · refine lv_aload_n X.1 X.2.1 dX12_readLawn_216 rfl (lv_at hl 2 rfl) ?_
                                              refine ca_X12_fails_e X hK hG hC hS hb a0 h0 hl0 b60 wl_7_141 hl.1 (rest := []) rfl (Nat.le_of_ble_eq_true rfl) ⟨Nat.le_of_ble_eq_true rfl, Nat.le_of_ble_eq_true rfl⟩ ⟨Nat.le_of_ble_eq_true rfl, Nat.le_of_ble_eq_true rfl⟩ dX12_readLawn_217 (fun f94 tf94 H locs htf94 hf94 hWf94 hS => ?_)
                                              have hG := hWf94.2.2.2
                                              rw [htf94] at hG
                                              obtain rfl : f94 = 0 := sg_is0 hf94
                                              refine lv_pop X.1 X.2.1 dX12_readLawn_220 rfl ?_
                                              have spr := hln
                                              have hG := ke_weak (b1 := 0) (b2 := 241) (g1 := (vX (sgU2 P) (sgL2 P) av54)) (g2 := (vX (sgU2 P) (sgL2 P) av54)) (e1 := 0) (e2 := 6) hG (b60).1 (Int.le_trans (b60).2 (Int.le_trans hl0.2 (by decide))) (Int.le_refl _) (Int.le_refl _) (by decide) (by decide)
                                              exact sg_vret2 X hr hlk hS (fun t ht hW => (Or.inr ⟨_, _, _, _, spr, (Or.inr (fun z => of_eq_false k91 z.2.2.1)), ((vq_bw b60 hl0)).1, ((vq_bw b60 hl0)).2, sg_post hb hK hC hG hS ht hW⟩)) dX12_readLawn_221
                                            · exact ((c93 (iv_one (iv_c 0 (a := 0) (b := 0) (by decide +kernel)) (iv_c 0 (a := 0) (b := 0) (by decide +kernel)) (by decide +kernel)))).elim
                                          · have k92 : ((qv54.2.1 ||| qv54.2.2.1) >>> ((Int32.ofInt ((qv54.1 0) * (qv54.1 1))) &&& 31)) = 0 := (wf89).symm.trans c90
                                            refine lv_aload_n X.1 X.2.1 dX12_readLawn_177 rfl (lv_at hl 1 rfl) ?_
                                            refine gg_X12_19e X hK hG h0 wl_6_197 kq85 dX12_readLawn_178 ?_
                                            refine lv_iconst (v := 4) X.1 X.2.1 dX12_readLawn_181 (by decide +kernel) ?_
                                            refine al_50e X hK hG hq85 (iv_vpin (iv_c 4 (a := 4) (b := 4) (by decide +kernel)) (by decide +kernel)) dX12_readLawn_182 (fun f95 hf95 => ?_)
                                            have xf95 : f95.toInt = (qv54.1 4) := zg_r (q := qv54) (o := ov54) (sg_cl (iv_c 4 (a := 4) (b := 4) (by decide +kernel)) (by decide)) (by decide) hf95
                                            refine lv_aload_n X.1 X.2.1 dX12_readLawn_183 rfl (lv_at hl 1 rfl) ?_
                                            refine gg_X12_19e X hK hG h0 wl_6_197 kq85 dX12_readLawn_184 ?_
                                            refine lv_iconst (v := 5) X.1 X.2.1 dX12_readLawn_187 (by decide +kernel) ?_
                                            refine al_50e X hK hG hq85 (iv_vpin (iv_c 5 (a := 5) (b := 5) (by decide +kernel)) (by decide +kernel)) dX12_readLawn_188 (fun f96 hf96 => ?_)
                                            have xf96 : f96.toInt = (qv54.1 5) := zg_r (q := qv54) (o := ov54) (sg_cl (iv_c 5 (a := 5) (b := 5) (by decide +kernel)) (by decide)) (by decide) hf96
                                            refine lv_icmp_gt (tgt := 196) X.1 X.2.1 dX12_readLawn_189 (by decide) (fun c97 => ?_) (fun c97 => ?_)
                                            · have i98 : (qv54.1 5) < (qv54.1 4) := vq_lt c97 xf96 xf95
                                              refine lv_iconst (v := 0) X.1 X.2.1 dX12_readLawn_196 (by decide +kernel) ?_
                                              refine lv_istore_n (lv' := [(2, .int 0), (1, .int 0), (0, .ref a0)]) X.1 X.2.1 dX12_readLawn_197 rfl hl (by decide) rfl (fun ls hl => ?_)
                                              refine lv_iload_n X.1 X.2.1 dX12_readLawn_198 rfl (lv_at hl 0 rfl) ?_
                                              refine lv_if_eq (tgt := 216) X.1 X.2.1 dX12_readLawn_199 (by decide) (fun c100 => ?_) (fun c100 => ?_)
                                              · refine lv_aload_n X.1 X.2.1 dX12_readLawn_216 rfl (lv_at hl 2 rfl) ?_
                                                refine ca_X12_fails_e X hK hG hC hS hb a0 h0 hl0 b60 wl_7_141 hl.1 (rest := []) rfl (Nat.le_of_ble_eq_true rfl) ⟨Nat.le_of_ble_eq_true rfl, Nat.le_of_ble_eq_true rfl⟩ ⟨Nat.le_of_ble_eq_true rfl, Nat.le_of_ble_eq_true rfl⟩ dX12_readLawn_217 (fun f101 tf101 H locs htf101 hf101 hWf101 hS => ?_)
                                                have hG := hWf101.2.2.2
                                                rw [htf101] at hG
                                                obtain rfl : f101 = 0 := sg_is0 hf101
                                                refine lv_pop X.1 X.2.1 dX12_readLawn_220 rfl ?_
                                                have spr := hln
                                                have hG := ke_weak (b1 := 0) (b2 := 241) (g1 := (vX (sgU2 P) (sgL2 P) av54)) (g2 := (vX (sgU2 P) (sgL2 P) av54)) (e1 := 0) (e2 := 6) hG (b60).1 (Int.le_trans (b60).2 (Int.le_trans hl0.2 (by decide))) (Int.le_refl _) (Int.le_refl _) (by decide) (by decide)
                                                exact sg_vret2 X hr hlk hS (fun t ht hW => (Or.inr ⟨_, _, _, _, spr, (Or.inr (fun z => absurd z.2.2.2.1 (Int.not_le.mpr i98))), ((vq_bw b60 hl0)).1, ((vq_bw b60 hl0)).2, sg_post hb hK hC hG hS ht hW⟩)) dX12_readLawn_221
                                              · exact ((c100 (iv_one (iv_c 0 (a := 0) (b := 0) (by decide +kernel)) (iv_c 0 (a := 0) (b := 0) (by decide +kernel)) (by decide +kernel)))).elim
                                            · have i99 : ¬ (qv54.1 5) < (qv54.1 4) := vq_le (iv_ge_of c97) xf95 xf96
                                              refine lv_iconst (v := 1) X.1 X.2.1 dX12_readLawn_192 (by decide +kernel) ?_
                                              refine lv_goto (tgt := 197) X.1 X.2.1 dX12_readLawn_193 (by decide) ?_
                                              refine lv_istore_n (lv' := [(2, .int 1), (1, .int 0), (0, .ref a0)]) X.1 X.2.1 dX12_readLawn_197 rfl hl (by decide) rfl (fun ls hl => ?_)
                                              refine lv_iload_n X.1 X.2.1 dX12_readLawn_198 rfl (lv_at hl 0 rfl) ?_
                                              refine lv_if_eq (tgt := 216) X.1 X.2.1 dX12_readLawn_199 (by decide) (fun c102 => ?_) (fun c102 => ?_)
                                              · exact ((iv_no (a := 1) (b := 0) (iv_eqm c102 (iv_c 1 (a := 1) (b := 1) (by decide +kernel)) (iv_c 0 (a := 0) (b := 0) (by decide +kernel)) (by decide +kernel)) (by decide +kernel))).elim
                                              · refine lv_aload_n X.1 X.2.1 dX12_readLawn_202 rfl (lv_at hl 2 rfl) ?_
                                                refine gf_X12_25e X hK hG h0 wl_6_203 dX12_readLawn_203 (fun f103 hf103 => ?_)
                                                have wf103 : f103 = qv54.2.1 := zg_25 (q := qv54) (o := ov54) hf103
                                                refine lv_aload_n X.1 X.2.1 dX12_readLawn_206 rfl (lv_at hl 2 rfl) ?_
                                                refine gg_X12_19e X hK hG h0 wl_6_197 kq85 dX12_readLawn_207 ?_
                                                refine ca_X12_hasLine_e X hK hG hC (fun _ h => h) hS hb f103 q85 hq85 hr0 hr1 hr2 (by omega) wl_7_196 hl.1 (rest := []) rfl (Nat.le_of_ble_eq_true rfl) ⟨Nat.le_of_ble_eq_true rfl, Nat.le_of_ble_eq_true rfl⟩ ⟨Nat.le_of_ble_eq_true rfl, Nat.le_of_ble_eq_true rfl⟩ dX12_readLawn_210 (fun f104 locs hf104 hS => ?_)
                                                refine lv_if_eq (tgt := 221) X.1 X.2.1 dX12_readLawn_213 (by decide) (fun c105 => ?_) (fun c105 => ?_)
                                                · have j106 := vq_says0 hf104 c105
                                                  have k107 : ¬ lwLine qv54.2.1 (qv54.1 0) (qv54.1 1) (qv54.1 2) := by have z := j106; rw [wf103] at z; exact z
                                                  exact sg_vret2 X hr hlk hS (fun t ht hW => (Or.inl ⟨_, _, _, hln, mi73, lwOk_y k79 k92 i99 k107, hrk, (b60).1, (b60).2, sg_post hb hK hC hG hS ht hW⟩)) dX12_readLawn_221
                                                · have j108 := vq_says1 hf104 c105
                                                  have k109 : lwLine qv54.2.1 (qv54.1 0) (qv54.1 1) (qv54.1 2) := by have z := j108; rw [wf103] at z; exact z
                                                  refine lv_aload_n X.1 X.2.1 dX12_readLawn_216 rfl (lv_at hl 2 rfl) ?_
                                                  refine ca_X12_fails_e X hK hG hC hS hb a0 h0 hl0 b60 wl_7_141 hl.1 (rest := []) rfl (Nat.le_of_ble_eq_true rfl) ⟨Nat.le_of_ble_eq_true rfl, Nat.le_of_ble_eq_true rfl⟩ ⟨Nat.le_of_ble_eq_true rfl, Nat.le_of_ble_eq_true rfl⟩ dX12_readLawn_217 (fun f110 tf110 H locs htf110 hf110 hWf110 hS => ?_)
                                                  have hG := hWf110.2.2.2
                                                  rw [htf110] at hG
                                                  obtain rfl : f110 = 0 := sg_is0 hf110
                                                  refine lv_pop X.1 X.2.1 dX12_readLawn_220 rfl ?_
                                                  have spr := hln
                                                  have hG := ke_weak (b1 := 0) (b2 := 241) (g1 := (vX (sgU2 P) (sgL2 P) av54)) (g2 := (vX (sgU2 P) (sgL2 P) av54)) (e1 := 0) (e2 := 6) hG (b60).1 (Int.le_trans (b60).2 (Int.le_trans hl0.2 (by decide))) (Int.le_refl _) (Int.le_refl _) (by decide) (by decide)
                                                  exact sg_vret2 X hr hlk hS (fun t ht hW => (Or.inr ⟨_, _, _, _, spr, (Or.inr (fun z => z.2.2.2.2 k109)), ((vq_bw b60 hl0)).1, ((vq_bw b60 hl0)).2, sg_post hb hK hC hG hS ht hW⟩)) dX12_readLawn_221
                                    · have i69 : (((-1) : Int) = ((-1) : Int)) = False := vq_ne c67 (vq_iv hf66) (by decide +kernel)
                                      exact ((c67 (iv_one hf66 (iv_c (-1) (a := (-1)) (b := (-1)) (by decide +kernel)) (by decide +kernel)))).elim
                                  · exact ((c65 (iv_one (iv_c 0 (a := 0) (b := 0) (by decide +kernel)) (iv_c 0 (a := 0) (b := 0) (by decide +kernel)) (by decide +kernel)))).elim
                                · exact ((c64 (iv_one (iv_c 0 (a := 0) (b := 0) (by decide +kernel)) (iv_c 0 (a := 0) (b := 0) (by decide +kernel)) (by decide +kernel)))).elim
                              · have i63 : vE (vC (sgU2 P) (sgL2 P) (vX (sgU2 P) (sgL2 P) av54)) = (59 : Int) := vq_eq c61 xf59 (by decide +kernel)
                                have mi63 : vC (sgU2 P) (sgL2 P) (vX (sgU2 P) (sgL2 P) av54) = (59 : Int) := vE_eq i63 (by decide)
                                refine lv_iconst (v := 1) X.1 X.2.1 dX12_readLawn_104 (by decide +kernel) ?_
                                refine lv_goto (tgt := 109) X.1 X.2.1 dX12_readLawn_105 (by decide) ?_
                                refine lv_istore_n (lv' := [(1, .int 1), (0, .ref a0)]) X.1 X.2.1 dX12_readLawn_109 rfl hl (by decide) rfl (fun ls hl => ?_)
                                refine lv_iload_n X.1 X.2.1 dX12_readLawn_110 rfl (lv_at hl 0 rfl) ?_
                                refine lv_if_eq (tgt := 71) X.1 X.2.1 dX12_readLawn_111 (by decide) (fun c111 => ?_) (fun c111 => ?_)
                                · exact ((iv_no (a := 1) (b := 0) (iv_eqm c111 (iv_c 1 (a := 1) (b := 1) (by decide +kernel)) (iv_c 0 (a := 0) (b := 0) (by decide +kernel)) (by decide +kernel)) (by decide +kernel))).elim
                                · refine lv_aload_n X.1 X.2.1 dX12_readLawn_114 rfl (lv_at hl 1 rfl) ?_
                                  refine lv_dup X.1 X.2.1 dX12_readLawn_115 rfl ?_
                                  refine gf_X12_10e X hK hG h0 wl_6_188 dX12_readLawn_116 (fun f112 hf112 => ?_)
                                  have xf112 : f112.toInt = (vX (sgU2 P) (sgL2 P) av54) := vq_iv hf112
                                  have yf112 : iv 0 240 f112 := vq_240 hl0 b60 xf112
                                  refine lv_iconst (v := 1) X.1 X.2.1 dX12_readLawn_119 (by decide +kernel) ?_
                                  refine lv_iadd X.1 X.2.1 dX12_readLawn_120 ?_
                                  refine lv_topi (fun f113 ef113 => ?_)
                                  have xf113 : f113.toInt = ((vX (sgU2 P) (sgL2 P) av54) + 1) := sg_exadd ef113 yf112 (iv_c 1 (a := 1) (b := 1) (by decide +kernel)) (by decide +kernel) xf112 (by decide +kernel)
                                  refine pf_X12_10E (b1 := ((vX (sgU2 P) (sgL2 P) av54) + 1)) (b2 := ((vX (sgU2 P) (sgL2 P) av54) + 1)) X hK hG hS h0 wl_6_188 (vq_of (lo := ((vX (sgU2 P) (sgL2 P) av54) + 1)) (hi := ((vX (sgU2 P) (sgL2 P) av54) + 1)) xf113 ⟨Int.le_refl _, Int.le_refl _⟩) dX12_readLawn_121 (fun H locs hG hS => ?_)
                                  have l114 := (vC_lt (b := sgU2 P) (n := sgL2 P) (a := (vX (sgU2 P) (sgL2 P) av54)) (by rw [mi63]; decide)).2
                                  have b115 := vq_bd1 b60 l114
                                  refine lv_goto (tgt := 71) X.1 X.2.1 dX12_readLawn_124 (by decide) ?_
                                  refine lv_iload_n X.1 X.2.1 dX12_readLawn_71 rfl (lv_at hl 0 rfl) ?_
                                  refine lv_if_eq (tgt := 127) X.1 X.2.1 dX12_readLawn_72 (by decide) (fun c116 => ?_) (fun c116 => ?_)
                                  · exact ((iv_no (a := 1) (b := 0) (iv_eqm c116 (iv_c 1 (a := 1) (b := 1) (by decide +kernel)) (iv_c 0 (a := 0) (b := 0) (by decide +kernel)) (by decide +kernel)) (by decide +kernel))).elim
                                  · refine lv_aload_n X.1 X.2.1 dX12_readLawn_75 rfl (lv_at hl 1 rfl) ?_
                                    refine gf_X12_11e X hK hG h0 wl_6_189 dX12_readLawn_76 (fun f117 hf117 => ?_)
                                    refine lv_iconst (v := (-1)) X.1 X.2.1 dX12_readLawn_79 (by decide +kernel) ?_
                                    refine lv_icmp_ne (tgt := 127) X.1 X.2.1 dX12_readLawn_80 (by decide) (fun c118 => ?_) (fun c118 => ?_)
                                    · have i119 : (((-1) : Int) = ((-1) : Int)) = False := vq_ne c118 (vq_iv hf117) (by decide +kernel)
                                      exact ((c118 (iv_one hf117 (iv_c (-1) (a := (-1)) (b := (-1)) (by decide +kernel)) (by decide +kernel)))).elim
                                    · have i120 : ((-1) : Int) = ((-1) : Int) := vq_eq c118 (vq_iv hf117) (by decide +kernel)
                                      exact ih52 H _ _ (((vX (sgU2 P) (sgL2 P) av54) + 1)) qv54 ov54 (b115).1 (b115).2 hG hS (lv_sub hl [1] rfl) ⟨xf52.1.trans (vLnM_step pv54 mi63 (vLcM_ge pv54)), hqv54⟩ (by omega)
                          · have hG := hBg53.2.2.2
                            rw [htg53] at hG
                            refine lv_aload_n X.1 X.2.1 dX12_readLawn_87 rfl (lv_at hl 0 rfl) ?_
                            refine gf_X12_11e X hK hG h0 wl_6_189 dX12_readLawn_88 (fun f121 hf121 => ?_)
                            have xf121 : f121.toInt = wv54 := vq_iv hf121
                            have yf121 : iv 0 240 f121 := vq_of xf121 (And.intro w1v54 w2v54)
                            refine lv_iconst (v := (-1)) X.1 X.2.1 dX12_readLawn_91 (by decide +kernel) ?_
                            refine lv_icmp_ne (tgt := 108) X.1 X.2.1 dX12_readLawn_92 (by decide) (fun c122 => ?_) (fun c122 => ?_)
                            · have i123 : (wv54 = ((-1) : Int)) = False := vq_ne c122 xf121 (by decide +kernel)
                              refine lv_iconst (v := 0) X.1 X.2.1 dX12_readLawn_108 (by decide +kernel) ?_
                              refine lv_istore_n (lv' := [(1, .int 0), (0, .ref a0)]) X.1 X.2.1 dX12_readLawn_109 rfl hl (by decide) rfl (fun ls hl => ?_)
                              refine lv_iload_n X.1 X.2.1 dX12_readLawn_110 rfl (lv_at hl 0 rfl) ?_
                              refine lv_if_eq (tgt := 71) X.1 X.2.1 dX12_readLawn_111 (by decide) (fun c125 => ?_) (fun c125 => ?_)
                              · refine lv_iload_n X.1 X.2.1 dX12_readLawn_71 rfl (lv_at hl 0 rfl) ?_
                                refine lv_if_eq (tgt := 127) X.1 X.2.1 dX12_readLawn_72 (by decide) (fun c126 => ?_) (fun c126 => ?_)
                                · refine lv_aload_n X.1 X.2.1 dX12_readLawn_127 rfl (lv_at hl 1 rfl) ?_
                                  refine gf_X12_11e X hK hG h0 wl_6_189 dX12_readLawn_128 (fun f127 hf127 => ?_)
                                  have xf127 : f127.toInt = wv54 := vq_iv hf127
                                  have yf127 : iv 0 240 f127 := vq_of xf127 (And.intro w1v54 w2v54)
                                  refine lv_iconst (v := (-1)) X.1 X.2.1 dX12_readLawn_131 (by decide +kernel) ?_
                                  refine lv_icmp_eq (tgt := 136) X.1 X.2.1 dX12_readLawn_132 (by decide) (fun c128 => ?_) (fun c128 => ?_)
                                  · have i129 : wv54 = ((-1) : Int) := vq_eq c128 xf127 (by decide +kernel)
                                    exact ((iv_no (a := 0) (b := (-1)) (iv_eqm c128 yf127 (iv_c (-1) (a := (-1)) (b := (-1)) (by decide +kernel)) (by decide +kernel)) (by decide +kernel))).elim
                                  · have i130 : (wv54 = ((-1) : Int)) = False := vq_ne c128 xf127 (by decide +kernel)
                                    have spr : vLnM (sgU2 P) (sgL2 P) lw0 (vX (sgU2 P) (sgL2 P) 0) = (false, wv54, _) := xf52.1.trans (vLnM_end pv54 (Or.inl rfl))
                                    have hG := ke_weak (b1 := 0) (b2 := 241) (g1 := wv54) (g2 := wv54) (e1 := 0) (e2 := 6) hG (Int.le_refl _) (Int.le_refl _) (Int.le_refl _) (Int.le_refl _) (by decide) (by decide)
                                    exact sg_vret2 X hr hlk hS (fun t ht hW => (Or.inr ⟨_, _, _, _, spr, (Or.inl rfl), ((And.intro w1v54 w2v54)).1, ((And.intro w1v54 w2v54)).2, sg_post hb hK hC hG hS ht hW⟩)) dX12_readLawn_135
                                · exact ((c126 (iv_one (iv_c 0 (a := 0) (b := 0) (by decide +kernel)) (iv_c 0 (a := 0) (b := 0) (by decide +kernel)) (by decide +kernel)))).elim
                              · exact ((c125 (iv_one (iv_c 0 (a := 0) (b := 0) (by decide +kernel)) (iv_c 0 (a := 0) (b := 0) (by decide +kernel)) (by decide +kernel)))).elim
                            · have i124 : wv54 = ((-1) : Int) := vq_eq c122 xf121 (by decide +kernel)
                              exact ((iv_no (a := 0) (b := (-1)) (iv_eqm c122 yf121 (iv_c (-1) (a := (-1)) (b := (-1)) (by decide +kernel)) (by decide +kernel)) (by decide +kernel))).elim
                      exact B52_83 _ H _ _ (0) lw0 sgZ0.2.2 ((And.intro (Int.le_refl (0 : Int)) hl0.1)).1 ((And.intro (Int.le_refl (0 : Int)) hl0.1)).2 hG hS (lv_sub hl [1] rfl) ⟨rfl, (show ((0 ≤ lw0.2.2.2.1 ∧ lw0.2.2.2.1 ≤ 12) ∧ (0 ≤ lw0.2.2.2.2.1 ∧ lw0.2.2.2.2.1 ≤ 8)) from ⟨⟨by decide, by decide⟩, ⟨by decide, by decide⟩⟩)⟩ (Nat.le_refl _)
                · have i46 : ((((((((0 + 1) + 1) + 1) + 1) + 1) + 1) + 1) : Int) < (7 : Int) := vq_lt (iv_gt_of c44) xy43 (by decide +kernel)
                  exact ((iv_no (iv_lt (b' := 6) (iv_gt_of c44) (iv_add (a' := 7) (b' := 7) ey43 (iv_add (a' := 6) (b' := 6) ey37 (iv_add (a' := 5) (b' := 5) ey31 (iv_add (a' := 4) (b' := 4) ey25 (iv_add (a' := 3) (b' := 3) ey19 (iv_add (a' := 2) (b' := 2) ey13 (iv_add (a' := 1) (b' := 1) ey7 (iv_c 0 (a := 0) (b := 0) (by decide +kernel)) (iv_c _ (a := 1) (b := 1) (by decide +kernel)) (by decide +kernel)) (iv_c _ (a := 1) (b := 1) (by decide +kernel)) (by decide +kernel)) (iv_c _ (a := 1) (b := 1) (by decide +kernel)) (by decide +kernel)) (iv_c _ (a := 1) (b := 1) (by decide +kernel)) (by decide +kernel)) (iv_c _ (a := 1) (b := 1) (by decide +kernel)) (by decide +kernel)) (iv_c _ (a := 1) (b := 1) (by decide +kernel)) (by decide +kernel)) (iv_c _ (a := 1) (b := 1) (by decide +kernel)) (by decide +kernel)) (iv_c 7 (a := 7) (b := 7) (by decide +kernel)) (by decide +kernel)) (by decide +kernel))).elim

theorem ca_X12_readLawn_e   (X : CallFix p m c cc nL s args sg_tbl own) (hK : va_K D vwCl tys s) (hG : sgG (KT P) D vwCl (fun q : Nat => base ≤ q) tys ad ks H) (hC : sgC base s) (hS : va_S (fun q : Nat => base ≤ q) s.heap H locs) (hb : base ≤ s.heap.size) (a0 : Nat) (h0 : isK ad ks 12 a0) (hl0 : 0 ≤ sgL2 P ∧ sgL2 P ≤ 240) (hby : sgBy2 P) (hl : Cond.methodLink own index yX12_readLawn ∈ sg_tbl) (hsize : ls.size = nL) (hst : st0 = [].reverse ++ .ref a0 :: rest) (hW : (rest.map fun v => v.category).sum ≤ 8) (hR : 8 ≤ R.frames ∧ 176 ≤ R.locals) (hf : cells ≤ R.cells ∧ slots ≤ R.slots) (hdg : decode cc pc = .ok (.invokevirtual index, 3)) (kk : ∀ (t : State) (H1 : Heap) (locs1 : List Loc), t.heap = H1 → ((fun t => (∃ (a1 : Int) (q1 : sgLwn) (o1 : sgO), vLnM (sgU2 P) (sgL2 P) lw0 (vX (sgU2 P) (sgL2 P) 0) = (true, a1, q1) ∧ vC (sgU2 P) (sgL2 P) a1 = 0 ∧ lwOk q1 ∧ ruOk q1.1 ∧ 0 ≤ a1 ∧ a1 ≤ sgL2 P ∧ sgB (KE a1 a1 (-1) (-1) 0 6 (zQ q1 o1) P) D vwCl base tys ad ks t) ∨ (∃ (ok : Bool) (w : Int) (q1 : sgLwn) (z1 : sgZt), vLnM (sgU2 P) (sgL2 P) lw0 (vX (sgU2 P) (sgL2 P) 0) = (ok, w, q1) ∧ (ok = false ∨ ¬ (vC (sgU2 P) (sgL2 P) w = 0 ∧ lwOk q1)) ∧ 0 ≤ w ∧ w ≤ 240 ∧ sgB (KE 0 241 w w 0 6 z1 P) D vwCl base tys ad ks t)) t) → va_S (fun q : Nat => base ≤ q) s.heap H1 locs1 → W p l e R s m args below meth c H1 locs1 cells slots Q (F0 m (pc + 3) ls rest)) : W p l e R s m args below meth c H locs cells slots Q (F0 m pc ls st0) :=
  sg_callV2v X hK hG hC hS hb (m_X12_readLawn_e l a0 h0 hl0 hby) h0 (k := 12) (ci := 12) rfl (C := RX12) (T := TX12) (N := 53) rfl wl_7_125 wl_1_13 wl_7_124 wl_0_49 (n := 0) (by decide +kernel) rfl rfl rfl hl hsize hst hW hR hf hdg kk
end
