
section
variable {p : Program} {l : Launch} {e : Env} {R : Room} {s : State} {m : MethodId} {args : Array Value} {below : List Frame} {meth : Method} {c : Code} {H : Heap} {locs : List Loc} {cells slots : Nat} {Q : State → Prop} {cc : ByteArray} {nL pc : Nat} {ls : Array Slot} {rest : List Value} {own : String} {D : va_G} {A : Nat → Prop} {tys : List (ClassId × FieldType)} {ad ks : List Nat} {P : sgPm} {H0 : Heap} {index : Nat} {base : Nat} {st0 : List Value} {a : Nat}
theorem gf_X12_21e  {a1 a2 f1 f2 d1 d2 : Int} {z : sgZt} (X : CallFix p m c cc nL s args sg_tbl own) (hK : va_K D vwCl tys s) (hG : sgG (KE a1 a2 f1 f2 d1 d2 z P) D vwCl A tys ad ks H) (ha : isK ad ks 12 a) (hl : Cond.fieldLink own index "LawnAheadModel" "game" "[I" ∈ sg_tbl) (hdg : decode cc pc = .ok (.getfield index, 3)) (kk : ∀ x : Nat, isK ad ks 52 x → fld D H 12 a 21 (.ref x) → W p l e R s m args below meth c H locs cells slots Q (F0 m (pc + 3) ls (.ref x :: rest))) : W p l e R s m args below meth c H locs cells slots Q (F0 m pc ls (.ref a :: rest)) :=
  sg_get X hK hG ha (k := 12) (ci := 12) rfl (C := RX12) (T := TX12) (N := 53) rfl inL_X12 21 (by decide) rfl hl (fun _ h => h) hdg (fun v hv hf => by
    obtain ⟨h1, -⟩ | ⟨x, rfl, hx⟩ := hv
    · cases h1
    · exact kk x hx hf)
theorem gf_X12_22e  {a1 a2 f1 f2 d1 d2 : Int} {z : sgZt} (X : CallFix p m c cc nL s args sg_tbl own) (hK : va_K D vwCl tys s) (hG : sgG (KE a1 a2 f1 f2 d1 d2 z P) D vwCl A tys ad ks H) (ha : isK ad ks 12 a) (hl : Cond.fieldLink own index "LawnAheadModel" "gameLong" "[I" ∈ sg_tbl) (hdg : decode cc pc = .ok (.getfield index, 3)) (kk : ∀ x : Nat, isK ad ks 53 x → fld D H 12 a 22 (.ref x) → W p l e R s m args below meth c H locs cells slots Q (F0 m (pc + 3) ls (.ref x :: rest))) : W p l e R s m args below meth c H locs cells slots Q (F0 m pc ls (.ref a :: rest)) :=
  sg_get X hK hG ha (k := 12) (ci := 12) rfl (C := RX12) (T := TX12) (N := 53) rfl inL_X12 22 (by decide) rfl hl (fun _ h => h) hdg (fun v hv hf => by
    obtain ⟨h1, -⟩ | ⟨x, rfl, hx⟩ := hv
    · cases h1
    · exact kk x hx hf)
theorem gg_X12_21e  {a1 a2 f1 f2 d1 d2 : Int} {z : sgZt} (X : CallFix p m c cc nL s args sg_tbl own) (hK : va_K D vwCl tys s) (hG : sgG (KE a1 a2 f1 f2 d1 d2 z P) D vwCl A tys ad ks H) (ha : isK ad ks 12 a) (hl : Cond.fieldLink own index "LawnAheadModel" "game" "[I" ∈ sg_tbl) {v : Value} (hf : fld D H 12 a 21 v) (hdg : decode cc pc = .ok (.getfield index, 3)) (kk : W p l e R s m args below meth c H locs cells slots Q (F0 m (pc + 3) ls (v :: rest))) : W p l e R s m args below meth c H locs cells slots Q (F0 m pc ls (.ref a :: rest)) :=
  sg_getf X hK hG ha (k := 12) (ci := 12) rfl (C := RX12) (T := TX12) (N := 53) rfl inL_X12 21 (by decide) (show 21 < 53 by decide) hl (fun _ h => h) hf hdg kk
theorem as_52e  {i : Int32} {x : Int32} {a1 a2 f1 f2 d1 d2 : Int} {z : sgZt} (X : CallFix p m c cc nL s args sg_tbl own) (hK : va_K D vwCl tys s) (hG : sgG (KE a1 a2 f1 f2 d1 d2 z P) D vwCl A tys ad ks H) (hS : va_S A H0 H locs) (ha : isK ad ks 52 a) (hin : vp_in i 320) (hv : okV ad ks ((sg_ga (sgG0 P) : Nat → sgT) i.toNatClampNeg) (.int x)) (hdg : decode cc pc = .ok (.iastore, 1)) (kk : ∀ (H1 : Heap) (locs1 : List Loc), sgG (KE a1 a2 f1 f2 d1 d2 z P) D vwCl A tys ad ks H1 → va_S A H0 H1 locs1 → sgFr (KE a1 a2 f1 f2 d1 d2 z P) D vwCl ad ks H H1 (fun _ _ => False) → W p l e R s m args below meth c H1 locs1 cells slots Q (F0 m (pc + 1) ls rest)) : W p l e R s m args below meth c H locs cells slots Q (F0 m pc ls (.int x :: .int i :: .ref a :: rest)) :=
  sg_iast X hK hG hS ha (k := 52) rfl hin hv hdg kk
theorem as_53e  {i : Int32} {x : Int32} {a1 a2 f1 f2 d1 d2 : Int} {z : sgZt} (X : CallFix p m c cc nL s args sg_tbl own) (hK : va_K D vwCl tys s) (hG : sgG (KE a1 a2 f1 f2 d1 d2 z P) D vwCl A tys ad ks H) (hS : va_S A H0 H locs) (ha : isK ad ks 53 a) (hin : vp_in i 5) (hv : okV ad ks ((sg_gl (sgGl P) : Nat → sgT) i.toNatClampNeg) (.int x)) (hdg : decode cc pc = .ok (.iastore, 1)) (kk : ∀ (H1 : Heap) (locs1 : List Loc), sgG (KE a1 a2 f1 f2 d1 d2 z P) D vwCl A tys ad ks H1 → va_S A H0 H1 locs1 → sgFr (KE a1 a2 f1 f2 d1 d2 z P) D vwCl ad ks H H1 (fun _ _ => False) → W p l e R s m args below meth c H1 locs1 cells slots Q (F0 m (pc + 1) ls rest)) : W p l e R s m args below meth c H locs cells slots Q (F0 m pc ls (.int x :: .int i :: .ref a :: rest)) :=
  sg_iast X hK hG hS ha (k := 53) rfl hin hv hdg kk
set_option maxHeartbeats 8000000 in
set_option maxRecDepth 100000 in
theorem m_X12_digit_e (l : Launch) {D : va_G} {base : Nat} {tys : List (ClassId × FieldType)} {ad ks : List Nat} {P : sgPm}{a d1 d2 : Int} {z : sgZt}  (a0 : Nat) (h0 : isK ad ks 12 a0) (hl0 : 0 ≤ sgL2 P ∧ sgL2 P ≤ 240) (hav : 0 ≤ a ∧ a ≤ sgL2 P) (hby : sgBy2 P) (hd0 : 0 ≤ d1 ∧ d2 ≤ 6) : Met l yX12_digit (Cond.code yX12_digit cX12_digit 2 (some .int) :: sg_tbl) ({ frames := 1, cells := 0, slots := 0, locals := 20 }) (va_Pc [.ref a0] (sgB (KE a a (-1) (-1) d1 d2 z P) D vwCl base tys ad ks)) (va_Qi (fun r (u : Int32) => u = r ∧ (fun r : Int32 => True) r) (fun u t => (∃ a1 : Int, vCut1 (sgU2 P) (sgL2 P) (vX (sgU2 P) (sgL2 P) a) = (true, vX (sgU2 P) (sgL2 P) a1) ∧ a + 1 ≤ a1 ∧ a1 ≤ sgL2 P ∧ sgB (KE a1 a1 (-1) (-1) d1 d2 z P) D vwCl base tys ad ks t) ∨ (∃ w : Int, vCut1 (sgU2 P) (sgL2 P) (vX (sgU2 P) (sgL2 P) a) = (false, w) ∧ 0 ≤ w ∧ w ≤ 240 ∧ sgB (KE 0 241 w w d1 d2 z P) D vwCl base tys ad ks t)) (fun q : Nat => base ≤ q)) 0 0 (fun q : Nat => base ≤ q) := by
  refine sg_ofW (by decide +kernel) (Nat.le_of_ble_eq_true rfl) (fun p e s m below meth c X hr hlk hb hK hC hG ls hl => ?_)
  have hS : va_S (fun q : Nat => base ≤ q) s.heap s.heap [] := va_S.rf
  have hl : lv_has ls 2 [(0, .ref a0)] := hl
  refine lv_aload_n X.1 X.2.1 dX12_digit_0 rfl (lv_at hl 0 rfl) ?_
  refine ca_X12_look_e X hK hG hC hS hb a0 h0 hl0 hav hby wl_7_137 hl.1 (rest := []) rfl (Nat.le_of_ble_eq_true rfl) ⟨Nat.le_of_ble_eq_true rfl, Nat.le_of_ble_eq_true rfl⟩ ⟨Nat.le_of_ble_eq_true rfl, Nat.le_of_ble_eq_true rfl⟩ dX12_digit_1 (fun f1 tf1 H locs htf1 hf1 hWf1 hS => ?_)
  have hBf1 := hWf1.2
  have xf1 := hWf1.1
  have hG := hBf1.2.2.2
  rw [htf1] at hG
  have b2 := vq_bdL (b := sgU2 P) hav
  have eb2 : a ≤ vX (sgU2 P) (sgL2 P) a := (vX_ge (sgU2 P) (sgL2 P) a).1
  have pb2 : a + 0 ≤ vX (sgU2 P) (sgL2 P) a := Int.le_trans (vq_pg0 a) (vX_ge (sgU2 P) (sgL2 P) a).1
  have yf1 : iv (-1) 255 f1 := vq_lk xf1 (vC_by2 hby _)
  refine lv_istore_n (lv' := [(1, .int f1), (0, .ref a0)]) X.1 X.2.1 dX12_digit_4 rfl hl (by decide) rfl (fun ls hl => ?_)
  refine lv_aload_n X.1 X.2.1 dX12_digit_5 rfl (lv_at hl 1 rfl) ?_
  refine ca_X12_isDigit_e X hK hG hC (fun _ h => h) hS hb a0 h0 hl0 b2 hby wl_7_187 hl.1 (rest := []) rfl (Nat.le_of_ble_eq_true rfl) ⟨Nat.le_of_ble_eq_true rfl, Nat.le_of_ble_eq_true rfl⟩ ⟨Nat.le_of_ble_eq_true rfl, Nat.le_of_ble_eq_true rfl⟩ dX12_digit_6 (fun f3 locs hf3 hS => ?_)
  refine lv_if_eq (tgt := 24) X.1 X.2.1 dX12_digit_9 (by decide) (fun c4 => ?_) (fun c4 => ?_)
  · have j5 := vq_says0 hf3 c4
    have k6 : vC (sgU2 P) (sgL2 P) (vX (sgU2 P) (sgL2 P) a) < (48 : Int) ∨ (57 : Int) < vC (sgU2 P) (sgL2 P) (vX (sgU2 P) (sgL2 P) a) := j5
    refine lv_aload_n X.1 X.2.1 dX12_digit_24 rfl (lv_at hl 1 rfl) ?_
    refine ca_X12_fails_e X hK hG hC hS hb a0 h0 hl0 b2 wl_7_141 hl.1 (rest := []) rfl (Nat.le_of_ble_eq_true rfl) ⟨Nat.le_of_ble_eq_true rfl, Nat.le_of_ble_eq_true rfl⟩ ⟨Nat.le_of_ble_eq_true rfl, Nat.le_of_ble_eq_true rfl⟩ dX12_digit_25 (fun f10 tf10 H locs htf10 hf10 hWf10 hS => ?_)
    have hG := hWf10.2.2.2
    rw [htf10] at hG
    obtain rfl : f10 = 0 := sg_is0 hf10
    refine lv_pop X.1 X.2.1 dX12_digit_28 rfl ?_
    refine lv_iconst (v := 0) X.1 X.2.1 dX12_digit_29 (by decide +kernel) ?_
    have spr : vCut1 (sgU2 P) (sgL2 P) (vX (sgU2 P) (sgL2 P) a) = (false, (vX (sgU2 P) (sgL2 P) a)) := by exact vCut1_f (vq_49 k6)
    have hG := ke_weak (b1 := 0) (b2 := 241) (g1 := (vX (sgU2 P) (sgL2 P) a)) (g2 := (vX (sgU2 P) (sgL2 P) a)) (e1 := d1) (e2 := d2) hG (b2).1 (Int.le_trans (b2).2 (Int.le_trans hl0.2 (by decide))) (Int.le_refl _) (Int.le_refl _) (Int.le_refl _) (Int.le_refl _)
    exact sg_iret2 X hr hlk hS trivial (fun t ht hW => (Or.inr ⟨_, spr, ((vq_bw b2 hl0)).1, ((vq_bw b2 hl0)).2, sg_post hb hK hC hG hS ht hW⟩)) dX12_digit_30
  · have j7 := vq_says1 hf3 c4
    have k8 : ¬ vC (sgU2 P) (sgL2 P) (vX (sgU2 P) (sgL2 P) a) < (48 : Int) := j7.1
    have k9 : ¬ (57 : Int) < vC (sgU2 P) (sgL2 P) (vX (sgU2 P) (sgL2 P) a) := j7.2
    refine lv_iload_n X.1 X.2.1 dX12_digit_12 rfl (lv_at hl 0 rfl) ?_
    refine lv_bipush (v := 49) X.1 X.2.1 dX12_digit_13 (by decide +kernel) ?_
    refine lv_icmp_lt (tgt := 24) X.1 X.2.1 dX12_digit_15 (by decide) (fun c11 => ?_) (fun c11 => ?_)
    · have i12 : vE (vC (sgU2 P) (sgL2 P) (vX (sgU2 P) (sgL2 P) a)) < (49 : Int) := vq_lt c11 xf1 (by decide +kernel)
      have mi12 : vC (sgU2 P) (sgL2 P) (vX (sgU2 P) (sgL2 P) a) < (49 : Int) := vE_lt i12 (by decide)
      refine lv_aload_n X.1 X.2.1 dX12_digit_24 rfl (lv_at hl 1 rfl) ?_
      refine ca_X12_fails_e X hK hG hC hS hb a0 h0 hl0 b2 wl_7_141 hl.1 (rest := []) rfl (Nat.le_of_ble_eq_true rfl) ⟨Nat.le_of_ble_eq_true rfl, Nat.le_of_ble_eq_true rfl⟩ ⟨Nat.le_of_ble_eq_true rfl, Nat.le_of_ble_eq_true rfl⟩ dX12_digit_25 (fun f14 tf14 H locs htf14 hf14 hWf14 hS => ?_)
      have hG := hWf14.2.2.2
      rw [htf14] at hG
      obtain rfl : f14 = 0 := sg_is0 hf14
      refine lv_pop X.1 X.2.1 dX12_digit_28 rfl ?_
      refine lv_iconst (v := 0) X.1 X.2.1 dX12_digit_29 (by decide +kernel) ?_
      have spr : vCut1 (sgU2 P) (sgL2 P) (vX (sgU2 P) (sgL2 P) a) = (false, (vX (sgU2 P) (sgL2 P) a)) := by exact vCut1_f (Or.inl mi12)
      have hG := ke_weak (b1 := 0) (b2 := 241) (g1 := (vX (sgU2 P) (sgL2 P) a)) (g2 := (vX (sgU2 P) (sgL2 P) a)) (e1 := d1) (e2 := d2) hG (b2).1 (Int.le_trans (b2).2 (Int.le_trans hl0.2 (by decide))) (Int.le_refl _) (Int.le_refl _) (Int.le_refl _) (Int.le_refl _)
      exact sg_iret2 X hr hlk hS trivial (fun t ht hW => (Or.inr ⟨_, spr, ((vq_bw b2 hl0)).1, ((vq_bw b2 hl0)).2, sg_post hb hK hC hG hS ht hW⟩)) dX12_digit_30
    · have i13 : ¬ vE (vC (sgU2 P) (sgL2 P) (vX (sgU2 P) (sgL2 P) a)) < (49 : Int) := vq_le (iv_ge_of c11) (by decide +kernel) xf1
      have mi13 : ¬ vC (sgU2 P) (sgL2 P) (vX (sgU2 P) (sgL2 P) a) < (49 : Int) := vE_nlt i13 (by decide)
      refine lv_iload_n X.1 X.2.1 dX12_digit_18 rfl (lv_at hl 0 rfl) ?_
      refine lv_bipush (v := 53) X.1 X.2.1 dX12_digit_19 (by decide +kernel) ?_
      refine lv_icmp_le (tgt := 31) X.1 X.2.1 dX12_digit_21 (by decide) (fun c15 => ?_) (fun c15 => ?_)
      · have i16 : ¬ (53 : Int) < vE (vC (sgU2 P) (sgL2 P) (vX (sgU2 P) (sgL2 P) a)) := vq_le c15 xf1 (by decide +kernel)
        have mi16 : ¬ (53 : Int) < vC (sgU2 P) (sgL2 P) (vX (sgU2 P) (sgL2 P) a) := vE_ngt i16 (by decide)
        refine lv_aload_n X.1 X.2.1 dX12_digit_31 rfl (lv_at hl 1 rfl) ?_
        refine lv_dup X.1 X.2.1 dX12_digit_32 rfl ?_
        refine gf_X12_10e X hK hG h0 wl_6_188 dX12_digit_33 (fun f18 hf18 => ?_)
        have xf18 : f18.toInt = (vX (sgU2 P) (sgL2 P) a) := vq_iv hf18
        have yf18 : iv 0 240 f18 := vq_240 hl0 b2 xf18
        refine lv_iconst (v := 1) X.1 X.2.1 dX12_digit_36 (by decide +kernel) ?_
        refine lv_iadd X.1 X.2.1 dX12_digit_37 ?_
        refine lv_topi (fun f19 ef19 => ?_)
        have xf19 : f19.toInt = ((vX (sgU2 P) (sgL2 P) a) + 1) := sg_exadd ef19 yf18 (iv_c 1 (a := 1) (b := 1) (by decide +kernel)) (by decide +kernel) xf18 (by decide +kernel)
        refine pf_X12_10E (b1 := ((vX (sgU2 P) (sgL2 P) a) + 1)) (b2 := ((vX (sgU2 P) (sgL2 P) a) + 1)) X hK hG hS h0 wl_6_188 (vq_of (lo := ((vX (sgU2 P) (sgL2 P) a) + 1)) (hi := ((vX (sgU2 P) (sgL2 P) a) + 1)) xf19 ⟨Int.le_refl _, Int.le_refl _⟩) dX12_digit_38 (fun H locs hG hS => ?_)
        have l20 := (vC_lt (b := sgU2 P) (n := sgL2 P) (a := (vX (sgU2 P) (sgL2 P) a)) (vq_dn k8)).2
        have b21 := vq_bd1 b2 l20
        have pb21 : a + 1 ≤ ((vX (sgU2 P) (sgL2 P) a) + 1) := vq_pg pb2 (m := 1) (Int.le_refl _) (by decide)
        refine lv_iload_n X.1 X.2.1 dX12_digit_41 rfl (lv_at hl 0 rfl) ?_
        refine lv_bipush (v := 48) X.1 X.2.1 dX12_digit_42 (by decide +kernel) ?_
        refine lv_isub X.1 X.2.1 dX12_digit_44 ?_
        refine lv_topi (fun f22 ef22 => ?_)
        have xf22 : f22.toInt = (vE (vC (sgU2 P) (sgL2 P) (vX (sgU2 P) (sgL2 P) a)) - 48) := sg_exsub ef22 (iv_le (b' := 53) c15 (iv_ler (c' := 49) (iv_ge_of c11) (iv_c 49 (a := 49) (b := 49) (by decide +kernel)) yf1 (by decide +kernel)) (iv_c 53 (a := 53) (b := 53) (by decide +kernel)) (by decide +kernel)) (iv_c 48 (a := 48) (b := 48) (by decide +kernel)) (by decide +kernel) xf1 (by decide +kernel)
        have spr : vCut1 (sgU2 P) (sgL2 P) (vX (sgU2 P) (sgL2 P) a) = (true, vX (sgU2 P) (sgL2 P) ((vX (sgU2 P) (sgL2 P) a) + 1)) := by exact vCut1_t mi13 mi16
        exact sg_iret2 X hr hlk hS trivial (fun t ht hW => (Or.inl ⟨_, spr, vq_pgw pb21 (by decide), (b21).2, sg_post hb hK hC hG hS ht hW⟩)) dX12_digit_45
      · have i17 : (53 : Int) < vE (vC (sgU2 P) (sgL2 P) (vX (sgU2 P) (sgL2 P) a)) := vq_lt (iv_gt_of c15) (by decide +kernel) xf1
        have mi17 : (53 : Int) < vC (sgU2 P) (sgL2 P) (vX (sgU2 P) (sgL2 P) a) := vE_gt i17 (by decide)
        refine lv_aload_n X.1 X.2.1 dX12_digit_24 rfl (lv_at hl 1 rfl) ?_
        refine ca_X12_fails_e X hK hG hC hS hb a0 h0 hl0 b2 wl_7_141 hl.1 (rest := []) rfl (Nat.le_of_ble_eq_true rfl) ⟨Nat.le_of_ble_eq_true rfl, Nat.le_of_ble_eq_true rfl⟩ ⟨Nat.le_of_ble_eq_true rfl, Nat.le_of_ble_eq_true rfl⟩ dX12_digit_25 (fun f23 tf23 H locs htf23 hf23 hWf23 hS => ?_)
        have hG := hWf23.2.2.2
        rw [htf23] at hG
        obtain rfl : f23 = 0 := sg_is0 hf23
        refine lv_pop X.1 X.2.1 dX12_digit_28 rfl ?_
        refine lv_iconst (v := 0) X.1 X.2.1 dX12_digit_29 (by decide +kernel) ?_
        have spr : vCut1 (sgU2 P) (sgL2 P) (vX (sgU2 P) (sgL2 P) a) = (false, (vX (sgU2 P) (sgL2 P) a)) := by exact vCut1_f (Or.inr mi17)
        have hG := ke_weak (b1 := 0) (b2 := 241) (g1 := (vX (sgU2 P) (sgL2 P) a)) (g2 := (vX (sgU2 P) (sgL2 P) a)) (e1 := d1) (e2 := d2) hG (b2).1 (Int.le_trans (b2).2 (Int.le_trans hl0.2 (by decide))) (Int.le_refl _) (Int.le_refl _) (Int.le_refl _) (Int.le_refl _)
        exact sg_iret2 X hr hlk hS trivial (fun t ht hW => (Or.inr ⟨_, spr, ((vq_bw b2 hl0)).1, ((vq_bw b2 hl0)).2, sg_post hb hK hC hG hS ht hW⟩)) dX12_digit_30

theorem ca_X12_digit_e  {a d1 d2 : Int} {z : sgZt}  (X : CallFix p m c cc nL s args sg_tbl own) (hK : va_K D vwCl tys s) (hG : sgG (KE a a (-1) (-1) d1 d2 z P) D vwCl (fun q : Nat => base ≤ q) tys ad ks H) (hC : sgC base s) (hS : va_S (fun q : Nat => base ≤ q) s.heap H locs) (hb : base ≤ s.heap.size) (a0 : Nat) (h0 : isK ad ks 12 a0) (hl0 : 0 ≤ sgL2 P ∧ sgL2 P ≤ 240) (hav : 0 ≤ a ∧ a ≤ sgL2 P) (hby : sgBy2 P) (hd0 : 0 ≤ d1 ∧ d2 ≤ 6) (hl : Cond.methodLink own index yX12_digit ∈ sg_tbl) (hsize : ls.size = nL) (hst : st0 = [].reverse ++ .ref a0 :: rest) (hW : (rest.map fun v => v.category).sum ≤ 8) (hR : 2 ≤ R.frames ∧ 41 ≤ R.locals) (hf : cells ≤ R.cells ∧ slots ≤ R.slots) (hdg : decode cc pc = .ok (.invokevirtual index, 3)) (kk : ∀ (r : Int32) (t : State) (H1 : Heap) (locs1 : List Loc), t.heap = H1 → (fun r : Int32 => True) r → ((∃ a1 : Int, vCut1 (sgU2 P) (sgL2 P) (vX (sgU2 P) (sgL2 P) a) = (true, vX (sgU2 P) (sgL2 P) a1) ∧ a + 1 ≤ a1 ∧ a1 ≤ sgL2 P ∧ sgB (KE a1 a1 (-1) (-1) d1 d2 z P) D vwCl base tys ad ks t) ∨ (∃ w : Int, vCut1 (sgU2 P) (sgL2 P) (vX (sgU2 P) (sgL2 P) a) = (false, w) ∧ 0 ≤ w ∧ w ≤ 240 ∧ sgB (KE 0 241 w w d1 d2 z P) D vwCl base tys ad ks t)) → va_S (fun q : Nat => base ≤ q) s.heap H1 locs1 → W p l e R s m args below meth c H1 locs1 cells slots Q (F0 m (pc + 3) ls (.int r :: rest))) : W p l e R s m args below meth c H locs cells slots Q (F0 m pc ls st0) :=
  sg_callV2i X hK hG hC hS hb (m_X12_digit_e l a0 h0 hl0 hav hby hd0) h0 (k := 12) (ci := 12) rfl (C := RX12) (T := TX12) (N := 53) rfl wl_8_40 wl_1_13 wl_8_39 wl_0_71 (n := 0) (by decide +kernel) rfl rfl rfl hl hsize hst hW hR hf hdg kk

set_option maxHeartbeats 8000000 in
set_option maxRecDepth 100000 in
theorem m_X12_readMove_e (l : Launch) {D : va_G} {base : Nat} {tys : List (ClassId × FieldType)} {ad ks : List Nat} {P : sgPm}{a d1 d2 : Int} {z : sgZt}  (a0 : Nat) (h0 : isK ad ks 12 a0) (x1 : Int32) (h1 : iv 256 316 x1) (hl0 : 0 ≤ sgL2 P ∧ sgL2 P ≤ 240) (hav : 0 ≤ a ∧ a ≤ sgL2 P) (hby : sgBy2 P) (hd0 : 0 ≤ d1 ∧ d2 ≤ 6) : Met l yX12_readMove (Cond.code yX12_readMove cX12_readMove 4 none :: sg_tbl) ({ frames := 5, cells := 0, slots := 0, locals := 107 }) (va_Pc [.ref a0, .int x1] (sgB (KE a a (-1) (-1) d1 d2 z P) D vwCl base tys ad ks)) (va_Qv (fun (_ : Unit) => True) (fun _ => fun t => (∃ a1 : Int, vMv (sgU2 P) (sgL2 P) (vX (sgU2 P) (sgL2 P) a) = (true, vX (sgU2 P) (sgL2 P) a1) ∧ a + 1 ≤ a1 ∧ a1 ≤ sgL2 P ∧ sgB (KE a1 a1 (-1) (-1) d1 d2 z P) D vwCl base tys ad ks t) ∨ (∃ w : Int, vMv (sgU2 P) (sgL2 P) (vX (sgU2 P) (sgL2 P) a) = (false, w) ∧ 0 ≤ w ∧ w ≤ 240 ∧ sgB (KE 0 241 w w d1 d2 z P) D vwCl base tys ad ks t)) (fun q : Nat => base ≤ q)) 0 0 (fun q : Nat => base ≤ q) := by
  refine sg_ofW (by decide +kernel) (Nat.le_of_ble_eq_true rfl) (fun p e s m below meth c X hr hlk hb hK hC hG ls hl => ?_)
  have hS : va_S (fun q : Nat => base ≤ q) s.heap s.heap [] := va_S.rf
  have hl : lv_has ls 4 [(0, .ref a0), (1, .int x1)] := hl
  obtain ⟨t1, vt1, pt1, rt1⟩ := hC.2.2.2.2.2.1
  refine va_ldcSW X.1 X.2.1 X.2.2.2.1 rt1 dX12_readMove_0 ?_
  refine lv_aload_n X.1 X.2.1 dX12_readMove_3 rfl (lv_at hl 0 rfl) ?_
  refine ca_X12_look_e X hK hG hC hS hb a0 h0 hl0 hav hby wl_7_137 hl.1 (rest := [.ref t1]) rfl (Nat.le_of_ble_eq_true rfl) ⟨Nat.le_of_ble_eq_true rfl, Nat.le_of_ble_eq_true rfl⟩ ⟨Nat.le_of_ble_eq_true rfl, Nat.le_of_ble_eq_true rfl⟩ dX12_readMove_4 (fun f2 tf2 H locs htf2 hf2 hWf2 hS => ?_)
  have hBf2 := hWf2.2
  have xf2 := hWf2.1
  have hG := hBf2.2.2.2
  rw [htf2] at hG
  have b3 := vq_bdL (b := sgU2 P) hav
  have eb3 : a ≤ vX (sgU2 P) (sgL2 P) a := (vX_ge (sgU2 P) (sgL2 P) a).1
  have pb3 : a + 0 ≤ vX (sgU2 P) (sgL2 P) a := Int.le_trans (vq_pg0 a) (vX_ge (sgU2 P) (sgL2 P) a).1
  have yf2 : iv (-1) 255 f2 := vq_lk xf2 (vC_by2 hby _)
  refine ca_X12_spotOf_e4 X hK (ke_toKT hG (by decide) (by decide) hd0.1 hd0.2) hC (fun _ h => h) hS hb pt1 f2 (sg_htb (by decide +kernel)) wl_7_151 hl.1 (rest := []) rfl (Nat.le_of_ble_eq_true rfl) ⟨Nat.le_of_ble_eq_true rfl, Nat.le_of_ble_eq_true rfl⟩ ⟨Nat.le_of_ble_eq_true rfl, Nat.le_of_ble_eq_true rfl⟩ dX12_readMove_7 (fun f4 locs hf4 hS => ?_)
  have xf4 : f4.toInt = vGc (vC (sgU2 P) (sgL2 P) (vX (sgU2 P) (sgL2 P) a)) := hf4.2.1.trans (by rw [xf2]; exact vGc_E _)
  refine lv_istore_n (lv' := [(2, .int f4), (0, .ref a0), (1, .int x1)]) X.1 X.2.1 dX12_readMove_10 rfl hl (by decide) rfl (fun ls hl => ?_)
  refine lv_iload_n X.1 X.2.1 dX12_readMove_11 rfl (lv_at hl 0 rfl) ?_
  refine lv_iconst (v := (-1)) X.1 X.2.1 dX12_readMove_12 (by decide +kernel) ?_
  refine lv_icmp_ne (tgt := 22) X.1 X.2.1 dX12_readMove_13 (by decide) (fun c5 => ?_) (fun c5 => ?_)
  · have i6 : (vGc (vC (sgU2 P) (sgL2 P) (vX (sgU2 P) (sgL2 P) a)) = ((-1) : Int)) = False := vq_ne c5 xf4 (by decide +kernel)
    refine lv_aload_n X.1 X.2.1 dX12_readMove_22 rfl (lv_at hl 1 rfl) ?_
    refine lv_dup X.1 X.2.1 dX12_readMove_23 rfl ?_
    refine gf_X12_10e X hK hG h0 wl_6_188 dX12_readMove_24 (fun f8 hf8 => ?_)
    have xf8 : f8.toInt = (vX (sgU2 P) (sgL2 P) a) := vq_iv hf8
    have yf8 : iv 0 240 f8 := vq_240 hl0 b3 xf8
    refine lv_iconst (v := 1) X.1 X.2.1 dX12_readMove_27 (by decide +kernel) ?_
    refine lv_iadd X.1 X.2.1 dX12_readMove_28 ?_
    refine lv_topi (fun f9 ef9 => ?_)
    have xf9 : f9.toInt = ((vX (sgU2 P) (sgL2 P) a) + 1) := sg_exadd ef9 yf8 (iv_c 1 (a := 1) (b := 1) (by decide +kernel)) (by decide +kernel) xf8 (by decide +kernel)
    refine pf_X12_10E (b1 := ((vX (sgU2 P) (sgL2 P) a) + 1)) (b2 := ((vX (sgU2 P) (sgL2 P) a) + 1)) X hK hG hS h0 wl_6_188 (vq_of (lo := ((vX (sgU2 P) (sgL2 P) a) + 1)) (hi := ((vX (sgU2 P) (sgL2 P) a) + 1)) xf9 ⟨Int.le_refl _, Int.le_refl _⟩) dX12_readMove_29 (fun H locs hG hS => ?_)
    have l10 := (vC_lt (b := sgU2 P) (n := sgL2 P) (a := (vX (sgU2 P) (sgL2 P) a)) (vGc_ne i6)).2
    have b11 := vq_bd1 b3 l10
    have pb11 : a + 1 ≤ ((vX (sgU2 P) (sgL2 P) a) + 1) := vq_pg pb3 (m := 1) (Int.le_refl _) (by decide)
    refine lv_aload_n X.1 X.2.1 dX12_readMove_32 rfl (lv_at hl 1 rfl) ?_
    refine gf_X12_21e X hK hG h0 wl_6_199 dX12_readMove_33 (fun q12 hq12 kq12 => ?_)
    refine lv_iload_n X.1 X.2.1 dX12_readMove_36 rfl (lv_at hl 2 rfl) ?_
    refine lv_iload_n X.1 X.2.1 dX12_readMove_37 rfl (lv_at hl 0 rfl) ?_
    refine as_52e X hK hG hS hq12 (iv_vpin h1 (by decide +kernel)) (sg_gal h1 (by decide +kernel)) dX12_readMove_38 (fun H locs hG hS ru13 => ?_)
    refine lv_aload_n X.1 X.2.1 dX12_readMove_39 rfl (lv_at hl 1 rfl) ?_
    refine gg_X12_21e X hK hG h0 wl_6_199 (ru13 _ _ _ _ _ _ _ h0 rfl rfl (by decide) (fun z => z.elim) kq12) dX12_readMove_40 ?_
    refine lv_iload_n X.1 X.2.1 dX12_readMove_43 rfl (lv_at hl 2 rfl) ?_
    refine lv_iconst (v := 1) X.1 X.2.1 dX12_readMove_44 (by decide +kernel) ?_
    refine lv_iadd X.1 X.2.1 dX12_readMove_45 ?_
    refine lv_topi (fun f14 ef14 => ?_)
    have xf14 : f14.toInt = (x1.toInt + 1) := sg_exadd ef14 h1 (iv_c 1 (a := 1) (b := 1) (by decide +kernel)) (by decide +kernel) rfl (by decide +kernel)
    refine lv_iconst (v := (-1)) X.1 X.2.1 dX12_readMove_46 (by decide +kernel) ?_
    refine as_52e X hK hG hS hq12 (iv_vpin (iv_add (a' := 257) (b' := 317) ef14 h1 (iv_c 1 (a := 1) (b := 1) (by decide +kernel)) (by decide +kernel)) (by decide +kernel)) (sg_gal (iv_add (a' := 257) (b' := 317) ef14 h1 (iv_c 1 (a := 1) (b := 1) (by decide +kernel)) (by decide +kernel)) (by decide +kernel)) dX12_readMove_47 (fun H locs hG hS ru15 => ?_)
    refine lv_aload_n X.1 X.2.1 dX12_readMove_48 rfl (lv_at hl 1 rfl) ?_
    refine gg_X12_21e X hK hG h0 wl_6_199 (ru15 _ _ _ _ _ _ _ h0 rfl rfl (by decide) (fun z => z.elim) (ru13 _ _ _ _ _ _ _ h0 rfl rfl (by decide) (fun z => z.elim) kq12)) dX12_readMove_49 ?_
    refine lv_iload_n X.1 X.2.1 dX12_readMove_52 rfl (lv_at hl 2 rfl) ?_
    refine lv_iconst (v := 2) X.1 X.2.1 dX12_readMove_53 (by decide +kernel) ?_
    refine lv_iadd X.1 X.2.1 dX12_readMove_54 ?_
    refine lv_topi (fun f16 ef16 => ?_)
    have xf16 : f16.toInt = (x1.toInt + 2) := sg_exadd ef16 h1 (iv_c 2 (a := 2) (b := 2) (by decide +kernel)) (by decide +kernel) rfl (by decide +kernel)
    refine lv_iconst (v := 0) X.1 X.2.1 dX12_readMove_55 (by decide +kernel) ?_
    refine as_52e X hK hG hS hq12 (iv_vpin (iv_add (a' := 258) (b' := 318) ef16 h1 (iv_c 2 (a := 2) (b := 2) (by decide +kernel)) (by decide +kernel)) (by decide +kernel)) (sg_gal (iv_add (a' := 258) (b' := 318) ef16 h1 (iv_c 2 (a := 2) (b := 2) (by decide +kernel)) (by decide +kernel)) (by decide +kernel)) dX12_readMove_56 (fun H locs hG hS ru17 => ?_)
    refine lv_aload_n X.1 X.2.1 dX12_readMove_57 rfl (lv_at hl 1 rfl) ?_
    refine gg_X12_21e X hK hG h0 wl_6_199 (ru17 _ _ _ _ _ _ _ h0 rfl rfl (by decide) (fun z => z.elim) (ru15 _ _ _ _ _ _ _ h0 rfl rfl (by decide) (fun z => z.elim) (ru13 _ _ _ _ _ _ _ h0 rfl rfl (by decide) (fun z => z.elim) kq12))) dX12_readMove_58 ?_
    refine lv_iload_n X.1 X.2.1 dX12_readMove_61 rfl (lv_at hl 2 rfl) ?_
    refine lv_iconst (v := 3) X.1 X.2.1 dX12_readMove_62 (by decide +kernel) ?_
    refine lv_iadd X.1 X.2.1 dX12_readMove_63 ?_
    refine lv_topi (fun f18 ef18 => ?_)
    have xf18 : f18.toInt = (x1.toInt + 3) := sg_exadd ef18 h1 (iv_c 3 (a := 3) (b := 3) (by decide +kernel)) (by decide +kernel) rfl (by decide +kernel)
    refine lv_iconst (v := 0) X.1 X.2.1 dX12_readMove_64 (by decide +kernel) ?_
    refine as_52e X hK hG hS hq12 (iv_vpin (iv_add (a' := 259) (b' := 319) ef18 h1 (iv_c 3 (a := 3) (b := 3) (by decide +kernel)) (by decide +kernel)) (by decide +kernel)) (sg_gal (iv_add (a' := 259) (b' := 319) ef18 h1 (iv_c 3 (a := 3) (b := 3) (by decide +kernel)) (by decide +kernel)) (by decide +kernel)) dX12_readMove_65 (fun H locs hG hS ru19 => ?_)
    refine lv_iload_n X.1 X.2.1 dX12_readMove_66 rfl (lv_at hl 0 rfl) ?_
    refine lv_iconst (v := 3) X.1 X.2.1 dX12_readMove_67 (by decide +kernel) ?_
    refine lv_icmp_ne (tgt := 72) X.1 X.2.1 dX12_readMove_68 (by decide) (fun c20 => ?_) (fun c20 => ?_)
    · have i21 : (vGc (vC (sgU2 P) (sgL2 P) (vX (sgU2 P) (sgL2 P) a)) = (3 : Int)) = False := vq_ne c20 xf4 (by decide +kernel)
      refine lv_iload_n X.1 X.2.1 dX12_readMove_72 rfl (lv_at hl 0 rfl) ?_
      refine lv_if_ne (tgt := 96) X.1 X.2.1 dX12_readMove_73 (by decide) (fun c23 => ?_) (fun c23 => ?_)
      · have i24 : (vGc (vC (sgU2 P) (sgL2 P) (vX (sgU2 P) (sgL2 P) a)) = (0 : Int)) = False := vq_ne c23 xf4 (by decide +kernel)
        refine lv_aload_n X.1 X.2.1 dX12_readMove_96 rfl (lv_at hl 1 rfl) ?_
        refine gg_X12_21e X hK hG h0 wl_6_199 (ru19 _ _ _ _ _ _ _ h0 rfl rfl (by decide) (fun z => z.elim) (ru17 _ _ _ _ _ _ _ h0 rfl rfl (by decide) (fun z => z.elim) (ru15 _ _ _ _ _ _ _ h0 rfl rfl (by decide) (fun z => z.elim) (ru13 _ _ _ _ _ _ _ h0 rfl rfl (by decide) (fun z => z.elim) kq12)))) dX12_readMove_97 ?_
        refine lv_iload_n X.1 X.2.1 dX12_readMove_100 rfl (lv_at hl 2 rfl) ?_
        refine lv_iconst (v := 1) X.1 X.2.1 dX12_readMove_101 (by decide +kernel) ?_
        refine lv_iadd X.1 X.2.1 dX12_readMove_102 ?_
        refine lv_topi (fun f26 ef26 => ?_)
        have xf26 : f26.toInt = (x1.toInt + 1) := sg_exadd ef26 h1 (iv_c 1 (a := 1) (b := 1) (by decide +kernel)) (by decide +kernel) rfl (by decide +kernel)
        refine lv_aload_n X.1 X.2.1 dX12_readMove_103 rfl (lv_at hl 1 rfl) ?_
        refine lv_iconst (v := 0) X.1 X.2.1 dX12_readMove_104 (by decide +kernel) ?_
        refine lv_bipush (v := 29) X.1 X.2.1 dX12_readMove_105 (by decide +kernel) ?_
        refine ca_X12_number_e X hK hG hC hS hb a0 h0 0 29 hl0 b11 hby (by omega) (show (0 : Int32).toInt = (0 : Int) ∧ (29 : Int32).toInt = (29 : Int) from ⟨(by decide +kernel), (by decide +kernel)⟩) wl_7_183 hl.1 (rest := [.int f26, .ref q12]) rfl (Nat.le_of_ble_eq_true rfl) ⟨Nat.le_of_ble_eq_true rfl, Nat.le_of_ble_eq_true rfl⟩ ⟨Nat.le_of_ble_eq_true rfl, Nat.le_of_ble_eq_true rfl⟩ dX12_readMove_107 (fun f27 tf27 H locs htf27 hf27 hWf27 hS => ?_)
        rcases hWf27 with ⟨av28, nv28, pv28, xv28, g1v28, g2v28, gav28, gbv28, hBf27⟩ | ⟨wv28, pv28, w1v28, w2v28, hBf27⟩
        · have hG := hBf27.2.2.2
          rw [htf27] at hG
          have bv28 := vq_bd2 (k := 1) b11 (by decide) gav28 gbv28
          have p2v28 : a + 2 ≤ av28 := vq_pg pb11 gav28 (by decide)
          have yv28 : iv 0 29 f27 := ⟨by omega, by omega⟩
          refine as_52e X hK hG hS hq12 (iv_vpin (iv_add (a' := 257) (b' := 317) ef26 h1 (iv_c 1 (a := 1) (b := 1) (by decide +kernel)) (by decide +kernel)) (by decide +kernel)) (sg_gal (iv_add (a' := 257) (b' := 317) ef26 h1 (iv_c 1 (a := 1) (b := 1) (by decide +kernel)) (by decide +kernel)) (by decide +kernel)) dX12_readMove_110 (fun H locs hG hS ru29 => ?_)
          refine lv_iload_n X.1 X.2.1 dX12_readMove_111 rfl (lv_at hl 0 rfl) ?_
          refine lv_iconst (v := 1) X.1 X.2.1 dX12_readMove_112 (by decide +kernel) ?_
          refine lv_icmp_ne (tgt := 124) X.1 X.2.1 dX12_readMove_113 (by decide) (fun c30 => ?_) (fun c30 => ?_)
          · have i31 : (vGc (vC (sgU2 P) (sgL2 P) (vX (sgU2 P) (sgL2 P) a)) = (1 : Int)) = False := vq_ne c30 xf4 (by decide +kernel)
            have spr : vMv (sgU2 P) (sgL2 P) (vX (sgU2 P) (sgL2 P) a) = (true, vX (sgU2 P) (sgL2 P) av28) := by rw [vMvM_eq]; simp only [vMvM, vNu, vCutM, i6, i21, i24, pv28, i31, cond_true, cond_false, vB_t, vB_f, if_true, if_false, eq_self, not_true_eq_false, not_false_eq_true, Int.reduceEq, Int.reduceLT, or_false, false_or, or_true, true_or, Int.reduceNeg]
            exact sg_vret2 X hr hlk hS (fun t ht hW => (Or.inl ⟨_, spr, vq_pgw p2v28 (by decide), (bv28).2, sg_post hb hK hC hG hS ht hW⟩)) dX12_readMove_124
          · have i32 : vGc (vC (sgU2 P) (sgL2 P) (vX (sgU2 P) (sgL2 P) a)) = (1 : Int) := vq_eq c30 xf4 (by decide +kernel)
            refine lv_aload_n X.1 X.2.1 dX12_readMove_116 rfl (lv_at hl 1 rfl) ?_
            refine gf_X12_11e X hK hG h0 wl_6_189 dX12_readMove_117 (fun f33 hf33 => ?_)
            refine lv_iconst (v := (-1)) X.1 X.2.1 dX12_readMove_120 (by decide +kernel) ?_
            refine lv_icmp_eq (tgt := 125) X.1 X.2.1 dX12_readMove_121 (by decide) (fun c34 => ?_) (fun c34 => ?_)
            · have i35 : ((-1) : Int) = ((-1) : Int) := vq_eq c34 (vq_iv hf33) (by decide +kernel)
              obtain ⟨t37, vt37, pt37, rt37⟩ := hC.2.2.2.2.2.2
              refine va_ldcSW X.1 X.2.1 X.2.2.2.1 rt37 dX12_readMove_125 ?_
              refine lv_aload_n X.1 X.2.1 dX12_readMove_128 rfl (lv_at hl 1 rfl) ?_
              refine ca_X12_look_e X hK hG hC hS hb a0 h0 hl0 bv28 hby wl_7_137 hl.1 (rest := [.ref t37]) rfl (Nat.le_of_ble_eq_true rfl) ⟨Nat.le_of_ble_eq_true rfl, Nat.le_of_ble_eq_true rfl⟩ ⟨Nat.le_of_ble_eq_true rfl, Nat.le_of_ble_eq_true rfl⟩ dX12_readMove_129 (fun f38 tf38 H locs htf38 hf38 hWf38 hS => ?_)
              have hBf38 := hWf38.2
              have xf38 := hWf38.1
              have hG := hBf38.2.2.2
              rw [htf38] at hG
              have b39 := vq_bdL (b := sgU2 P) bv28
              have eb39 : av28 ≤ vX (sgU2 P) (sgL2 P) av28 := (vX_ge (sgU2 P) (sgL2 P) av28).1
              have pb39 : a + 2 ≤ vX (sgU2 P) (sgL2 P) av28 := Int.le_trans p2v28 (vX_ge (sgU2 P) (sgL2 P) av28).1
              have yf38 : iv (-1) 255 f38 := vq_lk xf38 (vC_by2 hby _)
              refine ca_X12_spotOf_e2 X hK (ke_toKT hG (by decide) (by decide) hd0.1 hd0.2) hC (fun _ h => h) hS hb pt37 f38 (sg_htb (by decide +kernel)) wl_7_151 hl.1 (rest := []) rfl (Nat.le_of_ble_eq_true rfl) ⟨Nat.le_of_ble_eq_true rfl, Nat.le_of_ble_eq_true rfl⟩ ⟨Nat.le_of_ble_eq_true rfl, Nat.le_of_ble_eq_true rfl⟩ dX12_readMove_132 (fun f40 locs hf40 hS => ?_)
              have xf40 : f40.toInt = vRd (vC (sgU2 P) (sgL2 P) (vX (sgU2 P) (sgL2 P) av28)) := hf40.2.1.trans (by rw [xf38]; exact vRd_E _)
              refine lv_istore_n (lv' := [(3, .int f40), (2, .int f4), (0, .ref a0), (1, .int x1)]) X.1 X.2.1 dX12_readMove_135 rfl hl (by decide) rfl (fun ls hl => ?_)
              refine lv_iload_n X.1 X.2.1 dX12_readMove_136 rfl (lv_at hl 0 rfl) ?_
              refine lv_iconst (v := (-1)) X.1 X.2.1 dX12_readMove_137 (by decide +kernel) ?_
              refine lv_icmp_ne (tgt := 147) X.1 X.2.1 dX12_readMove_138 (by decide) (fun c41 => ?_) (fun c41 => ?_)
              · have i42 : (vRd (vC (sgU2 P) (sgL2 P) (vX (sgU2 P) (sgL2 P) av28)) = ((-1) : Int)) = False := vq_ne c41 xf40 (by decide +kernel)
                refine lv_aload_n X.1 X.2.1 dX12_readMove_147 rfl (lv_at hl 2 rfl) ?_
                refine lv_dup X.1 X.2.1 dX12_readMove_148 rfl ?_
                refine gf_X12_10e X hK hG h0 wl_6_188 dX12_readMove_149 (fun f44 hf44 => ?_)
                have xf44 : f44.toInt = (vX (sgU2 P) (sgL2 P) av28) := vq_iv hf44
                have yf44 : iv 0 240 f44 := vq_240 hl0 b39 xf44
                refine lv_iconst (v := 1) X.1 X.2.1 dX12_readMove_152 (by decide +kernel) ?_
                refine lv_iadd X.1 X.2.1 dX12_readMove_153 ?_
                refine lv_topi (fun f45 ef45 => ?_)
                have xf45 : f45.toInt = ((vX (sgU2 P) (sgL2 P) av28) + 1) := sg_exadd ef45 yf44 (iv_c 1 (a := 1) (b := 1) (by decide +kernel)) (by decide +kernel) xf44 (by decide +kernel)
                refine pf_X12_10E (b1 := ((vX (sgU2 P) (sgL2 P) av28) + 1)) (b2 := ((vX (sgU2 P) (sgL2 P) av28) + 1)) X hK hG hS h0 wl_6_188 (vq_of (lo := ((vX (sgU2 P) (sgL2 P) av28) + 1)) (hi := ((vX (sgU2 P) (sgL2 P) av28) + 1)) xf45 ⟨Int.le_refl _, Int.le_refl _⟩) dX12_readMove_154 (fun H locs hG hS => ?_)
                have l46 := (vC_lt (b := sgU2 P) (n := sgL2 P) (a := (vX (sgU2 P) (sgL2 P) av28)) (vRd_ne i42)).2
                have b47 := vq_bd1 b39 l46
                have pb47 : a + 3 ≤ ((vX (sgU2 P) (sgL2 P) av28) + 1) := vq_pg pb39 (m := 1) (Int.le_refl _) (by decide)
                refine lv_aload_n X.1 X.2.1 dX12_readMove_157 rfl (lv_at hl 2 rfl) ?_
                refine gf_X12_21e X hK hG h0 wl_6_199 dX12_readMove_158 (fun q48 hq48 kq48 => ?_)
                refine lv_iload_n X.1 X.2.1 dX12_readMove_161 rfl (lv_at hl 3 rfl) ?_
                refine lv_iconst (v := 2) X.1 X.2.1 dX12_readMove_162 (by decide +kernel) ?_
                refine lv_iadd X.1 X.2.1 dX12_readMove_163 ?_
                refine lv_topi (fun f49 ef49 => ?_)
                have xf49 : f49.toInt = (x1.toInt + 2) := sg_exadd ef49 h1 (iv_c 2 (a := 2) (b := 2) (by decide +kernel)) (by decide +kernel) rfl (by decide +kernel)
                refine lv_iload_n X.1 X.2.1 dX12_readMove_164 rfl (lv_at hl 0 rfl) ?_
                refine as_52e X hK hG hS hq48 (iv_vpin (iv_add (a' := 258) (b' := 318) ef49 h1 (iv_c 2 (a := 2) (b := 2) (by decide +kernel)) (by decide +kernel)) (by decide +kernel)) (sg_gal (iv_add (a' := 258) (b' := 318) ef49 h1 (iv_c 2 (a := 2) (b := 2) (by decide +kernel)) (by decide +kernel)) (by decide +kernel)) dX12_readMove_165 (fun H locs hG hS ru50 => ?_)
                refine lv_aload_n X.1 X.2.1 dX12_readMove_166 rfl (lv_at hl 2 rfl) ?_
                refine gg_X12_21e X hK hG h0 wl_6_199 (ru50 _ _ _ _ _ _ _ h0 rfl rfl (by decide) (fun z => z.elim) kq48) dX12_readMove_167 ?_
                refine lv_iload_n X.1 X.2.1 dX12_readMove_170 rfl (lv_at hl 3 rfl) ?_
                refine lv_iconst (v := 3) X.1 X.2.1 dX12_readMove_171 (by decide +kernel) ?_
                refine lv_iadd X.1 X.2.1 dX12_readMove_172 ?_
                refine lv_topi (fun f51 ef51 => ?_)
                have xf51 : f51.toInt = (x1.toInt + 3) := sg_exadd ef51 h1 (iv_c 3 (a := 3) (b := 3) (by decide +kernel)) (by decide +kernel) rfl (by decide +kernel)
                refine lv_aload_n X.1 X.2.1 dX12_readMove_173 rfl (lv_at hl 2 rfl) ?_
                refine ca_X12_digit_e X hK hG hC hS hb a0 h0 hl0 b47 hby (by omega) wl_8_37 hl.1 (rest := [.int f51, .ref q48]) rfl (Nat.le_of_ble_eq_true rfl) ⟨Nat.le_of_ble_eq_true rfl, Nat.le_of_ble_eq_true rfl⟩ ⟨Nat.le_of_ble_eq_true rfl, Nat.le_of_ble_eq_true rfl⟩ dX12_readMove_174 (fun f52 tf52 H locs htf52 hf52 hWf52 hS => ?_)
                rcases hWf52 with ⟨av53, pv53, gav53, gbv53, hBf52⟩ | ⟨wv53, pv53, w1v53, w2v53, hBf52⟩
                · have hG := hBf52.2.2.2
                  rw [htf52] at hG
                  have bv53 := vq_bd2 (k := 1) b47 (by decide) gav53 gbv53
                  have p2v53 : a + 4 ≤ av53 := vq_pg pb47 gav53 (by decide)
                  refine as_52e X hK hG hS hq48 (iv_vpin (iv_add (a' := 259) (b' := 319) ef51 h1 (iv_c 3 (a := 3) (b := 3) (by decide +kernel)) (by decide +kernel)) (by decide +kernel)) (sg_gal (iv_add (a' := 259) (b' := 319) ef51 h1 (iv_c 3 (a := 3) (b := 3) (by decide +kernel)) (by decide +kernel)) (by decide +kernel)) dX12_readMove_177 (fun H locs hG hS ru54 => ?_)
                  have spr : vMv (sgU2 P) (sgL2 P) (vX (sgU2 P) (sgL2 P) a) = (true, vX (sgU2 P) (sgL2 P) av53) := by rw [vMvM_eq]; simp only [vMvM, vNu, vCutM, i6, i21, i24, pv28, i32, i35, i42, pv53, cond_true, cond_false, vB_t, vB_f, if_true, if_false, eq_self, not_true_eq_false, not_false_eq_true, Int.reduceEq, Int.reduceLT, or_false, false_or, or_true, true_or, Int.reduceNeg]
                  exact sg_vret2 X hr hlk hS (fun t ht hW => (Or.inl ⟨_, spr, vq_pgw p2v53 (by decide), (bv53).2, sg_post hb hK hC hG hS ht hW⟩)) dX12_readMove_178
                · have hG := hBf52.2.2.2
                  rw [htf52] at hG
                  refine as_52e X hK hG hS hq48 (iv_vpin (iv_add (a' := 259) (b' := 319) ef51 h1 (iv_c 3 (a := 3) (b := 3) (by decide +kernel)) (by decide +kernel)) (by decide +kernel)) (sg_gal (iv_add (a' := 259) (b' := 319) ef51 h1 (iv_c 3 (a := 3) (b := 3) (by decide +kernel)) (by decide +kernel)) (by decide +kernel)) dX12_readMove_177 (fun H locs hG hS ru55 => ?_)
                  have spr : vMv (sgU2 P) (sgL2 P) (vX (sgU2 P) (sgL2 P) a) = (false, wv53) := by rw [vMvM_eq]; simp only [vMvM, vNu, vCutM, i6, i21, i24, pv28, i32, i35, i42, pv53, cond_true, cond_false, vB_t, vB_f, if_true, if_false, eq_self, not_true_eq_false, not_false_eq_true, Int.reduceEq, Int.reduceLT, or_false, false_or, or_true, true_or, Int.reduceNeg]
                  have hG := ke_weak (b1 := 0) (b2 := 241) (g1 := wv53) (g2 := wv53) (e1 := d1) (e2 := d2) hG (Int.le_refl _) (Int.le_refl _) (Int.le_refl _) (Int.le_refl _) (Int.le_refl _) (Int.le_refl _)
                  exact sg_vret2 X hr hlk hS (fun t ht hW => (Or.inr ⟨_, spr, ((And.intro w1v53 w2v53)).1, ((And.intro w1v53 w2v53)).2, sg_post hb hK hC hG hS ht hW⟩)) dX12_readMove_178
              · have i43 : vRd (vC (sgU2 P) (sgL2 P) (vX (sgU2 P) (sgL2 P) av28)) = ((-1) : Int) := vq_eq c41 xf40 (by decide +kernel)
                refine lv_aload_n X.1 X.2.1 dX12_readMove_141 rfl (lv_at hl 2 rfl) ?_
                refine ca_X12_fails_e X hK hG hC hS hb a0 h0 hl0 b39 wl_7_141 hl.1 (rest := []) rfl (Nat.le_of_ble_eq_true rfl) ⟨Nat.le_of_ble_eq_true rfl, Nat.le_of_ble_eq_true rfl⟩ ⟨Nat.le_of_ble_eq_true rfl, Nat.le_of_ble_eq_true rfl⟩ dX12_readMove_142 (fun f56 tf56 H locs htf56 hf56 hWf56 hS => ?_)
                have hG := hWf56.2.2.2
                rw [htf56] at hG
                obtain rfl : f56 = 0 := sg_is0 hf56
                refine lv_pop X.1 X.2.1 dX12_readMove_145 rfl ?_
                have spr : vMv (sgU2 P) (sgL2 P) (vX (sgU2 P) (sgL2 P) a) = (false, (vX (sgU2 P) (sgL2 P) av28)) := by rw [vMvM_eq]; simp only [vMvM, vNu, vCutM, i6, i21, i24, pv28, i32, i35, i43, cond_true, cond_false, vB_t, vB_f, if_true, if_false, eq_self, not_true_eq_false, not_false_eq_true, Int.reduceEq, Int.reduceLT, or_false, false_or, or_true, true_or, Int.reduceNeg]
                have hG := ke_weak (b1 := 0) (b2 := 241) (g1 := (vX (sgU2 P) (sgL2 P) av28)) (g2 := (vX (sgU2 P) (sgL2 P) av28)) (e1 := d1) (e2 := d2) hG (b39).1 (Int.le_trans (b39).2 (Int.le_trans hl0.2 (by decide))) (Int.le_refl _) (Int.le_refl _) (Int.le_refl _) (Int.le_refl _)
                exact sg_vret2 X hr hlk hS (fun t ht hW => (Or.inr ⟨_, spr, ((vq_bw b39 hl0)).1, ((vq_bw b39 hl0)).2, sg_post hb hK hC hG hS ht hW⟩)) dX12_readMove_146
            · have i36 : (((-1) : Int) = ((-1) : Int)) = False := vq_ne c34 (vq_iv hf33) (by decide +kernel)
              exact ((c34 (iv_one hf33 (iv_c (-1) (a := (-1)) (b := (-1)) (by decide +kernel)) (by decide +kernel)))).elim
        · have hG := hBf27.2.2.2
          rw [htf27] at hG
          refine as_52e X hK hG hS hq12 (iv_vpin (iv_add (a' := 257) (b' := 317) ef26 h1 (iv_c 1 (a := 1) (b := 1) (by decide +kernel)) (by decide +kernel)) (by decide +kernel)) (sg_gal (iv_add (a' := 257) (b' := 317) ef26 h1 (iv_c 1 (a := 1) (b := 1) (by decide +kernel)) (by decide +kernel)) (by decide +kernel)) dX12_readMove_110 (fun H locs hG hS ru57 => ?_)
          refine lv_iload_n X.1 X.2.1 dX12_readMove_111 rfl (lv_at hl 0 rfl) ?_
          refine lv_iconst (v := 1) X.1 X.2.1 dX12_readMove_112 (by decide +kernel) ?_
          refine lv_icmp_ne (tgt := 124) X.1 X.2.1 dX12_readMove_113 (by decide) (fun c58 => ?_) (fun c58 => ?_)
          · have i59 : (vGc (vC (sgU2 P) (sgL2 P) (vX (sgU2 P) (sgL2 P) a)) = (1 : Int)) = False := vq_ne c58 xf4 (by decide +kernel)
            have spr : vMv (sgU2 P) (sgL2 P) (vX (sgU2 P) (sgL2 P) a) = (false, wv28) := by rw [vMvM_eq]; simp only [vMvM, vNu, vCutM, i6, i21, i24, pv28, i59, cond_true, cond_false, vB_t, vB_f, if_true, if_false, eq_self, not_true_eq_false, not_false_eq_true, Int.reduceEq, Int.reduceLT, or_false, false_or, or_true, true_or, Int.reduceNeg]
            have hG := ke_weak (b1 := 0) (b2 := 241) (g1 := wv28) (g2 := wv28) (e1 := d1) (e2 := d2) hG (Int.le_refl _) (Int.le_refl _) (Int.le_refl _) (Int.le_refl _) (Int.le_refl _) (Int.le_refl _)
            exact sg_vret2 X hr hlk hS (fun t ht hW => (Or.inr ⟨_, spr, ((And.intro w1v28 w2v28)).1, ((And.intro w1v28 w2v28)).2, sg_post hb hK hC hG hS ht hW⟩)) dX12_readMove_124
          · have i60 : vGc (vC (sgU2 P) (sgL2 P) (vX (sgU2 P) (sgL2 P) a)) = (1 : Int) := vq_eq c58 xf4 (by decide +kernel)
            refine lv_aload_n X.1 X.2.1 dX12_readMove_116 rfl (lv_at hl 1 rfl) ?_
            refine gf_X12_11e X hK hG h0 wl_6_189 dX12_readMove_117 (fun f61 hf61 => ?_)
            have xf61 : f61.toInt = wv28 := vq_iv hf61
            have yf61 : iv 0 240 f61 := vq_of xf61 (And.intro w1v28 w2v28)
            refine lv_iconst (v := (-1)) X.1 X.2.1 dX12_readMove_120 (by decide +kernel) ?_
            refine lv_icmp_eq (tgt := 125) X.1 X.2.1 dX12_readMove_121 (by decide) (fun c62 => ?_) (fun c62 => ?_)
            · have i63 : wv28 = ((-1) : Int) := vq_eq c62 xf61 (by decide +kernel)
              exact ((iv_no (a := 0) (b := (-1)) (iv_eqm c62 yf61 (iv_c (-1) (a := (-1)) (b := (-1)) (by decide +kernel)) (by decide +kernel)) (by decide +kernel))).elim
            · have i64 : (wv28 = ((-1) : Int)) = False := vq_ne c62 xf61 (by decide +kernel)
              have spr : vMv (sgU2 P) (sgL2 P) (vX (sgU2 P) (sgL2 P) a) = (false, wv28) := by rw [vMvM_eq]; simp only [vMvM, vNu, vCutM, i6, i21, i24, pv28, i60, i64, cond_true, cond_false, vB_t, vB_f, if_true, if_false, eq_self, not_true_eq_false, not_false_eq_true, Int.reduceEq, Int.reduceLT, or_false, false_or, or_true, true_or, Int.reduceNeg]
              have hG := ke_weak (b1 := 0) (b2 := 241) (g1 := wv28) (g2 := wv28) (e1 := d1) (e2 := d2) hG (Int.le_refl _) (Int.le_refl _) (Int.le_refl _) (Int.le_refl _) (Int.le_refl _) (Int.le_refl _)
              exact sg_vret2 X hr hlk hS (fun t ht hW => (Or.inr ⟨_, spr, ((And.intro w1v28 w2v28)).1, ((And.intro w1v28 w2v28)).2, sg_post hb hK hC hG hS ht hW⟩)) dX12_readMove_124
      · have i25 : vGc (vC (sgU2 P) (sgL2 P) (vX (sgU2 P) (sgL2 P) a)) = (0 : Int) := vq_eq c23 xf4 (by decide +kernel)
        refine lv_aload_n X.1 X.2.1 dX12_readMove_76 rfl (lv_at hl 1 rfl) ?_
        refine ca_X12_look_e X hK hG hC hS hb a0 h0 hl0 b11 hby wl_7_137 hl.1 (rest := []) rfl (Nat.le_of_ble_eq_true rfl) ⟨Nat.le_of_ble_eq_true rfl, Nat.le_of_ble_eq_true rfl⟩ ⟨Nat.le_of_ble_eq_true rfl, Nat.le_of_ble_eq_true rfl⟩ dX12_readMove_77 (fun f65 tf65 H locs htf65 hf65 hWf65 hS => ?_)
        have hBf65 := hWf65.2
        have xf65 := hWf65.1
        have hG := hBf65.2.2.2
        rw [htf65] at hG
        have b66 := vq_bdL (b := sgU2 P) b11
        have eb66 : ((vX (sgU2 P) (sgL2 P) a) + 1) ≤ vX (sgU2 P) (sgL2 P) ((vX (sgU2 P) (sgL2 P) a) + 1) := (vX_ge (sgU2 P) (sgL2 P) ((vX (sgU2 P) (sgL2 P) a) + 1)).1
        have pb66 : a + 1 ≤ vX (sgU2 P) (sgL2 P) ((vX (sgU2 P) (sgL2 P) a) + 1) := Int.le_trans pb11 (vX_ge (sgU2 P) (sgL2 P) ((vX (sgU2 P) (sgL2 P) a) + 1)).1
        have yf65 : iv (-1) 255 f65 := vq_lk xf65 (vC_by2 hby _)
        refine lv_bipush (v := 63) X.1 X.2.1 dX12_readMove_80 (by decide +kernel) ?_
        refine lv_icmp_ne (tgt := 96) X.1 X.2.1 dX12_readMove_82 (by decide) (fun c67 => ?_) (fun c67 => ?_)
        · have i68 : (vE (vC (sgU2 P) (sgL2 P) (vX (sgU2 P) (sgL2 P) ((vX (sgU2 P) (sgL2 P) a) + 1))) = (63 : Int)) = False := vq_ne c67 xf65 (by decide +kernel)
          have mi68 : (vC (sgU2 P) (sgL2 P) (vX (sgU2 P) (sgL2 P) ((vX (sgU2 P) (sgL2 P) a) + 1)) = (63 : Int)) = False := vE_ne i68 (by decide)
          refine lv_aload_n X.1 X.2.1 dX12_readMove_96 rfl (lv_at hl 1 rfl) ?_
          refine gf_X12_21e X hK hG h0 wl_6_199 dX12_readMove_97 (fun q70 hq70 kq70 => ?_)
          refine lv_iload_n X.1 X.2.1 dX12_readMove_100 rfl (lv_at hl 2 rfl) ?_
          refine lv_iconst (v := 1) X.1 X.2.1 dX12_readMove_101 (by decide +kernel) ?_
          refine lv_iadd X.1 X.2.1 dX12_readMove_102 ?_
          refine lv_topi (fun f71 ef71 => ?_)
          have xf71 : f71.toInt = (x1.toInt + 1) := sg_exadd ef71 h1 (iv_c 1 (a := 1) (b := 1) (by decide +kernel)) (by decide +kernel) rfl (by decide +kernel)
          refine lv_aload_n X.1 X.2.1 dX12_readMove_103 rfl (lv_at hl 1 rfl) ?_
          refine lv_iconst (v := 0) X.1 X.2.1 dX12_readMove_104 (by decide +kernel) ?_
          refine lv_bipush (v := 29) X.1 X.2.1 dX12_readMove_105 (by decide +kernel) ?_
          refine ca_X12_number_e X hK hG hC hS hb a0 h0 0 29 hl0 b66 hby (by omega) (show (0 : Int32).toInt = (0 : Int) ∧ (29 : Int32).toInt = (29 : Int) from ⟨(by decide +kernel), (by decide +kernel)⟩) wl_7_183 hl.1 (rest := [.int f71, .ref q70]) rfl (Nat.le_of_ble_eq_true rfl) ⟨Nat.le_of_ble_eq_true rfl, Nat.le_of_ble_eq_true rfl⟩ ⟨Nat.le_of_ble_eq_true rfl, Nat.le_of_ble_eq_true rfl⟩ dX12_readMove_107 (fun f72 tf72 H locs htf72 hf72 hWf72 hS => ?_)
          rcases hWf72 with ⟨av73, nv73, pv73, xv73, g1v73, g2v73, gav73, gbv73, hBf72⟩ | ⟨wv73, pv73, w1v73, w2v73, hBf72⟩
          · have hG := hBf72.2.2.2
            rw [htf72] at hG
            rw [vX_idem] at pv73
            have bv73 := vq_bd2 (k := 1) b66 (by decide) gav73 gbv73
            have p2v73 : a + 2 ≤ av73 := vq_pg pb66 gav73 (by decide)
            have yv73 : iv 0 29 f72 := ⟨by omega, by omega⟩
            refine as_52e X hK hG hS hq70 (iv_vpin (iv_add (a' := 257) (b' := 317) ef71 h1 (iv_c 1 (a := 1) (b := 1) (by decide +kernel)) (by decide +kernel)) (by decide +kernel)) (sg_gal (iv_add (a' := 257) (b' := 317) ef71 h1 (iv_c 1 (a := 1) (b := 1) (by decide +kernel)) (by decide +kernel)) (by decide +kernel)) dX12_readMove_110 (fun H locs hG hS ru74 => ?_)
            refine lv_iload_n X.1 X.2.1 dX12_readMove_111 rfl (lv_at hl 0 rfl) ?_
            refine lv_iconst (v := 1) X.1 X.2.1 dX12_readMove_112 (by decide +kernel) ?_
            refine lv_icmp_ne (tgt := 124) X.1 X.2.1 dX12_readMove_113 (by decide) (fun c75 => ?_) (fun c75 => ?_)
            · have i76 : (vGc (vC (sgU2 P) (sgL2 P) (vX (sgU2 P) (sgL2 P) a)) = (1 : Int)) = False := vq_ne c75 xf4 (by decide +kernel)
              have spr : vMv (sgU2 P) (sgL2 P) (vX (sgU2 P) (sgL2 P) a) = (true, vX (sgU2 P) (sgL2 P) av73) := by rw [vMvM_eq]; simp only [vMvM, vNu, vCutM, i6, i21, i25, i68, mi68, pv73, i76, cond_true, cond_false, vB_t, vB_f, if_true, if_false, eq_self, not_true_eq_false, not_false_eq_true, Int.reduceEq, Int.reduceLT, or_false, false_or, or_true, true_or, Int.reduceNeg]
              exact sg_vret2 X hr hlk hS (fun t ht hW => (Or.inl ⟨_, spr, vq_pgw p2v73 (by decide), (bv73).2, sg_post hb hK hC hG hS ht hW⟩)) dX12_readMove_124
            · have i77 : vGc (vC (sgU2 P) (sgL2 P) (vX (sgU2 P) (sgL2 P) a)) = (1 : Int) := vq_eq c75 xf4 (by decide +kernel)
              exact ((iv_no (a := 1) (b := 0) (iv_eqm c75 (iv_eqm (a' := 0) (b' := 0) c23 (iv_ne_hi (b' := 2) c20 (iv_ne_lo (a' := 0) c5 hf4.1 (by decide +kernel)) (by decide +kernel)) (iv_c 0 (a := 0) (b := 0) (by decide +kernel)) (by decide +kernel)) (iv_c 1 (a := 1) (b := 1) (by decide +kernel)) (by decide +kernel)) (by decide +kernel))).elim
          · have hG := hBf72.2.2.2
            rw [htf72] at hG
            rw [vX_idem] at pv73
            refine as_52e X hK hG hS hq70 (iv_vpin (iv_add (a' := 257) (b' := 317) ef71 h1 (iv_c 1 (a := 1) (b := 1) (by decide +kernel)) (by decide +kernel)) (by decide +kernel)) (sg_gal (iv_add (a' := 257) (b' := 317) ef71 h1 (iv_c 1 (a := 1) (b := 1) (by decide +kernel)) (by decide +kernel)) (by decide +kernel)) dX12_readMove_110 (fun H locs hG hS ru78 => ?_)
            refine lv_iload_n X.1 X.2.1 dX12_readMove_111 rfl (lv_at hl 0 rfl) ?_
            refine lv_iconst (v := 1) X.1 X.2.1 dX12_readMove_112 (by decide +kernel) ?_
            refine lv_icmp_ne (tgt := 124) X.1 X.2.1 dX12_readMove_113 (by decide) (fun c79 => ?_) (fun c79 => ?_)
            · have i80 : (vGc (vC (sgU2 P) (sgL2 P) (vX (sgU2 P) (sgL2 P) a)) = (1 : Int)) = False := vq_ne c79 xf4 (by decide +kernel)
              have spr : vMv (sgU2 P) (sgL2 P) (vX (sgU2 P) (sgL2 P) a) = (false, wv73) := by rw [vMvM_eq]; simp only [vMvM, vNu, vCutM, i6, i21, i25, i68, mi68, pv73, i80, cond_true, cond_false, vB_t, vB_f, if_true, if_false, eq_self, not_true_eq_false, not_false_eq_true, Int.reduceEq, Int.reduceLT, or_false, false_or, or_true, true_or, Int.reduceNeg]
              have hG := ke_weak (b1 := 0) (b2 := 241) (g1 := wv73) (g2 := wv73) (e1 := d1) (e2 := d2) hG (Int.le_refl _) (Int.le_refl _) (Int.le_refl _) (Int.le_refl _) (Int.le_refl _) (Int.le_refl _)
              exact sg_vret2 X hr hlk hS (fun t ht hW => (Or.inr ⟨_, spr, ((And.intro w1v73 w2v73)).1, ((And.intro w1v73 w2v73)).2, sg_post hb hK hC hG hS ht hW⟩)) dX12_readMove_124
            · have i81 : vGc (vC (sgU2 P) (sgL2 P) (vX (sgU2 P) (sgL2 P) a)) = (1 : Int) := vq_eq c79 xf4 (by decide +kernel)
              exact ((iv_no (a := 1) (b := 0) (iv_eqm c79 (iv_eqm (a' := 0) (b' := 0) c23 (iv_ne_hi (b' := 2) c20 (iv_ne_lo (a' := 0) c5 hf4.1 (by decide +kernel)) (by decide +kernel)) (iv_c 0 (a := 0) (b := 0) (by decide +kernel)) (by decide +kernel)) (iv_c 1 (a := 1) (b := 1) (by decide +kernel)) (by decide +kernel)) (by decide +kernel))).elim
        · have i69 : vE (vC (sgU2 P) (sgL2 P) (vX (sgU2 P) (sgL2 P) ((vX (sgU2 P) (sgL2 P) a) + 1))) = (63 : Int) := vq_eq c67 xf65 (by decide +kernel)
          have mi69 : vC (sgU2 P) (sgL2 P) (vX (sgU2 P) (sgL2 P) ((vX (sgU2 P) (sgL2 P) a) + 1)) = (63 : Int) := vE_eq i69 (by decide)
          refine lv_aload_n X.1 X.2.1 dX12_readMove_85 rfl (lv_at hl 1 rfl) ?_
          refine lv_dup X.1 X.2.1 dX12_readMove_86 rfl ?_
          refine gf_X12_10e X hK hG h0 wl_6_188 dX12_readMove_87 (fun f82 hf82 => ?_)
          have xf82 : f82.toInt = (vX (sgU2 P) (sgL2 P) ((vX (sgU2 P) (sgL2 P) a) + 1)) := vq_iv hf82
          have yf82 : iv 0 240 f82 := vq_240 hl0 b66 xf82
          refine lv_iconst (v := 1) X.1 X.2.1 dX12_readMove_90 (by decide +kernel) ?_
          refine lv_iadd X.1 X.2.1 dX12_readMove_91 ?_
          refine lv_topi (fun f83 ef83 => ?_)
          have xf83 : f83.toInt = ((vX (sgU2 P) (sgL2 P) ((vX (sgU2 P) (sgL2 P) a) + 1)) + 1) := sg_exadd ef83 yf82 (iv_c 1 (a := 1) (b := 1) (by decide +kernel)) (by decide +kernel) xf82 (by decide +kernel)
          refine pf_X12_10E (b1 := ((vX (sgU2 P) (sgL2 P) ((vX (sgU2 P) (sgL2 P) a) + 1)) + 1)) (b2 := ((vX (sgU2 P) (sgL2 P) ((vX (sgU2 P) (sgL2 P) a) + 1)) + 1)) X hK hG hS h0 wl_6_188 (vq_of (lo := ((vX (sgU2 P) (sgL2 P) ((vX (sgU2 P) (sgL2 P) a) + 1)) + 1)) (hi := ((vX (sgU2 P) (sgL2 P) ((vX (sgU2 P) (sgL2 P) a) + 1)) + 1)) xf83 ⟨Int.le_refl _, Int.le_refl _⟩) dX12_readMove_92 (fun H locs hG hS => ?_)
          have l84 := (vC_lt (b := sgU2 P) (n := sgL2 P) (a := (vX (sgU2 P) (sgL2 P) ((vX (sgU2 P) (sgL2 P) a) + 1))) (by rw [mi69]; decide)).2
          have b85 := vq_bd1 b66 l84
          have pb85 : a + 2 ≤ ((vX (sgU2 P) (sgL2 P) ((vX (sgU2 P) (sgL2 P) a) + 1)) + 1) := vq_pg pb66 (m := 1) (Int.le_refl _) (by decide)
          have spr : vMv (sgU2 P) (sgL2 P) (vX (sgU2 P) (sgL2 P) a) = (true, vX (sgU2 P) (sgL2 P) ((vX (sgU2 P) (sgL2 P) ((vX (sgU2 P) (sgL2 P) a) + 1)) + 1)) := by rw [vMvM_eq]; simp only [vMvM, vNu, vCutM, i6, i21, i25, i69, mi69, cond_true, cond_false, vB_t, vB_f, if_true, if_false, eq_self, not_true_eq_false, not_false_eq_true, Int.reduceEq, Int.reduceLT, or_false, false_or, or_true, true_or, Int.reduceNeg]
          exact sg_vret2 X hr hlk hS (fun t ht hW => (Or.inl ⟨_, spr, vq_pgw pb85 (by decide), (b85).2, sg_post hb hK hC hG hS ht hW⟩)) dX12_readMove_95
    · have i22 : vGc (vC (sgU2 P) (sgL2 P) (vX (sgU2 P) (sgL2 P) a)) = (3 : Int) := vq_eq c20 xf4 (by decide +kernel)
      have spr : vMv (sgU2 P) (sgL2 P) (vX (sgU2 P) (sgL2 P) a) = (true, vX (sgU2 P) (sgL2 P) ((vX (sgU2 P) (sgL2 P) a) + 1)) := by rw [vMvM_eq]; simp only [vMvM, vNu, vCutM, i6, i22, cond_true, cond_false, vB_t, vB_f, if_true, if_false, eq_self, not_true_eq_false, not_false_eq_true, Int.reduceEq, Int.reduceLT, or_false, false_or, or_true, true_or, Int.reduceNeg]
      exact sg_vret2 X hr hlk hS (fun t ht hW => (Or.inl ⟨_, spr, vq_pgw pb11 (by decide), (b11).2, sg_post hb hK hC hG hS ht hW⟩)) dX12_readMove_71
  · have i7 : vGc (vC (sgU2 P) (sgL2 P) (vX (sgU2 P) (sgL2 P) a)) = ((-1) : Int) := vq_eq c5 xf4 (by decide +kernel)
    refine lv_aload_n X.1 X.2.1 dX12_readMove_16 rfl (lv_at hl 1 rfl) ?_
    refine ca_X12_fails_e X hK hG hC hS hb a0 h0 hl0 b3 wl_7_141 hl.1 (rest := []) rfl (Nat.le_of_ble_eq_true rfl) ⟨Nat.le_of_ble_eq_true rfl, Nat.le_of_ble_eq_true rfl⟩ ⟨Nat.le_of_ble_eq_true rfl, Nat.le_of_ble_eq_true rfl⟩ dX12_readMove_17 (fun f86 tf86 H locs htf86 hf86 hWf86 hS => ?_)
    have hG := hWf86.2.2.2
    rw [htf86] at hG
    obtain rfl : f86 = 0 := sg_is0 hf86
    refine lv_pop X.1 X.2.1 dX12_readMove_20 rfl ?_
    have spr : vMv (sgU2 P) (sgL2 P) (vX (sgU2 P) (sgL2 P) a) = (false, (vX (sgU2 P) (sgL2 P) a)) := by rw [vMvM_eq]; simp only [vMvM, vNu, vCutM, i7, cond_true, cond_false, vB_t, vB_f, if_true, if_false, eq_self, not_true_eq_false, not_false_eq_true, Int.reduceEq, Int.reduceLT, or_false, false_or, or_true, true_or, Int.reduceNeg]
    have hG := ke_weak (b1 := 0) (b2 := 241) (g1 := (vX (sgU2 P) (sgL2 P) a)) (g2 := (vX (sgU2 P) (sgL2 P) a)) (e1 := d1) (e2 := d2) hG (b3).1 (Int.le_trans (b3).2 (Int.le_trans hl0.2 (by decide))) (Int.le_refl _) (Int.le_refl _) (Int.le_refl _) (Int.le_refl _)
    exact sg_vret2 X hr hlk hS (fun t ht hW => (Or.inr ⟨_, spr, ((vq_bw b3 hl0)).1, ((vq_bw b3 hl0)).2, sg_post hb hK hC hG hS ht hW⟩)) dX12_readMove_21

theorem ca_X12_readMove_e  {a d1 d2 : Int} {z : sgZt}  (X : CallFix p m c cc nL s args sg_tbl own) (hK : va_K D vwCl tys s) (hG : sgG (KE a a (-1) (-1) d1 d2 z P) D vwCl (fun q : Nat => base ≤ q) tys ad ks H) (hC : sgC base s) (hS : va_S (fun q : Nat => base ≤ q) s.heap H locs) (hb : base ≤ s.heap.size) (a0 : Nat) (h0 : isK ad ks 12 a0) (x1 : Int32) (h1 : iv 256 316 x1) (hl0 : 0 ≤ sgL2 P ∧ sgL2 P ≤ 240) (hav : 0 ≤ a ∧ a ≤ sgL2 P) (hby : sgBy2 P) (hd0 : 0 ≤ d1 ∧ d2 ≤ 6) (hl : Cond.methodLink own index yX12_readMove ∈ sg_tbl) (hsize : ls.size = nL) (hst : st0 = [.int x1].reverse ++ .ref a0 :: rest) (hW : (rest.map fun v => v.category).sum ≤ 8) (hR : 6 ≤ R.frames ∧ 130 ≤ R.locals) (hf : cells ≤ R.cells ∧ slots ≤ R.slots) (hdg : decode cc pc = .ok (.invokevirtual index, 3)) (kk : ∀ (t : State) (H1 : Heap) (locs1 : List Loc), t.heap = H1 → ((fun t => (∃ a1 : Int, vMv (sgU2 P) (sgL2 P) (vX (sgU2 P) (sgL2 P) a) = (true, vX (sgU2 P) (sgL2 P) a1) ∧ a + 1 ≤ a1 ∧ a1 ≤ sgL2 P ∧ sgB (KE a1 a1 (-1) (-1) d1 d2 z P) D vwCl base tys ad ks t) ∨ (∃ w : Int, vMv (sgU2 P) (sgL2 P) (vX (sgU2 P) (sgL2 P) a) = (false, w) ∧ 0 ≤ w ∧ w ≤ 240 ∧ sgB (KE 0 241 w w d1 d2 z P) D vwCl base tys ad ks t)) t) → va_S (fun q : Nat => base ≤ q) s.heap H1 locs1 → W p l e R s m args below meth c H1 locs1 cells slots Q (F0 m (pc + 3) ls rest)) : W p l e R s m args below meth c H locs cells slots Q (F0 m pc ls st0) :=
  sg_callV2v X hK hG hC hS hb (m_X12_readMove_e l a0 h0 x1 h1 hl0 hav hby hd0) h0 (k := 12) (ci := 12) rfl (C := RX12) (T := TX12) (N := 53) rfl wl_8_34 wl_1_13 wl_8_33 wl_0_70 (n := 1) (by decide +kernel) rfl rfl rfl hl hsize hst hW hR hf hdg kk

set_option maxHeartbeats 8000000 in
set_option maxRecDepth 100000 in
theorem m_X12_readGame_e (l : Launch) {D : va_G} {base : Nat} {tys : List (ClassId × FieldType)} {ad ks : List Nat} {P : sgPm} (a0 : Nat) (h0 : isK ad ks 12 a0) (hl0 : 0 ≤ sgL2 P ∧ sgL2 P ≤ 240) (hby : sgBy2 P) : Met l yX12_readGame (Cond.code yX12_readGame cX12_readGame 3 none :: sg_tbl) ({ frames := 6, cells := 0, slots := 0, locals := 130 }) (va_Pc [.ref a0] (sgB (KT P) D vwCl base tys ad ks)) (va_Qv (fun (_ : Unit) => True) (fun _ => fun t => (∃ a1 : Int, vGame (sgU2 P) (sgL2 P) = (true, a1) ∧ 0 ≤ a1 ∧ a1 ≤ sgL2 P ∧ sgB (KE a1 a1 (-1) (-1) 0 6 sgZ0 P) D vwCl base tys ad ks t) ∨ (∃ w : Int, vGame (sgU2 P) (sgL2 P) = (false, w) ∧ 0 ≤ w ∧ w ≤ 240 ∧ sgB (KE 0 241 w w 0 6 sgZ0 P) D vwCl base tys ad ks t)) (fun q : Nat => base ≤ q)) 0 0 (fun q : Nat => base ≤ q) := by
  refine sg_ofW (by decide +kernel) (Nat.le_of_ble_eq_true rfl) (fun p e s m below meth c X hr hlk hb hK hC hG ls hl => ?_)
  have hS : va_S (fun q : Nat => base ≤ q) s.heap s.heap [] := va_S.rf
  have hl : lv_has ls 3 [(0, .ref a0)] := hl
  refine lv_aload_n X.1 X.2.1 dX12_readGame_0 rfl (lv_at hl 0 rfl) ?_
  refine lv_aload_n X.1 X.2.1 dX12_readGame_1 rfl (lv_at hl 0 rfl) ?_
  refine gf_X12_1 X hK hG h0 wl_6_179 dX12_readGame_2 (fun q1 hq1 kq1 => ?_)
  refine lv_iconst (v := 0) X.1 X.2.1 dX12_readGame_5 (by decide +kernel) ?_
  refine lv_aload_n X.1 X.2.1 dX12_readGame_6 rfl (lv_at hl 0 rfl) ?_
  refine gf_X12_6 X hK hG h0 wl_6_184 dX12_readGame_7 (fun f2 hf2 pf2 kf2 => ?_)
  have xf2 : f2.toInt = sgL2 P := sgC240_eq pf2 hl0.1 hl0.2
  refine ca_X12_starts_e X hK hG hC hS hb a0 h0 q1 hq1 0 (iv_c 0 (a := 0) (b := 0) (by decide +kernel)) f2 hf2 hl0 xf2 wl_7_126 hl.1 (rest := []) rfl (Nat.le_of_ble_eq_true rfl) ⟨Nat.le_of_ble_eq_true rfl, Nat.le_of_ble_eq_true rfl⟩ ⟨Nat.le_of_ble_eq_true rfl, Nat.le_of_ble_eq_true rfl⟩ dX12_readGame_10 (fun tg3 H locs htg3 hWg3 hS => ?_)
  have hG := hWg3.2.2.2
  rw [htg3] at hG
  refine lv_iconst (v := 0) X.1 X.2.1 dX12_readGame_13 (by decide +kernel) ?_
  refine lv_istore_n (lv' := [(1, .int 0), (0, .ref a0)]) X.1 X.2.1 dX12_readGame_14 rfl hl (by decide) rfl (fun ls hl => ?_)
  refine lv_iconst (v := 1) X.1 X.2.1 dX12_readGame_15 (by decide +kernel) ?_
  refine lv_istore_n (lv' := [(2, .int 1), (1, .int 0), (0, .ref a0)]) X.1 X.2.1 dX12_readGame_16 rfl hl (by decide) rfl (fun ls hl => ?_)
  refine lv_iload_n X.1 X.2.1 dX12_readGame_17 rfl (lv_at hl 0 rfl) ?_
  refine lv_if_eq (tgt := 91) X.1 X.2.1 dX12_readGame_18 (by decide) (fun c4 => ?_) (fun c4 => ?_)
  · exact ((iv_no (a := 1) (b := 0) (iv_eqm c4 (iv_c 1 (a := 1) (b := 1) (by decide +kernel)) (iv_c 0 (a := 0) (b := 0) (by decide +kernel)) (by decide +kernel)) (by decide +kernel))).elim
  · have B5_21 : ∀ (N : Nat) (H : Heap) (locs : List Loc) (ls : Array Slot) (z5_1 : Int32) (a5 : Int), 0 ≤ a5 → a5 ≤ sgL2 P → sgG (KE a5 a5 (-1) (-1) 0 6 sgZ0 P) D vwCl (fun q : Nat => base ≤ q) tys ad ks H → va_S (fun q : Nat => base ≤ q) s.heap H locs → lv_has ls 3 [(0, .ref a0), (1, .int z5_1)] → iv 0 15 z5_1 → (vGame (sgU2 P) (sgL2 P) = vB (vGm (sgU2 P) (sgL2 P) (16 - (z5_1 : Int32).toInt).toNat (vX (sgU2 P) (sgL2 P) a5)) (vEn (sgU2 P) (sgL2 P)) ∧ (z5_1 : Int32).toInt < 16) → (242 - a5).toNat ≤ N → W p l e (headSpec (Cond.code yX12_readGame cX12_readGame 3 none :: sg_tbl) ({ frames := 6, cells := 0, slots := 0, locals := 130 })).room s m #[.ref a0] below meth c H locs 0 0 (MQ below (va_Qv (fun (_ : Unit) => True) (fun _ => fun t => (∃ a1 : Int, vGame (sgU2 P) (sgL2 P) = (true, a1) ∧ 0 ≤ a1 ∧ a1 ≤ sgL2 P ∧ sgB (KE a1 a1 (-1) (-1) 0 6 sgZ0 P) D vwCl base tys ad ks t) ∨ (∃ w : Int, vGame (sgU2 P) (sgL2 P) = (false, w) ∧ 0 ≤ w ∧ w ≤ 240 ∧ sgB (KE 0 241 w w 0 6 sgZ0 P) D vwCl base tys ad ks t)) (fun q : Nat => base ≤ q)) #[.ref a0] s 0 0 (fun q : Nat => base ≤ q)) (F0 m 21 ls []) := by
      intro N; induction N with
      | zero =>
        intro H locs ls z5_1 a5 jl5 jm5 hG hS hl hz5_1 xf5 hN
        exact absurd hN (by have := jm5; omega)
      | succ N ih5 =>
        intro H locs ls z5_1 a5 jl5 jm5 hG hS hl hz5_1 xf5 hN5
        refine lv_aload_n X.1 X.2.1 dX12_readGame_21 rfl (lv_at hl 0 rfl) ?_
        refine lv_iconst (v := 4) X.1 X.2.1 dX12_readGame_22 (by decide +kernel) ?_
        refine lv_bipush (v := 64) X.1 X.2.1 dX12_readGame_23 (by decide +kernel) ?_
        refine lv_iload_n X.1 X.2.1 dX12_readGame_25 rfl (lv_at hl 1 rfl) ?_
        refine lv_iadd X.1 X.2.1 dX12_readGame_26 ?_
        refine lv_topi (fun f6 ef6 => ?_)
        have xf6 : f6.toInt = (64 + z5_1.toInt) := sg_exadd ef6 (iv_c 64 (a := 64) (b := 64) (by decide +kernel)) hz5_1 (by decide +kernel) (by decide +kernel) rfl
        refine lv_imul X.1 X.2.1 dX12_readGame_27 ?_
        refine lv_topi (fun f7 ef7 => ?_)
        have xf7 : f7.toInt = (4 * (64 + z5_1.toInt)) := sg_exmul ef7 (iv_c 4 (a := 4) (b := 4) (by decide +kernel)) (iv_add (a' := 64) (b' := 79) ef6 (iv_c 64 (a := 64) (b := 64) (by decide +kernel)) hz5_1 (by decide +kernel)) (by decide +kernel) (by decide +kernel) xf6
        refine ca_X12_readMove_e X hK hG hC hS hb a0 h0 f7 (iv_mul (a' := 256) (b' := 316) ef7 (iv_c 4 (a := 4) (b := 4) (by decide +kernel)) (iv_add (a' := 64) (b' := 79) ef6 (iv_c 64 (a := 64) (b := 64) (by decide +kernel)) hz5_1 (by decide +kernel)) (by decide +kernel)) hl0 (And.intro jl5 jm5) hby (by omega) wl_8_31 hl.1 (rest := []) rfl (Nat.le_of_ble_eq_true rfl) ⟨Nat.le_of_ble_eq_true rfl, Nat.le_of_ble_eq_true rfl⟩ ⟨Nat.le_of_ble_eq_true rfl, Nat.le_of_ble_eq_true rfl⟩ dX12_readGame_28 (fun tg8 H locs htg8 hWg8 hS => ?_)
        rcases hWg8 with ⟨av9, pv9, gav9, gbv9, hBg8⟩ | ⟨wv9, pv9, w1v9, w2v9, hBg8⟩
        · have hG := hBg8.2.2.2
          rw [htg8] at hG
          have bv9 := vq_bd2 (k := 1) (And.intro jl5 jm5) (by decide) gav9 gbv9
          refine lv_aload_n X.1 X.2.1 dX12_readGame_31 rfl (lv_at hl 0 rfl) ?_
          refine gf_X12_11e X hK hG h0 wl_6_189 dX12_readGame_32 (fun f10 hf10 => ?_)
          refine lv_iconst (v := (-1)) X.1 X.2.1 dX12_readGame_35 (by decide +kernel) ?_
          refine lv_icmp_eq (tgt := 40) X.1 X.2.1 dX12_readGame_36 (by decide) (fun c11 => ?_) (fun c11 => ?_)
          · have i12 : ((-1) : Int) = ((-1) : Int) := vq_eq c11 (vq_iv hf10) (by decide +kernel)
            obtain ⟨y14, ey14⟩ : ∃ y : Int32, y = z5_1 + Int32.ofInt 1 := ⟨_, rfl⟩
            have xy14 : y14.toInt = (z5_1.toInt + 1) := sg_exadd ey14 hz5_1 (iv_c _ (a := 1) (b := 1) (by decide +kernel)) (by decide +kernel) rfl (by decide +kernel)
            refine lv_iinc (v := y14) (lv' := [(1, .int y14), (0, .ref a0)]) X.1 X.2.1 dX12_readGame_40 hl (k := 1) rfl ey14.symm (by decide) rfl (fun ls hl => ?_)
            refine lv_aload_n X.1 X.2.1 dX12_readGame_43 rfl (lv_at hl 1 rfl) ?_
            refine ca_X12_look_e X hK hG hC hS hb a0 h0 hl0 bv9 hby wl_7_137 hl.1 (rest := []) rfl (Nat.le_of_ble_eq_true rfl) ⟨Nat.le_of_ble_eq_true rfl, Nat.le_of_ble_eq_true rfl⟩ ⟨Nat.le_of_ble_eq_true rfl, Nat.le_of_ble_eq_true rfl⟩ dX12_readGame_44 (fun f15 tf15 H locs htf15 hf15 hWf15 hS => ?_)
            have hBf15 := hWf15.2
            have xf15 := hWf15.1
            have hG := hBf15.2.2.2
            rw [htf15] at hG
            have b16 := vq_bdL (b := sgU2 P) bv9
            have eb16 : av9 ≤ vX (sgU2 P) (sgL2 P) av9 := (vX_ge (sgU2 P) (sgL2 P) av9).1
            have yf15 : iv (-1) 255 f15 := vq_lk xf15 (vC_by2 hby _)
            refine lv_bipush (v := 59) X.1 X.2.1 dX12_readGame_47 (by decide +kernel) ?_
            refine lv_icmp_ne (tgt := 56) X.1 X.2.1 dX12_readGame_49 (by decide) (fun c17 => ?_) (fun c17 => ?_)
            · have i18 : (vE (vC (sgU2 P) (sgL2 P) (vX (sgU2 P) (sgL2 P) av9)) = (59 : Int)) = False := vq_ne c17 xf15 (by decide +kernel)
              have mi18 : (vC (sgU2 P) (sgL2 P) (vX (sgU2 P) (sgL2 P) av9) = (59 : Int)) = False := vE_ne i18 (by decide)
              refine lv_iconst (v := 0) X.1 X.2.1 dX12_readGame_56 (by decide +kernel) ?_
              refine lv_istore_n (lv' := [(2, .int 0), (1, .int y14), (0, .ref a0)]) X.1 X.2.1 dX12_readGame_57 rfl hl (by decide) rfl (fun ls hl => ?_)
              refine lv_iload_n X.1 X.2.1 dX12_readGame_58 rfl (lv_at hl 0 rfl) ?_
              refine lv_if_eq (tgt := 74) X.1 X.2.1 dX12_readGame_59 (by decide) (fun c20 => ?_) (fun c20 => ?_)
              · refine lv_iload_n X.1 X.2.1 dX12_readGame_74 rfl (lv_at hl 0 rfl) ?_
                refine lv_if_eq (tgt := 17) X.1 X.2.1 dX12_readGame_75 (by decide) (fun c21 => ?_) (fun c21 => ?_)
                · refine lv_iload_n X.1 X.2.1 dX12_readGame_17 rfl (lv_at hl 0 rfl) ?_
                  refine lv_if_eq (tgt := 91) X.1 X.2.1 dX12_readGame_18 (by decide) (fun c22 => ?_) (fun c22 => ?_)
                  · refine lv_aload_n X.1 X.2.1 dX12_readGame_91 rfl (lv_at hl 2 rfl) ?_
                    refine gf_X12_22e X hK hG h0 wl_6_200 dX12_readGame_92 (fun q23 hq23 kq23 => ?_)
                    refine lv_iconst (v := 4) X.1 X.2.1 dX12_readGame_95 (by decide +kernel) ?_
                    refine lv_iload_n X.1 X.2.1 dX12_readGame_96 rfl (lv_at hl 1 rfl) ?_
                    refine as_53e X hK hG hS hq23 (iv_vpin (iv_c 4 (a := 4) (b := 4) (by decide +kernel)) (by decide +kernel)) (sg_gll (iv_c 4 (a := 4) (b := 4) (by decide +kernel)) (by decide +kernel) (iv_of (iv_add (a' := 1) (b' := 16) ey14 hz5_1 (iv_c _ (a := 1) (b := 1) (by decide +kernel)) (by decide +kernel)) (a' := 0) (b' := 16) (by decide +kernel))) dX12_readGame_97 (fun H locs hG hS ru24 => ?_)
                    refine lv_aload_n X.1 X.2.1 dX12_readGame_98 rfl (lv_at hl 2 rfl) ?_
                    refine ca_X12_look_e X hK hG hC hS hb a0 h0 hl0 b16 hby wl_7_137 hl.1 (rest := []) rfl (Nat.le_of_ble_eq_true rfl) ⟨Nat.le_of_ble_eq_true rfl, Nat.le_of_ble_eq_true rfl⟩ ⟨Nat.le_of_ble_eq_true rfl, Nat.le_of_ble_eq_true rfl⟩ dX12_readGame_99 (fun f25 tf25 H locs htf25 hf25 hWf25 hS => ?_)
                    have hBf25 := hWf25.2
                    have xf25 := hWf25.1
                    have hG := hBf25.2.2.2
                    rw [htf25] at hG
                    rw [vX_idem] at hG xf25
                    have yf25 : iv (-1) 255 f25 := vq_lk xf25 (vC_by2 hby _)
                    refine lv_iconst (v := (-1)) X.1 X.2.1 dX12_readGame_102 (by decide +kernel) ?_
                    refine lv_icmp_eq (tgt := 111) X.1 X.2.1 dX12_readGame_103 (by decide) (fun c26 => ?_) (fun c26 => ?_)
                    · have i27 : vE (vC (sgU2 P) (sgL2 P) (vX (sgU2 P) (sgL2 P) av9)) = ((-1) : Int) := vq_eq c26 xf25 (by decide +kernel)
                      have mi27 : vC (sgU2 P) (sgL2 P) (vX (sgU2 P) (sgL2 P) av9) = (0 : Int) := vE_end i27 (vC_by2 hby _)
                      have spr : vGame (sgU2 P) (sgL2 P) = (true, (vX (sgU2 P) (sgL2 P) av9)) := by exact xf5.1.trans ((congrArg (fun r => vB r (vEn (sgU2 P) (sgL2 P))) (vG_end xf5.2 pv9 (Or.inl mi18))).trans (if_pos mi27))
                      exact sg_vret2 X hr hlk hS (fun t ht hW => (Or.inl ⟨_, spr, (b16).1, (b16).2, sg_post hb hK hC hG hS ht hW⟩)) dX12_readGame_111
                    · have i28 : (vE (vC (sgU2 P) (sgL2 P) (vX (sgU2 P) (sgL2 P) av9)) = ((-1) : Int)) = False := vq_ne c26 xf25 (by decide +kernel)
                      have mi28 : (vC (sgU2 P) (sgL2 P) (vX (sgU2 P) (sgL2 P) av9) = (0 : Int)) = False := vE_nend i28
                      refine lv_aload_n X.1 X.2.1 dX12_readGame_106 rfl (lv_at hl 2 rfl) ?_
                      refine ca_X12_fails_e X hK hG hC hS hb a0 h0 hl0 b16 wl_7_141 hl.1 (rest := []) rfl (Nat.le_of_ble_eq_true rfl) ⟨Nat.le_of_ble_eq_true rfl, Nat.le_of_ble_eq_true rfl⟩ ⟨Nat.le_of_ble_eq_true rfl, Nat.le_of_ble_eq_true rfl⟩ dX12_readGame_107 (fun f29 tf29 H locs htf29 hf29 hWf29 hS => ?_)
                      have hG := hWf29.2.2.2
                      rw [htf29] at hG
                      obtain rfl : f29 = 0 := sg_is0 hf29
                      refine lv_pop X.1 X.2.1 dX12_readGame_110 rfl ?_
                      have spr : vGame (sgU2 P) (sgL2 P) = (false, (vX (sgU2 P) (sgL2 P) av9)) := by exact xf5.1.trans ((congrArg (fun r => vB r (vEn (sgU2 P) (sgL2 P))) (vG_end xf5.2 pv9 (Or.inl mi18))).trans (if_neg (of_eq_false mi28)))
                      have hG := ke_weak (b1 := 0) (b2 := 241) (g1 := (vX (sgU2 P) (sgL2 P) av9)) (g2 := (vX (sgU2 P) (sgL2 P) av9)) (e1 := 0) (e2 := 6) hG (b16).1 (Int.le_trans (b16).2 (Int.le_trans hl0.2 (by decide))) (Int.le_refl _) (Int.le_refl _) (by decide) (by decide)
                      exact sg_vret2 X hr hlk hS (fun t ht hW => (Or.inr ⟨_, spr, ((vq_bw b16 hl0)).1, ((vq_bw b16 hl0)).2, sg_post hb hK hC hG hS ht hW⟩)) dX12_readGame_111
                  · exact ((c22 (iv_one (iv_c 0 (a := 0) (b := 0) (by decide +kernel)) (iv_c 0 (a := 0) (b := 0) (by decide +kernel)) (by decide +kernel)))).elim
                · exact ((c21 (iv_one (iv_c 0 (a := 0) (b := 0) (by decide +kernel)) (iv_c 0 (a := 0) (b := 0) (by decide +kernel)) (by decide +kernel)))).elim
              · exact ((c20 (iv_one (iv_c 0 (a := 0) (b := 0) (by decide +kernel)) (iv_c 0 (a := 0) (b := 0) (by decide +kernel)) (by decide +kernel)))).elim
            · have i19 : vE (vC (sgU2 P) (sgL2 P) (vX (sgU2 P) (sgL2 P) av9)) = (59 : Int) := vq_eq c17 xf15 (by decide +kernel)
              have mi19 : vC (sgU2 P) (sgL2 P) (vX (sgU2 P) (sgL2 P) av9) = (59 : Int) := vE_eq i19 (by decide)
              refine lv_iconst (v := 1) X.1 X.2.1 dX12_readGame_52 (by decide +kernel) ?_
              refine lv_goto (tgt := 57) X.1 X.2.1 dX12_readGame_53 (by decide) ?_
              refine lv_istore_n (lv' := [(2, .int 1), (1, .int y14), (0, .ref a0)]) X.1 X.2.1 dX12_readGame_57 rfl hl (by decide) rfl (fun ls hl => ?_)
              refine lv_iload_n X.1 X.2.1 dX12_readGame_58 rfl (lv_at hl 0 rfl) ?_
              refine lv_if_eq (tgt := 74) X.1 X.2.1 dX12_readGame_59 (by decide) (fun c30 => ?_) (fun c30 => ?_)
              · exact ((iv_no (a := 1) (b := 0) (iv_eqm c30 (iv_c 1 (a := 1) (b := 1) (by decide +kernel)) (iv_c 0 (a := 0) (b := 0) (by decide +kernel)) (by decide +kernel)) (by decide +kernel))).elim
              · refine lv_iload_n X.1 X.2.1 dX12_readGame_62 rfl (lv_at hl 1 rfl) ?_
                refine lv_bipush (v := 16) X.1 X.2.1 dX12_readGame_63 (by decide +kernel) ?_
                refine lv_icmp_ne (tgt := 74) X.1 X.2.1 dX12_readGame_65 (by decide) (fun c31 => ?_) (fun c31 => ?_)
                · have i32 : ((z5_1.toInt + 1) = (16 : Int)) = False := vq_ne c31 xy14 (by decide +kernel)
                  refine lv_iload_n X.1 X.2.1 dX12_readGame_74 rfl (lv_at hl 0 rfl) ?_
                  refine lv_if_eq (tgt := 17) X.1 X.2.1 dX12_readGame_75 (by decide) (fun c34 => ?_) (fun c34 => ?_)
                  · exact ((iv_no (a := 1) (b := 0) (iv_eqm c34 (iv_c 1 (a := 1) (b := 1) (by decide +kernel)) (iv_c 0 (a := 0) (b := 0) (by decide +kernel)) (by decide +kernel)) (by decide +kernel))).elim
                  · refine lv_aload_n X.1 X.2.1 dX12_readGame_78 rfl (lv_at hl 2 rfl) ?_
                    refine lv_dup X.1 X.2.1 dX12_readGame_79 rfl ?_
                    refine gf_X12_10e X hK hG h0 wl_6_188 dX12_readGame_80 (fun f35 hf35 => ?_)
                    have xf35 : f35.toInt = (vX (sgU2 P) (sgL2 P) av9) := vq_iv hf35
                    have yf35 : iv 0 240 f35 := vq_240 hl0 b16 xf35
                    refine lv_iconst (v := 1) X.1 X.2.1 dX12_readGame_83 (by decide +kernel) ?_
                    refine lv_iadd X.1 X.2.1 dX12_readGame_84 ?_
                    refine lv_topi (fun f36 ef36 => ?_)
                    have xf36 : f36.toInt = ((vX (sgU2 P) (sgL2 P) av9) + 1) := sg_exadd ef36 yf35 (iv_c 1 (a := 1) (b := 1) (by decide +kernel)) (by decide +kernel) xf35 (by decide +kernel)
                    refine pf_X12_10E (b1 := ((vX (sgU2 P) (sgL2 P) av9) + 1)) (b2 := ((vX (sgU2 P) (sgL2 P) av9) + 1)) X hK hG hS h0 wl_6_188 (vq_of (lo := ((vX (sgU2 P) (sgL2 P) av9) + 1)) (hi := ((vX (sgU2 P) (sgL2 P) av9) + 1)) xf36 ⟨Int.le_refl _, Int.le_refl _⟩) dX12_readGame_85 (fun H locs hG hS => ?_)
                    have l37 := (vC_lt (b := sgU2 P) (n := sgL2 P) (a := (vX (sgU2 P) (sgL2 P) av9)) (by rw [mi19]; decide)).2
                    have b38 := vq_bd1 b16 l37
                    refine lv_goto (tgt := 17) X.1 X.2.1 dX12_readGame_88 (by decide) ?_
                    refine lv_iload_n X.1 X.2.1 dX12_readGame_17 rfl (lv_at hl 0 rfl) ?_
                    refine lv_if_eq (tgt := 91) X.1 X.2.1 dX12_readGame_18 (by decide) (fun c39 => ?_) (fun c39 => ?_)
                    · exact ((iv_no (a := 1) (b := 0) (iv_eqm c39 (iv_c 1 (a := 1) (b := 1) (by decide +kernel)) (iv_c 0 (a := 0) (b := 0) (by decide +kernel)) (by decide +kernel)) (by decide +kernel))).elim
                    · exact ih5 H _ _ y14 (((vX (sgU2 P) (sgL2 P) av9) + 1)) (b38).1 (b38).2 hG hS (lv_sub hl [2, 1] rfl) (iv_of (iv_ne_hi (b' := 15) c31 (iv_add (a' := 1) (b' := 16) ey14 hz5_1 (iv_c _ (a := 1) (b := 1) (by decide +kernel)) (by decide +kernel)) (by decide +kernel)) (a' := 0) (b' := 15) (by decide +kernel)) ⟨xf5.1.trans (congrArg (fun r => vB r (vEn (sgU2 P) (sgL2 P))) (vG_step xf5.2 i32 pv9 mi19 (vq_k64 xf5.2 xy14))), vq_g1 xf5.2 i32 xy14⟩ (by omega)
                · have i33 : (z5_1.toInt + 1) = (16 : Int) := vq_eq c31 xy14 (by decide +kernel)
                  refine lv_aload_n X.1 X.2.1 dX12_readGame_68 rfl (lv_at hl 2 rfl) ?_
                  refine ca_X12_fails_e X hK hG hC hS hb a0 h0 hl0 b16 wl_7_141 hl.1 (rest := []) rfl (Nat.le_of_ble_eq_true rfl) ⟨Nat.le_of_ble_eq_true rfl, Nat.le_of_ble_eq_true rfl⟩ ⟨Nat.le_of_ble_eq_true rfl, Nat.le_of_ble_eq_true rfl⟩ dX12_readGame_69 (fun f40 tf40 H locs htf40 hf40 hWf40 hS => ?_)
                  have hG := hWf40.2.2.2
                  rw [htf40] at hG
                  obtain rfl : f40 = 0 := sg_is0 hf40
                  refine lv_pop X.1 X.2.1 dX12_readGame_72 rfl ?_
                  have spr : vGame (sgU2 P) (sgL2 P) = (false, (vX (sgU2 P) (sgL2 P) av9)) := by exact xf5.1.trans ((congrArg (fun r => vB r (vEn (sgU2 P) (sgL2 P))) (vG_end xf5.2 pv9 (Or.inr i33))).trans (if_neg (by rw [mi19]; decide)))
                  have hG := ke_weak (b1 := 0) (b2 := 241) (g1 := (vX (sgU2 P) (sgL2 P) av9)) (g2 := (vX (sgU2 P) (sgL2 P) av9)) (e1 := 0) (e2 := 6) hG (b16).1 (Int.le_trans (b16).2 (Int.le_trans hl0.2 (by decide))) (Int.le_refl _) (Int.le_refl _) (by decide) (by decide)
                  exact sg_vret2 X hr hlk hS (fun t ht hW => (Or.inr ⟨_, spr, ((vq_bw b16 hl0)).1, ((vq_bw b16 hl0)).2, sg_post hb hK hC hG hS ht hW⟩)) dX12_readGame_73
          · have i13 : (((-1) : Int) = ((-1) : Int)) = False := vq_ne c11 (vq_iv hf10) (by decide +kernel)
            exact ((c11 (iv_one hf10 (iv_c (-1) (a := (-1)) (b := (-1)) (by decide +kernel)) (by decide +kernel)))).elim
        · have hG := hBg8.2.2.2
          rw [htg8] at hG
          refine lv_aload_n X.1 X.2.1 dX12_readGame_31 rfl (lv_at hl 0 rfl) ?_
          refine gf_X12_11e X hK hG h0 wl_6_189 dX12_readGame_32 (fun f41 hf41 => ?_)
          have xf41 : f41.toInt = wv9 := vq_iv hf41
          have yf41 : iv 0 240 f41 := vq_of xf41 (And.intro w1v9 w2v9)
          refine lv_iconst (v := (-1)) X.1 X.2.1 dX12_readGame_35 (by decide +kernel) ?_
          refine lv_icmp_eq (tgt := 40) X.1 X.2.1 dX12_readGame_36 (by decide) (fun c42 => ?_) (fun c42 => ?_)
          · have i43 : wv9 = ((-1) : Int) := vq_eq c42 xf41 (by decide +kernel)
            exact ((iv_no (a := 0) (b := (-1)) (iv_eqm c42 yf41 (iv_c (-1) (a := (-1)) (b := (-1)) (by decide +kernel)) (by decide +kernel)) (by decide +kernel))).elim
          · have i44 : (wv9 = ((-1) : Int)) = False := vq_ne c42 xf41 (by decide +kernel)
            have spr : vGame (sgU2 P) (sgL2 P) = (false, wv9) := by exact xf5.1.trans (congrArg (fun r => vB r (vEn (sgU2 P) (sgL2 P))) (vG_bad xf5.2 pv9))
            have hG := ke_weak (b1 := 0) (b2 := 241) (g1 := wv9) (g2 := wv9) (e1 := 0) (e2 := 6) hG (Int.le_refl _) (Int.le_refl _) (Int.le_refl _) (Int.le_refl _) (by decide) (by decide)
            exact sg_vret2 X hr hlk hS (fun t ht hW => (Or.inr ⟨_, spr, ((And.intro w1v9 w2v9)).1, ((And.intro w1v9 w2v9)).2, sg_post hb hK hC hG hS ht hW⟩)) dX12_readGame_39
    exact B5_21 _ H _ _ 0 (0) ((And.intro (Int.le_refl (0 : Int)) hl0.1)).1 ((And.intro (Int.le_refl (0 : Int)) hl0.1)).2 hG hS (lv_sub hl [2, 1] rfl) (iv_of (iv_c 0 (a := 0) (b := 0) (by decide +kernel)) (a' := 0) (b' := 15) (by decide +kernel)) ⟨rfl, vq_g0⟩ (Nat.le_refl _)

theorem ca_X12_readGame_e   (X : CallFix p m c cc nL s args sg_tbl own) (hK : va_K D vwCl tys s) (hG : sgG (KT P) D vwCl (fun q : Nat => base ≤ q) tys ad ks H) (hC : sgC base s) (hS : va_S (fun q : Nat => base ≤ q) s.heap H locs) (hb : base ≤ s.heap.size) (a0 : Nat) (h0 : isK ad ks 12 a0) (hl0 : 0 ≤ sgL2 P ∧ sgL2 P ≤ 240) (hby : sgBy2 P) (hl : Cond.methodLink own index yX12_readGame ∈ sg_tbl) (hsize : ls.size = nL) (hst : st0 = [].reverse ++ .ref a0 :: rest) (hW : (rest.map fun v => v.category).sum ≤ 8) (hR : 7 ≤ R.frames ∧ 152 ≤ R.locals) (hf : cells ≤ R.cells ∧ slots ≤ R.slots) (hdg : decode cc pc = .ok (.invokevirtual index, 3)) (kk : ∀ (t : State) (H1 : Heap) (locs1 : List Loc), t.heap = H1 → ((fun t => (∃ a1 : Int, vGame (sgU2 P) (sgL2 P) = (true, a1) ∧ 0 ≤ a1 ∧ a1 ≤ sgL2 P ∧ sgB (KE a1 a1 (-1) (-1) 0 6 sgZ0 P) D vwCl base tys ad ks t) ∨ (∃ w : Int, vGame (sgU2 P) (sgL2 P) = (false, w) ∧ 0 ≤ w ∧ w ≤ 240 ∧ sgB (KE 0 241 w w 0 6 sgZ0 P) D vwCl base tys ad ks t)) t) → va_S (fun q : Nat => base ≤ q) s.heap H1 locs1 → W p l e R s m args below meth c H1 locs1 cells slots Q (F0 m (pc + 3) ls rest)) : W p l e R s m args below meth c H locs cells slots Q (F0 m pc ls st0) :=
  sg_callV2v X hK hG hC hS hb (m_X12_readGame_e l a0 h0 hl0 hby) h0 (k := 12) (ci := 12) rfl (C := RX12) (T := TX12) (N := 53) rfl wl_8_30 wl_1_13 wl_8_29 wl_0_69 (n := 0) (by decide +kernel) rfl rfl rfl hl hsize hst hW hR hf hdg kk
end
