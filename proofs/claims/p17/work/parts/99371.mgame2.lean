
section
variable {p : Program} {l : Launch} {e : Env} {R : Room} {s : State} {m : MethodId} {args : Array Value} {below : List Frame} {meth : Method} {c : Code} {H : Heap} {locs : List Loc} {cells slots : Nat} {Q : State → Prop} {cc : ByteArray} {nL pc : Nat} {ls : Array Slot} {rest : List Value} {own : String} {D : va_G} {A : Nat → Prop} {tys : List (ClassId × FieldType)} {ad ks : List Nat} {P : sgPm} {H0 : Heap} {index : Nat} {base : Nat} {st0 : List Value} {a : Nat}
theorem gf_X12_21e  {a1 a2 f1 f2 d1 d2 : Int} {z : sgZt} (X : CallFix p m c cc nL s args sg_tbl own) (hK : va_K D vwCl tys s) (hG : sgG (KE a1 a2 f1 f2 d1 d2 z P) D vwCl A tys ad ks H) (ha : isK ad ks 12 a) (hl : Cond.fieldLink own index "LawnAheadModel" "game" "[I" ∈ sg_tbl) (hdg : decode cc pc = .ok (.getfield index, 3)) (kk : ∀ x : Nat, isK ad ks 52 x → fld D H 12 a 21 (.ref x) → W p l e R s m args below meth c H locs cells slots Q (F0 m (pc + 3) ls (.ref x :: rest))) : W p l e R s m args below meth c H locs cells slots Q (F0 m pc ls (.ref a :: rest)) :=
  sg_get X hK hG ha (k := 12) (ci := 12) rfl (C := RX12) (T := TX12) (N := 53) rfl inL_X12 21 (by decide) rfl hl (fun _ h => h) hdg (fun v hv hf => by
    obtain ⟨h1, -⟩ | ⟨x, rfl, hx⟩ := hv
    · cases h1
    · exact kk x hx hf)
theorem gf_X12_22e  {a1 a2 f1 f2 d1 d2 : Int} {z : sgZt} (X : CallFix p m c cc nL s args sg_tbl own) (hK : va_K D vwCl tys s) (hG : sgG (KE a1 a2 f1 f2 d1 d2 z P) D vwCl A tys ad ks H) (ha : isK ad ks 12 a) (hl : Cond.fieldLink own index "LawnAheadModel" "gameLong" "[I" ∈ sg_tbl) (hdg : decode cc pc = .ok (.getfield index, 3)) (kk : ∀ x : Nat, isK ad ks 53 x → fld D H 12 a 22 (.ref x) → W p l e R s m args below meth c H locs cells slots Q (F0 m (pc + 3) ls (.ref x :: rest))) : W p l e R s m args below meth c H locs cells slots Q (F0 m pc ls (.ref a :: rest)) :=
  sg_get X hK hG ha (k := 12) (ci := 12) rfl (C := RX12) (T := TX12) (N := 53) rfl inL_X12 22 (by decide) rfl hl (fun _ h => h) hdg (fun v hv hf => by
    obtain ⟨h1, -⟩ | ⟨x, rfl, hx⟩ := hv
    · cases h1
    · exact kk x hx hf)
set_option maxHeartbeats 8000000 in
set_option maxRecDepth 100000 in
theorem m_X12_digit_d (l : Launch) {D : va_G} {base : Nat} {tys : List (ClassId × FieldType)} {ad ks : List Nat} {P : sgPm}{a d1 d2 : Int} {z : sgZt}  (a0 : Nat) (h0 : isK ad ks 12 a0) (hl0 : 0 ≤ sgL2 P ∧ sgL2 P ≤ 240) (hav : 0 ≤ a ∧ a ≤ sgL2 P) (hby : sgBy2 P) (hd0 : 0 ≤ d1 ∧ d2 ≤ 6) : Met l yX12_digit (Cond.code yX12_digit cX12_digit 2 (some .int) :: sg_tbl) ({ frames := 1, cells := 0, slots := 0, locals := 20 }) (va_Pc [.ref a0] (sgB (KE a a (-1) (-1) d1 d2 z P) D vwCl base tys ad ks)) (va_Qi (fun r (u : Int32) => u = r ∧ (fun r : Int32 => True) r) (fun u t => (∃ a1 : Int, vCut1 (sgU2 P) (sgL2 P) (vX (sgU2 P) (sgL2 P) a) = (true, vX (sgU2 P) (sgL2 P) a1) ∧ u.toInt = (vC (sgU2 P) (sgL2 P) (vX (sgU2 P) (sgL2 P) a) - 48) ∧ a + 1 ≤ a1 ∧ a1 ≤ sgL2 P ∧ sgB (KE a1 a1 (-1) (-1) d1 d2 z P) D vwCl base tys ad ks t) ∨ (∃ w : Int, vCut1 (sgU2 P) (sgL2 P) (vX (sgU2 P) (sgL2 P) a) = (false, w) ∧ 0 ≤ w ∧ w ≤ 240 ∧ sgB (KE 0 241 w w d1 d2 z P) D vwCl base tys ad ks t)) (fun q : Nat => base ≤ q)) 0 0 (fun q : Nat => base ≤ q) := by
  refine sg_ofW (by decide +kernel) (Nat.le_of_ble_eq_true rfl) (fun p e s m below meth c X hr hlk hb hK hC hG ls hl => ?_)
  have hS : va_S (fun q : Nat => base ≤ q) s.heap s.heap [] := va_S.rf
  have hl : lv_has ls 2 [(0, .ref a0)] := hl
  refine lv_aload_n X.1 X.2.1 dX12_digit_0 rfl (lv_at hl 0 rfl) ?_
  refine ca_X12_look_e X hK hG hC hS hb a0 h0 hl0 hav hby wl_7_137 hl.1 (rest := []) rfl (Nat.le_of_ble_eq_true rfl) ⟨Nat.le_of_ble_eq_true rfl, Nat.le_of_ble_eq_true rfl⟩ ⟨Nat.le_of_ble_eq_true rfl, Nat.le_of_ble_eq_true rfl⟩ dX12_digit_1 (fun f1 tf1 H locs htf1 hf1 hWf1 hS => ?_)
  have hBf1 := hWf1.2
  have xf1 := hWf1.1
  have hG := hBf1.2.2.2
  rw [htf1] at hG
  have b2 := vq_bdL (b := sgU2 P) hav
  have eb2 : a ≤ vX (sgU2 P) (sgL2 P) a := (vX_ge (sgU2 P) (sgL2 P) a).1
  have pb2 : a + 0 ≤ vX (sgU2 P) (sgL2 P) a := Int.le_trans (vq_pg0 a) (vX_ge (sgU2 P) (sgL2 P) a).1
  have yf1 : iv (-1) 255 f1 := vq_lk xf1 (vC_by2 hby _)
  refine lv_istore_n (lv' := [(1, .int f1), (0, .ref a0)]) X.1 X.2.1 dX12_digit_4 rfl hl (by decide) rfl (fun ls hl => ?_)
  refine lv_aload_n X.1 X.2.1 dX12_digit_5 rfl (lv_at hl 1 rfl) ?_
  refine ca_X12_isDigit_e X hK hG hC (fun _ h => h) hS hb a0 h0 hl0 b2 hby wl_7_187 hl.1 (rest := []) rfl (Nat.le_of_ble_eq_true rfl) ⟨Nat.le_of_ble_eq_true rfl, Nat.le_of_ble_eq_true rfl⟩ ⟨Nat.le_of_ble_eq_true rfl, Nat.le_of_ble_eq_true rfl⟩ dX12_digit_6 (fun f3 locs hf3 hS => ?_)
  refine lv_if_eq (tgt := 24) X.1 X.2.1 dX12_digit_9 (by decide) (fun c4 => ?_) (fun c4 => ?_)
  · have j5 := vq_says0 hf3 c4
    have k6 : vC (sgU2 P) (sgL2 P) (vX (sgU2 P) (sgL2 P) a) < (48 : Int) ∨ (57 : Int) < vC (sgU2 P) (sgL2 P) (vX (sgU2 P) (sgL2 P) a) := j5
    refine lv_aload_n X.1 X.2.1 dX12_digit_24 rfl (lv_at hl 1 rfl) ?_
    refine ca_X12_fails_e X hK hG hC hS hb a0 h0 hl0 b2 wl_7_141 hl.1 (rest := []) rfl (Nat.le_of_ble_eq_true rfl) ⟨Nat.le_of_ble_eq_true rfl, Nat.le_of_ble_eq_true rfl⟩ ⟨Nat.le_of_ble_eq_true rfl, Nat.le_of_ble_eq_true rfl⟩ dX12_digit_25 (fun f10 tf10 H locs htf10 hf10 hWf10 hS => ?_)
    have hG := hWf10.2.2.2
    rw [htf10] at hG
    obtain rfl : f10 = 0 := sg_is0 hf10
    refine lv_pop X.1 X.2.1 dX12_digit_28 rfl ?_
    refine lv_iconst (v := 0) X.1 X.2.1 dX12_digit_29 (by decide +kernel) ?_
    have spr : vCut1 (sgU2 P) (sgL2 P) (vX (sgU2 P) (sgL2 P) a) = (false, (vX (sgU2 P) (sgL2 P) a)) := by exact vCut1_f (vq_49 k6)
    have hG := ke_weak (b1 := 0) (b2 := 241) (g1 := (vX (sgU2 P) (sgL2 P) a)) (g2 := (vX (sgU2 P) (sgL2 P) a)) (e1 := d1) (e2 := d2) hG (b2).1 (Int.le_trans (b2).2 (Int.le_trans hl0.2 (by decide))) (Int.le_refl _) (Int.le_refl _) (Int.le_refl _) (Int.le_refl _)
    exact sg_iret2 X hr hlk hS trivial (fun t ht hW => (Or.inr ⟨_, spr, ((vq_bw b2 hl0)).1, ((vq_bw b2 hl0)).2, sg_post hb hK hC hG hS ht hW⟩)) dX12_digit_30
  · have j7 := vq_says1 hf3 c4
    have k8 : ¬ vC (sgU2 P) (sgL2 P) (vX (sgU2 P) (sgL2 P) a) < (48 : Int) := j7.1
    have k9 : ¬ (57 : Int) < vC (sgU2 P) (sgL2 P) (vX (sgU2 P) (sgL2 P) a) := j7.2
    refine lv_iload_n X.1 X.2.1 dX12_digit_12 rfl (lv_at hl 0 rfl) ?_
    refine lv_bipush (v := 49) X.1 X.2.1 dX12_digit_13 (by decide +kernel) ?_
    refine lv_icmp_lt (tgt := 24) X.1 X.2.1 dX12_digit_15 (by decide) (fun c11 => ?_) (fun c11 => ?_)
    · have i12 : vE (vC (sgU2 P) (sgL2 P) (vX (sgU2 P) (sgL2 P) a)) < (49 : Int) := vq_lt c11 xf1 (by decide +kernel)
      have mi12 : vC (sgU2 P) (sgL2 P) (vX (sgU2 P) (sgL2 P) a) < (49 : Int) := vE_lt i12 (by decide)
      refine lv_aload_n X.1 X.2.1 dX12_digit_24 rfl (lv_at hl 1 rfl) ?_
      refine ca_X12_fails_e X hK hG hC hS hb a0 h0 hl0 b2 wl_7_141 hl.1 (rest := []) rfl (Nat.le_of_ble_eq_true rfl) ⟨Nat.le_of_ble_eq_true rfl, Nat.le_of_ble_eq_true rfl⟩ ⟨Nat.le_of_ble_eq_true rfl, Nat.le_of_ble_eq_true rfl⟩ dX12_digit_25 (fun f14 tf14 H locs htf14 hf14 hWf14 hS => ?_)
      have hG := hWf14.2.2.2
      rw [htf14] at hG
      obtain rfl : f14 = 0 := sg_is0 hf14
      refine lv_pop X.1 X.2.1 dX12_digit_28 rfl ?_
      refine lv_iconst (v := 0) X.1 X.2.1 dX12_digit_29 (by decide +kernel) ?_
      have spr : vCut1 (sgU2 P) (sgL2 P) (vX (sgU2 P) (sgL2 P) a) = (false, (vX (sgU2 P) (sgL2 P) a)) := by exact vCut1_f (Or.inl mi12)
      have hG := ke_weak (b1 := 0) (b2 := 241) (g1 := (vX (sgU2 P) (sgL2 P) a)) (g2 := (vX (sgU2 P) (sgL2 P) a)) (e1 := d1) (e2 := d2) hG (b2).1 (Int.le_trans (b2).2 (Int.le_trans hl0.2 (by decide))) (Int.le_refl _) (Int.le_refl _) (Int.le_refl _) (Int.le_refl _)
      exact sg_iret2 X hr hlk hS trivial (fun t ht hW => (Or.inr ⟨_, spr, ((vq_bw b2 hl0)).1, ((vq_bw b2 hl0)).2, sg_post hb hK hC hG hS ht hW⟩)) dX12_digit_30
    · have i13 : ¬ vE (vC (sgU2 P) (sgL2 P) (vX (sgU2 P) (sgL2 P) a)) < (49 : Int) := vq_le (iv_ge_of c11) (by decide +kernel) xf1
      have mi13 : ¬ vC (sgU2 P) (sgL2 P) (vX (sgU2 P) (sgL2 P) a) < (49 : Int) := vE_nlt i13 (by decide)
      refine lv_iload_n X.1 X.2.1 dX12_digit_18 rfl (lv_at hl 0 rfl) ?_
      refine lv_bipush (v := 53) X.1 X.2.1 dX12_digit_19 (by decide +kernel) ?_
      refine lv_icmp_le (tgt := 31) X.1 X.2.1 dX12_digit_21 (by decide) (fun c15 => ?_) (fun c15 => ?_)
      · have i16 : ¬ (53 : Int) < vE (vC (sgU2 P) (sgL2 P) (vX (sgU2 P) (sgL2 P) a)) := vq_le c15 xf1 (by decide +kernel)
        have mi16 : ¬ (53 : Int) < vC (sgU2 P) (sgL2 P) (vX (sgU2 P) (sgL2 P) a) := vE_ngt i16 (by decide)
        refine lv_aload_n X.1 X.2.1 dX12_digit_31 rfl (lv_at hl 1 rfl) ?_
        refine lv_dup X.1 X.2.1 dX12_digit_32 rfl ?_
        refine gf_X12_10e X hK hG h0 wl_6_188 dX12_digit_33 (fun f18 hf18 => ?_)
        have xf18 : f18.toInt = (vX (sgU2 P) (sgL2 P) a) := vq_iv hf18
        have yf18 : iv 0 240 f18 := vq_240 hl0 b2 xf18
        refine lv_iconst (v := 1) X.1 X.2.1 dX12_digit_36 (by decide +kernel) ?_
        refine lv_iadd X.1 X.2.1 dX12_digit_37 ?_
        refine lv_topi (fun f19 ef19 => ?_)
        have xf19 : f19.toInt = ((vX (sgU2 P) (sgL2 P) a) + 1) := sg_exadd ef19 yf18 (iv_c 1 (a := 1) (b := 1) (by decide +kernel)) (by decide +kernel) xf18 (by decide +kernel)
        refine pf_X12_10E (b1 := ((vX (sgU2 P) (sgL2 P) a) + 1)) (b2 := ((vX (sgU2 P) (sgL2 P) a) + 1)) X hK hG hS h0 wl_6_188 (vq_of (lo := ((vX (sgU2 P) (sgL2 P) a) + 1)) (hi := ((vX (sgU2 P) (sgL2 P) a) + 1)) xf19 ⟨Int.le_refl _, Int.le_refl _⟩) dX12_digit_38 (fun H locs hG hS => ?_)
        have l20 := (vC_lt (b := sgU2 P) (n := sgL2 P) (a := (vX (sgU2 P) (sgL2 P) a)) (vq_dn k8)).2
        have b21 := vq_bd1 b2 l20
        have pb21 : a + 1 ≤ ((vX (sgU2 P) (sgL2 P) a) + 1) := vq_pg pb2 (m := 1) (Int.le_refl _) (by decide)
        refine lv_iload_n X.1 X.2.1 dX12_digit_41 rfl (lv_at hl 0 rfl) ?_
        refine lv_bipush (v := 48) X.1 X.2.1 dX12_digit_42 (by decide +kernel) ?_
        refine lv_isub X.1 X.2.1 dX12_digit_44 ?_
        refine lv_topi (fun f22 ef22 => ?_)
        have xf22 : f22.toInt = (vE (vC (sgU2 P) (sgL2 P) (vX (sgU2 P) (sgL2 P) a)) - 48) := sg_exsub ef22 (iv_le (b' := 53) c15 (iv_ler (c' := 49) (iv_ge_of c11) (iv_c 49 (a := 49) (b := 49) (by decide +kernel)) yf1 (by decide +kernel)) (iv_c 53 (a := 53) (b := 53) (by decide +kernel)) (by decide +kernel)) (iv_c 48 (a := 48) (b := 48) (by decide +kernel)) (by decide +kernel) xf1 (by decide +kernel)
        have spr : vCut1 (sgU2 P) (sgL2 P) (vX (sgU2 P) (sgL2 P) a) = (true, vX (sgU2 P) (sgL2 P) ((vX (sgU2 P) (sgL2 P) a) + 1)) := by exact vCut1_t mi13 mi16
        have hvd : f22.toInt = (vC (sgU2 P) (sgL2 P) (vX (sgU2 P) (sgL2 P) a) - 48) := xf22.trans (by rw [vE_n (by omega)])
        exact sg_iret2 X hr hlk hS trivial (fun t ht hW => (Or.inl ⟨_, spr, hvd, vq_pgw pb21 (by decide), (b21).2, sg_post hb hK hC hG hS ht hW⟩)) dX12_digit_45
      · have i17 : (53 : Int) < vE (vC (sgU2 P) (sgL2 P) (vX (sgU2 P) (sgL2 P) a)) := vq_lt (iv_gt_of c15) (by decide +kernel) xf1
        have mi17 : (53 : Int) < vC (sgU2 P) (sgL2 P) (vX (sgU2 P) (sgL2 P) a) := vE_gt i17 (by decide)
        refine lv_aload_n X.1 X.2.1 dX12_digit_24 rfl (lv_at hl 1 rfl) ?_
        refine ca_X12_fails_e X hK hG hC hS hb a0 h0 hl0 b2 wl_7_141 hl.1 (rest := []) rfl (Nat.le_of_ble_eq_true rfl) ⟨Nat.le_of_ble_eq_true rfl, Nat.le_of_ble_eq_true rfl⟩ ⟨Nat.le_of_ble_eq_true rfl, Nat.le_of_ble_eq_true rfl⟩ dX12_digit_25 (fun f23 tf23 H locs htf23 hf23 hWf23 hS => ?_)
        have hG := hWf23.2.2.2
        rw [htf23] at hG
        obtain rfl : f23 = 0 := sg_is0 hf23
        refine lv_pop X.1 X.2.1 dX12_digit_28 rfl ?_
        refine lv_iconst (v := 0) X.1 X.2.1 dX12_digit_29 (by decide +kernel) ?_
        have spr : vCut1 (sgU2 P) (sgL2 P) (vX (sgU2 P) (sgL2 P) a) = (false, (vX (sgU2 P) (sgL2 P) a)) := by exact vCut1_f (Or.inr mi17)
        have hG := ke_weak (b1 := 0) (b2 := 241) (g1 := (vX (sgU2 P) (sgL2 P) a)) (g2 := (vX (sgU2 P) (sgL2 P) a)) (e1 := d1) (e2 := d2) hG (b2).1 (Int.le_trans (b2).2 (Int.le_trans hl0.2 (by decide))) (Int.le_refl _) (Int.le_refl _) (Int.le_refl _) (Int.le_refl _)
        exact sg_iret2 X hr hlk hS trivial (fun t ht hW => (Or.inr ⟨_, spr, ((vq_bw b2 hl0)).1, ((vq_bw b2 hl0)).2, sg_post hb hK hC hG hS ht hW⟩)) dX12_digit_30

theorem ca_X12_digit_d  {a d1 d2 : Int} {z : sgZt}  (X : CallFix p m c cc nL s args sg_tbl own) (hK : va_K D vwCl tys s) (hG : sgG (KE a a (-1) (-1) d1 d2 z P) D vwCl (fun q : Nat => base ≤ q) tys ad ks H) (hC : sgC base s) (hS : va_S (fun q : Nat => base ≤ q) s.heap H locs) (hb : base ≤ s.heap.size) (a0 : Nat) (h0 : isK ad ks 12 a0) (hl0 : 0 ≤ sgL2 P ∧ sgL2 P ≤ 240) (hav : 0 ≤ a ∧ a ≤ sgL2 P) (hby : sgBy2 P) (hd0 : 0 ≤ d1 ∧ d2 ≤ 6) (hl : Cond.methodLink own index yX12_digit ∈ sg_tbl) (hsize : ls.size = nL) (hst : st0 = [].reverse ++ .ref a0 :: rest) (hW : (rest.map fun v => v.category).sum ≤ 8) (hR : 2 ≤ R.frames ∧ 41 ≤ R.locals) (hf : cells ≤ R.cells ∧ slots ≤ R.slots) (hdg : decode cc pc = .ok (.invokevirtual index, 3)) (kk : ∀ (r : Int32) (t : State) (H1 : Heap) (locs1 : List Loc), t.heap = H1 → (fun r : Int32 => True) r → ((∃ a1 : Int, vCut1 (sgU2 P) (sgL2 P) (vX (sgU2 P) (sgL2 P) a) = (true, vX (sgU2 P) (sgL2 P) a1) ∧ r.toInt = (vC (sgU2 P) (sgL2 P) (vX (sgU2 P) (sgL2 P) a) - 48) ∧ a + 1 ≤ a1 ∧ a1 ≤ sgL2 P ∧ sgB (KE a1 a1 (-1) (-1) d1 d2 z P) D vwCl base tys ad ks t) ∨ (∃ w : Int, vCut1 (sgU2 P) (sgL2 P) (vX (sgU2 P) (sgL2 P) a) = (false, w) ∧ 0 ≤ w ∧ w ≤ 240 ∧ sgB (KE 0 241 w w d1 d2 z P) D vwCl base tys ad ks t)) → va_S (fun q : Nat => base ≤ q) s.heap H1 locs1 → W p l e R s m args below meth c H1 locs1 cells slots Q (F0 m (pc + 3) ls (.int r :: rest))) : W p l e R s m args below meth c H locs cells slots Q (F0 m pc ls st0) :=
  sg_callV2i X hK hG hC hS hb (m_X12_digit_d l a0 h0 hl0 hav hby hd0) h0 (k := 12) (ci := 12) rfl (C := RX12) (T := TX12) (N := 53) rfl wl_8_40 wl_1_13 wl_8_39 wl_0_71 (n := 0) (by decide +kernel) rfl rfl rfl hl hsize hst hW hR hf hdg kk

set_option maxHeartbeats 8000000 in
set_option maxRecDepth 100000 in
theorem m_X12_readMove_m (l : Launch) {D : va_G} {base : Nat} {tys : List (ClassId × FieldType)} {ad ks : List Nat} {P : sgPm}{a d1 d2 : Int} {z : sgZt}  (a0 : Nat) (h0 : isK ad ks 12 a0) (x1 : Int32) (h1 : iv 256 316 x1) (hl0 : 0 ≤ sgL2 P ∧ sgL2 P ≤ 240) (hav : 0 ≤ a ∧ a ≤ sgL2 P) (hby : sgBy2 P) (hd0 : 0 ≤ d1 ∧ d2 ≤ 6) : Met l yX12_readMove (Cond.code yX12_readMove cX12_readMove 4 none :: sg_tbl) ({ frames := 5, cells := 0, slots := 0, locals := 107 }) (va_Pc [.ref a0, .int x1] (sgB (KE a a (-1) (-1) d1 d2 z P) D vwCl base tys ad ks)) (va_Qv (fun (_ : Unit) => True) (fun _ => fun t => (∃ (a1 : Int) (z1 : sgZt), vMv (sgU2 P) (sgL2 P) (vX (sgU2 P) (sgL2 P) a) = (true, vX (sgU2 P) (sgL2 P) a1) ∧ zRow z.2.2.2.1 z1.2.2.2.1 x1.toNatClampNeg (vMq (sgU2 P) (sgL2 P) (vX (sgU2 P) (sgL2 P) a)) ∧ a + 1 ≤ a1 ∧ a1 ≤ sgL2 P ∧ sgB (KE a1 a1 (-1) (-1) d1 d2 z1 P) D vwCl base tys ad ks t) ∨ (∃ (w : Int) (z1 : sgZt), vMv (sgU2 P) (sgL2 P) (vX (sgU2 P) (sgL2 P) a) = (false, w) ∧ 0 ≤ w ∧ w ≤ 240 ∧ sgB (KE 0 241 w w d1 d2 z1 P) D vwCl base tys ad ks t)) (fun q : Nat => base ≤ q)) 0 0 (fun q : Nat => base ≤ q) := by
  refine sg_ofW (by decide +kernel) (Nat.le_of_ble_eq_true rfl) (fun p e s m below meth c X hr hlk hb hK hC hG ls hl => ?_)
  have hS : va_S (fun q : Nat => base ≤ q) s.heap s.heap [] := va_S.rf
  have hl : lv_has ls 4 [(0, .ref a0), (1, .int x1)] := hl
  obtain ⟨t1, vt1, pt1, rt1⟩ := hC.2.2.2.2.2.1
  refine va_ldcSW X.1 X.2.1 X.2.2.2.1 rt1 dX12_readMove_0 ?_
  refine lv_aload_n X.1 X.2.1 dX12_readMove_3 rfl (lv_at hl 0 rfl) ?_
  refine ca_X12_look_e X hK hG hC hS hb a0 h0 hl0 hav hby wl_7_137 hl.1 (rest := [.ref t1]) rfl (Nat.le_of_ble_eq_true rfl) ⟨Nat.le_of_ble_eq_true rfl, Nat.le_of_ble_eq_true rfl⟩ ⟨Nat.le_of_ble_eq_true rfl, Nat.le_of_ble_eq_true rfl⟩ dX12_readMove_4 (fun f2 tf2 H locs htf2 hf2 hWf2 hS => ?_)
  have hBf2 := hWf2.2
  have xf2 := hWf2.1
  have hG := hBf2.2.2.2
  rw [htf2] at hG
  have b3 := vq_bdL (b := sgU2 P) hav
  have eb3 : a ≤ vX (sgU2 P) (sgL2 P) a := (vX_ge (sgU2 P) (sgL2 P) a).1
  have pb3 : a + 0 ≤ vX (sgU2 P) (sgL2 P) a := Int.le_trans (vq_pg0 a) (vX_ge (sgU2 P) (sgL2 P) a).1
  have yf2 : iv (-1) 255 f2 := vq_lk xf2 (vC_by2 hby _)
  refine ca_X12_spotOf_e4 X hK (ke_toKT hG (by decide) (by decide) hd0.1 hd0.2) hC (fun _ h => h) hS hb pt1 f2 (sg_htb (by decide +kernel)) wl_7_151 hl.1 (rest := []) rfl (Nat.le_of_ble_eq_true rfl) ⟨Nat.le_of_ble_eq_true rfl, Nat.le_of_ble_eq_true rfl⟩ ⟨Nat.le_of_ble_eq_true rfl, Nat.le_of_ble_eq_true rfl⟩ dX12_readMove_7 (fun f4 locs hf4 hS => ?_)
  have xf4 : f4.toInt = vGc (vC (sgU2 P) (sgL2 P) (vX (sgU2 P) (sgL2 P) a)) := hf4.2.1.trans (by rw [xf2]; exact vGc_E _)
  refine lv_istore_n (lv' := [(2, .int f4), (0, .ref a0), (1, .int x1)]) X.1 X.2.1 dX12_readMove_10 rfl hl (by decide) rfl (fun ls hl => ?_)
  refine lv_iload_n X.1 X.2.1 dX12_readMove_11 rfl (lv_at hl 0 rfl) ?_
  refine lv_iconst (v := (-1)) X.1 X.2.1 dX12_readMove_12 (by decide +kernel) ?_
  refine lv_icmp_ne (tgt := 22) X.1 X.2.1 dX12_readMove_13 (by decide) (fun c5 => ?_) (fun c5 => ?_)
  · have i6 : (vGc (vC (sgU2 P) (sgL2 P) (vX (sgU2 P) (sgL2 P) a)) = ((-1) : Int)) = False := vq_ne c5 xf4 (by decide +kernel)
    refine lv_aload_n X.1 X.2.1 dX12_readMove_22 rfl (lv_at hl 1 rfl) ?_
    refine lv_dup X.1 X.2.1 dX12_readMove_23 rfl ?_
    refine gf_X12_10e X hK hG h0 wl_6_188 dX12_readMove_24 (fun f8 hf8 => ?_)
    have xf8 : f8.toInt = (vX (sgU2 P) (sgL2 P) a) := vq_iv hf8
    have yf8 : iv 0 240 f8 := vq_240 hl0 b3 xf8
    refine lv_iconst (v := 1) X.1 X.2.1 dX12_readMove_27 (by decide +kernel) ?_
    refine lv_iadd X.1 X.2.1 dX12_readMove_28 ?_
    refine lv_topi (fun f9 ef9 => ?_)
    have xf9 : f9.toInt = ((vX (sgU2 P) (sgL2 P) a) + 1) := sg_exadd ef9 yf8 (iv_c 1 (a := 1) (b := 1) (by decide +kernel)) (by decide +kernel) xf8 (by decide +kernel)
    refine pf_X12_10E (b1 := ((vX (sgU2 P) (sgL2 P) a) + 1)) (b2 := ((vX (sgU2 P) (sgL2 P) a) + 1)) X hK hG hS h0 wl_6_188 (vq_of (lo := ((vX (sgU2 P) (sgL2 P) a) + 1)) (hi := ((vX (sgU2 P) (sgL2 P) a) + 1)) xf9 ⟨Int.le_refl _, Int.le_refl _⟩) dX12_readMove_29 (fun H locs hG hS => ?_)
    have l10 := (vC_lt (b := sgU2 P) (n := sgL2 P) (a := (vX (sgU2 P) (sgL2 P) a)) (vGc_ne i6)).2
    have b11 := vq_bd1 b3 l10
    have pb11 : a + 1 ≤ ((vX (sgU2 P) (sgL2 P) a) + 1) := vq_pg pb3 (m := 1) (Int.le_refl _) (by decide)
    refine lv_aload_n X.1 X.2.1 dX12_readMove_32 rfl (lv_at hl 1 rfl) ?_
    refine gf_X12_21e X hK hG h0 wl_6_199 dX12_readMove_33 (fun q12 hq12 kq12 => ?_)
    refine lv_iload_n X.1 X.2.1 dX12_readMove_36 rfl (lv_at hl 2 rfl) ?_
    refine lv_iload_n X.1 X.2.1 dX12_readMove_37 rfl (lv_at hl 0 rfl) ?_
    refine as_52E X hK hG hS hq12 (iv_vpin h1 (by decide +kernel)) (sg_ge256 h1 (by decide +kernel)) dX12_readMove_38 (fun H locs hG hS => ?_)
    obtain ⟨zy13, ezy13, hG⟩ : ∃ y : sgZt, y = (z.1, z.2.1, z.2.2.1, zUp z.2.2.2.1 (x1 : Int32).toNatClampNeg (f4 : Int32).toInt, z.2.2.2.2) ∧ sgG (KE ((vX (sgU2 P) (sgL2 P) a) + 1) ((vX (sgU2 P) (sgL2 P) a) + 1) (-1) (-1) d1 d2 y P) D vwCl (fun q : Nat => base ≤ q) tys ad ks H := ⟨_, rfl, hG⟩
    have fzy13 : zy13.2.2.2.1 = zUp z.2.2.2.1 (x1.toNatClampNeg) (vGc (vC (sgU2 P) (sgL2 P) (vX (sgU2 P) (sgL2 P) a))) := by rw [ezy13]; show zUp _ _ _ = _; rw [xf4]
    refine lv_aload_n X.1 X.2.1 dX12_readMove_39 rfl (lv_at hl 1 rfl) ?_
    refine gf_X12_21e X hK hG h0 wl_6_199 dX12_readMove_40 (fun q14 hq14 kq14 => ?_)
    refine lv_iload_n X.1 X.2.1 dX12_readMove_43 rfl (lv_at hl 2 rfl) ?_
    refine lv_iconst (v := 1) X.1 X.2.1 dX12_readMove_44 (by decide +kernel) ?_
    refine lv_iadd X.1 X.2.1 dX12_readMove_45 ?_
    refine lv_topi (fun f15 ef15 => ?_)
    have xf15 : f15.toInt = (x1.toInt + 1) := sg_exadd ef15 h1 (iv_c 1 (a := 1) (b := 1) (by decide +kernel)) (by decide +kernel) rfl (by decide +kernel)
    refine lv_iconst (v := (-1)) X.1 X.2.1 dX12_readMove_46 (by decide +kernel) ?_
    refine as_52E X hK hG hS hq14 (iv_vpin (iv_add (a' := 257) (b' := 317) ef15 h1 (iv_c 1 (a := 1) (b := 1) (by decide +kernel)) (by decide +kernel)) (by decide +kernel)) (sg_ge256 (iv_add (a' := 257) (b' := 317) ef15 h1 (iv_c 1 (a := 1) (b := 1) (by decide +kernel)) (by decide +kernel)) (by decide +kernel)) dX12_readMove_47 (fun H locs hG hS => ?_)
    obtain ⟨zy16, ezy16, hG⟩ : ∃ y : sgZt, y = (zy13.1, zy13.2.1, zy13.2.2.1, zUp zy13.2.2.2.1 (f15 : Int32).toNatClampNeg ((-1) : Int32).toInt, zy13.2.2.2.2) ∧ sgG (KE ((vX (sgU2 P) (sgL2 P) a) + 1) ((vX (sgU2 P) (sgL2 P) a) + 1) (-1) (-1) d1 d2 y P) D vwCl (fun q : Nat => base ≤ q) tys ad ks H := ⟨_, rfl, hG⟩
    have fzy16 : zy16.2.2.2.1 = zUp zy13.2.2.2.1 (x1.toNatClampNeg + 1) ((-1)) := by rw [ezy16]; show zUp _ _ _ = _; rw [sg_row (k := 1) xf15 (h1).1, show ((-1) : Int32).toInt = (-1) from by decide +kernel]
    refine lv_aload_n X.1 X.2.1 dX12_readMove_48 rfl (lv_at hl 1 rfl) ?_
    refine gf_X12_21e X hK hG h0 wl_6_199 dX12_readMove_49 (fun q17 hq17 kq17 => ?_)
    refine lv_iload_n X.1 X.2.1 dX12_readMove_52 rfl (lv_at hl 2 rfl) ?_
    refine lv_iconst (v := 2) X.1 X.2.1 dX12_readMove_53 (by decide +kernel) ?_
    refine lv_iadd X.1 X.2.1 dX12_readMove_54 ?_
    refine lv_topi (fun f18 ef18 => ?_)
    have xf18 : f18.toInt = (x1.toInt + 2) := sg_exadd ef18 h1 (iv_c 2 (a := 2) (b := 2) (by decide +kernel)) (by decide +kernel) rfl (by decide +kernel)
    refine lv_iconst (v := 0) X.1 X.2.1 dX12_readMove_55 (by decide +kernel) ?_
    refine as_52E X hK hG hS hq17 (iv_vpin (iv_add (a' := 258) (b' := 318) ef18 h1 (iv_c 2 (a := 2) (b := 2) (by decide +kernel)) (by decide +kernel)) (by decide +kernel)) (sg_ge256 (iv_add (a' := 258) (b' := 318) ef18 h1 (iv_c 2 (a := 2) (b := 2) (by decide +kernel)) (by decide +kernel)) (by decide +kernel)) dX12_readMove_56 (fun H locs hG hS => ?_)
    obtain ⟨zy19, ezy19, hG⟩ : ∃ y : sgZt, y = (zy16.1, zy16.2.1, zy16.2.2.1, zUp zy16.2.2.2.1 (f18 : Int32).toNatClampNeg (0 : Int32).toInt, zy16.2.2.2.2) ∧ sgG (KE ((vX (sgU2 P) (sgL2 P) a) + 1) ((vX (sgU2 P) (sgL2 P) a) + 1) (-1) (-1) d1 d2 y P) D vwCl (fun q : Nat => base ≤ q) tys ad ks H := ⟨_, rfl, hG⟩
    have fzy19 : zy19.2.2.2.1 = zUp zy16.2.2.2.1 (x1.toNatClampNeg + 2) (0) := by rw [ezy19]; show zUp _ _ _ = _; rw [sg_row (k := 2) xf18 (h1).1, show (0 : Int32).toInt = 0 from by decide +kernel]
    refine lv_aload_n X.1 X.2.1 dX12_readMove_57 rfl (lv_at hl 1 rfl) ?_
    refine gf_X12_21e X hK hG h0 wl_6_199 dX12_readMove_58 (fun q20 hq20 kq20 => ?_)
    refine lv_iload_n X.1 X.2.1 dX12_readMove_61 rfl (lv_at hl 2 rfl) ?_
    refine lv_iconst (v := 3) X.1 X.2.1 dX12_readMove_62 (by decide +kernel) ?_
    refine lv_iadd X.1 X.2.1 dX12_readMove_63 ?_
    refine lv_topi (fun f21 ef21 => ?_)
    have xf21 : f21.toInt = (x1.toInt + 3) := sg_exadd ef21 h1 (iv_c 3 (a := 3) (b := 3) (by decide +kernel)) (by decide +kernel) rfl (by decide +kernel)
    refine lv_iconst (v := 0) X.1 X.2.1 dX12_readMove_64 (by decide +kernel) ?_
    refine as_52E X hK hG hS hq20 (iv_vpin (iv_add (a' := 259) (b' := 319) ef21 h1 (iv_c 3 (a := 3) (b := 3) (by decide +kernel)) (by decide +kernel)) (by decide +kernel)) (sg_ge256 (iv_add (a' := 259) (b' := 319) ef21 h1 (iv_c 3 (a := 3) (b := 3) (by decide +kernel)) (by decide +kernel)) (by decide +kernel)) dX12_readMove_65 (fun H locs hG hS => ?_)
    obtain ⟨zy22, ezy22, hG⟩ : ∃ y : sgZt, y = (zy19.1, zy19.2.1, zy19.2.2.1, zUp zy19.2.2.2.1 (f21 : Int32).toNatClampNeg (0 : Int32).toInt, zy19.2.2.2.2) ∧ sgG (KE ((vX (sgU2 P) (sgL2 P) a) + 1) ((vX (sgU2 P) (sgL2 P) a) + 1) (-1) (-1) d1 d2 y P) D vwCl (fun q : Nat => base ≤ q) tys ad ks H := ⟨_, rfl, hG⟩
    have fzy22 : zy22.2.2.2.1 = zUp zy19.2.2.2.1 (x1.toNatClampNeg + 3) (0) := by rw [ezy22]; show zUp _ _ _ = _; rw [sg_row (k := 3) xf21 (h1).1, show (0 : Int32).toInt = 0 from by decide +kernel]
    refine lv_iload_n X.1 X.2.1 dX12_readMove_66 rfl (lv_at hl 0 rfl) ?_
    refine lv_iconst (v := 3) X.1 X.2.1 dX12_readMove_67 (by decide +kernel) ?_
    refine lv_icmp_ne (tgt := 72) X.1 X.2.1 dX12_readMove_68 (by decide) (fun c23 => ?_) (fun c23 => ?_)
    · have i24 : (vGc (vC (sgU2 P) (sgL2 P) (vX (sgU2 P) (sgL2 P) a)) = (3 : Int)) = False := vq_ne c23 xf4 (by decide +kernel)
      refine lv_iload_n X.1 X.2.1 dX12_readMove_72 rfl (lv_at hl 0 rfl) ?_
      refine lv_if_ne (tgt := 96) X.1 X.2.1 dX12_readMove_73 (by decide) (fun c26 => ?_) (fun c26 => ?_)
      · have i27 : (vGc (vC (sgU2 P) (sgL2 P) (vX (sgU2 P) (sgL2 P) a)) = (0 : Int)) = False := vq_ne c26 xf4 (by decide +kernel)
        refine lv_aload_n X.1 X.2.1 dX12_readMove_96 rfl (lv_at hl 1 rfl) ?_
        refine gf_X12_21e X hK hG h0 wl_6_199 dX12_readMove_97 (fun q29 hq29 kq29 => ?_)
        refine lv_iload_n X.1 X.2.1 dX12_readMove_100 rfl (lv_at hl 2 rfl) ?_
        refine lv_iconst (v := 1) X.1 X.2.1 dX12_readMove_101 (by decide +kernel) ?_
        refine lv_iadd X.1 X.2.1 dX12_readMove_102 ?_
        refine lv_topi (fun f30 ef30 => ?_)
        have xf30 : f30.toInt = (x1.toInt + 1) := sg_exadd ef30 h1 (iv_c 1 (a := 1) (b := 1) (by decide +kernel)) (by decide +kernel) rfl (by decide +kernel)
        refine lv_aload_n X.1 X.2.1 dX12_readMove_103 rfl (lv_at hl 1 rfl) ?_
        refine lv_iconst (v := 0) X.1 X.2.1 dX12_readMove_104 (by decide +kernel) ?_
        refine lv_bipush (v := 29) X.1 X.2.1 dX12_readMove_105 (by decide +kernel) ?_
        refine ca_X12_number_e X hK hG hC hS hb a0 h0 0 29 hl0 b11 hby (by omega) (show (0 : Int32).toInt = (0 : Int) ∧ (29 : Int32).toInt = (29 : Int) from ⟨(by decide +kernel), (by decide +kernel)⟩) wl_7_183 hl.1 (rest := [.int f30, .ref q29]) rfl (Nat.le_of_ble_eq_true rfl) ⟨Nat.le_of_ble_eq_true rfl, Nat.le_of_ble_eq_true rfl⟩ ⟨Nat.le_of_ble_eq_true rfl, Nat.le_of_ble_eq_true rfl⟩ dX12_readMove_107 (fun f31 tf31 H locs htf31 hf31 hWf31 hS => ?_)
        rcases hWf31 with ⟨av32, nv32, pv32, xv32, g1v32, g2v32, gav32, gbv32, hBf31⟩ | ⟨wv32, pv32, w1v32, w2v32, hBf31⟩
        · have hG := hBf31.2.2.2
          rw [htf31] at hG
          have bv32 := vq_bd2 (k := 1) b11 (by decide) gav32 gbv32
          have p2v32 : a + 2 ≤ av32 := vq_pg pb11 gav32 (by decide)
          have yv32 : iv 0 29 f31 := ⟨by omega, by omega⟩
          refine as_52E X hK hG hS hq29 (iv_vpin (iv_add (a' := 257) (b' := 317) ef30 h1 (iv_c 1 (a := 1) (b := 1) (by decide +kernel)) (by decide +kernel)) (by decide +kernel)) (sg_ge256 (iv_add (a' := 257) (b' := 317) ef30 h1 (iv_c 1 (a := 1) (b := 1) (by decide +kernel)) (by decide +kernel)) (by decide +kernel)) dX12_readMove_110 (fun H locs hG hS => ?_)
          obtain ⟨zy33, ezy33, hG⟩ : ∃ y : sgZt, y = (zy22.1, zy22.2.1, zy22.2.2.1, zUp zy22.2.2.2.1 (f30 : Int32).toNatClampNeg (f31 : Int32).toInt, zy22.2.2.2.2) ∧ sgG (KE av32 av32 (-1) (-1) d1 d2 y P) D vwCl (fun q : Nat => base ≤ q) tys ad ks H := ⟨_, rfl, hG⟩
          have fzy33 : zy33.2.2.2.1 = zUp zy22.2.2.2.1 (x1.toNatClampNeg + 1) (nv32) := by rw [ezy33]; show zUp _ _ _ = _; rw [sg_row (k := 1) xf30 (h1).1, xv32]
          refine lv_iload_n X.1 X.2.1 dX12_readMove_111 rfl (lv_at hl 0 rfl) ?_
          refine lv_iconst (v := 1) X.1 X.2.1 dX12_readMove_112 (by decide +kernel) ?_
          refine lv_icmp_ne (tgt := 124) X.1 X.2.1 dX12_readMove_113 (by decide) (fun c34 => ?_) (fun c34 => ?_)
          · have i35 : (vGc (vC (sgU2 P) (sgL2 P) (vX (sgU2 P) (sgL2 P) a)) = (1 : Int)) = False := vq_ne c34 xf4 (by decide +kernel)
            have spr : vMv (sgU2 P) (sgL2 P) (vX (sgU2 P) (sgL2 P) a) = (true, vX (sgU2 P) (sgL2 P) av32) := by rw [vMvM_eq]; simp only [vMvM, vNu, vCutM, i6, i24, i27, pv32, i35, cond_true, cond_false, vB_t, vB_f, if_true, if_false, eq_self, not_true_eq_false, not_false_eq_true, Int.reduceEq, Int.reduceLT, or_false, false_or, or_true, true_or, Int.reduceNeg]
            have hg2 := vGc_2 (of_eq_false i6) (of_eq_false i24) (of_eq_false i27) (of_eq_false i35)
            have hq9 : vMq (sgU2 P) (sgL2 P) (vX (sgU2 P) (sgL2 P) a) = (vGc (vC (sgU2 P) (sgL2 P) (vX (sgU2 P) (sgL2 P) a)), nv32, 0, 0) := (mq_m hg2.1 pv32).trans (by rw [hg2.2])
            have hz9 : zRow z.2.2.2.1 zy33.2.2.2.1 x1.toNatClampNeg (vMq (sgU2 P) (sgL2 P) (vX (sgU2 P) (sgL2 P) a)) := by rw [hq9]; exact zr_5 (b := -1) (by rw [fzy33, fzy22, fzy19, fzy16, fzy13])
            exact sg_vret2 X hr hlk hS (fun t ht hW => (Or.inl ⟨_, _, spr, hz9, vq_pgw p2v32 (by decide), (bv32).2, sg_post hb hK hC hG hS ht hW⟩)) dX12_readMove_124
          · have i36 : vGc (vC (sgU2 P) (sgL2 P) (vX (sgU2 P) (sgL2 P) a)) = (1 : Int) := vq_eq c34 xf4 (by decide +kernel)
            refine lv_aload_n X.1 X.2.1 dX12_readMove_116 rfl (lv_at hl 1 rfl) ?_
            refine gf_X12_11e X hK hG h0 wl_6_189 dX12_readMove_117 (fun f37 hf37 => ?_)
            refine lv_iconst (v := (-1)) X.1 X.2.1 dX12_readMove_120 (by decide +kernel) ?_
            refine lv_icmp_eq (tgt := 125) X.1 X.2.1 dX12_readMove_121 (by decide) (fun c38 => ?_) (fun c38 => ?_)
            · have i39 : ((-1) : Int) = ((-1) : Int) := vq_eq c38 (vq_iv hf37) (by decide +kernel)
              obtain ⟨t41, vt41, pt41, rt41⟩ := hC.2.2.2.2.2.2
              refine va_ldcSW X.1 X.2.1 X.2.2.2.1 rt41 dX12_readMove_125 ?_
              refine lv_aload_n X.1 X.2.1 dX12_readMove_128 rfl (lv_at hl 1 rfl) ?_
              refine ca_X12_look_e X hK hG hC hS hb a0 h0 hl0 bv32 hby wl_7_137 hl.1 (rest := [.ref t41]) rfl (Nat.le_of_ble_eq_true rfl) ⟨Nat.le_of_ble_eq_true rfl, Nat.le_of_ble_eq_true rfl⟩ ⟨Nat.le_of_ble_eq_true rfl, Nat.le_of_ble_eq_true rfl⟩ dX12_readMove_129 (fun f42 tf42 H locs htf42 hf42 hWf42 hS => ?_)
              have hBf42 := hWf42.2
              have xf42 := hWf42.1
              have hG := hBf42.2.2.2
              rw [htf42] at hG
              have b43 := vq_bdL (b := sgU2 P) bv32
              have eb43 : av32 ≤ vX (sgU2 P) (sgL2 P) av32 := (vX_ge (sgU2 P) (sgL2 P) av32).1
              have pb43 : a + 2 ≤ vX (sgU2 P) (sgL2 P) av32 := Int.le_trans p2v32 (vX_ge (sgU2 P) (sgL2 P) av32).1
              have yf42 : iv (-1) 255 f42 := vq_lk xf42 (vC_by2 hby _)
              refine ca_X12_spotOf_e2 X hK (ke_toKT hG (by decide) (by decide) hd0.1 hd0.2) hC (fun _ h => h) hS hb pt41 f42 (sg_htb (by decide +kernel)) wl_7_151 hl.1 (rest := []) rfl (Nat.le_of_ble_eq_true rfl) ⟨Nat.le_of_ble_eq_true rfl, Nat.le_of_ble_eq_true rfl⟩ ⟨Nat.le_of_ble_eq_true rfl, Nat.le_of_ble_eq_true rfl⟩ dX12_readMove_132 (fun f44 locs hf44 hS => ?_)
              have xf44 : f44.toInt = vRd (vC (sgU2 P) (sgL2 P) (vX (sgU2 P) (sgL2 P) av32)) := hf44.2.1.trans (by rw [xf42]; exact vRd_E _)
              refine lv_istore_n (lv' := [(3, .int f44), (2, .int f4), (0, .ref a0), (1, .int x1)]) X.1 X.2.1 dX12_readMove_135 rfl hl (by decide) rfl (fun ls hl => ?_)
              refine lv_iload_n X.1 X.2.1 dX12_readMove_136 rfl (lv_at hl 0 rfl) ?_
              refine lv_iconst (v := (-1)) X.1 X.2.1 dX12_readMove_137 (by decide +kernel) ?_
              refine lv_icmp_ne (tgt := 147) X.1 X.2.1 dX12_readMove_138 (by decide) (fun c45 => ?_) (fun c45 => ?_)
              · have i46 : (vRd (vC (sgU2 P) (sgL2 P) (vX (sgU2 P) (sgL2 P) av32)) = ((-1) : Int)) = False := vq_ne c45 xf44 (by decide +kernel)
                refine lv_aload_n X.1 X.2.1 dX12_readMove_147 rfl (lv_at hl 2 rfl) ?_
                refine lv_dup X.1 X.2.1 dX12_readMove_148 rfl ?_
                refine gf_X12_10e X hK hG h0 wl_6_188 dX12_readMove_149 (fun f48 hf48 => ?_)
                have xf48 : f48.toInt = (vX (sgU2 P) (sgL2 P) av32) := vq_iv hf48
                have yf48 : iv 0 240 f48 := vq_240 hl0 b43 xf48
                refine lv_iconst (v := 1) X.1 X.2.1 dX12_readMove_152 (by decide +kernel) ?_
                refine lv_iadd X.1 X.2.1 dX12_readMove_153 ?_
                refine lv_topi (fun f49 ef49 => ?_)
                have xf49 : f49.toInt = ((vX (sgU2 P) (sgL2 P) av32) + 1) := sg_exadd ef49 yf48 (iv_c 1 (a := 1) (b := 1) (by decide +kernel)) (by decide +kernel) xf48 (by decide +kernel)
                refine pf_X12_10E (b1 := ((vX (sgU2 P) (sgL2 P) av32) + 1)) (b2 := ((vX (sgU2 P) (sgL2 P) av32) + 1)) X hK hG hS h0 wl_6_188 (vq_of (lo := ((vX (sgU2 P) (sgL2 P) av32) + 1)) (hi := ((vX (sgU2 P) (sgL2 P) av32) + 1)) xf49 ⟨Int.le_refl _, Int.le_refl _⟩) dX12_readMove_154 (fun H locs hG hS => ?_)
                have l50 := (vC_lt (b := sgU2 P) (n := sgL2 P) (a := (vX (sgU2 P) (sgL2 P) av32)) (vRd_ne i46)).2
                have b51 := vq_bd1 b43 l50
                have pb51 : a + 3 ≤ ((vX (sgU2 P) (sgL2 P) av32) + 1) := vq_pg pb43 (m := 1) (Int.le_refl _) (by decide)
                refine lv_aload_n X.1 X.2.1 dX12_readMove_157 rfl (lv_at hl 2 rfl) ?_
                refine gf_X12_21e X hK hG h0 wl_6_199 dX12_readMove_158 (fun q52 hq52 kq52 => ?_)
                refine lv_iload_n X.1 X.2.1 dX12_readMove_161 rfl (lv_at hl 3 rfl) ?_
                refine lv_iconst (v := 2) X.1 X.2.1 dX12_readMove_162 (by decide +kernel) ?_
                refine lv_iadd X.1 X.2.1 dX12_readMove_163 ?_
                refine lv_topi (fun f53 ef53 => ?_)
                have xf53 : f53.toInt = (x1.toInt + 2) := sg_exadd ef53 h1 (iv_c 2 (a := 2) (b := 2) (by decide +kernel)) (by decide +kernel) rfl (by decide +kernel)
                refine lv_iload_n X.1 X.2.1 dX12_readMove_164 rfl (lv_at hl 0 rfl) ?_
                refine as_52E X hK hG hS hq52 (iv_vpin (iv_add (a' := 258) (b' := 318) ef53 h1 (iv_c 2 (a := 2) (b := 2) (by decide +kernel)) (by decide +kernel)) (by decide +kernel)) (sg_ge256 (iv_add (a' := 258) (b' := 318) ef53 h1 (iv_c 2 (a := 2) (b := 2) (by decide +kernel)) (by decide +kernel)) (by decide +kernel)) dX12_readMove_165 (fun H locs hG hS => ?_)
                obtain ⟨zy54, ezy54, hG⟩ : ∃ y : sgZt, y = (zy33.1, zy33.2.1, zy33.2.2.1, zUp zy33.2.2.2.1 (f53 : Int32).toNatClampNeg (f44 : Int32).toInt, zy33.2.2.2.2) ∧ sgG (KE ((vX (sgU2 P) (sgL2 P) av32) + 1) ((vX (sgU2 P) (sgL2 P) av32) + 1) (-1) (-1) d1 d2 y P) D vwCl (fun q : Nat => base ≤ q) tys ad ks H := ⟨_, rfl, hG⟩
                have fzy54 : zy54.2.2.2.1 = zUp zy33.2.2.2.1 (x1.toNatClampNeg + 2) (vRd (vC (sgU2 P) (sgL2 P) (vX (sgU2 P) (sgL2 P) av32))) := by rw [ezy54]; show zUp _ _ _ = _; rw [sg_row (k := 2) xf53 (h1).1, xf44]
                refine lv_aload_n X.1 X.2.1 dX12_readMove_166 rfl (lv_at hl 2 rfl) ?_
                refine gf_X12_21e X hK hG h0 wl_6_199 dX12_readMove_167 (fun q55 hq55 kq55 => ?_)
                refine lv_iload_n X.1 X.2.1 dX12_readMove_170 rfl (lv_at hl 3 rfl) ?_
                refine lv_iconst (v := 3) X.1 X.2.1 dX12_readMove_171 (by decide +kernel) ?_
                refine lv_iadd X.1 X.2.1 dX12_readMove_172 ?_
                refine lv_topi (fun f56 ef56 => ?_)
                have xf56 : f56.toInt = (x1.toInt + 3) := sg_exadd ef56 h1 (iv_c 3 (a := 3) (b := 3) (by decide +kernel)) (by decide +kernel) rfl (by decide +kernel)
                refine lv_aload_n X.1 X.2.1 dX12_readMove_173 rfl (lv_at hl 2 rfl) ?_
                refine ca_X12_digit_d X hK hG hC hS hb a0 h0 hl0 b51 hby (by omega) wl_8_37 hl.1 (rest := [.int f56, .ref q55]) rfl (Nat.le_of_ble_eq_true rfl) ⟨Nat.le_of_ble_eq_true rfl, Nat.le_of_ble_eq_true rfl⟩ ⟨Nat.le_of_ble_eq_true rfl, Nat.le_of_ble_eq_true rfl⟩ dX12_readMove_174 (fun f57 tf57 H locs htf57 hf57 hWf57 hS => ?_)
                rcases hWf57 with ⟨av58, pv58, xv58, gav58, gbv58, hBf57⟩ | ⟨wv58, pv58, w1v58, w2v58, hBf57⟩
                · have hG := hBf57.2.2.2
                  rw [htf57] at hG
                  have bv58 := vq_bd2 (k := 1) b51 (by decide) gav58 gbv58
                  have p2v58 : a + 4 ≤ av58 := vq_pg pb51 gav58 (by decide)
                  refine as_52E X hK hG hS hq55 (iv_vpin (iv_add (a' := 259) (b' := 319) ef56 h1 (iv_c 3 (a := 3) (b := 3) (by decide +kernel)) (by decide +kernel)) (by decide +kernel)) (sg_ge256 (iv_add (a' := 259) (b' := 319) ef56 h1 (iv_c 3 (a := 3) (b := 3) (by decide +kernel)) (by decide +kernel)) (by decide +kernel)) dX12_readMove_177 (fun H locs hG hS => ?_)
                  obtain ⟨zy59, ezy59, hG⟩ : ∃ y : sgZt, y = (zy54.1, zy54.2.1, zy54.2.2.1, zUp zy54.2.2.2.1 (f56 : Int32).toNatClampNeg (f57 : Int32).toInt, zy54.2.2.2.2) ∧ sgG (KE av58 av58 (-1) (-1) d1 d2 y P) D vwCl (fun q : Nat => base ≤ q) tys ad ks H := ⟨_, rfl, hG⟩
                  have fzy59 : zy59.2.2.2.1 = zUp zy54.2.2.2.1 (x1.toNatClampNeg + 3) ((vC (sgU2 P) (sgL2 P) (vX (sgU2 P) (sgL2 P) ((vX (sgU2 P) (sgL2 P) av32) + 1)) - 48)) := by rw [ezy59]; show zUp _ _ _ = _; rw [sg_row (k := 3) xf56 (h1).1, xv58]
                  have spr : vMv (sgU2 P) (sgL2 P) (vX (sgU2 P) (sgL2 P) a) = (true, vX (sgU2 P) (sgL2 P) av58) := by rw [vMvM_eq]; simp only [vMvM, vNu, vCutM, i6, i24, i27, pv32, i36, i39, i46, pv58, cond_true, cond_false, vB_t, vB_f, if_true, if_false, eq_self, not_true_eq_false, not_false_eq_true, Int.reduceEq, Int.reduceLT, or_false, false_or, or_true, true_or, Int.reduceNeg]
                  have hq9 : vMq (sgU2 P) (sgL2 P) (vX (sgU2 P) (sgL2 P) a) = (vGc (vC (sgU2 P) (sgL2 P) (vX (sgU2 P) (sgL2 P) a)), nv32, vRd (vC (sgU2 P) (sgL2 P) (vX (sgU2 P) (sgL2 P) av32)), (vC (sgU2 P) (sgL2 P) (vX (sgU2 P) (sgL2 P) ((vX (sgU2 P) (sgL2 P) av32) + 1)) - 48)) := (mq_c i36 pv32 (of_eq_false i46) rfl rfl).trans (by rw [i36])
                  have hz9 : zRow z.2.2.2.1 zy59.2.2.2.1 x1.toNatClampNeg (vMq (sgU2 P) (sgL2 P) (vX (sgU2 P) (sgL2 P) a)) := by rw [hq9]; exact zr_7 (b := -1) (c := 0) (d := 0) (by rw [fzy59, fzy54, fzy33, fzy22, fzy19, fzy16, fzy13])
                  exact sg_vret2 X hr hlk hS (fun t ht hW => (Or.inl ⟨_, _, spr, hz9, vq_pgw p2v58 (by decide), (bv58).2, sg_post hb hK hC hG hS ht hW⟩)) dX12_readMove_178
                · have hG := hBf57.2.2.2
                  rw [htf57] at hG
                  refine as_52E X hK hG hS hq55 (iv_vpin (iv_add (a' := 259) (b' := 319) ef56 h1 (iv_c 3 (a := 3) (b := 3) (by decide +kernel)) (by decide +kernel)) (by decide +kernel)) (sg_ge256 (iv_add (a' := 259) (b' := 319) ef56 h1 (iv_c 3 (a := 3) (b := 3) (by decide +kernel)) (by decide +kernel)) (by decide +kernel)) dX12_readMove_177 (fun H locs hG hS => ?_)
                  obtain ⟨zy60, ezy60, hG⟩ : ∃ y : sgZt, y = (zy54.1, zy54.2.1, zy54.2.2.1, zUp zy54.2.2.2.1 (f56 : Int32).toNatClampNeg (f57 : Int32).toInt, zy54.2.2.2.2) ∧ sgG (KE 0 241 wv58 wv58 d1 d2 y P) D vwCl (fun q : Nat => base ≤ q) tys ad ks H := ⟨_, rfl, hG⟩
                  have fzy60 : zy60.2.2.2.1 = zUp zy54.2.2.2.1 (x1.toNatClampNeg + 3) ((f57 : Int32).toInt) := by rw [ezy60]; show zUp _ _ _ = _; rw [sg_row (k := 3) xf56 (h1).1]
                  have spr : vMv (sgU2 P) (sgL2 P) (vX (sgU2 P) (sgL2 P) a) = (false, wv58) := by rw [vMvM_eq]; simp only [vMvM, vNu, vCutM, i6, i24, i27, pv32, i36, i39, i46, pv58, cond_true, cond_false, vB_t, vB_f, if_true, if_false, eq_self, not_true_eq_false, not_false_eq_true, Int.reduceEq, Int.reduceLT, or_false, false_or, or_true, true_or, Int.reduceNeg]
                  have hG := ke_weak (b1 := 0) (b2 := 241) (g1 := wv58) (g2 := wv58) (e1 := d1) (e2 := d2) hG (Int.le_refl _) (Int.le_refl _) (Int.le_refl _) (Int.le_refl _) (Int.le_refl _) (Int.le_refl _)
                  exact sg_vret2 X hr hlk hS (fun t ht hW => (Or.inr ⟨_, _, spr, ((And.intro w1v58 w2v58)).1, ((And.intro w1v58 w2v58)).2, sg_post hb hK hC hG hS ht hW⟩)) dX12_readMove_178
              · have i47 : vRd (vC (sgU2 P) (sgL2 P) (vX (sgU2 P) (sgL2 P) av32)) = ((-1) : Int) := vq_eq c45 xf44 (by decide +kernel)
                refine lv_aload_n X.1 X.2.1 dX12_readMove_141 rfl (lv_at hl 2 rfl) ?_
                refine ca_X12_fails_e X hK hG hC hS hb a0 h0 hl0 b43 wl_7_141 hl.1 (rest := []) rfl (Nat.le_of_ble_eq_true rfl) ⟨Nat.le_of_ble_eq_true rfl, Nat.le_of_ble_eq_true rfl⟩ ⟨Nat.le_of_ble_eq_true rfl, Nat.le_of_ble_eq_true rfl⟩ dX12_readMove_142 (fun f61 tf61 H locs htf61 hf61 hWf61 hS => ?_)
                have hG := hWf61.2.2.2
                rw [htf61] at hG
                obtain rfl : f61 = 0 := sg_is0 hf61
                refine lv_pop X.1 X.2.1 dX12_readMove_145 rfl ?_
                have spr : vMv (sgU2 P) (sgL2 P) (vX (sgU2 P) (sgL2 P) a) = (false, (vX (sgU2 P) (sgL2 P) av32)) := by rw [vMvM_eq]; simp only [vMvM, vNu, vCutM, i6, i24, i27, pv32, i36, i39, i47, cond_true, cond_false, vB_t, vB_f, if_true, if_false, eq_self, not_true_eq_false, not_false_eq_true, Int.reduceEq, Int.reduceLT, or_false, false_or, or_true, true_or, Int.reduceNeg]
                have hG := ke_weak (b1 := 0) (b2 := 241) (g1 := (vX (sgU2 P) (sgL2 P) av32)) (g2 := (vX (sgU2 P) (sgL2 P) av32)) (e1 := d1) (e2 := d2) hG (b43).1 (Int.le_trans (b43).2 (Int.le_trans hl0.2 (by decide))) (Int.le_refl _) (Int.le_refl _) (Int.le_refl _) (Int.le_refl _)
                exact sg_vret2 X hr hlk hS (fun t ht hW => (Or.inr ⟨_, _, spr, ((vq_bw b43 hl0)).1, ((vq_bw b43 hl0)).2, sg_post hb hK hC hG hS ht hW⟩)) dX12_readMove_146
            · have i40 : (((-1) : Int) = ((-1) : Int)) = False := vq_ne c38 (vq_iv hf37) (by decide +kernel)
              exact ((c38 (iv_one hf37 (iv_c (-1) (a := (-1)) (b := (-1)) (by decide +kernel)) (by decide +kernel)))).elim
        · have hG := hBf31.2.2.2
          rw [htf31] at hG
          refine as_52E X hK hG hS hq29 (iv_vpin (iv_add (a' := 257) (b' := 317) ef30 h1 (iv_c 1 (a := 1) (b := 1) (by decide +kernel)) (by decide +kernel)) (by decide +kernel)) (sg_ge256 (iv_add (a' := 257) (b' := 317) ef30 h1 (iv_c 1 (a := 1) (b := 1) (by decide +kernel)) (by decide +kernel)) (by decide +kernel)) dX12_readMove_110 (fun H locs hG hS => ?_)
          obtain ⟨zy62, ezy62, hG⟩ : ∃ y : sgZt, y = (zy22.1, zy22.2.1, zy22.2.2.1, zUp zy22.2.2.2.1 (f30 : Int32).toNatClampNeg (f31 : Int32).toInt, zy22.2.2.2.2) ∧ sgG (KE 0 241 wv32 wv32 d1 d2 y P) D vwCl (fun q : Nat => base ≤ q) tys ad ks H := ⟨_, rfl, hG⟩
          have fzy62 : zy62.2.2.2.1 = zUp zy22.2.2.2.1 (x1.toNatClampNeg + 1) ((f31 : Int32).toInt) := by rw [ezy62]; show zUp _ _ _ = _; rw [sg_row (k := 1) xf30 (h1).1]
          refine lv_iload_n X.1 X.2.1 dX12_readMove_111 rfl (lv_at hl 0 rfl) ?_
          refine lv_iconst (v := 1) X.1 X.2.1 dX12_readMove_112 (by decide +kernel) ?_
          refine lv_icmp_ne (tgt := 124) X.1 X.2.1 dX12_readMove_113 (by decide) (fun c63 => ?_) (fun c63 => ?_)
          · have i64 : (vGc (vC (sgU2 P) (sgL2 P) (vX (sgU2 P) (sgL2 P) a)) = (1 : Int)) = False := vq_ne c63 xf4 (by decide +kernel)
            have spr : vMv (sgU2 P) (sgL2 P) (vX (sgU2 P) (sgL2 P) a) = (false, wv32) := by rw [vMvM_eq]; simp only [vMvM, vNu, vCutM, i6, i24, i27, pv32, i64, cond_true, cond_false, vB_t, vB_f, if_true, if_false, eq_self, not_true_eq_false, not_false_eq_true, Int.reduceEq, Int.reduceLT, or_false, false_or, or_true, true_or, Int.reduceNeg]
            have hG := ke_weak (b1 := 0) (b2 := 241) (g1 := wv32) (g2 := wv32) (e1 := d1) (e2 := d2) hG (Int.le_refl _) (Int.le_refl _) (Int.le_refl _) (Int.le_refl _) (Int.le_refl _) (Int.le_refl _)
            exact sg_vret2 X hr hlk hS (fun t ht hW => (Or.inr ⟨_, _, spr, ((And.intro w1v32 w2v32)).1, ((And.intro w1v32 w2v32)).2, sg_post hb hK hC hG hS ht hW⟩)) dX12_readMove_124
          · have i65 : vGc (vC (sgU2 P) (sgL2 P) (vX (sgU2 P) (sgL2 P) a)) = (1 : Int) := vq_eq c63 xf4 (by decide +kernel)
            refine lv_aload_n X.1 X.2.1 dX12_readMove_116 rfl (lv_at hl 1 rfl) ?_
            refine gf_X12_11e X hK hG h0 wl_6_189 dX12_readMove_117 (fun f66 hf66 => ?_)
            have xf66 : f66.toInt = wv32 := vq_iv hf66
            have yf66 : iv 0 240 f66 := vq_of xf66 (And.intro w1v32 w2v32)
            refine lv_iconst (v := (-1)) X.1 X.2.1 dX12_readMove_120 (by decide +kernel) ?_
            refine lv_icmp_eq (tgt := 125) X.1 X.2.1 dX12_readMove_121 (by decide) (fun c67 => ?_) (fun c67 => ?_)
            · have i68 : wv32 = ((-1) : Int) := vq_eq c67 xf66 (by decide +kernel)
              exact ((iv_no (a := 0) (b := (-1)) (iv_eqm c67 yf66 (iv_c (-1) (a := (-1)) (b := (-1)) (by decide +kernel)) (by decide +kernel)) (by decide +kernel))).elim
            · have i69 : (wv32 = ((-1) : Int)) = False := vq_ne c67 xf66 (by decide +kernel)
              have spr : vMv (sgU2 P) (sgL2 P) (vX (sgU2 P) (sgL2 P) a) = (false, wv32) := by rw [vMvM_eq]; simp only [vMvM, vNu, vCutM, i6, i24, i27, pv32, i65, i69, cond_true, cond_false, vB_t, vB_f, if_true, if_false, eq_self, not_true_eq_false, not_false_eq_true, Int.reduceEq, Int.reduceLT, or_false, false_or, or_true, true_or, Int.reduceNeg]
              have hG := ke_weak (b1 := 0) (b2 := 241) (g1 := wv32) (g2 := wv32) (e1 := d1) (e2 := d2) hG (Int.le_refl _) (Int.le_refl _) (Int.le_refl _) (Int.le_refl _) (Int.le_refl _) (Int.le_refl _)
              exact sg_vret2 X hr hlk hS (fun t ht hW => (Or.inr ⟨_, _, spr, ((And.intro w1v32 w2v32)).1, ((And.intro w1v32 w2v32)).2, sg_post hb hK hC hG hS ht hW⟩)) dX12_readMove_124
      · have i28 : vGc (vC (sgU2 P) (sgL2 P) (vX (sgU2 P) (sgL2 P) a)) = (0 : Int) := vq_eq c26 xf4 (by decide +kernel)
        refine lv_aload_n X.1 X.2.1 dX12_readMove_76 rfl (lv_at hl 1 rfl) ?_
        refine ca_X12_look_e X hK hG hC hS hb a0 h0 hl0 b11 hby wl_7_137 hl.1 (rest := []) rfl (Nat.le_of_ble_eq_true rfl) ⟨Nat.le_of_ble_eq_true rfl, Nat.le_of_ble_eq_true rfl⟩ ⟨Nat.le_of_ble_eq_true rfl, Nat.le_of_ble_eq_true rfl⟩ dX12_readMove_77 (fun f70 tf70 H locs htf70 hf70 hWf70 hS => ?_)
        have hBf70 := hWf70.2
        have xf70 := hWf70.1
        have hG := hBf70.2.2.2
        rw [htf70] at hG
        have b71 := vq_bdL (b := sgU2 P) b11
        have eb71 : ((vX (sgU2 P) (sgL2 P) a) + 1) ≤ vX (sgU2 P) (sgL2 P) ((vX (sgU2 P) (sgL2 P) a) + 1) := (vX_ge (sgU2 P) (sgL2 P) ((vX (sgU2 P) (sgL2 P) a) + 1)).1
        have pb71 : a + 1 ≤ vX (sgU2 P) (sgL2 P) ((vX (sgU2 P) (sgL2 P) a) + 1) := Int.le_trans pb11 (vX_ge (sgU2 P) (sgL2 P) ((vX (sgU2 P) (sgL2 P) a) + 1)).1
        have yf70 : iv (-1) 255 f70 := vq_lk xf70 (vC_by2 hby _)
        refine lv_bipush (v := 63) X.1 X.2.1 dX12_readMove_80 (by decide +kernel) ?_
        refine lv_icmp_ne (tgt := 96) X.1 X.2.1 dX12_readMove_82 (by decide) (fun c72 => ?_) (fun c72 => ?_)
        · have i73 : (vE (vC (sgU2 P) (sgL2 P) (vX (sgU2 P) (sgL2 P) ((vX (sgU2 P) (sgL2 P) a) + 1))) = (63 : Int)) = False := vq_ne c72 xf70 (by decide +kernel)
          have mi73 : (vC (sgU2 P) (sgL2 P) (vX (sgU2 P) (sgL2 P) ((vX (sgU2 P) (sgL2 P) a) + 1)) = (63 : Int)) = False := vE_ne i73 (by decide)
          refine lv_aload_n X.1 X.2.1 dX12_readMove_96 rfl (lv_at hl 1 rfl) ?_
          refine gf_X12_21e X hK hG h0 wl_6_199 dX12_readMove_97 (fun q75 hq75 kq75 => ?_)
          refine lv_iload_n X.1 X.2.1 dX12_readMove_100 rfl (lv_at hl 2 rfl) ?_
          refine lv_iconst (v := 1) X.1 X.2.1 dX12_readMove_101 (by decide +kernel) ?_
          refine lv_iadd X.1 X.2.1 dX12_readMove_102 ?_
          refine lv_topi (fun f76 ef76 => ?_)
          have xf76 : f76.toInt = (x1.toInt + 1) := sg_exadd ef76 h1 (iv_c 1 (a := 1) (b := 1) (by decide +kernel)) (by decide +kernel) rfl (by decide +kernel)
          refine lv_aload_n X.1 X.2.1 dX12_readMove_103 rfl (lv_at hl 1 rfl) ?_
          refine lv_iconst (v := 0) X.1 X.2.1 dX12_readMove_104 (by decide +kernel) ?_
          refine lv_bipush (v := 29) X.1 X.2.1 dX12_readMove_105 (by decide +kernel) ?_
          refine ca_X12_number_e X hK hG hC hS hb a0 h0 0 29 hl0 b71 hby (by omega) (show (0 : Int32).toInt = (0 : Int) ∧ (29 : Int32).toInt = (29 : Int) from ⟨(by decide +kernel), (by decide +kernel)⟩) wl_7_183 hl.1 (rest := [.int f76, .ref q75]) rfl (Nat.le_of_ble_eq_true rfl) ⟨Nat.le_of_ble_eq_true rfl, Nat.le_of_ble_eq_true rfl⟩ ⟨Nat.le_of_ble_eq_true rfl, Nat.le_of_ble_eq_true rfl⟩ dX12_readMove_107 (fun f77 tf77 H locs htf77 hf77 hWf77 hS => ?_)
          rcases hWf77 with ⟨av78, nv78, pv78, xv78, g1v78, g2v78, gav78, gbv78, hBf77⟩ | ⟨wv78, pv78, w1v78, w2v78, hBf77⟩
          · have hG := hBf77.2.2.2
            rw [htf77] at hG
            rw [vX_idem] at pv78
            have bv78 := vq_bd2 (k := 1) b71 (by decide) gav78 gbv78
            have p2v78 : a + 2 ≤ av78 := vq_pg pb71 gav78 (by decide)
            have yv78 : iv 0 29 f77 := ⟨by omega, by omega⟩
            refine as_52E X hK hG hS hq75 (iv_vpin (iv_add (a' := 257) (b' := 317) ef76 h1 (iv_c 1 (a := 1) (b := 1) (by decide +kernel)) (by decide +kernel)) (by decide +kernel)) (sg_ge256 (iv_add (a' := 257) (b' := 317) ef76 h1 (iv_c 1 (a := 1) (b := 1) (by decide +kernel)) (by decide +kernel)) (by decide +kernel)) dX12_readMove_110 (fun H locs hG hS => ?_)
            obtain ⟨zy79, ezy79, hG⟩ : ∃ y : sgZt, y = (zy22.1, zy22.2.1, zy22.2.2.1, zUp zy22.2.2.2.1 (f76 : Int32).toNatClampNeg (f77 : Int32).toInt, zy22.2.2.2.2) ∧ sgG (KE av78 av78 (-1) (-1) d1 d2 y P) D vwCl (fun q : Nat => base ≤ q) tys ad ks H := ⟨_, rfl, hG⟩
            have fzy79 : zy79.2.2.2.1 = zUp zy22.2.2.2.1 (x1.toNatClampNeg + 1) (nv78) := by rw [ezy79]; show zUp _ _ _ = _; rw [sg_row (k := 1) xf76 (h1).1, xv78]
            refine lv_iload_n X.1 X.2.1 dX12_readMove_111 rfl (lv_at hl 0 rfl) ?_
            refine lv_iconst (v := 1) X.1 X.2.1 dX12_readMove_112 (by decide +kernel) ?_
            refine lv_icmp_ne (tgt := 124) X.1 X.2.1 dX12_readMove_113 (by decide) (fun c80 => ?_) (fun c80 => ?_)
            · have i81 : (vGc (vC (sgU2 P) (sgL2 P) (vX (sgU2 P) (sgL2 P) a)) = (1 : Int)) = False := vq_ne c80 xf4 (by decide +kernel)
              have spr : vMv (sgU2 P) (sgL2 P) (vX (sgU2 P) (sgL2 P) a) = (true, vX (sgU2 P) (sgL2 P) av78) := by rw [vMvM_eq]; simp only [vMvM, vNu, vCutM, i6, i24, i28, i73, mi73, pv78, i81, cond_true, cond_false, vB_t, vB_f, if_true, if_false, eq_self, not_true_eq_false, not_false_eq_true, Int.reduceEq, Int.reduceLT, or_false, false_or, or_true, true_or, Int.reduceNeg]
              have hq9 : vMq (sgU2 P) (sgL2 P) (vX (sgU2 P) (sgL2 P) a) = (vGc (vC (sgU2 P) (sgL2 P) (vX (sgU2 P) (sgL2 P) a)), nv78, 0, 0) := (mq_g i28 (of_eq_false mi73) pv78).trans (by rw [i28])
              have hz9 : zRow z.2.2.2.1 zy79.2.2.2.1 x1.toNatClampNeg (vMq (sgU2 P) (sgL2 P) (vX (sgU2 P) (sgL2 P) a)) := by rw [hq9]; exact zr_5 (b := -1) (by rw [fzy79, fzy22, fzy19, fzy16, fzy13])
              exact sg_vret2 X hr hlk hS (fun t ht hW => (Or.inl ⟨_, _, spr, hz9, vq_pgw p2v78 (by decide), (bv78).2, sg_post hb hK hC hG hS ht hW⟩)) dX12_readMove_124
            · have i82 : vGc (vC (sgU2 P) (sgL2 P) (vX (sgU2 P) (sgL2 P) a)) = (1 : Int) := vq_eq c80 xf4 (by decide +kernel)
              exact ((iv_no (a := 1) (b := 0) (iv_eqm c80 (iv_eqm (a' := 0) (b' := 0) c26 (iv_ne_hi (b' := 2) c23 (iv_ne_lo (a' := 0) c5 hf4.1 (by decide +kernel)) (by decide +kernel)) (iv_c 0 (a := 0) (b := 0) (by decide +kernel)) (by decide +kernel)) (iv_c 1 (a := 1) (b := 1) (by decide +kernel)) (by decide +kernel)) (by decide +kernel))).elim
          · have hG := hBf77.2.2.2
            rw [htf77] at hG
            rw [vX_idem] at pv78
            refine as_52E X hK hG hS hq75 (iv_vpin (iv_add (a' := 257) (b' := 317) ef76 h1 (iv_c 1 (a := 1) (b := 1) (by decide +kernel)) (by decide +kernel)) (by decide +kernel)) (sg_ge256 (iv_add (a' := 257) (b' := 317) ef76 h1 (iv_c 1 (a := 1) (b := 1) (by decide +kernel)) (by decide +kernel)) (by decide +kernel)) dX12_readMove_110 (fun H locs hG hS => ?_)
            obtain ⟨zy83, ezy83, hG⟩ : ∃ y : sgZt, y = (zy22.1, zy22.2.1, zy22.2.2.1, zUp zy22.2.2.2.1 (f76 : Int32).toNatClampNeg (f77 : Int32).toInt, zy22.2.2.2.2) ∧ sgG (KE 0 241 wv78 wv78 d1 d2 y P) D vwCl (fun q : Nat => base ≤ q) tys ad ks H := ⟨_, rfl, hG⟩
            have fzy83 : zy83.2.2.2.1 = zUp zy22.2.2.2.1 (x1.toNatClampNeg + 1) ((f77 : Int32).toInt) := by rw [ezy83]; show zUp _ _ _ = _; rw [sg_row (k := 1) xf76 (h1).1]
            refine lv_iload_n X.1 X.2.1 dX12_readMove_111 rfl (lv_at hl 0 rfl) ?_
            refine lv_iconst (v := 1) X.1 X.2.1 dX12_readMove_112 (by decide +kernel) ?_
            refine lv_icmp_ne (tgt := 124) X.1 X.2.1 dX12_readMove_113 (by decide) (fun c84 => ?_) (fun c84 => ?_)
            · have i85 : (vGc (vC (sgU2 P) (sgL2 P) (vX (sgU2 P) (sgL2 P) a)) = (1 : Int)) = False := vq_ne c84 xf4 (by decide +kernel)
              have spr : vMv (sgU2 P) (sgL2 P) (vX (sgU2 P) (sgL2 P) a) = (false, wv78) := by rw [vMvM_eq]; simp only [vMvM, vNu, vCutM, i6, i24, i28, i73, mi73, pv78, i85, cond_true, cond_false, vB_t, vB_f, if_true, if_false, eq_self, not_true_eq_false, not_false_eq_true, Int.reduceEq, Int.reduceLT, or_false, false_or, or_true, true_or, Int.reduceNeg]
              have hG := ke_weak (b1 := 0) (b2 := 241) (g1 := wv78) (g2 := wv78) (e1 := d1) (e2 := d2) hG (Int.le_refl _) (Int.le_refl _) (Int.le_refl _) (Int.le_refl _) (Int.le_refl _) (Int.le_refl _)
              exact sg_vret2 X hr hlk hS (fun t ht hW => (Or.inr ⟨_, _, spr, ((And.intro w1v78 w2v78)).1, ((And.intro w1v78 w2v78)).2, sg_post hb hK hC hG hS ht hW⟩)) dX12_readMove_124
            · have i86 : vGc (vC (sgU2 P) (sgL2 P) (vX (sgU2 P) (sgL2 P) a)) = (1 : Int) := vq_eq c84 xf4 (by decide +kernel)
              exact ((iv_no (a := 1) (b := 0) (iv_eqm c84 (iv_eqm (a' := 0) (b' := 0) c26 (iv_ne_hi (b' := 2) c23 (iv_ne_lo (a' := 0) c5 hf4.1 (by decide +kernel)) (by decide +kernel)) (iv_c 0 (a := 0) (b := 0) (by decide +kernel)) (by decide +kernel)) (iv_c 1 (a := 1) (b := 1) (by decide +kernel)) (by decide +kernel)) (by decide +kernel))).elim
        · have i74 : vE (vC (sgU2 P) (sgL2 P) (vX (sgU2 P) (sgL2 P) ((vX (sgU2 P) (sgL2 P) a) + 1))) = (63 : Int) := vq_eq c72 xf70 (by decide +kernel)
          have mi74 : vC (sgU2 P) (sgL2 P) (vX (sgU2 P) (sgL2 P) ((vX (sgU2 P) (sgL2 P) a) + 1)) = (63 : Int) := vE_eq i74 (by decide)
          refine lv_aload_n X.1 X.2.1 dX12_readMove_85 rfl (lv_at hl 1 rfl) ?_
          refine lv_dup X.1 X.2.1 dX12_readMove_86 rfl ?_
          refine gf_X12_10e X hK hG h0 wl_6_188 dX12_readMove_87 (fun f87 hf87 => ?_)
          have xf87 : f87.toInt = (vX (sgU2 P) (sgL2 P) ((vX (sgU2 P) (sgL2 P) a) + 1)) := vq_iv hf87
          have yf87 : iv 0 240 f87 := vq_240 hl0 b71 xf87
          refine lv_iconst (v := 1) X.1 X.2.1 dX12_readMove_90 (by decide +kernel) ?_
          refine lv_iadd X.1 X.2.1 dX12_readMove_91 ?_
          refine lv_topi (fun f88 ef88 => ?_)
          have xf88 : f88.toInt = ((vX (sgU2 P) (sgL2 P) ((vX (sgU2 P) (sgL2 P) a) + 1)) + 1) := sg_exadd ef88 yf87 (iv_c 1 (a := 1) (b := 1) (by decide +kernel)) (by decide +kernel) xf87 (by decide +kernel)
          refine pf_X12_10E (b1 := ((vX (sgU2 P) (sgL2 P) ((vX (sgU2 P) (sgL2 P) a) + 1)) + 1)) (b2 := ((vX (sgU2 P) (sgL2 P) ((vX (sgU2 P) (sgL2 P) a) + 1)) + 1)) X hK hG hS h0 wl_6_188 (vq_of (lo := ((vX (sgU2 P) (sgL2 P) ((vX (sgU2 P) (sgL2 P) a) + 1)) + 1)) (hi := ((vX (sgU2 P) (sgL2 P) ((vX (sgU2 P) (sgL2 P) a) + 1)) + 1)) xf88 ⟨Int.le_refl _, Int.le_refl _⟩) dX12_readMove_92 (fun H locs hG hS => ?_)
          have l89 := (vC_lt (b := sgU2 P) (n := sgL2 P) (a := (vX (sgU2 P) (sgL2 P) ((vX (sgU2 P) (sgL2 P) a) + 1))) (by rw [mi74]; decide)).2
          have b90 := vq_bd1 b71 l89
          have pb90 : a + 2 ≤ ((vX (sgU2 P) (sgL2 P) ((vX (sgU2 P) (sgL2 P) a) + 1)) + 1) := vq_pg pb71 (m := 1) (Int.le_refl _) (by decide)
          have spr : vMv (sgU2 P) (sgL2 P) (vX (sgU2 P) (sgL2 P) a) = (true, vX (sgU2 P) (sgL2 P) ((vX (sgU2 P) (sgL2 P) ((vX (sgU2 P) (sgL2 P) a) + 1)) + 1)) := by rw [vMvM_eq]; simp only [vMvM, vNu, vCutM, i6, i24, i28, i74, mi74, cond_true, cond_false, vB_t, vB_f, if_true, if_false, eq_self, not_true_eq_false, not_false_eq_true, Int.reduceEq, Int.reduceLT, or_false, false_or, or_true, true_or, Int.reduceNeg]
          have hq9 : vMq (sgU2 P) (sgL2 P) (vX (sgU2 P) (sgL2 P) a) = (vGc (vC (sgU2 P) (sgL2 P) (vX (sgU2 P) (sgL2 P) a)), (-1), 0, 0) := (mq_q i28 mi74).trans (by rw [i28])
          have hz9 : zRow z.2.2.2.1 zy22.2.2.2.1 x1.toNatClampNeg (vMq (sgU2 P) (sgL2 P) (vX (sgU2 P) (sgL2 P) a)) := by rw [hq9]; exact zr_4 (by rw [fzy22, fzy19, fzy16, fzy13])
          exact sg_vret2 X hr hlk hS (fun t ht hW => (Or.inl ⟨_, _, spr, hz9, vq_pgw pb90 (by decide), (b90).2, sg_post hb hK hC hG hS ht hW⟩)) dX12_readMove_95
    · have i25 : vGc (vC (sgU2 P) (sgL2 P) (vX (sgU2 P) (sgL2 P) a)) = (3 : Int) := vq_eq c23 xf4 (by decide +kernel)
      have spr : vMv (sgU2 P) (sgL2 P) (vX (sgU2 P) (sgL2 P) a) = (true, vX (sgU2 P) (sgL2 P) ((vX (sgU2 P) (sgL2 P) a) + 1)) := by rw [vMvM_eq]; simp only [vMvM, vNu, vCutM, i6, i25, cond_true, cond_false, vB_t, vB_f, if_true, if_false, eq_self, not_true_eq_false, not_false_eq_true, Int.reduceEq, Int.reduceLT, or_false, false_or, or_true, true_or, Int.reduceNeg]
      have hq9 : vMq (sgU2 P) (sgL2 P) (vX (sgU2 P) (sgL2 P) a) = (vGc (vC (sgU2 P) (sgL2 P) (vX (sgU2 P) (sgL2 P) a)), (-1), 0, 0) := (mq_x i25).trans (by rw [i25])
      have hz9 : zRow z.2.2.2.1 zy22.2.2.2.1 x1.toNatClampNeg (vMq (sgU2 P) (sgL2 P) (vX (sgU2 P) (sgL2 P) a)) := by rw [hq9]; exact zr_4 (by rw [fzy22, fzy19, fzy16, fzy13])
      exact sg_vret2 X hr hlk hS (fun t ht hW => (Or.inl ⟨_, _, spr, hz9, vq_pgw pb11 (by decide), (b11).2, sg_post hb hK hC hG hS ht hW⟩)) dX12_readMove_71
  · have i7 : vGc (vC (sgU2 P) (sgL2 P) (vX (sgU2 P) (sgL2 P) a)) = ((-1) : Int) := vq_eq c5 xf4 (by decide +kernel)
    refine lv_aload_n X.1 X.2.1 dX12_readMove_16 rfl (lv_at hl 1 rfl) ?_
    refine ca_X12_fails_e X hK hG hC hS hb a0 h0 hl0 b3 wl_7_141 hl.1 (rest := []) rfl (Nat.le_of_ble_eq_true rfl) ⟨Nat.le_of_ble_eq_true rfl, Nat.le_of_ble_eq_true rfl⟩ ⟨Nat.le_of_ble_eq_true rfl, Nat.le_of_ble_eq_true rfl⟩ dX12_readMove_17 (fun f91 tf91 H locs htf91 hf91 hWf91 hS => ?_)
    have hG := hWf91.2.2.2
    rw [htf91] at hG
    obtain rfl : f91 = 0 := sg_is0 hf91
    refine lv_pop X.1 X.2.1 dX12_readMove_20 rfl ?_
    have spr : vMv (sgU2 P) (sgL2 P) (vX (sgU2 P) (sgL2 P) a) = (false, (vX (sgU2 P) (sgL2 P) a)) := by rw [vMvM_eq]; simp only [vMvM, vNu, vCutM, i7, cond_true, cond_false, vB_t, vB_f, if_true, if_false, eq_self, not_true_eq_false, not_false_eq_true, Int.reduceEq, Int.reduceLT, or_false, false_or, or_true, true_or, Int.reduceNeg]
    have hG := ke_weak (b1 := 0) (b2 := 241) (g1 := (vX (sgU2 P) (sgL2 P) a)) (g2 := (vX (sgU2 P) (sgL2 P) a)) (e1 := d1) (e2 := d2) hG (b3).1 (Int.le_trans (b3).2 (Int.le_trans hl0.2 (by decide))) (Int.le_refl _) (Int.le_refl _) (Int.le_refl _) (Int.le_refl _)
    exact sg_vret2 X hr hlk hS (fun t ht hW => (Or.inr ⟨_, _, spr, ((vq_bw b3 hl0)).1, ((vq_bw b3 hl0)).2, sg_post hb hK hC hG hS ht hW⟩)) dX12_readMove_21

theorem ca_X12_readMove_m  {a d1 d2 : Int} {z : sgZt}  (X : CallFix p m c cc nL s args sg_tbl own) (hK : va_K D vwCl tys s) (hG : sgG (KE a a (-1) (-1) d1 d2 z P) D vwCl (fun q : Nat => base ≤ q) tys ad ks H) (hC : sgC base s) (hS : va_S (fun q : Nat => base ≤ q) s.heap H locs) (hb : base ≤ s.heap.size) (a0 : Nat) (h0 : isK ad ks 12 a0) (x1 : Int32) (h1 : iv 256 316 x1) (hl0 : 0 ≤ sgL2 P ∧ sgL2 P ≤ 240) (hav : 0 ≤ a ∧ a ≤ sgL2 P) (hby : sgBy2 P) (hd0 : 0 ≤ d1 ∧ d2 ≤ 6) (hl : Cond.methodLink own index yX12_readMove ∈ sg_tbl) (hsize : ls.size = nL) (hst : st0 = [.int x1].reverse ++ .ref a0 :: rest) (hW : (rest.map fun v => v.category).sum ≤ 8) (hR : 6 ≤ R.frames ∧ 130 ≤ R.locals) (hf : cells ≤ R.cells ∧ slots ≤ R.slots) (hdg : decode cc pc = .ok (.invokevirtual index, 3)) (kk : ∀ (t : State) (H1 : Heap) (locs1 : List Loc), t.heap = H1 → ((fun t => (∃ (a1 : Int) (z1 : sgZt), vMv (sgU2 P) (sgL2 P) (vX (sgU2 P) (sgL2 P) a) = (true, vX (sgU2 P) (sgL2 P) a1) ∧ zRow z.2.2.2.1 z1.2.2.2.1 x1.toNatClampNeg (vMq (sgU2 P) (sgL2 P) (vX (sgU2 P) (sgL2 P) a)) ∧ a + 1 ≤ a1 ∧ a1 ≤ sgL2 P ∧ sgB (KE a1 a1 (-1) (-1) d1 d2 z1 P) D vwCl base tys ad ks t) ∨ (∃ (w : Int) (z1 : sgZt), vMv (sgU2 P) (sgL2 P) (vX (sgU2 P) (sgL2 P) a) = (false, w) ∧ 0 ≤ w ∧ w ≤ 240 ∧ sgB (KE 0 241 w w d1 d2 z1 P) D vwCl base tys ad ks t)) t) → va_S (fun q : Nat => base ≤ q) s.heap H1 locs1 → W p l e R s m args below meth c H1 locs1 cells slots Q (F0 m (pc + 3) ls rest)) : W p l e R s m args below meth c H locs cells slots Q (F0 m pc ls st0) :=
  sg_callV2v X hK hG hC hS hb (m_X12_readMove_m l a0 h0 x1 h1 hl0 hav hby hd0) h0 (k := 12) (ci := 12) rfl (C := RX12) (T := TX12) (N := 53) rfl wl_8_34 wl_1_13 wl_8_33 wl_0_70 (n := 1) (by decide +kernel) rfl rfl rfl hl hsize hst hW hR hf hdg kk

set_option maxHeartbeats 8000000 in
set_option maxRecDepth 100000 in
theorem m_X12_readGame_m (l : Launch) {D : va_G} {base : Nat} {tys : List (ClassId × FieldType)} {ad ks : List Nat} {P : sgPm} (a0 : Nat) (h0 : isK ad ks 12 a0) (hl0 : 0 ≤ sgL2 P ∧ sgL2 P ≤ 240) (hby : sgBy2 P) : Met l yX12_readGame (Cond.code yX12_readGame cX12_readGame 3 none :: sg_tbl) ({ frames := 6, cells := 0, slots := 0, locals := 130 }) (va_Pc [.ref a0] (sgB (KT P) D vwCl base tys ad ks)) (va_Qv (fun (_ : Unit) => True) (fun _ => fun t => (∃ (a1 : Int) (k : Nat) (z1 : sgZt), vGame (sgU2 P) (sgL2 P) = (true, a1) ∧ gK (sgU2 P) (sgL2 P) k ∧ z1.2.2.2.2 = ((k : Int), (k : Int)) ∧ (∀ j : Nat, j < k → mqAt z1.2.2.2.1 (256 + 4 * j) (gmT (sgU2 P) (sgL2 P) j)) ∧ 0 ≤ a1 ∧ a1 ≤ sgL2 P ∧ sgB (KE a1 a1 (-1) (-1) 0 6 z1 P) D vwCl base tys ad ks t) ∨ (∃ (w : Int) (z1 : sgZt), vGame (sgU2 P) (sgL2 P) = (false, w) ∧ 0 ≤ w ∧ w ≤ 240 ∧ sgB (KE 0 241 w w 0 6 z1 P) D vwCl base tys ad ks t)) (fun q : Nat => base ≤ q)) 0 0 (fun q : Nat => base ≤ q) := by
  refine sg_ofW (by decide +kernel) (Nat.le_of_ble_eq_true rfl) (fun p e s m below meth c X hr hlk hb hK hC hG ls hl => ?_)
  have hS : va_S (fun q : Nat => base ≤ q) s.heap s.heap [] := va_S.rf
  have hl : lv_has ls 3 [(0, .ref a0)] := hl
  refine lv_aload_n X.1 X.2.1 dX12_readGame_0 rfl (lv_at hl 0 rfl) ?_
  refine lv_aload_n X.1 X.2.1 dX12_readGame_1 rfl (lv_at hl 0 rfl) ?_
  refine gf_X12_1 X hK hG h0 wl_6_179 dX12_readGame_2 (fun q1 hq1 kq1 => ?_)
  refine lv_iconst (v := 0) X.1 X.2.1 dX12_readGame_5 (by decide +kernel) ?_
  refine lv_aload_n X.1 X.2.1 dX12_readGame_6 rfl (lv_at hl 0 rfl) ?_
  refine gf_X12_6 X hK hG h0 wl_6_184 dX12_readGame_7 (fun f2 hf2 pf2 kf2 => ?_)
  have xf2 : f2.toInt = sgL2 P := sgC240_eq pf2 hl0.1 hl0.2
  refine ca_X12_starts_e X hK hG hC hS hb a0 h0 q1 hq1 0 (iv_c 0 (a := 0) (b := 0) (by decide +kernel)) f2 hf2 hl0 xf2 wl_7_126 hl.1 (rest := []) rfl (Nat.le_of_ble_eq_true rfl) ⟨Nat.le_of_ble_eq_true rfl, Nat.le_of_ble_eq_true rfl⟩ ⟨Nat.le_of_ble_eq_true rfl, Nat.le_of_ble_eq_true rfl⟩ dX12_readGame_10 (fun tg3 H locs htg3 hWg3 hS => ?_)
  have hG := hWg3.2.2.2
  rw [htg3] at hG
  refine lv_iconst (v := 0) X.1 X.2.1 dX12_readGame_13 (by decide +kernel) ?_
  refine lv_istore_n (lv' := [(1, .int 0), (0, .ref a0)]) X.1 X.2.1 dX12_readGame_14 rfl hl (by decide) rfl (fun ls hl => ?_)
  refine lv_iconst (v := 1) X.1 X.2.1 dX12_readGame_15 (by decide +kernel) ?_
  refine lv_istore_n (lv' := [(2, .int 1), (1, .int 0), (0, .ref a0)]) X.1 X.2.1 dX12_readGame_16 rfl hl (by decide) rfl (fun ls hl => ?_)
  refine lv_iload_n X.1 X.2.1 dX12_readGame_17 rfl (lv_at hl 0 rfl) ?_
  refine lv_if_eq (tgt := 91) X.1 X.2.1 dX12_readGame_18 (by decide) (fun c4 => ?_) (fun c4 => ?_)
  · exact ((iv_no (a := 1) (b := 0) (iv_eqm c4 (iv_c 1 (a := 1) (b := 1) (by decide +kernel)) (iv_c 0 (a := 0) (b := 0) (by decide +kernel)) (by decide +kernel)) (by decide +kernel))).elim
  · have B5_21 : ∀ (N : Nat) (H : Heap) (locs : List Loc) (ls : Array Slot) (z5_1 : Int32) (a5 : Int) (zz5 : sgZt), 0 ≤ a5 → a5 ≤ sgL2 P → sgG (KE a5 a5 (-1) (-1) 0 6 zz5 P) D vwCl (fun q : Nat => base ≤ q) tys ad ks H → va_S (fun q : Nat => base ≤ q) s.heap H locs → lv_has ls 3 [(0, .ref a0), (1, .int z5_1)] → iv 0 15 z5_1 → (vGame (sgU2 P) (sgL2 P) = vB (vGm (sgU2 P) (sgL2 P) (16 - (z5_1 : Int32).toInt).toNat (vX (sgU2 P) (sgL2 P) a5)) (vEn (sgU2 P) (sgL2 P)) ∧ (z5_1 : Int32).toInt < 16 ∧ gmJ (sgU2 P) (sgL2 P) (z5_1 : Int32).toInt a5 zz5.2.2.2.1) → (242 - a5).toNat ≤ N → W p l e (headSpec (Cond.code yX12_readGame cX12_readGame 3 none :: sg_tbl) ({ frames := 6, cells := 0, slots := 0, locals := 130 })).room s m #[.ref a0] below meth c H locs 0 0 (MQ below (va_Qv (fun (_ : Unit) => True) (fun _ => fun t => (∃ (a1 : Int) (k : Nat) (z1 : sgZt), vGame (sgU2 P) (sgL2 P) = (true, a1) ∧ gK (sgU2 P) (sgL2 P) k ∧ z1.2.2.2.2 = ((k : Int), (k : Int)) ∧ (∀ j : Nat, j < k → mqAt z1.2.2.2.1 (256 + 4 * j) (gmT (sgU2 P) (sgL2 P) j)) ∧ 0 ≤ a1 ∧ a1 ≤ sgL2 P ∧ sgB (KE a1 a1 (-1) (-1) 0 6 z1 P) D vwCl base tys ad ks t) ∨ (∃ (w : Int) (z1 : sgZt), vGame (sgU2 P) (sgL2 P) = (false, w) ∧ 0 ≤ w ∧ w ≤ 240 ∧ sgB (KE 0 241 w w 0 6 z1 P) D vwCl base tys ad ks t)) (fun q : Nat => base ≤ q)) #[.ref a0] s 0 0 (fun q : Nat => base ≤ q)) (F0 m 21 ls []) := by
      intro N; induction N with
      | zero =>
        intro H locs ls z5_1 a5 zz5 jl5 jm5 hG hS hl hz5_1 xf5 hN
        exact absurd hN (by have := jm5; omega)
      | succ N ih5 =>
        intro H locs ls z5_1 a5 zz5 jl5 jm5 hG hS hl hz5_1 xf5 hN5
        refine lv_aload_n X.1 X.2.1 dX12_readGame_21 rfl (lv_at hl 0 rfl) ?_
        refine lv_iconst (v := 4) X.1 X.2.1 dX12_readGame_22 (by decide +kernel) ?_
        refine lv_bipush (v := 64) X.1 X.2.1 dX12_readGame_23 (by decide +kernel) ?_
        refine lv_iload_n X.1 X.2.1 dX12_readGame_25 rfl (lv_at hl 1 rfl) ?_
        refine lv_iadd X.1 X.2.1 dX12_readGame_26 ?_
        refine lv_topi (fun f6 ef6 => ?_)
        have xf6 : f6.toInt = (64 + z5_1.toInt) := sg_exadd ef6 (iv_c 64 (a := 64) (b := 64) (by decide +kernel)) hz5_1 (by decide +kernel) (by decide +kernel) rfl
        refine lv_imul X.1 X.2.1 dX12_readGame_27 ?_
        refine lv_topi (fun f7 ef7 => ?_)
        have xf7 : f7.toInt = (4 * (64 + z5_1.toInt)) := sg_exmul ef7 (iv_c 4 (a := 4) (b := 4) (by decide +kernel)) (iv_add (a' := 64) (b' := 79) ef6 (iv_c 64 (a := 64) (b := 64) (by decide +kernel)) hz5_1 (by decide +kernel)) (by decide +kernel) (by decide +kernel) xf6
        refine ca_X12_readMove_m X hK hG hC hS hb a0 h0 f7 (iv_mul (a' := 256) (b' := 316) ef7 (iv_c 4 (a := 4) (b := 4) (by decide +kernel)) (iv_add (a' := 64) (b' := 79) ef6 (iv_c 64 (a := 64) (b := 64) (by decide +kernel)) hz5_1 (by decide +kernel)) (by decide +kernel)) hl0 (And.intro jl5 jm5) hby (by omega) wl_8_31 hl.1 (rest := []) rfl (Nat.le_of_ble_eq_true rfl) ⟨Nat.le_of_ble_eq_true rfl, Nat.le_of_ble_eq_true rfl⟩ ⟨Nat.le_of_ble_eq_true rfl, Nat.le_of_ble_eq_true rfl⟩ dX12_readGame_28 (fun tg8 H locs htg8 hWg8 hS => ?_)
        rcases hWg8 with ⟨av9, zv9, pv9, zrv9, gav9, gbv9, hBg8⟩ | ⟨wv9, zv9, pv9, w1v9, w2v9, hBg8⟩
        · have hG := hBg8.2.2.2
          rw [htg8] at hG
          have bv9 := vq_bd2 (k := 1) (And.intro jl5 jm5) (by decide) gav9 gbv9
          refine lv_aload_n X.1 X.2.1 dX12_readGame_31 rfl (lv_at hl 0 rfl) ?_
          refine gf_X12_11e X hK hG h0 wl_6_189 dX12_readGame_32 (fun f10 hf10 => ?_)
          refine lv_iconst (v := (-1)) X.1 X.2.1 dX12_readGame_35 (by decide +kernel) ?_
          refine lv_icmp_eq (tgt := 40) X.1 X.2.1 dX12_readGame_36 (by decide) (fun c11 => ?_) (fun c11 => ?_)
          · have i12 : ((-1) : Int) = ((-1) : Int) := vq_eq c11 (vq_iv hf10) (by decide +kernel)
            obtain ⟨y14, ey14⟩ : ∃ y : Int32, y = z5_1 + Int32.ofInt 1 := ⟨_, rfl⟩
            have xy14 : y14.toInt = (z5_1.toInt + 1) := sg_exadd ey14 hz5_1 (iv_c _ (a := 1) (b := 1) (by decide +kernel)) (by decide +kernel) rfl (by decide +kernel)
            refine lv_iinc (v := y14) (lv' := [(1, .int y14), (0, .ref a0)]) X.1 X.2.1 dX12_readGame_40 hl (k := 1) rfl ey14.symm (by decide) rfl (fun ls hl => ?_)
            refine lv_aload_n X.1 X.2.1 dX12_readGame_43 rfl (lv_at hl 1 rfl) ?_
            refine ca_X12_look_e X hK hG hC hS hb a0 h0 hl0 bv9 hby wl_7_137 hl.1 (rest := []) rfl (Nat.le_of_ble_eq_true rfl) ⟨Nat.le_of_ble_eq_true rfl, Nat.le_of_ble_eq_true rfl⟩ ⟨Nat.le_of_ble_eq_true rfl, Nat.le_of_ble_eq_true rfl⟩ dX12_readGame_44 (fun f15 tf15 H locs htf15 hf15 hWf15 hS => ?_)
            have hBf15 := hWf15.2
            have xf15 := hWf15.1
            have hG := hBf15.2.2.2
            rw [htf15] at hG
            have b16 := vq_bdL (b := sgU2 P) bv9
            have eb16 : av9 ≤ vX (sgU2 P) (sgL2 P) av9 := (vX_ge (sgU2 P) (sgL2 P) av9).1
            have yf15 : iv (-1) 255 f15 := vq_lk xf15 (vC_by2 hby _)
            refine lv_bipush (v := 59) X.1 X.2.1 dX12_readGame_47 (by decide +kernel) ?_
            refine lv_icmp_ne (tgt := 56) X.1 X.2.1 dX12_readGame_49 (by decide) (fun c17 => ?_) (fun c17 => ?_)
            · have i18 : (vE (vC (sgU2 P) (sgL2 P) (vX (sgU2 P) (sgL2 P) av9)) = (59 : Int)) = False := vq_ne c17 xf15 (by decide +kernel)
              have mi18 : (vC (sgU2 P) (sgL2 P) (vX (sgU2 P) (sgL2 P) av9) = (59 : Int)) = False := vE_ne i18 (by decide)
              refine lv_iconst (v := 0) X.1 X.2.1 dX12_readGame_56 (by decide +kernel) ?_
              refine lv_istore_n (lv' := [(2, .int 0), (1, .int y14), (0, .ref a0)]) X.1 X.2.1 dX12_readGame_57 rfl hl (by decide) rfl (fun ls hl => ?_)
              refine lv_iload_n X.1 X.2.1 dX12_readGame_58 rfl (lv_at hl 0 rfl) ?_
              refine lv_if_eq (tgt := 74) X.1 X.2.1 dX12_readGame_59 (by decide) (fun c20 => ?_) (fun c20 => ?_)
              · refine lv_iload_n X.1 X.2.1 dX12_readGame_74 rfl (lv_at hl 0 rfl) ?_
                refine lv_if_eq (tgt := 17) X.1 X.2.1 dX12_readGame_75 (by decide) (fun c21 => ?_) (fun c21 => ?_)
                · refine lv_iload_n X.1 X.2.1 dX12_readGame_17 rfl (lv_at hl 0 rfl) ?_
                  refine lv_if_eq (tgt := 91) X.1 X.2.1 dX12_readGame_18 (by decide) (fun c22 => ?_) (fun c22 => ?_)
                  · refine lv_aload_n X.1 X.2.1 dX12_readGame_91 rfl (lv_at hl 2 rfl) ?_
                    refine gf_X12_22e X hK hG h0 wl_6_200 dX12_readGame_92 (fun q23 hq23 kq23 => ?_)
                    refine lv_iconst (v := 4) X.1 X.2.1 dX12_readGame_95 (by decide +kernel) ?_
                    refine lv_iload_n X.1 X.2.1 dX12_readGame_96 rfl (lv_at hl 1 rfl) ?_
                    refine as_53E X hK hG hS hq23 (iv_vpin (iv_c 4 (a := 4) (b := 4) (by decide +kernel)) (by decide +kernel)) (sg_cl (iv_c 4 (a := 4) (b := 4) (by decide +kernel)) (by decide)) (iv_of (iv_add (a' := 1) (b' := 16) ey14 hz5_1 (iv_c _ (a := 1) (b := 1) (by decide +kernel)) (by decide +kernel)) (a' := 0) (b' := 16) (by decide +kernel)) dX12_readGame_97 (fun H locs hG hS => ?_)
                    obtain ⟨zy24, ezy24, hG⟩ : ∃ y : sgZt, y = (zv9.1, zv9.2.1, zv9.2.2.1, zv9.2.2.2.1, ((y14 : Int32).toInt, (y14 : Int32).toInt)) ∧ sgG (KE (vX (sgU2 P) (sgL2 P) av9) (vX (sgU2 P) (sgL2 P) av9) (-1) (-1) 0 6 y P) D vwCl (fun q : Nat => base ≤ q) tys ad ks H := ⟨_, rfl, hG⟩
                    have fzy24 : zy24.2.2.2.1 = zv9.2.2.2.1 := by rw [ezy24]
                    have czy24 : zy24.2.2.2.2 = ((z5_1.toInt + 1), (z5_1.toInt + 1)) := by rw [ezy24, xy14]
                    refine lv_aload_n X.1 X.2.1 dX12_readGame_98 rfl (lv_at hl 2 rfl) ?_
                    refine ca_X12_look_e X hK hG hC hS hb a0 h0 hl0 b16 hby wl_7_137 hl.1 (rest := []) rfl (Nat.le_of_ble_eq_true rfl) ⟨Nat.le_of_ble_eq_true rfl, Nat.le_of_ble_eq_true rfl⟩ ⟨Nat.le_of_ble_eq_true rfl, Nat.le_of_ble_eq_true rfl⟩ dX12_readGame_99 (fun f25 tf25 H locs htf25 hf25 hWf25 hS => ?_)
                    have hBf25 := hWf25.2
                    have xf25 := hWf25.1
                    have hG := hBf25.2.2.2
                    rw [htf25] at hG
                    rw [vX_idem] at hG xf25
                    have yf25 : iv (-1) 255 f25 := vq_lk xf25 (vC_by2 hby _)
                    refine lv_iconst (v := (-1)) X.1 X.2.1 dX12_readGame_102 (by decide +kernel) ?_
                    refine lv_icmp_eq (tgt := 111) X.1 X.2.1 dX12_readGame_103 (by decide) (fun c26 => ?_) (fun c26 => ?_)
                    · have i27 : vE (vC (sgU2 P) (sgL2 P) (vX (sgU2 P) (sgL2 P) av9)) = ((-1) : Int) := vq_eq c26 xf25 (by decide +kernel)
                      have mi27 : vC (sgU2 P) (sgL2 P) (vX (sgU2 P) (sgL2 P) av9) = (0 : Int) := vE_end i27 (vC_by2 hby _)
                      have spr : vGame (sgU2 P) (sgL2 P) = (true, (vX (sgU2 P) (sgL2 P) av9)) := by exact xf5.1.trans ((congrArg (fun r => vB r (vEn (sgU2 P) (sgL2 P))) (vG_end xf5.2.1 pv9 (Or.inl mi18))).trans (if_pos mi27))
                      have hge := gmJ_e xf5.2.2 ((iv_of hz5_1 (a' := 0) (b' := 16) (by decide +kernel))).1 xf5.2.1 pv9 (of_eq_false mi18) (sg_r256 xf7 ((iv_of hz5_1 (a' := 0) (b' := 16) (by decide +kernel))).1) zrv9.1 zrv9.2
                      have hcn : ((z5_1.toInt + 1) : Int) = ((z5_1.toInt.toNat + 1 : Nat) : Int) := by have z0 := ((iv_of hz5_1 (a' := 0) (b' := 16) (by decide +kernel))).1; omega
                      exact sg_vret2 X hr hlk hS (fun t ht hW => (Or.inl ⟨_, _, _, spr, hge.1, by rw [czy24, hcn], by rw [fzy24]; exact hge.2, (b16).1, (b16).2, sg_post hb hK hC hG hS ht hW⟩)) dX12_readGame_111
                    · have i28 : (vE (vC (sgU2 P) (sgL2 P) (vX (sgU2 P) (sgL2 P) av9)) = ((-1) : Int)) = False := vq_ne c26 xf25 (by decide +kernel)
                      have mi28 : (vC (sgU2 P) (sgL2 P) (vX (sgU2 P) (sgL2 P) av9) = (0 : Int)) = False := vE_nend i28
                      refine lv_aload_n X.1 X.2.1 dX12_readGame_106 rfl (lv_at hl 2 rfl) ?_
                      refine ca_X12_fails_e X hK hG hC hS hb a0 h0 hl0 b16 wl_7_141 hl.1 (rest := []) rfl (Nat.le_of_ble_eq_true rfl) ⟨Nat.le_of_ble_eq_true rfl, Nat.le_of_ble_eq_true rfl⟩ ⟨Nat.le_of_ble_eq_true rfl, Nat.le_of_ble_eq_true rfl⟩ dX12_readGame_107 (fun f29 tf29 H locs htf29 hf29 hWf29 hS => ?_)
                      have hG := hWf29.2.2.2
                      rw [htf29] at hG
                      obtain rfl : f29 = 0 := sg_is0 hf29
                      refine lv_pop X.1 X.2.1 dX12_readGame_110 rfl ?_
                      have spr : vGame (sgU2 P) (sgL2 P) = (false, (vX (sgU2 P) (sgL2 P) av9)) := by exact xf5.1.trans ((congrArg (fun r => vB r (vEn (sgU2 P) (sgL2 P))) (vG_end xf5.2.1 pv9 (Or.inl mi18))).trans (if_neg (of_eq_false mi28)))
                      have hG := ke_weak (b1 := 0) (b2 := 241) (g1 := (vX (sgU2 P) (sgL2 P) av9)) (g2 := (vX (sgU2 P) (sgL2 P) av9)) (e1 := 0) (e2 := 6) hG (b16).1 (Int.le_trans (b16).2 (Int.le_trans hl0.2 (by decide))) (Int.le_refl _) (Int.le_refl _) (by decide) (by decide)
                      exact sg_vret2 X hr hlk hS (fun t ht hW => (Or.inr ⟨_, _, spr, ((vq_bw b16 hl0)).1, ((vq_bw b16 hl0)).2, sg_post hb hK hC hG hS ht hW⟩)) dX12_readGame_111
                  · exact ((c22 (iv_one (iv_c 0 (a := 0) (b := 0) (by decide +kernel)) (iv_c 0 (a := 0) (b := 0) (by decide +kernel)) (by decide +kernel)))).elim
                · exact ((c21 (iv_one (iv_c 0 (a := 0) (b := 0) (by decide +kernel)) (iv_c 0 (a := 0) (b := 0) (by decide +kernel)) (by decide +kernel)))).elim
              · exact ((c20 (iv_one (iv_c 0 (a := 0) (b := 0) (by decide +kernel)) (iv_c 0 (a := 0) (b := 0) (by decide +kernel)) (by decide +kernel)))).elim
            · have i19 : vE (vC (sgU2 P) (sgL2 P) (vX (sgU2 P) (sgL2 P) av9)) = (59 : Int) := vq_eq c17 xf15 (by decide +kernel)
              have mi19 : vC (sgU2 P) (sgL2 P) (vX (sgU2 P) (sgL2 P) av9) = (59 : Int) := vE_eq i19 (by decide)
              refine lv_iconst (v := 1) X.1 X.2.1 dX12_readGame_52 (by decide +kernel) ?_
              refine lv_goto (tgt := 57) X.1 X.2.1 dX12_readGame_53 (by decide) ?_
              refine lv_istore_n (lv' := [(2, .int 1), (1, .int y14), (0, .ref a0)]) X.1 X.2.1 dX12_readGame_57 rfl hl (by decide) rfl (fun ls hl => ?_)
              refine lv_iload_n X.1 X.2.1 dX12_readGame_58 rfl (lv_at hl 0 rfl) ?_
              refine lv_if_eq (tgt := 74) X.1 X.2.1 dX12_readGame_59 (by decide) (fun c30 => ?_) (fun c30 => ?_)
              · exact ((iv_no (a := 1) (b := 0) (iv_eqm c30 (iv_c 1 (a := 1) (b := 1) (by decide +kernel)) (iv_c 0 (a := 0) (b := 0) (by decide +kernel)) (by decide +kernel)) (by decide +kernel))).elim
              · refine lv_iload_n X.1 X.2.1 dX12_readGame_62 rfl (lv_at hl 1 rfl) ?_
                refine lv_bipush (v := 16) X.1 X.2.1 dX12_readGame_63 (by decide +kernel) ?_
                refine lv_icmp_ne (tgt := 74) X.1 X.2.1 dX12_readGame_65 (by decide) (fun c31 => ?_) (fun c31 => ?_)
                · have i32 : ((z5_1.toInt + 1) = (16 : Int)) = False := vq_ne c31 xy14 (by decide +kernel)
                  refine lv_iload_n X.1 X.2.1 dX12_readGame_74 rfl (lv_at hl 0 rfl) ?_
                  refine lv_if_eq (tgt := 17) X.1 X.2.1 dX12_readGame_75 (by decide) (fun c34 => ?_) (fun c34 => ?_)
                  · exact ((iv_no (a := 1) (b := 0) (iv_eqm c34 (iv_c 1 (a := 1) (b := 1) (by decide +kernel)) (iv_c 0 (a := 0) (b := 0) (by decide +kernel)) (by decide +kernel)) (by decide +kernel))).elim
                  · refine lv_aload_n X.1 X.2.1 dX12_readGame_78 rfl (lv_at hl 2 rfl) ?_
                    refine lv_dup X.1 X.2.1 dX12_readGame_79 rfl ?_
                    refine gf_X12_10e X hK hG h0 wl_6_188 dX12_readGame_80 (fun f35 hf35 => ?_)
                    have xf35 : f35.toInt = (vX (sgU2 P) (sgL2 P) av9) := vq_iv hf35
                    have yf35 : iv 0 240 f35 := vq_240 hl0 b16 xf35
                    refine lv_iconst (v := 1) X.1 X.2.1 dX12_readGame_83 (by decide +kernel) ?_
                    refine lv_iadd X.1 X.2.1 dX12_readGame_84 ?_
                    refine lv_topi (fun f36 ef36 => ?_)
                    have xf36 : f36.toInt = ((vX (sgU2 P) (sgL2 P) av9) + 1) := sg_exadd ef36 yf35 (iv_c 1 (a := 1) (b := 1) (by decide +kernel)) (by decide +kernel) xf35 (by decide +kernel)
                    refine pf_X12_10E (b1 := ((vX (sgU2 P) (sgL2 P) av9) + 1)) (b2 := ((vX (sgU2 P) (sgL2 P) av9) + 1)) X hK hG hS h0 wl_6_188 (vq_of (lo := ((vX (sgU2 P) (sgL2 P) av9) + 1)) (hi := ((vX (sgU2 P) (sgL2 P) av9) + 1)) xf36 ⟨Int.le_refl _, Int.le_refl _⟩) dX12_readGame_85 (fun H locs hG hS => ?_)
                    have l37 := (vC_lt (b := sgU2 P) (n := sgL2 P) (a := (vX (sgU2 P) (sgL2 P) av9)) (by rw [mi19]; decide)).2
                    have b38 := vq_bd1 b16 l37
                    refine lv_goto (tgt := 17) X.1 X.2.1 dX12_readGame_88 (by decide) ?_
                    refine lv_iload_n X.1 X.2.1 dX12_readGame_17 rfl (lv_at hl 0 rfl) ?_
                    refine lv_if_eq (tgt := 91) X.1 X.2.1 dX12_readGame_18 (by decide) (fun c39 => ?_) (fun c39 => ?_)
                    · exact ((iv_no (a := 1) (b := 0) (iv_eqm c39 (iv_c 1 (a := 1) (b := 1) (by decide +kernel)) (iv_c 0 (a := 0) (b := 0) (by decide +kernel)) (by decide +kernel)) (by decide +kernel))).elim
                    · exact ih5 H _ _ y14 (((vX (sgU2 P) (sgL2 P) av9) + 1)) zv9 (b38).1 (b38).2 hG hS (lv_sub hl [2, 1] rfl) (iv_of (iv_ne_hi (b' := 15) c31 (iv_add (a' := 1) (b' := 16) ey14 hz5_1 (iv_c _ (a := 1) (b := 1) (by decide +kernel)) (by decide +kernel)) (by decide +kernel)) (a' := 0) (b' := 15) (by decide +kernel)) ⟨xf5.1.trans (congrArg (fun r => vB r (vEn (sgU2 P) (sgL2 P))) (vG_step xf5.2.1 i32 pv9 mi19 (vq_k64 xf5.2.1 xy14))), vq_g1 xf5.2.1 i32 xy14, gmJ_s xf5.2.2 ((iv_of hz5_1 (a' := 0) (b' := 16) (by decide +kernel))).1 pv9 mi19 xy14 (sg_r256 xf7 ((iv_of hz5_1 (a' := 0) (b' := 16) (by decide +kernel))).1) zrv9.1 zrv9.2⟩ (by omega)
                · have i33 : (z5_1.toInt + 1) = (16 : Int) := vq_eq c31 xy14 (by decide +kernel)
                  refine lv_aload_n X.1 X.2.1 dX12_readGame_68 rfl (lv_at hl 2 rfl) ?_
                  refine ca_X12_fails_e X hK hG hC hS hb a0 h0 hl0 b16 wl_7_141 hl.1 (rest := []) rfl (Nat.le_of_ble_eq_true rfl) ⟨Nat.le_of_ble_eq_true rfl, Nat.le_of_ble_eq_true rfl⟩ ⟨Nat.le_of_ble_eq_true rfl, Nat.le_of_ble_eq_true rfl⟩ dX12_readGame_69 (fun f40 tf40 H locs htf40 hf40 hWf40 hS => ?_)
                  have hG := hWf40.2.2.2
                  rw [htf40] at hG
                  obtain rfl : f40 = 0 := sg_is0 hf40
                  refine lv_pop X.1 X.2.1 dX12_readGame_72 rfl ?_
                  have spr : vGame (sgU2 P) (sgL2 P) = (false, (vX (sgU2 P) (sgL2 P) av9)) := by exact xf5.1.trans ((congrArg (fun r => vB r (vEn (sgU2 P) (sgL2 P))) (vG_end xf5.2.1 pv9 (Or.inr i33))).trans (if_neg (by rw [mi19]; decide)))
                  have hG := ke_weak (b1 := 0) (b2 := 241) (g1 := (vX (sgU2 P) (sgL2 P) av9)) (g2 := (vX (sgU2 P) (sgL2 P) av9)) (e1 := 0) (e2 := 6) hG (b16).1 (Int.le_trans (b16).2 (Int.le_trans hl0.2 (by decide))) (Int.le_refl _) (Int.le_refl _) (by decide) (by decide)
                  exact sg_vret2 X hr hlk hS (fun t ht hW => (Or.inr ⟨_, _, spr, ((vq_bw b16 hl0)).1, ((vq_bw b16 hl0)).2, sg_post hb hK hC hG hS ht hW⟩)) dX12_readGame_73
          · have i13 : (((-1) : Int) = ((-1) : Int)) = False := vq_ne c11 (vq_iv hf10) (by decide +kernel)
            exact ((c11 (iv_one hf10 (iv_c (-1) (a := (-1)) (b := (-1)) (by decide +kernel)) (by decide +kernel)))).elim
        · have hG := hBg8.2.2.2
          rw [htg8] at hG
          refine lv_aload_n X.1 X.2.1 dX12_readGame_31 rfl (lv_at hl 0 rfl) ?_
          refine gf_X12_11e X hK hG h0 wl_6_189 dX12_readGame_32 (fun f41 hf41 => ?_)
          have xf41 : f41.toInt = wv9 := vq_iv hf41
          have yf41 : iv 0 240 f41 := vq_of xf41 (And.intro w1v9 w2v9)
          refine lv_iconst (v := (-1)) X.1 X.2.1 dX12_readGame_35 (by decide +kernel) ?_
          refine lv_icmp_eq (tgt := 40) X.1 X.2.1 dX12_readGame_36 (by decide) (fun c42 => ?_) (fun c42 => ?_)
          · have i43 : wv9 = ((-1) : Int) := vq_eq c42 xf41 (by decide +kernel)
            exact ((iv_no (a := 0) (b := (-1)) (iv_eqm c42 yf41 (iv_c (-1) (a := (-1)) (b := (-1)) (by decide +kernel)) (by decide +kernel)) (by decide +kernel))).elim
          · have i44 : (wv9 = ((-1) : Int)) = False := vq_ne c42 xf41 (by decide +kernel)
            have spr : vGame (sgU2 P) (sgL2 P) = (false, wv9) := by exact xf5.1.trans (congrArg (fun r => vB r (vEn (sgU2 P) (sgL2 P))) (vG_bad xf5.2.1 pv9))
            have hG := ke_weak (b1 := 0) (b2 := 241) (g1 := wv9) (g2 := wv9) (e1 := 0) (e2 := 6) hG (Int.le_refl _) (Int.le_refl _) (Int.le_refl _) (Int.le_refl _) (by decide) (by decide)
            exact sg_vret2 X hr hlk hS (fun t ht hW => (Or.inr ⟨_, _, spr, ((And.intro w1v9 w2v9)).1, ((And.intro w1v9 w2v9)).2, sg_post hb hK hC hG hS ht hW⟩)) dX12_readGame_39
    exact B5_21 _ H _ _ 0 (0) sgZ0 ((And.intro (Int.le_refl (0 : Int)) hl0.1)).1 ((And.intro (Int.le_refl (0 : Int)) hl0.1)).2 hG hS (lv_sub hl [2, 1] rfl) (iv_of (iv_c 0 (a := 0) (b := 0) (by decide +kernel)) (a' := 0) (b' := 15) (by decide +kernel)) ⟨rfl, vq_g0, gmJ_0 (by decide +kernel) rfl⟩ (Nat.le_refl _)

theorem ca_X12_readGame_m   (X : CallFix p m c cc nL s args sg_tbl own) (hK : va_K D vwCl tys s) (hG : sgG (KT P) D vwCl (fun q : Nat => base ≤ q) tys ad ks H) (hC : sgC base s) (hS : va_S (fun q : Nat => base ≤ q) s.heap H locs) (hb : base ≤ s.heap.size) (a0 : Nat) (h0 : isK ad ks 12 a0) (hl0 : 0 ≤ sgL2 P ∧ sgL2 P ≤ 240) (hby : sgBy2 P) (hl : Cond.methodLink own index yX12_readGame ∈ sg_tbl) (hsize : ls.size = nL) (hst : st0 = [].reverse ++ .ref a0 :: rest) (hW : (rest.map fun v => v.category).sum ≤ 8) (hR : 7 ≤ R.frames ∧ 152 ≤ R.locals) (hf : cells ≤ R.cells ∧ slots ≤ R.slots) (hdg : decode cc pc = .ok (.invokevirtual index, 3)) (kk : ∀ (t : State) (H1 : Heap) (locs1 : List Loc), t.heap = H1 → ((fun t => (∃ (a1 : Int) (k : Nat) (z1 : sgZt), vGame (sgU2 P) (sgL2 P) = (true, a1) ∧ gK (sgU2 P) (sgL2 P) k ∧ z1.2.2.2.2 = ((k : Int), (k : Int)) ∧ (∀ j : Nat, j < k → mqAt z1.2.2.2.1 (256 + 4 * j) (gmT (sgU2 P) (sgL2 P) j)) ∧ 0 ≤ a1 ∧ a1 ≤ sgL2 P ∧ sgB (KE a1 a1 (-1) (-1) 0 6 z1 P) D vwCl base tys ad ks t) ∨ (∃ (w : Int) (z1 : sgZt), vGame (sgU2 P) (sgL2 P) = (false, w) ∧ 0 ≤ w ∧ w ≤ 240 ∧ sgB (KE 0 241 w w 0 6 z1 P) D vwCl base tys ad ks t)) t) → va_S (fun q : Nat => base ≤ q) s.heap H1 locs1 → W p l e R s m args below meth c H1 locs1 cells slots Q (F0 m (pc + 3) ls rest)) : W p l e R s m args below meth c H locs cells slots Q (F0 m pc ls st0) :=
  sg_callV2v X hK hG hC hS hb (m_X12_readGame_m l a0 h0 hl0 hby) h0 (k := 12) (ci := 12) rfl (C := RX12) (T := TX12) (N := 53) rfl wl_8_30 wl_1_13 wl_8_29 wl_0_69 (n := 0) (by decide +kernel) rfl rfl rfl hl hsize hst hW hR hf hdg kk
end
