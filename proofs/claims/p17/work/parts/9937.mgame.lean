
section
variable {p : Program} {l : Launch} {e : Env} {R : Room} {s : State} {m : MethodId} {args : Array Value} {below : List Frame} {meth : Method} {c : Code} {H : Heap} {locs : List Loc} {cells slots : Nat} {Q : State → Prop} {cc : ByteArray} {nL pc : Nat} {ls : Array Slot} {rest : List Value} {own : String} {D : va_G} {A : Nat → Prop} {tys : List (ClassId × FieldType)} {ad ks : List Nat} {P : sgPm} {H0 : Heap} {index : Nat} {base : Nat} {st0 : List Value} {a : Nat}

set_option maxHeartbeats 8000000 in
set_option maxRecDepth 100000 in
theorem m_X12_digit_e (l : Launch) {D : va_G} {base : Nat} {tys : List (ClassId × FieldType)} {ad ks : List Nat} {P : sgPm}{a d1 d2 : Int} {z : sgZt}  (a0 : Nat) (h0 : isK ad ks 12 a0) (hl0 : 0 ≤ sgL2 P ∧ sgL2 P ≤ 240) (hav : 0 ≤ a ∧ a ≤ sgL2 P) (hby : sgBy2 P) (hd0 : 0 ≤ d1 ∧ d2 ≤ 6) : Met l yX12_digit (Cond.code yX12_digit cX12_digit 2 (some .int) :: sg_tbl) ({ frames := 1, cells := 0, slots := 0, locals := 20 }) (va_Pc [.ref a0] (sgB (KE a a (-1) (-1) d1 d2 z P) D vwCl base tys ad ks)) (va_Qi (fun r (u : Int32) => u = r ∧ (fun r : Int32 => True) r) (fun u t => (∃ a1 : Int, vCut1 (sgU2 P) (sgL2 P) (vX (sgU2 P) (sgL2 P) a) = (true, vX (sgU2 P) (sgL2 P) a1) ∧ a + 1 ≤ a1 ∧ a1 ≤ sgL2 P ∧ sgB (KE a1 a1 (-1) (-1) d1 d2 z P) D vwCl base tys ad ks t) ∨ (∃ w : Int, vCut1 (sgU2 P) (sgL2 P) (vX (sgU2 P) (sgL2 P) a) = (false, w) ∧ 0 ≤ w ∧ w ≤ 240 ∧ sgB (KE 0 241 w w d1 d2 z P) D vwCl base tys ad ks t)) (fun q : Nat => base ≤ q)) 0 0 (fun q : Nat => base ≤ q) := by
  refine sg_ofW (by decide +kernel) (Nat.le_of_ble_eq_true rfl) (fun p e s m below meth c X hr hlk hb hK hC hG ls hl => ?_)
  have hS : va_S (fun q : Nat => base ≤ q) s.heap s.heap [] := va_S.rf
  have hl : lv_has ls 2 [(0, .ref a0)] := hl
  refine lv_aload_n X.1 X.2.1 dX12_digit_0 rfl (lv_at hl 0 rfl) ?_
  refine ca_X12_look_e X hK hG hC hS hb a0 h0 hl0 hav hby wl_7_137 hl.1 (rest := []) rfl (Nat.le_of_ble_eq_true rfl) ⟨Nat.le_of_ble_eq_true rfl, Nat.le_of_ble_eq_true rfl⟩ ⟨Nat.le_of_ble_eq_true rfl, Nat.le_of_ble_eq_true rfl⟩ dX12_digit_1 (fun f1 tf1 H locs htf1 hf1 hWf1 hS => ?_)
  have hBf1 := hWf1.2
  have xf1 := hWf1.1
  have hG := hBf1.2.2.2
  rw [htf1] at hG
  have b2 := vq_bdL (b := sgU2 P) hav
  have eb2 : a ≤ vX (sgU2 P) (sgL2 P) a := (vX_ge (sgU2 P) (sgL2 P) a).1
  have pb2 : a + 0 ≤ vX (sgU2 P) (sgL2 P) a := Int.le_trans (vq_pg0 a) (vX_ge (sgU2 P) (sgL2 P) a).1
  have yf1 : iv (-1) 255 f1 := vq_lk xf1 (vC_by2 hby _)
  refine lv_istore_n (lv' := [(1, .int f1), (0, .ref a0)]) X.1 X.2.1 dX12_digit_4 rfl hl (by decide) rfl (fun ls hl => ?_)
  refine lv_aload_n X.1 X.2.1 dX12_digit_5 rfl (lv_at hl 1 rfl) ?_
  refine ca_X12_isDigit_e X hK hG hC (fun _ h => h) hS hb a0 h0 hl0 b2 hby wl_7_187 hl.1 (rest := []) rfl (Nat.le_of_ble_eq_true rfl) ⟨Nat.le_of_ble_eq_true rfl, Nat.le_of_ble_eq_true rfl⟩ ⟨Nat.le_of_ble_eq_true rfl, Nat.le_of_ble_eq_true rfl⟩ dX12_digit_6 (fun f3 locs hf3 hS => ?_)
  refine lv_if_eq (tgt := 24) X.1 X.2.1 dX12_digit_9 (by decide) (fun c4 => ?_) (fun c4 => ?_)
  · have j5 := vq_says0 hf3 c4
    have k6 : vC (sgU2 P) (sgL2 P) (vX (sgU2 P) (sgL2 P) a) < (48 : Int) ∨ (57 : Int) < vC (sgU2 P) (sgL2 P) (vX (sgU2 P) (sgL2 P) a) := j5
    refine lv_aload_n X.1 X.2.1 dX12_digit_24 rfl (lv_at hl 1 rfl) ?_
    refine ca_X12_fails_e X hK hG hC hS hb a0 h0 hl0 b2 wl_7_141 hl.1 (rest := []) rfl (Nat.le_of_ble_eq_true rfl) ⟨Nat.le_of_ble_eq_true rfl, Nat.le_of_ble_eq_true rfl⟩ ⟨Nat.le_of_ble_eq_true rfl, Nat.le_of_ble_eq_true rfl⟩ dX12_digit_25 (fun f10 tf10 H locs htf10 hf10 hWf10 hS => ?_)
    have hG := hWf10.2.2.2
    rw [htf10] at hG
    obtain rfl : f10 = 0 := sg_is0 hf10
    refine lv_pop X.1 X.2.1 dX12_digit_28 rfl ?_
    refine lv_iconst (v := 0) X.1 X.2.1 dX12_digit_29 (by decide +kernel) ?_
    have spr : vCut1 (sgU2 P) (sgL2 P) (vX (sgU2 P) (sgL2 P) a) = (false, (vX (sgU2 P) (sgL2 P) a)) := by exact vCut1_f (vq_49 k6)
    have hG := ke_weak (b1 := 0) (b2 := 241) (g1 := (vX (sgU2 P) (sgL2 P) a)) (g2 := (vX (sgU2 P) (sgL2 P) a)) (e1 := d1) (e2 := d2) hG (b2).1 (Int.le_trans (b2).2 (Int.le_trans hl0.2 (by decide))) (Int.le_refl _) (Int.le_refl _) (Int.le_refl _) (Int.le_refl _)
    exact sg_iret2 X hr hlk hS trivial (fun t ht hW => (Or.inr ⟨_, spr, ((vq_bw b2 hl0)).1, ((vq_bw b2 hl0)).2, sg_post hb hK hC hG hS ht hW⟩)) dX12_digit_30
  · have j7 := vq_says1 hf3 c4
    have k8 : ¬ vC (sgU2 P) (sgL2 P) (vX (sgU2 P) (sgL2 P) a) < (48 : Int) := j7.1
    have k9 : ¬ (57 : Int) < vC (sgU2 P) (sgL2 P) (vX (sgU2 P) (sgL2 P) a) := j7.2
    refine lv_iload_n X.1 X.2.1 dX12_digit_12 rfl (lv_at hl 0 rfl) ?_
    refine lv_bipush (v := 49) X.1 X.2.1 dX12_digit_13 (by decide +kernel) ?_
    refine lv_icmp_lt (tgt := 24) X.1 X.2.1 dX12_digit_15 (by decide) (fun c11 => ?_) (fun c11 => ?_)
    · have i12 : vE (vC (sgU2 P) (sgL2 P) (vX (sgU2 P) (sgL2 P) a)) < (49 : Int) := vq_lt c11 xf1 (by decide +kernel)
      have mi12 : vC (sgU2 P) (sgL2 P) (vX (sgU2 P) (sgL2 P) a) < (49 : Int) := vE_lt i12 (by decide)
      refine lv_aload_n X.1 X.2.1 dX12_digit_24 rfl (lv_at hl 1 rfl) ?_
      refine ca_X12_fails_e X hK hG hC hS hb a0 h0 hl0 b2 wl_7_141 hl.1 (rest := []) rfl (Nat.le_of_ble_eq_true rfl) ⟨Nat.le_of_ble_eq_true rfl, Nat.le_of_ble_eq_true rfl⟩ ⟨Nat.le_of_ble_eq_true rfl, Nat.le_of_ble_eq_true rfl⟩ dX12_digit_25 (fun f14 tf14 H locs htf14 hf14 hWf14 hS => ?_)
      have hG := hWf14.2.2.2
      rw [htf14] at hG
      obtain rfl : f14 = 0 := sg_is0 hf14
      refine lv_pop X.1 X.2.1 dX12_digit_28 rfl ?_
      refine lv_iconst (v := 0) X.1 X.2.1 dX12_digit_29 (by decide +kernel) ?_
      have spr : vCut1 (sgU2 P) (sgL2 P) (vX (sgU2 P) (sgL2 P) a) = (false, (vX (sgU2 P) (sgL2 P) a)) := by exact vCut1_f (Or.inl mi12)
      have hG := ke_weak (b1 := 0) (b2 := 241) (g1 := (vX (sgU2 P) (sgL2 P) a)) (g2 := (vX (sgU2 P) (sgL2 P) a)) (e1 := d1) (e2 := d2) hG (b2).1 (Int.le_trans (b2).2 (Int.le_trans hl0.2 (by decide))) (Int.le_refl _) (Int.le_refl _) (Int.le_refl _) (Int.le_refl _)
      exact sg_iret2 X hr hlk hS trivial (fun t ht hW => (Or.inr ⟨_, spr, ((vq_bw b2 hl0)).1, ((vq_bw b2 hl0)).2, sg_post hb hK hC hG hS ht hW⟩)) dX12_digit_30
    · have i13 : ¬ vE (vC (sgU2 P) (sgL2 P) (vX (sgU2 P) (sgL2 P) a)) < (49 : Int) := vq_le (iv_ge_of c11) (by decide +kernel) xf1
      have mi13 : ¬ vC (sgU2 P) (sgL2 P) (vX (sgU2 P) (sgL2 P) a) < (49 : Int) := vE_nlt i13 (by decide)
      refine lv_iload_n X.1 X.2.1 dX12_digit_18 rfl (lv_at hl 0 rfl) ?_
      refine lv_bipush (v := 53) X.1 X.2.1 dX12_digit_19 (by decide +kernel) ?_
      refine lv_icmp_le (tgt := 31) X.1 X.2.1 dX12_digit_21 (by decide) (fun c15 => ?_) (fun c15 => ?_)
      · have i16 : ¬ (53 : Int) < vE (vC (sgU2 P) (sgL2 P) (vX (sgU2 P) (sgL2 P) a)) := vq_le c15 xf1 (by decide +kernel)
        have mi16 : ¬ (53 : Int) < vC (sgU2 P) (sgL2 P) (vX (sgU2 P) (sgL2 P) a) := vE_ngt i16 (by decide)
        refine lv_aload_n X.1 X.2.1 dX12_digit_31 rfl (lv_at hl 1 rfl) ?_
        refine lv_dup X.1 X.2.1 dX12_digit_32 rfl ?_
        refine gf_X12_10e X hK hG h0 wl_6_188 dX12_digit_33 (fun f18 hf18 => ?_)
        have xf18 : f18.toInt = (vX (sgU2 P) (sgL2 P) a) := vq_iv hf18
        have yf18 : iv 0 240 f18 := vq_240 hl0 b2 xf18
        refine lv_iconst (v := 1) X.1 X.2.1 dX12_digit_36 (by decide +kernel) ?_
        refine lv_iadd X.1 X.2.1 dX12_digit_37 ?_
        refine lv_topi (fun f19 ef19 => ?_)
        have xf19 : f19.toInt = ((vX (sgU2 P) (sgL2 P) a) + 1) := sg_exadd ef19 yf18 (iv_c 1 (a := 1) (b := 1) (by decide +kernel)) (by decide +kernel) xf18 (by decide +kernel)
        refine pf_X12_10E (b1 := ((vX (sgU2 P) (sgL2 P) a) + 1)) (b2 := ((vX (sgU2 P) (sgL2 P) a) + 1)) X hK hG hS h0 wl_6_188 (vq_of (lo := ((vX (sgU2 P) (sgL2 P) a) + 1)) (hi := ((vX (sgU2 P) (sgL2 P) a) + 1)) xf19 ⟨Int.le_refl _, Int.le_refl _⟩) dX12_digit_38 (fun H locs hG hS => ?_)
        have l20 := (vC_lt (b := sgU2 P) (n := sgL2 P) (a := (vX (sgU2 P) (sgL2 P) a)) (vq_dn k8)).2
        have b21 := vq_bd1 b2 l20
        have pb21 : a + 1 ≤ ((vX (sgU2 P) (sgL2 P) a) + 1) := vq_pg pb2 (m := 1) (Int.le_refl _) (by decide)
        refine lv_iload_n X.1 X.2.1 dX12_digit_41 rfl (lv_at hl 0 rfl) ?_
        refine lv_bipush (v := 48) X.1 X.2.1 dX12_digit_42 (by decide +kernel) ?_
        refine lv_isub X.1 X.2.1 dX12_digit_44 ?_
        refine lv_topi (fun f22 ef22 => ?_)
        have xf22 : f22.toInt = (vE (vC (sgU2 P) (sgL2 P) (vX (sgU2 P) (sgL2 P) a)) - 48) := sg_exsub ef22 (iv_le (b' := 53) c15 (iv_ler (c' := 49) (iv_ge_of c11) (iv_c 49 (a := 49) (b := 49) (by decide +kernel)) yf1 (by decide +kernel)) (iv_c 53 (a := 53) (b := 53) (by decide +kernel)) (by decide +kernel)) (iv_c 48 (a := 48) (b := 48) (by decide +kernel)) (by decide +kernel) xf1 (by decide +kernel)
        have spr : vCut1 (sgU2 P) (sgL2 P) (vX (sgU2 P) (sgL2 P) a) = (true, vX (sgU2 P) (sgL2 P) ((vX (sgU2 P) (sgL2 P) a) + 1)) := by exact vCut1_t mi13 mi16
        exact sg_iret2 X hr hlk hS trivial (fun t ht hW => (Or.inl ⟨_, spr, vq_pgw pb21 (by decide), (b21).2, sg_post hb hK hC hG hS ht hW⟩)) dX12_digit_45
      · have i17 : (53 : Int) < vE (vC (sgU2 P) (sgL2 P) (vX (sgU2 P) (sgL2 P) a)) := vq_lt (iv_gt_of c15) (by decide +kernel) xf1
        have mi17 : (53 : Int) < vC (sgU2 P) (sgL2 P) (vX (sgU2 P) (sgL2 P) a) := vE_gt i17 (by decide)
        refine lv_aload_n X.1 X.2.1 dX12_digit_24 rfl (lv_at hl 1 rfl) ?_
        refine ca_X12_fails_e X hK hG hC hS hb a0 h0 hl0 b2 wl_7_141 hl.1 (rest := []) rfl (Nat.le_of_ble_eq_true rfl) ⟨Nat.le_of_ble_eq_true rfl, Nat.le_of_ble_eq_true rfl⟩ ⟨Nat.le_of_ble_eq_true rfl, Nat.le_of_ble_eq_true rfl⟩ dX12_digit_25 (fun f23 tf23 H locs htf23 hf23 hWf23 hS => ?_)
        have hG := hWf23.2.2.2
        rw [htf23] at hG
        obtain rfl : f23 = 0 := sg_is0 hf23
        refine lv_pop X.1 X.2.1 dX12_digit_28 rfl ?_
        refine lv_iconst (v := 0) X.1 X.2.1 dX12_digit_29 (by decide +kernel) ?_
        have spr : vCut1 (sgU2 P) (sgL2 P) (vX (sgU2 P) (sgL2 P) a) = (false, (vX (sgU2 P) (sgL2 P) a)) := by exact vCut1_f (Or.inr mi17)
        have hG := ke_weak (b1 := 0) (b2 := 241) (g1 := (vX (sgU2 P) (sgL2 P) a)) (g2 := (vX (sgU2 P) (sgL2 P) a)) (e1 := d1) (e2 := d2) hG (b2).1 (Int.le_trans (b2).2 (Int.le_trans hl0.2 (by decide))) (Int.le_refl _) (Int.le_refl _) (Int.le_refl _) (Int.le_refl _)
        exact sg_iret2 X hr hlk hS trivial (fun t ht hW => (Or.inr ⟨_, spr, ((vq_bw b2 hl0)).1, ((vq_bw b2 hl0)).2, sg_post hb hK hC hG hS ht hW⟩)) dX12_digit_30

theorem ca_X12_digit_e  {a d1 d2 : Int} {z : sgZt}  (X : CallFix p m c cc nL s args sg_tbl own) (hK : va_K D vwCl tys s) (hG : sgG (KE a a (-1) (-1) d1 d2 z P) D vwCl (fun q : Nat => base ≤ q) tys ad ks H) (hC : sgC base s) (hS : va_S (fun q : Nat => base ≤ q) s.heap H locs) (hb : base ≤ s.heap.size) (a0 : Nat) (h0 : isK ad ks 12 a0) (hl0 : 0 ≤ sgL2 P ∧ sgL2 P ≤ 240) (hav : 0 ≤ a ∧ a ≤ sgL2 P) (hby : sgBy2 P) (hd0 : 0 ≤ d1 ∧ d2 ≤ 6) (hl : Cond.methodLink own index yX12_digit ∈ sg_tbl) (hsize : ls.size = nL) (hst : st0 = [].reverse ++ .ref a0 :: rest) (hW : (rest.map fun v => v.category).sum ≤ 8) (hR : 2 ≤ R.frames ∧ 41 ≤ R.locals) (hf : cells ≤ R.cells ∧ slots ≤ R.slots) (hdg : decode cc pc = .ok (.invokevirtual index, 3)) (kk : ∀ (r : Int32) (t : State) (H1 : Heap) (locs1 : List Loc), t.heap = H1 → (fun r : Int32 => True) r → ((∃ a1 : Int, vCut1 (sgU2 P) (sgL2 P) (vX (sgU2 P) (sgL2 P) a) = (true, vX (sgU2 P) (sgL2 P) a1) ∧ a + 1 ≤ a1 ∧ a1 ≤ sgL2 P ∧ sgB (KE a1 a1 (-1) (-1) d1 d2 z P) D vwCl base tys ad ks t) ∨ (∃ w : Int, vCut1 (sgU2 P) (sgL2 P) (vX (sgU2 P) (sgL2 P) a) = (false, w) ∧ 0 ≤ w ∧ w ≤ 240 ∧ sgB (KE 0 241 w w d1 d2 z P) D vwCl base tys ad ks t)) → va_S (fun q : Nat => base ≤ q) s.heap H1 locs1 → W p l e R s m args below meth c H1 locs1 cells slots Q (F0 m (pc + 3) ls (.int r :: rest))) : W p l e R s m args below meth c H locs cells slots Q (F0 m pc ls st0) :=
  sg_callV2i X hK hG hC hS hb (m_X12_digit_e l a0 h0 hl0 hav hby hd0) h0 (k := 12) (ci := 12) rfl (C := RX12) (T := TX12) (N := 53) rfl wl_8_40 wl_1_13 wl_8_39 wl_0_71 (n := 0) (by decide +kernel) rfl rfl rfl hl hsize hst hW hR hf hdg kk
end
