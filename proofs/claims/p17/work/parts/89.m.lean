
section
variable {p : Program} {l : Launch} {e : Env} {R : Room} {s : State} {m : MethodId} {args : Array Value} {below : List Frame} {meth : Method} {c : Code} {H : Heap} {locs : List Loc} {cells slots : Nat} {Q : State → Prop} {cc : ByteArray} {nL pc : Nat} {ls : Array Slot} {rest : List Value} {own : String} {D : va_G} {A : Nat → Prop} {tys : List (ClassId × FieldType)} {ad ks : List Nat} {P : sgPm} {H0 : Heap} {index : Nat} {base : Nat} {st0 : List Value} {a : Nat}

set_option maxHeartbeats 8000000 in
set_option maxRecDepth 100000 in
theorem m_X12_partAt_f (l : Launch) {D : va_G} {base : Nat} {tys : List (ClassId × FieldType)} {ad ks : List Nat} {P : sgPm} {Hx : Heap} (hp4 : P.2.2.2.2.1 = true) (a0 : Nat) (h0 : isK ad ks 12 a0) (x1 : Int32) (w t n : Int32) (rq nq : Nat) (hwi : iv 1 6 w) (hni : iv 1 30 n) (hrk : isK ad ks 49 rq) (hnk : isK ad ks 54 nq) (hfr : fld D Hx 12 a0 18 (.ref rq)) (hfn : fld D Hx 12 a0 32 (.ref nq)) (hfc : fld D Hx 12 a0 23 (.int n)) (hew : ele Hx rq 0 w) (het : ele Hx nq 0 t) : sgPi l (KT P) D vwCl base tys ad ks Hx yX12_partAt cX12_partAt 6 (some .int) ({ frames := 2, cells := 0, slots := 0, locals := 46 }) [.ref a0, .int x1] (fun r : Int32 => r = paF w t n x1) := by
  refine sg_ofPh (Pq := fun Hx => va_Qi (fun r (_ : Unit) => (fun r : Int32 => r = paF w t n x1) r) (fun _ t => t.heap = Hx) (fun _ : Nat => False)) (by decide +kernel) (Nat.le_of_ble_eq_true rfl) (fun p e s m below meth c hHx X hr hlk hb hK hC hG ls hl => ?_)
  subst hHx
  have hS : va_S (fun _ : Nat => False) s.heap s.heap [] := va_S.rf
  have hl : lv_has ls 6 [(0, .ref a0), (1, .int x1)] := hl
  refine lv_iconst (v := 0) X.1 X.2.1 dX12_partAt_0 (by decide +kernel) ?_
  refine lv_istore_n (lv' := [(2, .int 0), (0, .ref a0), (1, .int x1)]) X.1 X.2.1 dX12_partAt_1 rfl hl (by decide) rfl (fun ls hl => ?_)
  refine lv_iconst (v := 0) X.1 X.2.1 dX12_partAt_2 (by decide +kernel) ?_
  refine lv_istore_n (lv' := [(3, .int 0), (2, .int 0), (0, .ref a0), (1, .int x1)]) X.1 X.2.1 dX12_partAt_3 rfl hl (by decide) rfl (fun ls hl => ?_)
  refine lv_iconst (v := 0) X.1 X.2.1 dX12_partAt_4 (by decide +kernel) ?_
  refine lv_istore (lv' := [(4, .int 0), (3, .int 0), (2, .int 0), (0, .ref a0), (1, .int x1)]) X.1 X.2.1 dX12_partAt_5 hl (by decide) rfl (fun ls hl => ?_)
  have B1_7 : ∀ (N : Nat) (locs : List Loc) (ls : Array Slot) (z1_2 : Int32) (z1_3 : Int32) (z1_4 : Int32), va_S (fun _ : Nat => False) s.heap s.heap locs → lv_has ls 6 [(0, .ref a0), (1, .int x1), (2, .int z1_2), (3, .int z1_3), (4, .int z1_4)] → iv 0 30 z1_4 → pa w t n x1 (n.toInt.toNat - z1_4.toInt.toNat) z1_4 z1_2 z1_3 = paF w t n x1 → (31 - z1_4.toInt).toNat ≤ N → W p l e (headSpec (Cond.code yX12_partAt cX12_partAt 6 (some .int) :: sg_tbl) ({ frames := 2, cells := 0, slots := 0, locals := 46 })).room s m #[.ref a0, .int x1] below meth c s.heap locs 0 0 (MQ below (va_Qi (fun r (_ : Unit) => (fun r : Int32 => r = paF w t n x1) r) (fun _ t => t.heap = s.heap) (fun _ : Nat => False)) #[.ref a0, .int x1] s 0 0 (fun _ : Nat => False)) (F0 m 7 ls []) := by
    intro N; induction N with
    | zero =>
      intro locs ls z1_2 z1_3 z1_4 hS hl hz1_4 xf1 hN
      exact absurd hN (by have := iv_up hz1_4; omega)
    | succ N ih1 =>
      intro locs ls z1_2 z1_3 z1_4 hS hl hz1_4 xf1 hN1
      refine lv_iload X.1 X.2.1 dX12_partAt_7 (lv_at hl 4 rfl) ?_
      refine lv_aload_n X.1 X.2.1 dX12_partAt_9 rfl (lv_at hl 0 rfl) ?_
      refine gg_X12_23 X hK hG h0 wl_6_201 hfc dX12_partAt_10 ?_
      refine lv_icmp_ge (tgt := 72) X.1 X.2.1 dX12_partAt_13 (by decide) (fun c2 => ?_) (fun c2 => ?_)
      · refine lv_iload_n X.1 X.2.1 dX12_partAt_72 rfl (lv_at hl 1 rfl) ?_
        refine lv_iconst (v := (-1)) X.1 X.2.1 dX12_partAt_73 (by decide +kernel) ?_
        refine lv_icmp_ne (tgt := 81) X.1 X.2.1 dX12_partAt_74 (by decide) (fun c3 => ?_) (fun c3 => ?_)
        · refine lv_iconst (v := (-1)) X.1 X.2.1 dX12_partAt_81 (by decide +kernel) ?_
          exact sg_iretP X hr hlk hS (pa_end0 xf1 (Int32.le_iff_toInt_le.mp c2) c3) dX12_partAt_82
        · refine lv_iload_n X.1 X.2.1 dX12_partAt_77 rfl (lv_at hl 3 rfl) ?_
          refine lv_goto (tgt := 82) X.1 X.2.1 dX12_partAt_78 (by decide) ?_
          exact sg_iretP X hr hlk hS (pa_end1 xf1 (Int32.le_iff_toInt_le.mp c2) c3) dX12_partAt_82
      · refine lv_aload_n X.1 X.2.1 dX12_partAt_16 rfl (lv_at hl 0 rfl) ?_
        refine gg_X12_32 X hK hG h0 wl_6_210 hfn dX12_partAt_17 ?_
        refine lv_iconst (v := 0) X.1 X.2.1 dX12_partAt_20 (by decide +kernel) ?_
        refine sg_ialdK X hK hG hnk (k := 54) rfl (iv_vpin (iv_c 0 (a := 0) (b := 0) (by decide +kernel)) (by decide +kernel)) (n0 := 0) (sg_cl (iv_c 0 (a := 0) (b := 0) (by decide +kernel)) (by decide +kernel)) het dX12_partAt_21 ?_
        refine lv_iload X.1 X.2.1 dX12_partAt_22 (lv_at hl 4 rfl) ?_
        refine ca_X12_has_h X hK hG hC (fun _ h => h.elim) hS hb t z1_4 wl_7_174 hl.1 (rest := []) rfl (Nat.le_of_ble_eq_true rfl) ⟨Nat.le_of_ble_eq_true rfl, Nat.le_of_ble_eq_true rfl⟩ ⟨Nat.le_of_ble_eq_true rfl, Nat.le_of_ble_eq_true rfl⟩ dX12_partAt_24 (fun f5 locs hf5 hS => ?_)
        refine lv_if_eq (tgt := 66) X.1 X.2.1 dX12_partAt_27 (by decide) (fun c6 => ?_) (fun c6 => ?_)
        · have hsq7 : ¬ sgHas t z1_4 := sg_hasf hf5.1 hf5.2 c6
          obtain ⟨y9, ey9⟩ : ∃ y : Int32, y = z1_4 + Int32.ofInt 1 := ⟨_, rfl⟩
          refine lv_iinc (v := y9) (lv' := [(4, .int y9), (0, .ref a0), (1, .int x1), (2, .int z1_2), (3, .int z1_3)]) X.1 X.2.1 dX12_partAt_66 hl (k := 4) rfl ey9.symm (by decide) rfl (fun ls hl => ?_)
          refine lv_goto (tgt := 7) X.1 X.2.1 dX12_partAt_69 (by decide) ?_
          have bq10 : 0 ≤ z1_4.toInt ∧ z1_4.toInt ≤ 29 := (iv_lt (b' := 29) (iv_gt_of c2) hz1_4 hni (by decide +kernel))
          have xy9 : y9.toInt = z1_4.toInt + 1 := sg_inc (k := 1) ey9 (iv_lt (b' := 29) (iv_gt_of c2) hz1_4 hni (by decide +kernel)) (by decide +kernel)
          exact ih1 _ _ z1_2 z1_3 y9 hS (lv_sub hl [1, 2, 3, 4, 0] rfl) (iv_of (iv_add (a' := 1) (b' := 30) ey9 (iv_lt (b' := 29) (iv_gt_of c2) hz1_4 hni (by decide +kernel)) (iv_c _ (a := 1) (b := 1) (by decide +kernel)) (by decide +kernel)) (a' := 0) (b' := 30) (by decide +kernel)) (pa_no xf1 (Int32.lt_iff_toInt_lt.mp (iv_gt_of c2)) (by have := ((iv_lt (b' := 29) (iv_gt_of c2) hz1_4 hni (by decide +kernel))).1; omega) ey9 xy9 (Or.inl (by assumption))) (iv_stepU ey9 (iv_lt (b' := 29) (iv_gt_of c2) hz1_4 hni (by decide +kernel)) (by decide +kernel) hN1)
        · have hsq8 : sgHas t z1_4 := sg_hast hf5.1 hf5.2 c6
          refine lv_iload_n X.1 X.2.1 dX12_partAt_30 rfl (lv_at hl 2 rfl) ?_
          refine lv_iload X.1 X.2.1 dX12_partAt_31 (lv_at hl 4 rfl) ?_
          refine ca_X12_has_h X hK hG hC (fun _ h => h.elim) hS hb z1_2 z1_4 wl_7_174 hl.1 (rest := []) rfl (Nat.le_of_ble_eq_true rfl) ⟨Nat.le_of_ble_eq_true rfl, Nat.le_of_ble_eq_true rfl⟩ ⟨Nat.le_of_ble_eq_true rfl, Nat.le_of_ble_eq_true rfl⟩ dX12_partAt_33 (fun f11 locs hf11 hS => ?_)
          refine lv_if_eq (tgt := 42) X.1 X.2.1 dX12_partAt_36 (by decide) (fun c12 => ?_) (fun c12 => ?_)
          · have hsq13 : ¬ sgHas z1_2 z1_4 := sg_hasf hf11.1 hf11.2 c12
            refine lv_aload_n X.1 X.2.1 dX12_partAt_42 rfl (lv_at hl 0 rfl) ?_
            refine lv_iload X.1 X.2.1 dX12_partAt_43 (lv_at hl 4 rfl) ?_
            refine ca_X12_partOf_f X hK hG hC (fun _ h => h.elim) hS hb hp4 a0 h0 z1_4 w t n rq nq hwi hni hrk hnk hfr hfn hfc hew het wl_9_47 hl.1 (rest := []) rfl (Nat.le_of_ble_eq_true rfl) ⟨Nat.le_of_ble_eq_true rfl, Nat.le_of_ble_eq_true rfl⟩ ⟨Nat.le_of_ble_eq_true rfl, Nat.le_of_ble_eq_true rfl⟩ dX12_partAt_45 (fun f15 locs hf15 hS => ?_)
            refine lv_istore (lv' := [(5, .int f15), (0, .ref a0), (1, .int x1), (2, .int z1_2), (3, .int z1_3), (4, .int z1_4)]) X.1 X.2.1 dX12_partAt_48 hl (by decide) rfl (fun ls hl => ?_)
            refine lv_iload_n X.1 X.2.1 dX12_partAt_50 rfl (lv_at hl 4 rfl) ?_
            refine lv_iload_n X.1 X.2.1 dX12_partAt_51 rfl (lv_at hl 2 rfl) ?_
            refine lv_icmp_ne (tgt := 58) X.1 X.2.1 dX12_partAt_52 (by decide) (fun c16 => ?_) (fun c16 => ?_)
            · refine lv_iload_n X.1 X.2.1 dX12_partAt_58 rfl (lv_at hl 3 rfl) ?_
              refine lv_iload X.1 X.2.1 dX12_partAt_59 (lv_at hl 0 rfl) ?_
              refine lv_ior X.1 X.2.1 dX12_partAt_61 ?_
              refine lv_topi (fun f17 ef17 => ?_)
              refine lv_istore_n (lv' := [(2, .int f17), (5, .int f15), (0, .ref a0), (1, .int x1), (3, .int z1_3), (4, .int z1_4)]) X.1 X.2.1 dX12_partAt_62 rfl hl (by decide) rfl (fun ls hl => ?_)
              obtain ⟨y18, ey18⟩ : ∃ y : Int32, y = z1_3 + Int32.ofInt 1 := ⟨_, rfl⟩
              refine lv_iinc (v := y18) (lv' := [(3, .int y18), (2, .int f17), (5, .int f15), (0, .ref a0), (1, .int x1), (4, .int z1_4)]) X.1 X.2.1 dX12_partAt_63 hl (k := 4) rfl ey18.symm (by decide) rfl (fun ls hl => ?_)
              obtain ⟨y19, ey19⟩ : ∃ y : Int32, y = z1_4 + Int32.ofInt 1 := ⟨_, rfl⟩
              refine lv_iinc (v := y19) (lv' := [(4, .int y19), (3, .int y18), (2, .int f17), (5, .int f15), (0, .ref a0), (1, .int x1)]) X.1 X.2.1 dX12_partAt_66 hl (k := 5) rfl ey19.symm (by decide) rfl (fun ls hl => ?_)
              refine lv_goto (tgt := 7) X.1 X.2.1 dX12_partAt_69 (by decide) ?_
              have bq20 : 0 ≤ z1_4.toInt ∧ z1_4.toInt ≤ 29 := (iv_lt (b' := 29) (iv_gt_of c2) hz1_4 hni (by decide +kernel))
              have xy19 : y19.toInt = z1_4.toInt + 1 := sg_inc (k := 1) ey19 (iv_lt (b' := 29) (iv_gt_of c2) hz1_4 hni (by decide +kernel)) (by decide +kernel)
              exact ih1 _ _ f17 y18 y19 hS (lv_sub hl [4, 5, 2, 1, 0] rfl) (iv_of (iv_add (a' := 1) (b' := 30) ey19 (iv_lt (b' := 29) (iv_gt_of c2) hz1_4 hni (by decide +kernel)) (iv_c _ (a := 1) (b := 1) (by decide +kernel)) (by decide +kernel)) (a' := 0) (b' := 30) (by decide +kernel)) (pa_go xf1 (Int32.lt_iff_toInt_lt.mp (iv_gt_of c2)) (by have := ((iv_lt (b' := 29) (iv_gt_of c2) hz1_4 hni (by decide +kernel))).1; omega) (by assumption) (by assumption) hf15 c16 ef17 ey18 ey19 xy19) (iv_stepU ey19 (iv_lt (b' := 29) (iv_gt_of c2) hz1_4 hni (by decide +kernel)) (by decide +kernel) hN1)
            · refine lv_iload X.1 X.2.1 dX12_partAt_55 (lv_at hl 0 rfl) ?_
              exact sg_iretP X hr hlk hS (pa_ret xf1 (Int32.lt_iff_toInt_lt.mp (iv_gt_of c2)) (by have := ((iv_lt (b' := 29) (iv_gt_of c2) hz1_4 hni (by decide +kernel))).1; omega) (by assumption) (by assumption) hf15 c16) dX12_partAt_57
          · have hsq14 : sgHas z1_2 z1_4 := sg_hast hf11.1 hf11.2 c12
            refine lv_goto (tgt := 66) X.1 X.2.1 dX12_partAt_39 (by decide) ?_
            obtain ⟨y21, ey21⟩ : ∃ y : Int32, y = z1_4 + Int32.ofInt 1 := ⟨_, rfl⟩
            refine lv_iinc (v := y21) (lv' := [(4, .int y21), (0, .ref a0), (1, .int x1), (2, .int z1_2), (3, .int z1_3)]) X.1 X.2.1 dX12_partAt_66 hl (k := 4) rfl ey21.symm (by decide) rfl (fun ls hl => ?_)
            refine lv_goto (tgt := 7) X.1 X.2.1 dX12_partAt_69 (by decide) ?_
            have bq22 : 0 ≤ z1_4.toInt ∧ z1_4.toInt ≤ 29 := (iv_lt (b' := 29) (iv_gt_of c2) hz1_4 hni (by decide +kernel))
            have xy21 : y21.toInt = z1_4.toInt + 1 := sg_inc (k := 1) ey21 (iv_lt (b' := 29) (iv_gt_of c2) hz1_4 hni (by decide +kernel)) (by decide +kernel)
            exact ih1 _ _ z1_2 z1_3 y21 hS (lv_sub hl [1, 2, 3, 4, 0] rfl) (iv_of (iv_add (a' := 1) (b' := 30) ey21 (iv_lt (b' := 29) (iv_gt_of c2) hz1_4 hni (by decide +kernel)) (iv_c _ (a := 1) (b := 1) (by decide +kernel)) (by decide +kernel)) (a' := 0) (b' := 30) (by decide +kernel)) (pa_no xf1 (Int32.lt_iff_toInt_lt.mp (iv_gt_of c2)) (by have := ((iv_lt (b' := 29) (iv_gt_of c2) hz1_4 hni (by decide +kernel))).1; omega) ey21 xy21 (Or.inr (by assumption))) (iv_stepU ey21 (iv_lt (b' := 29) (iv_gt_of c2) hz1_4 hni (by decide +kernel)) (by decide +kernel) hN1)
  exact B1_7 _ _ _ 0 0 0 hS (lv_sub hl [3, 4, 2, 1, 0] rfl) (iv_of (iv_c 0 (a := 0) (b := 0) (by decide +kernel)) (a' := 0) (b' := 30) (by decide +kernel)) pa_s0 (Nat.le_refl _)

theorem ca_X12_partAt_f   (X : CallFix p m c cc nL s args sg_tbl own) (hK : va_K D vwCl tys s) (hG : sgG (KT P) D vwCl (fun q : Nat => base ≤ q) tys ad ks H) (hC : sgC base s) (hA : ∀ q : Nat, A q → base ≤ q) (hS : va_S A s.heap H locs) (hb : base ≤ s.heap.size) (hp4 : P.2.2.2.2.1 = true) (a0 : Nat) (h0 : isK ad ks 12 a0) (x1 : Int32) (w t n : Int32) (rq nq : Nat) (hwi : iv 1 6 w) (hni : iv 1 30 n) (hrk : isK ad ks 49 rq) (hnk : isK ad ks 54 nq) (hfr : fld D H 12 a0 18 (.ref rq)) (hfn : fld D H 12 a0 32 (.ref nq)) (hfc : fld D H 12 a0 23 (.int n)) (hew : ele H rq 0 w) (het : ele H nq 0 t) (hl : Cond.methodLink own index yX12_partAt ∈ sg_tbl) (hsize : ls.size = nL) (hst : st0 = [.int x1].reverse ++ .ref a0 :: rest) (hW : (rest.map fun v => v.category).sum ≤ 8) (hR : 3 ≤ R.frames ∧ 71 ≤ R.locals) (hf : cells ≤ R.cells ∧ slots ≤ R.slots) (hdg : decode cc pc = .ok (.invokevirtual index, 3)) (kk : ∀ (r : Int32) (locs1 : List Loc), (fun r : Int32 => r = paF w t n x1) r → va_S A s.heap H locs1 → W p l e R s m args below meth c H locs1 cells slots Q (F0 m (pc + 3) ls (.int r :: rest))) : W p l e R s m args below meth c H locs cells slots Q (F0 m pc ls st0) :=
  sg_callPVi X hK hG hC hA hS hb (m_X12_partAt_f l hp4 a0 h0 x1 w t n rq nq hwi hni hrk hnk hfr hfn hfc hew het) h0 (k := 12) (ci := 12) rfl (C := RX12) (T := TX12) (N := 53) rfl wl_9_46 wl_1_13 wl_9_45 wl_0_101 (n := 1) (by decide +kernel) rfl rfl rfl hl hsize hst hW hR hf hdg kk
end
