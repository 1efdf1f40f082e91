
section
variable {p : Program} {l : Launch} {e : Env} {R : Room} {s : State} {m : MethodId} {args : Array Value} {below : List Frame} {meth : Method} {c : Code} {H : Heap} {locs : List Loc} {cells slots : Nat} {Q : State → Prop} {cc : ByteArray} {nL pc : Nat} {ls : Array Slot} {rest : List Value} {own : String} {D : va_G} {A : Nat → Prop} {tys : List (ClassId × FieldType)} {ad ks : List Nat} {P : sgPm} {H0 : Heap} {index : Nat} {base : Nat} {st0 : List Value} {a : Nat}

set_option maxHeartbeats 8000000 in
set_option maxRecDepth 100000 in
theorem m_X12_areFew_f (l : Launch) {D : va_G} {base : Nat} {tys : List (ClassId × FieldType)} {ad ks : List Nat} {P : sgPm} {Hx : Heap} (hp4 : P.2.2.2.2.1 = true) (a0 : Nat) (h0 : isK ad ks 12 a0) (w t n : Int32) (rq nq : Nat) (hwi : iv 1 6 w) (hni : iv 1 30 n) (hrk : isK ad ks 49 rq) (hnk : isK ad ks 54 nq) (hfr : fld D Hx 12 a0 18 (.ref rq)) (hfn : fld D Hx 12 a0 32 (.ref nq)) (hfc : fld D Hx 12 a0 23 (.int n)) (hew : ele Hx rq 0 w) (het : ele Hx nq 0 t) : sgPi l (KT P) D vwCl base tys ad ks Hx yX12_areFew cX12_areFew 2 (some .boolean) ({ frames := 3, cells := 0, slots := 0, locals := 71 }) [.ref a0] (fun r : Int32 => iv 0 1 r ∧ (¬ r = 0 → ∀ j : Int32, 0 ≤ j.toInt → j.toInt < (paF w t n (-1)).toInt → sg_pc 32 (paF w t n j).toBitVec.toNat ≤ 12)) := by
  refine sg_ofPh (Pq := fun Hx => va_Qi (fun r (_ : Unit) => (fun r : Int32 => iv 0 1 r ∧ (¬ r = 0 → ∀ j : Int32, 0 ≤ j.toInt → j.toInt < (paF w t n (-1)).toInt → sg_pc 32 (paF w t n j).toBitVec.toNat ≤ 12)) r) (fun _ t => t.heap = Hx) (fun _ : Nat => False)) (by decide +kernel) (Nat.le_of_ble_eq_true rfl) (fun p e s m below meth c hHx X hr hlk hb hK hC hG ls hl => ?_)
  subst hHx
  have hS : va_S (fun _ : Nat => False) s.heap s.heap [] := va_S.rf
  have hl : lv_has ls 2 [(0, .ref a0)] := hl
  refine lv_iconst (v := 0) X.1 X.2.1 dX12_areFew_0 (by decide +kernel) ?_
  refine lv_istore_n (lv' := [(1, .int 0), (0, .ref a0)]) X.1 X.2.1 dX12_areFew_1 rfl hl (by decide) rfl (fun ls hl => ?_)
  have B1_2 : ∀ (N : Nat) (locs : List Loc) (ls : Array Slot) (z1_1 : Int32), va_S (fun _ : Nat => False) s.heap s.heap locs → lv_has ls 2 [(0, .ref a0), (1, .int z1_1)] → iv 0 2147483647 z1_1 → (∀ j : Int32, 0 ≤ j.toInt → j.toInt < z1_1.toInt → sg_pc 32 (paF w t n j).toBitVec.toNat ≤ 12) → (2147483648 - z1_1.toInt).toNat ≤ N → W p l e (headSpec (Cond.code yX12_areFew cX12_areFew 2 (some .boolean) :: sg_tbl) ({ frames := 3, cells := 0, slots := 0, locals := 71 })).room s m #[.ref a0] below meth c s.heap locs 0 0 (MQ below (va_Qi (fun r (_ : Unit) => (fun r : Int32 => iv 0 1 r ∧ (¬ r = 0 → ∀ j : Int32, 0 ≤ j.toInt → j.toInt < (paF w t n (-1)).toInt → sg_pc 32 (paF w t n j).toBitVec.toNat ≤ 12)) r) (fun _ t => t.heap = s.heap) (fun _ : Nat => False)) #[.ref a0] s 0 0 (fun _ : Nat => False)) (F0 m 2 ls []) := by
    intro N; induction N with
    | zero =>
      intro locs ls z1_1 hS hl hz1_1 xf1 hN
      exact absurd hN (by have := iv_up hz1_1; omega)
    | succ N ih1 =>
      intro locs ls z1_1 hS hl hz1_1 xf1 hN1
      refine lv_iload_n X.1 X.2.1 dX12_areFew_2 rfl (lv_at hl 1 rfl) ?_
      refine lv_aload_n X.1 X.2.1 dX12_areFew_3 rfl (lv_at hl 0 rfl) ?_
      refine lv_iconst (v := (-1)) X.1 X.2.1 dX12_areFew_4 (by decide +kernel) ?_
      refine ca_X12_partAt_f X hK hG hC (fun _ h => h.elim) hS hb hp4 a0 h0 (-1) w t n rq nq hwi hni hrk hnk hfr hfn hfc hew het wl_9_43 hl.1 (rest := [.int z1_1]) rfl (Nat.le_of_ble_eq_true rfl) ⟨Nat.le_of_ble_eq_true rfl, Nat.le_of_ble_eq_true rfl⟩ ⟨Nat.le_of_ble_eq_true rfl, Nat.le_of_ble_eq_true rfl⟩ dX12_areFew_5 (fun f2 locs hf2 hS => ?_)
      refine lv_icmp_ge (tgt := 32) X.1 X.2.1 dX12_areFew_8 (by decide) (fun c3 => ?_) (fun c3 => ?_)
      · refine lv_iconst (v := 1) X.1 X.2.1 dX12_areFew_32 (by decide +kernel) ?_
        exact sg_zretP X hr (sg_zn (iv_of (iv_c 1 (a := 1) (b := 1) (by decide +kernel)) (a' := 0) (b' := 1) (by decide +kernel))) hlk hS ⟨(iv_of (iv_c 1 (a := 1) (b := 1) (by decide +kernel)) (a' := 0) (b' := 1) (by decide +kernel)), fun _ j h1 h2 => xf1 j h1 (by rw [← hf2] at h2; have := Int32.le_iff_toInt_le.mp c3; omega)⟩ dX12_areFew_33
      · refine lv_aload_n X.1 X.2.1 dX12_areFew_11 rfl (lv_at hl 0 rfl) ?_
        refine lv_iload_n X.1 X.2.1 dX12_areFew_12 rfl (lv_at hl 1 rfl) ?_
        refine ca_X12_partAt_f X hK hG hC (fun _ h => h.elim) hS hb hp4 a0 h0 z1_1 w t n rq nq hwi hni hrk hnk hfr hfn hfc hew het wl_9_43 hl.1 (rest := []) rfl (Nat.le_of_ble_eq_true rfl) ⟨Nat.le_of_ble_eq_true rfl, Nat.le_of_ble_eq_true rfl⟩ ⟨Nat.le_of_ble_eq_true rfl, Nat.le_of_ble_eq_true rfl⟩ dX12_areFew_13 (fun f4 locs hf4 hS => ?_)
        refine ca_J6_bitCount_0f7a4_5 X hK hG hC (fun _ h => h.elim) hS hb f4 wl_8_68 hl.1 (rest := []) rfl (Nat.le_of_ble_eq_true rfl) ⟨Nat.le_of_ble_eq_true rfl, Nat.le_of_ble_eq_true rfl⟩ ⟨Nat.le_of_ble_eq_true rfl, Nat.le_of_ble_eq_true rfl⟩ dX12_areFew_16 (fun f5 locs hf5 hS => ?_)
        refine lv_bipush (v := 12) X.1 X.2.1 dX12_areFew_19 (by decide +kernel) ?_
        refine lv_icmp_le (tgt := 26) X.1 X.2.1 dX12_areFew_21 (by decide) (fun c6 => ?_) (fun c6 => ?_)
        · obtain ⟨y7, ey7⟩ : ∃ y : Int32, y = z1_1 + Int32.ofInt 1 := ⟨_, rfl⟩
          refine lv_iinc (v := y7) (lv' := [(1, .int y7), (0, .ref a0)]) X.1 X.2.1 dX12_areFew_26 hl (k := 1) rfl ey7.symm (by decide) rfl (fun ls hl => ?_)
          refine lv_goto (tgt := 2) X.1 X.2.1 dX12_areFew_29 (by decide) ?_
          have bq8 : 0 ≤ z1_1.toInt ∧ z1_1.toInt ≤ 2147483646 := (iv_lt (b' := 2147483646) (iv_gt_of c3) hz1_1 (iv_top f2) (by decide +kernel))
          have xy7 : y7.toInt = z1_1.toInt + 1 := sg_inc (k := 1) ey7 (iv_lt (b' := 2147483646) (iv_gt_of c3) hz1_1 (iv_top f2) (by decide +kernel)) (by decide +kernel)
          have h12 := sg_pop12 hf5.2 c6
          rw [hf4] at h12
          exact ih1 _ _ y7 hS (lv_sub hl [1, 0] rfl) (iv_of (iv_add (a' := 1) (b' := 2147483647) ey7 (iv_lt (b' := 2147483646) (iv_gt_of c3) hz1_1 (iv_top f2) (by decide +kernel)) (iv_c _ (a := 1) (b := 1) (by decide +kernel)) (by decide +kernel)) (a' := 0) (b' := 2147483647) (by decide +kernel)) (fun j h1 h2 => if hj : j.toInt < z1_1.toInt then xf1 j h1 hj else (by rw [show j = z1_1 from Int32.toInt_inj.mp (by omega)]; exact h12)) (iv_stepU ey7 (iv_lt (b' := 2147483646) (iv_gt_of c3) hz1_1 (iv_top f2) (by decide +kernel)) (by decide +kernel) hN1)
        · refine lv_iconst (v := 0) X.1 X.2.1 dX12_areFew_24 (by decide +kernel) ?_
          exact sg_zretP X hr (sg_zn (iv_of (iv_c 0 (a := 0) (b := 0) (by decide +kernel)) (a' := 0) (b' := 1) (by decide +kernel))) hlk hS ⟨(iv_of (iv_c 0 (a := 0) (b := 0) (by decide +kernel)) (a' := 0) (b' := 1) (by decide +kernel)), fun h => absurd rfl h⟩ dX12_areFew_25
  exact B1_2 _ _ _ 0 hS (lv_sub hl [1, 0] rfl) (iv_of (iv_c 0 (a := 0) (b := 0) (by decide +kernel)) (a' := 0) (b' := 2147483647) (by decide +kernel)) (fun j h1 h2 => absurd h2 (by rw [show (0 : Int32).toInt = 0 from by decide +kernel]; omega)) (Nat.le_refl _)

theorem ca_X12_areFew_f   (X : CallFix p m c cc nL s args sg_tbl own) (hK : va_K D vwCl tys s) (hG : sgG (KT P) D vwCl (fun q : Nat => base ≤ q) tys ad ks H) (hC : sgC base s) (hA : ∀ q : Nat, A q → base ≤ q) (hS : va_S A s.heap H locs) (hb : base ≤ s.heap.size) (hp4 : P.2.2.2.2.1 = true) (a0 : Nat) (h0 : isK ad ks 12 a0) (w t n : Int32) (rq nq : Nat) (hwi : iv 1 6 w) (hni : iv 1 30 n) (hrk : isK ad ks 49 rq) (hnk : isK ad ks 54 nq) (hfr : fld D H 12 a0 18 (.ref rq)) (hfn : fld D H 12 a0 32 (.ref nq)) (hfc : fld D H 12 a0 23 (.int n)) (hew : ele H rq 0 w) (het : ele H nq 0 t) (hl : Cond.methodLink own index yX12_areFew ∈ sg_tbl) (hsize : ls.size = nL) (hst : st0 = [].reverse ++ .ref a0 :: rest) (hW : (rest.map fun v => v.category).sum ≤ 8) (hR : 4 ≤ R.frames ∧ 92 ≤ R.locals) (hf : cells ≤ R.cells ∧ slots ≤ R.slots) (hdg : decode cc pc = .ok (.invokevirtual index, 3)) (kk : ∀ (r : Int32) (locs1 : List Loc), (fun r : Int32 => iv 0 1 r ∧ (¬ r = 0 → ∀ j : Int32, 0 ≤ j.toInt → j.toInt < (paF w t n (-1)).toInt → sg_pc 32 (paF w t n j).toBitVec.toNat ≤ 12)) r → va_S A s.heap H locs1 → W p l e R s m args below meth c H locs1 cells slots Q (F0 m (pc + 3) ls (.int r :: rest))) : W p l e R s m args below meth c H locs cells slots Q (F0 m pc ls st0) :=
  sg_callPVi X hK hG hC hA hS hb (m_X12_areFew_f l hp4 a0 h0 w t n rq nq hwi hni hrk hnk hfr hfn hfc hew het) h0 (k := 12) (ci := 12) rfl (C := RX12) (T := TX12) (N := 53) rfl wl_9_79 wl_1_13 wl_9_78 wl_0_107 (n := 0) (by decide +kernel) rfl rfl rfl hl hsize hst hW hR hf hdg kk
end
