theorem dX2_sumUp_15 : decode cX2_sumUp 15 = .ok (.aload_n 0, 1) := by decide +kernel
theorem dX2_sumUp_16 : decode cX2_sumUp 16 = .ok (.sipush 8256, 3) := by decide +kernel
theorem dX2_sumUp_19 : decode cX2_sumUp 19 = .ok (.newarray .int, 2) := by decide +kernel
theorem dX2_sumUp_21 : decode cX2_sumUp 21 = .ok (.putfield 77, 3) := by decide +kernel
theorem wl_1_56 : (.arrayClass .int : Cond) ∈ sg_tbl := tb_1 _ (List.mem_of_getElem? (i := 56) (by decide +kernel)) (by decide +kernel)
section
variable {p : Program} {l : Launch} {e : Env} {R : Room} {s : State} {m : MethodId} {args : Array Value} {below : List Frame} {meth : Method} {c : Code} {H : Heap} {locs : List Loc} {cells slots : Nat} {Q : State → Prop} {cc : ByteArray} {nL pc : Nat} {ls : Array Slot} {rest : List Value} {own : String} {D : va_G} {A : Nat → Prop} {tys : List (ClassId × FieldType)} {ad ks : List Nat} {P : sgPm} {H0 : Heap} {index : Nat} {base : Nat} {st0 : List Value} {a : Nat}
theorem gf_X2_4n   (X : CallFix p m c cc nL s args sg_tbl own) (hK : va_K D vwCl tys s) (hG : sgG (KT P) D vwCl A tys ad ks H) (ha : isK ad ks 2 a) (hp : P.2.1 = false) (hl : Cond.fieldLink own index "LawnAhead$Ends" "sums" "[I" ∈ sg_tbl) (hdg : decode cc pc = .ok (.getfield index, 3)) (kk : fld D H 2 a 4 .null → W p l e R s m args below meth c H locs cells slots Q (F0 m (pc + 3) ls (.null :: rest))) : W p l e R s m args below meth c H locs cells slots Q (F0 m pc ls (.ref a :: rest)) :=
  sg_get X hK hG ha (k := 2) (ci := 2) rfl (C := RX2) (T := TX2) (N := 10) rfl inL_X2 4 (by decide) rfl hl (fun _ h => h) hdg (fun v hv hf => by
    rw [hp] at hv
    obtain rfl : v = .null := sg_null rfl hG hv
    exact kk hf)
theorem pf_X2_4xs  {x : Nat}  (X : CallFix p m c cc nL s args sg_tbl own) (hK : va_K D vwCl tys s) (hG : sgG (KT P) D vwCl A tys ad ks H) (hS : va_S A H0 H locs) (ha : isK ad ks 2 a) (hl : Cond.fieldLink own index "LawnAhead$Ends" "sums" "[I" ∈ sg_tbl) (hv : okV ad ks (.inr (.inl (false, 18))) (.ref x)) (hdg : decode cc pc = .ok (.putfield index, 3)) (kk : ∀ (H1 : Heap) (locs1 : List Loc), sgG (KT (P.1, true, P.2.2)) D vwCl A tys ad ks H1 → va_S A H0 H1 locs1 → W p l e R s m args below meth c H1 locs1 cells slots Q (F0 m (pc + 3) ls rest)) : W p l e R s m args below meth c H locs cells slots Q (F0 m pc ls (.ref x :: .ref a :: rest)) :=
  sg_put1 (kt' := KT (P.1, true, P.2.2)) X hK hG hS ha (k := 2) (by decide) (ci := 2) (fts := [.inr (.inl (false, 8)), .inr (.inl (false, 15)), .inr (.inl (false, 16)), .inr (.inl (false, 17)), bif P.2.1 then .inr (.inl (false, 18)) else .inr (.inl (true, 999)), bif P.2.2.1 then .inr (.inl (false, 19)) else .inr (.inl (true, 999)), .inl (0, 30), .inl ((-2147483648), 2147483647), .inl (0, 1), .inl (0, 1)]) (fts' := [.inr (.inl (false, 8)), .inr (.inl (false, 15)), .inr (.inl (false, 16)), .inr (.inl (false, 17)), bif (P.1, true, P.2.2).2.1 then .inr (.inl (false, 18)) else .inr (.inl (true, 999)), bif (P.1, true, P.2.2).2.2.1 then .inr (.inl (false, 19)) else .inr (.inl (true, 999)), .inl (0, 30), .inl ((-2147483648), 2147483647), .inl (0, 1), .inl (0, 1)]) rfl rfl (C := RX2) (T := TX2) (N := 10) rfl inL_X2 tyX2 tyX2_ok nmX2 4 (by decide) rfl (t' := .inr (.inl (false, 18))) rfl (fun i hi => by match i, hi with
    | 0, hi => rfl
    | 1, hi => rfl
    | 2, hi => rfl
    | 3, hi => rfl
    | 4, hi => exact absurd rfl hi
    | 5, hi => rfl
    | 6, hi => rfl
    | 7, hi => rfl
    | 8, hi => rfl
    | 9, hi => rfl
    | i + 10, hi => rfl) (fun i hi => by match i, hi with
    | 0, hi => rfl
    | 1, hi => rfl
    | 2, hi => exact absurd rfl hi
    | 3, hi => rfl
    | 4, hi => rfl
    | 5, hi => rfl
    | 6, hi => rfl
    | 7, hi => rfl
    | 8, hi => rfl
    | 9, hi => rfl
    | 10, hi => rfl
    | 11, hi => rfl
    | 12, hi => rfl
    | 13, hi => rfl
    | 14, hi => rfl
    | 15, hi => rfl
    | 16, hi => rfl
    | 17, hi => rfl
    | 18, hi => rfl
    | 19, hi => rfl
    | 20, hi => rfl
    | 21, hi => rfl
    | 22, hi => rfl
    | 23, hi => rfl
    | 24, hi => rfl
    | 25, hi => rfl
    | 26, hi => rfl
    | 27, hi => rfl
    | 28, hi => rfl
    | 29, hi => rfl
    | 30, hi => rfl
    | 31, hi => rfl
    | 32, hi => rfl
    | 33, hi => rfl
    | 34, hi => rfl
    | 35, hi => rfl
    | 36, hi => rfl
    | 37, hi => rfl
    | 38, hi => rfl
    | 39, hi => rfl
    | 40, hi => rfl
    | 41, hi => rfl
    | 42, hi => rfl
    | 43, hi => rfl
    | 44, hi => rfl
    | 45, hi => rfl
    | 46, hi => rfl
    | 47, hi => rfl
    | 48, hi => rfl
    | 49, hi => rfl
    | 50, hi => rfl
    | 51, hi => rfl
    | 52, hi => rfl
    | 53, hi => rfl
    | 54, hi => rfl
    | 55, hi => rfl
    | 56, hi => rfl
    | 57, hi => rfl
    | 58, hi => rfl
    | 59, hi => rfl
    | 60, hi => rfl
    | 61, hi => rfl
    | 62, hi => rfl
    | 63, hi => rfl
    | 64, hi => rfl
    | 65, hi => rfl
    | 66, hi => rfl
    | 67, hi => rfl
    | i + 68, hi => rfl) hl (fun _ h => h) rfl (ty := (tyX2 4)) rfl rfl rfl hv hdg kk
set_option maxHeartbeats 8000000 in
set_option maxRecDepth 100000 in
theorem m_X2_sumLeft_0 (l : Launch) {D : va_G} {base : Nat} {tys : List (ClassId × FieldType)} {ad ks : List Nat} {P : sgPm} {Hx : Heap} (hp1 : P.2.1 = false) (a0 : Nat) (h0 : isK ad ks 2 a0) (x1 : Int32) (h1 : iv 0 29 x1) (x2 : Int32) : sgPi l (KT P) D vwCl base tys ad ks Hx yX2_sumLeft cX2_sumLeft 4 (some .int) ({ frames := 1, cells := 0, slots := 0, locals := 25 }) [.ref a0, .int x1, .int x2] (fun r : Int32 => True) := by
  refine sg_ofP (Pq := fun Hx => va_Qi (fun r (_ : Unit) => (fun r : Int32 => True) r) (fun _ t => t.heap = Hx) (fun _ : Nat => False)) (by decide +kernel) (Nat.le_of_ble_eq_true rfl) (fun p e s m below meth c X hr hlk hb hK hC hG ls hl => ?_)
  have hS : va_S (fun _ : Nat => False) s.heap s.heap [] := va_S.rf
  have hl : lv_has ls 4 [(0, .ref a0), (1, .int x1), (2, .int x2)] := hl
  refine lv_aload_n X.1 X.2.1 dX2_sumLeft_0 rfl (lv_at hl 0 rfl) ?_
  refine gf_X2_2 X hK hG h0 wl_2_147 dX2_sumLeft_1 (fun q1 hq1 kq1 => ?_)
  refine lv_iload_n X.1 X.2.1 dX2_sumLeft_4 rfl (lv_at hl 1 rfl) ?_
  refine al_16 X hK hG hq1 (iv_vpin h1 (by decide +kernel)) dX2_sumLeft_5 (fun f2 hf2 => ?_)
  have of2 := hf2
  have hf2 : iv 0 8256 f2 := sg_plr hf2
  refine lv_aload_n X.1 X.2.1 dX2_sumLeft_6 rfl (lv_at hl 0 rfl) ?_
  refine lv_iload_n X.1 X.2.1 dX2_sumLeft_7 rfl (lv_at hl 1 rfl) ?_
  refine lv_iload_n X.1 X.2.1 dX2_sumLeft_8 rfl (lv_at hl 2 rfl) ?_
  refine ca_X2_local X hK hG hC (fun _ h => h.elim) hS hb a0 h0 x1 h1 x2 wl_5_171 hl.1 (rest := [.int f2]) rfl (Nat.le_of_ble_eq_true rfl) ⟨Nat.le_of_ble_eq_true rfl, Nat.le_of_ble_eq_true rfl⟩ ⟨Nat.le_of_ble_eq_true rfl, Nat.le_of_ble_eq_true rfl⟩ dX2_sumLeft_9 (fun f3 locs hf3 hS => ?_)
  refine lv_iadd X.1 X.2.1 dX2_sumLeft_12 ?_
  refine lv_topi (fun f4 ef4 => ?_)
  refine lv_istore_n (lv' := [(3, .int f4), (0, .ref a0), (1, .int x1), (2, .int x2)]) X.1 X.2.1 dX2_sumLeft_13 rfl hl (by decide) rfl (fun ls hl => ?_)
  refine lv_aload_n X.1 X.2.1 dX2_sumLeft_14 rfl (lv_at hl 1 rfl) ?_
  refine gf_X2_4n X hK hG h0 hp1 wl_2_149 dX2_sumLeft_15 (fun ku5 => ?_)
  have B6_28 : ∀ (locs : List Loc) (ls : Array Slot), va_S (fun _ : Nat => False) s.heap s.heap locs → lv_has ls 4 [] → W p l e (headSpec (Cond.code yX2_sumLeft cX2_sumLeft 4 (some .int) :: sg_tbl) ({ frames := 1, cells := 0, slots := 0, locals := 25 })).room s m #[.ref a0, .int x1, .int x2] below meth c s.heap locs 0 0 (MQ below (va_Qi (fun r (_ : Unit) => (fun r : Int32 => True) r) (fun _ t => t.heap = s.heap) (fun _ : Nat => False)) #[.ref a0, .int x1, .int x2] s 0 0 (fun _ : Nat => False)) (F0 m 28 ls []) := by
    intro locs ls hS hl
    refine lv_iconst (v := 0) X.1 X.2.1 dX2_sumLeft_28 (by decide +kernel) ?_
    refine lv_goto (tgt := 38) X.1 X.2.1 dX2_sumLeft_29 (by decide) ?_
    exact sg_iretP X hr hlk hS trivial dX2_sumLeft_38
  refine lv_ifnullN (tgt := 28) X.1 X.2.1 dX2_sumLeft_18 (by decide) ?_
  exact B6_28 _ _ hS (lv_sub hl [] rfl)

theorem ca_X2_sumLeft_0   (X : CallFix p m c cc nL s args sg_tbl own) (hK : va_K D vwCl tys s) (hG : sgG (KT P) D vwCl (fun q : Nat => base ≤ q) tys ad ks H) (hC : sgC base s) (hA : ∀ q : Nat, A q → base ≤ q) (hS : va_S A s.heap H locs) (hb : base ≤ s.heap.size) (hp1 : P.2.1 = false) (a0 : Nat) (h0 : isK ad ks 2 a0) (x1 : Int32) (h1 : iv 0 29 x1) (x2 : Int32) (hl : Cond.methodLink own index yX2_sumLeft ∈ sg_tbl) (hsize : ls.size = nL) (hst : st0 = [.int x1, .int x2].reverse ++ .ref a0 :: rest) (hW : (rest.map fun v => v.category).sum ≤ 8) (hR : 2 ≤ R.frames ∧ 48 ≤ R.locals) (hf : cells ≤ R.cells ∧ slots ≤ R.slots) (hdg : decode cc pc = .ok (.invokevirtual index, 3)) (kk : ∀ (r : Int32) (locs1 : List Loc), (fun r : Int32 => True) r → va_S A s.heap H locs1 → W p l e R s m args below meth c H locs1 cells slots Q (F0 m (pc + 3) ls (.int r :: rest))) : W p l e R s m args below meth c H locs cells slots Q (F0 m pc ls st0) :=
  sg_callPVi X hK hG hC hA hS hb (m_X2_sumLeft_0 l hp1 a0 h0 x1 h1 x2) h0 (k := 2) (ci := 2) rfl (C := RX2) (T := TX2) (N := 10) rfl wl_5_182 wl_1_11 wl_5_180 wl_5_181 (n := 2) (by decide +kernel) rfl rfl rfl hl hsize hst hW hR hf hdg kk

set_option maxHeartbeats 8000000 in
set_option maxRecDepth 100000 in
theorem m_X2_winningCode_0 (l : Launch) {D : va_G} {base : Nat} {tys : List (ClassId × FieldType)} {ad ks : List Nat} {P : sgPm} (hp1 : P.2.1 = false) (a0 : Nat) (h0 : isK ad ks 2 a0) : sgMi l (KT P) D vwCl base tys ad ks yX2_winningCode cX2_winningCode 5 (some .int) ({ frames := 4, cells := 0, slots := 0, locals := 94 }) [.ref a0] (fun r : Int32 => True) := by
  refine sg_ofW (by decide +kernel) (Nat.le_of_ble_eq_true rfl) (fun p e s m below meth c X hr hlk hb hK hC hG ls hl => ?_)
  have hS : va_S (fun q : Nat => base ≤ q) s.heap s.heap [] := va_S.rf
  have hl : lv_has ls 5 [(0, .ref a0)] := hl
  refine lv_iconst (v := 0) X.1 X.2.1 dX2_winningCode_0 (by decide +kernel) ?_
  refine lv_istore_n (lv' := [(1, .int 0), (0, .ref a0)]) X.1 X.2.1 dX2_winningCode_1 rfl hl (by decide) rfl (fun ls hl => ?_)
  refine lv_iconst (v := 0) X.1 X.2.1 dX2_winningCode_2 (by decide +kernel) ?_
  refine lv_istore_n (lv' := [(2, .int 0), (1, .int 0), (0, .ref a0)]) X.1 X.2.1 dX2_winningCode_3 rfl hl (by decide) rfl (fun ls hl => ?_)
  have B1_4 : ∀ (N : Nat) (locs : List Loc) (ls : Array Slot) (z1_1 : Int32) (z1_2 : Int32), va_S (fun q : Nat => base ≤ q) s.heap s.heap locs → lv_has ls 5 [(0, .ref a0), (1, .int z1_1), (2, .int z1_2)] → iv 0 30 z1_2 → (31 - z1_2.toInt).toNat ≤ N → W p l e (headSpec (Cond.code yX2_winningCode cX2_winningCode 5 (some .int) :: sg_tbl) ({ frames := 4, cells := 0, slots := 0, locals := 94 })).room s m #[.ref a0] below meth c s.heap locs 0 0 (MQ below (va_Qi (fun r (_ : Unit) => (fun r : Int32 => True) r) (fun _ => sgB (KT P) D vwCl base tys ad ks) (fun q : Nat => base ≤ q)) #[.ref a0] s 0 0 (fun q : Nat => base ≤ q)) (F0 m 4 ls []) := by
    intro N; induction N with
    | zero =>
      intro locs ls z1_1 z1_2 hS hl hz1_2 hN
      exact absurd hN (by have := iv_up hz1_2; omega)
    | succ N ih1 =>
      intro locs ls z1_1 z1_2 hS hl hz1_2 hN1
      refine lv_iload_n X.1 X.2.1 dX2_winningCode_4 rfl (lv_at hl 2 rfl) ?_
      refine lv_aload_n X.1 X.2.1 dX2_winningCode_5 rfl (lv_at hl 0 rfl) ?_
      refine gf_X2_6 X hK hG h0 wl_2_151 dX2_winningCode_6 (fun f2 hf2 kf2 => ?_)
      refine lv_icmp_ge (tgt := 32) X.1 X.2.1 dX2_winningCode_9 (by decide) (fun c3 => ?_) (fun c3 => ?_)
      · refine lv_aload_n X.1 X.2.1 dX2_winningCode_32 rfl (lv_at hl 0 rfl) ?_
        refine gf_X2_0 X hK hG h0 wl_2_144 dX2_winningCode_33 (fun q4 hq4 kq4 => ?_)
        refine lv_aload_n X.1 X.2.1 dX2_winningCode_36 rfl (lv_at hl 0 rfl) ?_
        refine gf_X2_7 X hK hG h0 wl_2_153 dX2_winningCode_37 (fun f5 hf5 kf5 => ?_)
        refine ca_X8_listCuts X hK hG hC hS hb q4 hq4 f5 wl_5_170 hl.1 (rest := []) rfl (Nat.le_of_ble_eq_true rfl) ⟨Nat.le_of_ble_eq_true rfl, Nat.le_of_ble_eq_true rfl⟩ ⟨Nat.le_of_ble_eq_true rfl, Nat.le_of_ble_eq_true rfl⟩ dX2_winningCode_40 (fun H locs hG hS => ?_)
        refine lv_iconst (v := 0) X.1 X.2.1 dX2_winningCode_43 (by decide +kernel) ?_
        refine lv_istore_n (lv' := [(2, .int 0), (0, .ref a0), (1, .int z1_1)]) X.1 X.2.1 dX2_winningCode_44 rfl hl (by decide) rfl (fun ls hl => ?_)
        have B7_45 : ∀ (N : Nat) (locs : List Loc) (ls : Array Slot) (z7_2 : Int32), va_S (fun q : Nat => base ≤ q) s.heap H locs → lv_has ls 5 [(0, .ref a0), (1, .int z1_1), (2, .int z7_2)] → iv 0 270 z7_2 → (271 - z7_2.toInt).toNat ≤ N → W p l e (headSpec (Cond.code yX2_winningCode cX2_winningCode 5 (some .int) :: sg_tbl) ({ frames := 4, cells := 0, slots := 0, locals := 94 })).room s m #[.ref a0] below meth c H locs 0 0 (MQ below (va_Qi (fun r (_ : Unit) => (fun r : Int32 => True) r) (fun _ => sgB (KT P) D vwCl base tys ad ks) (fun q : Nat => base ≤ q)) #[.ref a0] s 0 0 (fun q : Nat => base ≤ q)) (F0 m 45 ls []) := by
          intro N; induction N with
          | zero =>
            intro locs ls z7_2 hS hl hz7_2 hN
            exact absurd hN (by have := iv_up hz7_2; omega)
          | succ N ih7 =>
            intro locs ls z7_2 hS hl hz7_2 hN7
            refine lv_iload_n X.1 X.2.1 dX2_winningCode_45 rfl (lv_at hl 2 rfl) ?_
            refine lv_aload_n X.1 X.2.1 dX2_winningCode_46 rfl (lv_at hl 0 rfl) ?_
            refine gf_X2_0 X hK hG h0 wl_2_144 dX2_winningCode_47 (fun q8 hq8 kq8 => ?_)
            refine gf_X8_8 X hK hG hq8 wl_2_52 dX2_winningCode_50 (fun f9 hf9 kf9 => ?_)
            refine lv_icmp_ge (tgt := 126) X.1 X.2.1 dX2_winningCode_53 (by decide) (fun c10 => ?_) (fun c10 => ?_)
            · refine lv_iconst (v := (-1)) X.1 X.2.1 dX2_winningCode_126 (by decide +kernel) ?_
              exact sg_iret X hr hlk hb hK hC hG hS trivial dX2_winningCode_127
            · refine lv_aload_n X.1 X.2.1 dX2_winningCode_56 rfl (lv_at hl 0 rfl) ?_
              refine lv_aload_n X.1 X.2.1 dX2_winningCode_57 rfl (lv_at hl 0 rfl) ?_
              refine gg_X2_0 X hK hG h0 wl_2_144 kq8 dX2_winningCode_58 ?_
              refine gf_X8_7 X hK hG hq8 wl_2_50 dX2_winningCode_61 (fun q11 hq11 kq11 => ?_)
              refine lv_iload_n X.1 X.2.1 dX2_winningCode_64 rfl (lv_at hl 2 rfl) ?_
              refine al_41 X hK hG hq11 (iv_vpin (iv_lt (b' := 269) (iv_gt_of c10) hz7_2 hf9 (by decide +kernel)) (by decide +kernel)) dX2_winningCode_65 (fun f12 hf12 => ?_)
              refine ca_X2_partWith X hK hG hC (fun _ h => h) hS hb a0 h0 f12 wl_5_196 hl.1 (rest := []) rfl (Nat.le_of_ble_eq_true rfl) ⟨Nat.le_of_ble_eq_true rfl, Nat.le_of_ble_eq_true rfl⟩ ⟨Nat.le_of_ble_eq_true rfl, Nat.le_of_ble_eq_true rfl⟩ dX2_winningCode_66 (fun f13 locs hf13 hS => ?_)
              refine lv_istore_n (lv' := [(3, .int f13), (0, .ref a0), (1, .int z1_1), (2, .int z7_2)]) X.1 X.2.1 dX2_winningCode_69 rfl hl (by decide) rfl (fun ls hl => ?_)
              refine lv_aload_n X.1 X.2.1 dX2_winningCode_70 rfl (lv_at hl 1 rfl) ?_
              refine gf_X2_1 X hK hG h0 wl_2_145 dX2_winningCode_71 (fun q14 hq14 kq14 => ?_)
              refine lv_iload_n X.1 X.2.1 dX2_winningCode_74 rfl (lv_at hl 0 rfl) ?_
              refine al_15 X hK hG hq14 (iv_vpin hf13 (by decide +kernel)) dX2_winningCode_75 (fun f15 hf15 => ?_)
              refine lv_istore (lv' := [(4, .int f15), (3, .int f13), (0, .ref a0), (1, .int z1_1), (2, .int z7_2)]) X.1 X.2.1 dX2_winningCode_76 hl (by decide) rfl (fun ls hl => ?_)
              refine lv_iload_n X.1 X.2.1 dX2_winningCode_78 rfl (lv_at hl 3 rfl) ?_
              refine lv_aload_n X.1 X.2.1 dX2_winningCode_79 rfl (lv_at hl 2 rfl) ?_
              refine lv_iload_n X.1 X.2.1 dX2_winningCode_80 rfl (lv_at hl 1 rfl) ?_
              refine lv_iload X.1 X.2.1 dX2_winningCode_81 (lv_at hl 0 rfl) ?_
              refine ca_X2_sumLeft_0 X hK hG hC (fun _ h => h) hS hb hp1 a0 h0 f13 hf13 f15 wl_5_195 hl.1 (rest := [.int z1_1]) rfl (Nat.le_of_ble_eq_true rfl) ⟨Nat.le_of_ble_eq_true rfl, Nat.le_of_ble_eq_true rfl⟩ ⟨Nat.le_of_ble_eq_true rfl, Nat.le_of_ble_eq_true rfl⟩ dX2_winningCode_83 (fun f16 locs hf16 hS => ?_)
              refine lv_ixor X.1 X.2.1 dX2_winningCode_86 ?_
              refine lv_topi (fun f17 ef17 => ?_)
              refine lv_aload_n X.1 X.2.1 dX2_winningCode_87 rfl (lv_at hl 2 rfl) ?_
              refine lv_iload_n X.1 X.2.1 dX2_winningCode_88 rfl (lv_at hl 1 rfl) ?_
              refine lv_iload X.1 X.2.1 dX2_winningCode_89 (lv_at hl 0 rfl) ?_
              refine lv_aload_n X.1 X.2.1 dX2_winningCode_91 rfl (lv_at hl 2 rfl) ?_
              refine gg_X2_0 X hK hG h0 wl_2_144 kq8 dX2_winningCode_92 ?_
              refine gg_X8_7 X hK hG hq8 wl_2_50 kq11 dX2_winningCode_95 ?_
              refine lv_iload_n X.1 X.2.1 dX2_winningCode_98 rfl (lv_at hl 4 rfl) ?_
              refine al_41 X hK hG hq11 (iv_vpin (iv_lt (b' := 269) (iv_gt_of c10) hz7_2 hf9 (by decide +kernel)) (by decide +kernel)) dX2_winningCode_99 (fun f18 hf18 => ?_)
              refine lv_iconst (v := (-1)) X.1 X.2.1 dX2_winningCode_100 (by decide +kernel) ?_
              refine lv_ixor X.1 X.2.1 dX2_winningCode_101 ?_
              refine lv_topi (fun f19 ef19 => ?_)
              refine lv_iand X.1 X.2.1 dX2_winningCode_102 ?_
              refine lv_topi (fun f20 ef20 => ?_)
              refine ca_X2_sumLeft_0 X hK hG hC (fun _ h => h) hS hb hp1 a0 h0 f13 hf13 f20 wl_5_195 hl.1 (rest := [.int f17]) rfl (Nat.le_of_ble_eq_true rfl) ⟨Nat.le_of_ble_eq_true rfl, Nat.le_of_ble_eq_true rfl⟩ ⟨Nat.le_of_ble_eq_true rfl, Nat.le_of_ble_eq_true rfl⟩ dX2_winningCode_103 (fun f21 locs hf21 hS => ?_)
              refine lv_ixor X.1 X.2.1 dX2_winningCode_106 ?_
              refine lv_topi (fun f22 ef22 => ?_)
              refine lv_if_ne (tgt := 120) X.1 X.2.1 dX2_winningCode_107 (by decide) (fun c23 => ?_) (fun c23 => ?_)
              · obtain ⟨y24, ey24⟩ : ∃ y : Int32, y = z7_2 + Int32.ofInt 1 := ⟨_, rfl⟩
                refine lv_iinc (v := y24) (lv' := [(2, .int y24), (4, .int f15), (3, .int f13), (0, .ref a0), (1, .int z1_1)]) X.1 X.2.1 dX2_winningCode_120 hl (k := 4) rfl ey24.symm (by decide) rfl (fun ls hl => ?_)
                refine lv_goto (tgt := 45) X.1 X.2.1 dX2_winningCode_123 (by decide) ?_
                exact ih7 _ _ y24 hS (lv_sub hl [3, 4, 0] rfl) (iv_of (iv_add (a' := 1) (b' := 270) ey24 (iv_lt (b' := 269) (iv_gt_of c10) hz7_2 hf9 (by decide +kernel)) (iv_c _ (a := 1) (b := 1) (by decide +kernel)) (by decide +kernel)) (a' := 0) (b' := 270) (by decide +kernel)) (iv_stepU ey24 (iv_lt (b' := 269) (iv_gt_of c10) hz7_2 hf9 (by decide +kernel)) (by decide +kernel) hN7)
              · refine lv_aload_n X.1 X.2.1 dX2_winningCode_110 rfl (lv_at hl 2 rfl) ?_
                refine gg_X2_0 X hK hG h0 wl_2_144 kq8 dX2_winningCode_111 ?_
                refine gf_X8_6 X hK hG hq8 wl_2_46 dX2_winningCode_114 (fun q25 hq25 kq25 => ?_)
                refine lv_iload_n X.1 X.2.1 dX2_winningCode_117 rfl (lv_at hl 4 rfl) ?_
                refine al_40 X hK hG hq25 (iv_vpin (iv_lt (b' := 269) (iv_gt_of c10) hz7_2 hf9 (by decide +kernel)) (by decide +kernel)) dX2_winningCode_118 (fun f26 hf26 => ?_)
                exact sg_iret X hr hlk hb hK hC hG hS trivial dX2_winningCode_119
        exact B7_45 _ _ _ 0 hS (lv_sub hl [1, 2, 0] rfl) (iv_of (iv_c 0 (a := 0) (b := 0) (by decide +kernel)) (a' := 0) (b' := 270) (by decide +kernel)) (Nat.le_refl _)
      · refine lv_iload_n X.1 X.2.1 dX2_winningCode_12 rfl (lv_at hl 1 rfl) ?_
        refine lv_aload_n X.1 X.2.1 dX2_winningCode_13 rfl (lv_at hl 0 rfl) ?_
        refine lv_iload_n X.1 X.2.1 dX2_winningCode_14 rfl (lv_at hl 2 rfl) ?_
        refine lv_aload_n X.1 X.2.1 dX2_winningCode_15 rfl (lv_at hl 0 rfl) ?_
        refine gf_X2_1 X hK hG h0 wl_2_145 dX2_winningCode_16 (fun q27 hq27 kq27 => ?_)
        refine lv_iload_n X.1 X.2.1 dX2_winningCode_19 rfl (lv_at hl 2 rfl) ?_
        refine al_15 X hK hG hq27 (iv_vpin (iv_lt (b' := 29) (iv_gt_of c3) hz1_2 hf2 (by decide +kernel)) (by decide +kernel)) dX2_winningCode_20 (fun f28 hf28 => ?_)
        refine ca_X2_sumLeft_0 X hK hG hC (fun _ h => h) hS hb hp1 a0 h0 z1_2 (iv_lt (b' := 29) (iv_gt_of c3) hz1_2 hf2 (by decide +kernel)) f28 wl_5_195 hl.1 (rest := [.int z1_1]) rfl (Nat.le_of_ble_eq_true rfl) ⟨Nat.le_of_ble_eq_true rfl, Nat.le_of_ble_eq_true rfl⟩ ⟨Nat.le_of_ble_eq_true rfl, Nat.le_of_ble_eq_true rfl⟩ dX2_winningCode_21 (fun f29 locs hf29 hS => ?_)
        refine lv_ixor X.1 X.2.1 dX2_winningCode_24 ?_
        refine lv_topi (fun f30 ef30 => ?_)
        refine lv_istore_n (lv' := [(1, .int f30), (0, .ref a0), (2, .int z1_2)]) X.1 X.2.1 dX2_winningCode_25 rfl hl (by decide) rfl (fun ls hl => ?_)
        obtain ⟨y31, ey31⟩ : ∃ y : Int32, y = z1_2 + Int32.ofInt 1 := ⟨_, rfl⟩
        refine lv_iinc (v := y31) (lv' := [(2, .int y31), (1, .int f30), (0, .ref a0)]) X.1 X.2.1 dX2_winningCode_26 hl (k := 2) rfl ey31.symm (by decide) rfl (fun ls hl => ?_)
        refine lv_goto (tgt := 4) X.1 X.2.1 dX2_winningCode_29 (by decide) ?_
        exact ih1 _ _ f30 y31 hS (lv_sub hl [2, 1, 0] rfl) (iv_of (iv_add (a' := 1) (b' := 30) ey31 (iv_lt (b' := 29) (iv_gt_of c3) hz1_2 hf2 (by decide +kernel)) (iv_c _ (a := 1) (b := 1) (by decide +kernel)) (by decide +kernel)) (a' := 0) (b' := 30) (by decide +kernel)) (iv_stepU ey31 (iv_lt (b' := 29) (iv_gt_of c3) hz1_2 hf2 (by decide +kernel)) (by decide +kernel) hN1)
  exact B1_4 _ _ _ 0 0 hS (lv_sub hl [2, 1, 0] rfl) (iv_of (iv_c 0 (a := 0) (b := 0) (by decide +kernel)) (a' := 0) (b' := 30) (by decide +kernel)) (Nat.le_refl _)

theorem ca_X2_winningCode_0   (X : CallFix p m c cc nL s args sg_tbl own) (hK : va_K D vwCl tys s) (hG : sgG (KT P) D vwCl (fun q : Nat => base ≤ q) tys ad ks H) (hC : sgC base s) (hS : va_S (fun q : Nat => base ≤ q) s.heap H locs) (hb : base ≤ s.heap.size) (hp1 : P.2.1 = false) (a0 : Nat) (h0 : isK ad ks 2 a0) (hl : Cond.methodLink own index yX2_winningCode ∈ sg_tbl) (hsize : ls.size = nL) (hst : st0 = [].reverse ++ .ref a0 :: rest) (hW : (rest.map fun v => v.category).sum ≤ 8) (hR : 5 ≤ R.frames ∧ 118 ≤ R.locals) (hf : cells ≤ R.cells ∧ slots ≤ R.slots) (hdg : decode cc pc = .ok (.invokevirtual index, 3)) (kk : ∀ (r : Int32) (H1 : Heap) (locs1 : List Loc), (fun r : Int32 => True) r → sgG (KT P) D vwCl (fun q : Nat => base ≤ q) tys ad ks H1 → va_S (fun q : Nat => base ≤ q) s.heap H1 locs1 → W p l e R s m args below meth c H1 locs1 cells slots Q (F0 m (pc + 3) ls (.int r :: rest))) : W p l e R s m args below meth c H locs cells slots Q (F0 m pc ls st0) :=
  sg_callVi X hK hG hC hS hb (m_X2_winningCode_0 l hp1 a0 h0) h0 (k := 2) (ci := 2) rfl (C := RX2) (T := TX2) (N := 10) rfl wl_5_194 wl_1_11 wl_5_192 wl_5_193 (n := 0) (by decide +kernel) rfl rfl rfl hl hsize hst hW hR hf hdg kk

set_option maxHeartbeats 8000000 in
set_option maxRecDepth 100000 in
theorem m_X2_sumUp_0 (l : Launch) {D : va_G} {base : Nat} {tys : List (ClassId × FieldType)} {ad ks : List Nat} {P : sgPm} (hp1 : P.2.1 = false) (a0 : Nat) (h0 : isK ad ks 2 a0) : Met l yX2_sumUp (Cond.code yX2_sumUp cX2_sumUp 4 none :: sg_tbl) ({ frames := 6, cells := 1, slots := 8256, locals := 143 }) (va_Pc [.ref a0] (sgB (KT P) D vwCl base tys ad ks)) (va_Qv (fun (_ : Unit) => True) (fun _ => fun t => ∃ (b : Bool) (tys2 : List (ClassId × FieldType)) (ad2 ks2 : List Nat), sgMo ad ks ad2 ks2 ∧ sgB (KT (sgPlTop (P.1, b, P.2.2))) D vwCl base tys2 ad2 ks2 t) (fun q : Nat => base ≤ q)) 1 8256 (fun q : Nat => base ≤ q) := by
  refine sg_ofN (by decide +kernel) (Nat.le_of_ble_eq_true rfl) (fun p e s m below meth c X hr hlk hb hK hC hG ls hl => ?_)
  have hS : va_S (fun q : Nat => base ≤ q) s.heap s.heap [] := va_S.rf
  have hl : lv_has ls 4 [(0, .ref a0)] := hl
  refine lv_aload_n X.1 X.2.1 dX2_sumUp_0 rfl (lv_at hl 0 rfl) ?_
  refine gf_X2_9 X hK hG h0 wl_2_155 dX2_sumUp_1 (fun f1 hf1 kf1 => ?_)
  refine lv_if_eq (tgt := 8) X.1 X.2.1 dX2_sumUp_4 (by decide) (fun c2 => ?_) (fun c2 => ?_)
  · refine lv_aload_n X.1 X.2.1 dX2_sumUp_8 rfl (lv_at hl 0 rfl) ?_
    refine gf_X2_4n X hK hG h0 hp1 wl_2_149 dX2_sumUp_9 (fun ku3 => ?_)
    refine lv_ifnonnullN X.1 X.2.1 dX2_sumUp_12 ?_
    refine lv_aload_n X.1 X.2.1 dX2_sumUp_15 rfl (lv_at hl 0 rfl) ?_
    refine lv_sipush (v := 8256) X.1 X.2.1 dX2_sumUp_16 (by decide +kernel) ?_
    refine sg_newi X hK hG hS hb (k := 18) rfl (fun _ _ _ => ⟨_, rfl, iv_top _⟩) (by decide) wl_1_56 (by decide +kernel) (by decide +kernel) (by decide +kernel) (Nat.le_of_ble_eq_true rfl) (Nat.le_of_ble_eq_true rfl) dX2_sumUp_19 (fun q4 tys1 ad1 ks1 H hmo hq4 hK hG hS => ?_)
    have oa0 := hmo _ _ h0
    refine pf_X2_4xs X hK hG hS oa0 wl_2_149 (Or.inr ⟨_, rfl, hq4⟩) dX2_sumUp_21 (fun H locs hG hS => ?_)
    have hG : sgG (KT (sgPlTop (P.1, true, P.2.2))) D vwCl _ tys1 ad1 ks1 _ := sg_plTop hG
    refine lv_iconst (v := 0) X.1 X.2.1 dX2_sumUp_24 (by decide +kernel) ?_
    refine lv_istore_n (lv' := [(1, .int 0), (0, .ref a0)]) X.1 X.2.1 dX2_sumUp_25 rfl hl (by decide) rfl (fun ls hl => ?_)
    refine lv_iconst (v := 0) X.1 X.2.1 dX2_sumUp_26 (by decide +kernel) ?_
    refine lv_istore_n (lv' := [(2, .int 0), (1, .int 0), (0, .ref a0)]) X.1 X.2.1 dX2_sumUp_27 rfl hl (by decide) rfl (fun ls hl => ?_)
    have B5_28 : ∀ (N : Nat) (H : Heap) (locs : List Loc) (ls : Array Slot) (z5_1 : Int32) (z5_2 : Int32), sgG (KT (sgPlTop (P.1, true, P.2.2))) D vwCl (fun q : Nat => base ≤ q) tys1 ad1 ks1 H → va_S (fun q : Nat => base ≤ q) s.heap H locs → lv_has ls 4 [(0, .ref a0), (1, .int z5_1), (2, .int z5_2)] → iv 0 8256 z5_1 → iv 0 30 z5_2 → (31 - z5_2.toInt).toNat ≤ N → W p l e (headSpec (Cond.code yX2_sumUp cX2_sumUp 4 none :: sg_tbl) ({ frames := 6, cells := 1, slots := 8256, locals := 143 })).room s m #[.ref a0] below meth c H locs 1 8256 (MQ below (va_Qv (fun (_ : Unit) => True) (fun _ => fun t => ∃ (b : Bool) (tys2 : List (ClassId × FieldType)) (ad2 ks2 : List Nat), sgMo ad ks ad2 ks2 ∧ sgB (KT (sgPlTop (P.1, b, P.2.2))) D vwCl base tys2 ad2 ks2 t) (fun q : Nat => base ≤ q)) #[.ref a0] s 1 8256 (fun q : Nat => base ≤ q)) (F0 m 28 ls []) := by
      intro N; induction N with
      | zero =>
        intro H locs ls z5_1 z5_2 hG hS hl hz5_1 hz5_2 hN
        exact absurd hN (by have := iv_up hz5_2; omega)
      | succ N ih5 =>
        intro H locs ls z5_1 z5_2 hG hS hl hz5_1 hz5_2 hN5
        refine lv_iload_n X.1 X.2.1 dX2_sumUp_28 rfl (lv_at hl 2 rfl) ?_
        refine lv_aload_n X.1 X.2.1 dX2_sumUp_29 rfl (lv_at hl 0 rfl) ?_
        refine gf_X2_6 X hK hG oa0 wl_2_151 dX2_sumUp_30 (fun f6 hf6 kf6 => ?_)
        refine lv_icmp_ge (tgt := 92) X.1 X.2.1 dX2_sumUp_33 (by decide) (fun c7 => ?_) (fun c7 => ?_)
        · refine lv_aload_n X.1 X.2.1 dX2_sumUp_92 rfl (lv_at hl 0 rfl) ?_
          refine lv_iconst (v := 1) X.1 X.2.1 dX2_sumUp_93 (by decide +kernel) ?_
          refine pf_X2_9 X hK hG hS oa0 wl_2_155 ⟨_, rfl, (iv_of (iv_c 1 (a := 1) (b := 1) (by decide +kernel)) (a' := 0) (b' := 1) (by decide +kernel))⟩ dX2_sumUp_94 (fun H locs hG hS ku8 ru8 => ?_)
          exact sg_vretN X hr hlk hS (fun t ht hW => ⟨_, _, _, _, hmo, sg_post hb hK hC hG hS ht hW⟩) dX2_sumUp_97
        · refine lv_aload_n X.1 X.2.1 dX2_sumUp_36 rfl (lv_at hl 0 rfl) ?_
          refine lv_iload_n X.1 X.2.1 dX2_sumUp_37 rfl (lv_at hl 2 rfl) ?_
          refine ca_X2_isSmall_s X hK hG hC (fun _ h => h) hS hb a0 oa0 z5_2 (iv_lt (b' := 29) (iv_gt_of c7) hz5_2 hf6 (by decide +kernel)) wl_5_161 hl.1 (rest := []) rfl (Nat.le_of_ble_eq_true rfl) ⟨Nat.le_of_ble_eq_true rfl, Nat.le_of_ble_eq_true rfl⟩ ⟨Nat.le_of_ble_eq_true rfl, Nat.le_of_ble_eq_true rfl⟩ dX2_sumUp_38 (fun f9 locs hf9 hS => ?_)
          refine lv_if_eq (tgt := 58) X.1 X.2.1 dX2_sumUp_41 (by decide) (fun c10 => ?_) (fun c10 => ?_)
          · refine lv_iconst (v := 0) X.1 X.2.1 dX2_sumUp_58 (by decide +kernel) ?_
            refine lv_istore_n (lv' := [(3, .int 0), (0, .ref a0), (1, .int z5_1), (2, .int z5_2)]) X.1 X.2.1 dX2_sumUp_59 rfl hl (by decide) rfl (fun ls hl => ?_)
            refine lv_iload_n X.1 X.2.1 dX2_sumUp_60 rfl (lv_at hl 2 rfl) ?_
            refine lv_iload_n X.1 X.2.1 dX2_sumUp_61 rfl (lv_at hl 0 rfl) ?_
            refine lv_iadd X.1 X.2.1 dX2_sumUp_62 ?_
            refine lv_topi (fun f12 ef12 => ?_)
            refine lv_sipush (v := 8256) X.1 X.2.1 dX2_sumUp_63 (by decide +kernel) ?_
            have B14_86 : ∀ (H : Heap) (locs : List Loc) (ls : Array Slot) (z14_1 : Int32), sgG (KT (sgPlTop (P.1, true, P.2.2))) D vwCl (fun q : Nat => base ≤ q) tys1 ad1 ks1 H → va_S (fun q : Nat => base ≤ q) s.heap H locs → lv_has ls 4 [(0, .ref a0), (1, .int z14_1), (2, .int z5_2)] → iv 0 8256 z14_1 → W p l e (headSpec (Cond.code yX2_sumUp cX2_sumUp 4 none :: sg_tbl) ({ frames := 6, cells := 1, slots := 8256, locals := 143 })).room s m #[.ref a0] below meth c H locs 1 8256 (MQ below (va_Qv (fun (_ : Unit) => True) (fun _ => fun t => ∃ (b : Bool) (tys2 : List (ClassId × FieldType)) (ad2 ks2 : List Nat), sgMo ad ks ad2 ks2 ∧ sgB (KT (sgPlTop (P.1, b, P.2.2))) D vwCl base tys2 ad2 ks2 t) (fun q : Nat => base ≤ q)) #[.ref a0] s 1 8256 (fun q : Nat => base ≤ q)) (F0 m 86 ls []) := by
              intro H locs ls z14_1 hG hS hl hz14_1
              obtain ⟨y15, ey15⟩ : ∃ y : Int32, y = z5_2 + Int32.ofInt 1 := ⟨_, rfl⟩
              refine lv_iinc (v := y15) (lv' := [(2, .int y15), (0, .ref a0), (1, .int z14_1)]) X.1 X.2.1 dX2_sumUp_86 hl (k := 2) rfl ey15.symm (by decide) rfl (fun ls hl => ?_)
              refine lv_goto (tgt := 28) X.1 X.2.1 dX2_sumUp_89 (by decide) ?_
              have bq16 : 0 ≤ z14_1.toInt ∧ z14_1.toInt ≤ 8256 := hz14_1
              have bq17 : 0 ≤ z5_2.toInt ∧ z5_2.toInt ≤ 30 := hz5_2
              have bq18 : 0 ≤ f6.toInt ∧ f6.toInt ≤ 30 := hf6
              have rr19 : (z5_2 : Int32).toInt < (f6 : Int32).toInt := Int32.lt_iff_toInt_lt.mp (iv_gt_of c7)
              exact ih5 H _ _ z14_1 y15 hG hS (lv_sub hl [1, 2, 0] rfl) ⟨by omega, by omega⟩ (iv_of (iv_add (a' := 1) (b' := 30) ey15 (iv_lt (b' := 29) (iv_gt_of c7) hz5_2 hf6 (by decide +kernel)) (iv_c _ (a := 1) (b := 1) (by decide +kernel)) (by decide +kernel)) (a' := 0) (b' := 30) (by decide +kernel)) (iv_stepU ey15 (iv_lt (b' := 29) (iv_gt_of c7) hz5_2 hf6 (by decide +kernel)) (by decide +kernel) hN5)
            refine lv_icmp_gt (tgt := 86) X.1 X.2.1 dX2_sumUp_66 (by decide) (fun c13 => ?_) (fun c13 => ?_)
            · exact ((iv_no (iv_lt (b' := 8255) c13 (iv_c 8256 (a := 8256) (b := 8256) (by decide +kernel)) (iv_add (a' := 0) (b' := 8256) ef12 hz5_1 (iv_c 0 (a := 0) (b := 0) (by decide +kernel)) (by decide +kernel)) (by decide +kernel)) (by decide +kernel))).elim
            · refine lv_aload_n X.1 X.2.1 dX2_sumUp_69 rfl (lv_at hl 1 rfl) ?_
              refine gf_X2_2 X hK hG oa0 wl_2_147 dX2_sumUp_70 (fun q20 hq20 kq20 => ?_)
              refine lv_iload_n X.1 X.2.1 dX2_sumUp_73 rfl (lv_at hl 3 rfl) ?_
              refine lv_iload_n X.1 X.2.1 dX2_sumUp_74 rfl (lv_at hl 2 rfl) ?_
              refine as_16p X hK hG hS hq20 (iv_vpin (iv_lt (b' := 29) (iv_gt_of c7) hz5_2 hf6 (by decide +kernel)) (by decide +kernel)) hz5_1 dX2_sumUp_75 (fun H locs hG hS => ?_)
              refine lv_aload_n X.1 X.2.1 dX2_sumUp_76 rfl (lv_at hl 1 rfl) ?_
              refine lv_iload_n X.1 X.2.1 dX2_sumUp_77 rfl (lv_at hl 3 rfl) ?_
              refine lv_iload_n X.1 X.2.1 dX2_sumUp_78 rfl (lv_at hl 0 rfl) ?_
              have bq21 : 0 ≤ z5_1.toInt ∧ z5_1.toInt ≤ 8256 := hz5_1
              have cq22 : (0 : Int32).toInt = 0 := by decide +kernel
              have bq23 : 0 ≤ z5_2.toInt ∧ z5_2.toInt ≤ 30 := hz5_2
              have bq24 : 0 ≤ f6.toInt ∧ f6.toInt ≤ 30 := hf6
              have rr25 : (z5_2 : Int32).toInt < (f6 : Int32).toInt := Int32.lt_iff_toInt_lt.mp (iv_gt_of c7)
              have xf12 : f12.toInt = z5_1.toInt + 0 := sg_inc (k := 0) ef12 hz5_1 (by decide +kernel)
              have cq26 : (8256 : Int32).toInt = 8256 := by decide +kernel
              have rr27 : (f12 : Int32).toInt ≤ (8256 : Int32).toInt := Int32.le_iff_toInt_le.mp (iv_ge_of c13)
              refine ca_X2_sumPart_1 X hK hG hC hS hb rfl a0 oa0 z5_2 (iv_lt (b' := 29) (iv_gt_of c7) hz5_2 hf6 (by decide +kernel)) 0 (iv_of (iv_c 0 (a := 0) (b := 0) (by decide +kernel)) (a' := 0) (b' := 4096) (by decide +kernel)) (sg_plok (by omega) (by omega)) wl_5_162 hl.1 (rest := []) rfl (Nat.le_of_ble_eq_true rfl) ⟨Nat.le_of_ble_eq_true rfl, Nat.le_of_ble_eq_true rfl⟩ ⟨Nat.le_of_ble_eq_true rfl, Nat.le_of_ble_eq_true rfl⟩ dX2_sumUp_79 (fun H locs hG hS => ?_)
              have hG : sgG (KT (sgPlTop (P.1, true, P.2.2))) D vwCl _ tys1 ad1 ks1 _ := sg_plTop2 hG
              refine lv_iload_n X.1 X.2.1 dX2_sumUp_82 rfl (lv_at hl 2 rfl) ?_
              refine lv_iload_n X.1 X.2.1 dX2_sumUp_83 rfl (lv_at hl 0 rfl) ?_
              refine lv_iadd X.1 X.2.1 dX2_sumUp_84 ?_
              refine lv_topi (fun f29 ef29 => ?_)
              refine lv_istore_n (lv' := [(1, .int f29), (3, .int 0), (0, .ref a0), (2, .int z5_2)]) X.1 X.2.1 dX2_sumUp_85 rfl hl (by decide) rfl (fun ls hl => ?_)
              have bq30 : 0 ≤ z5_1.toInt ∧ z5_1.toInt ≤ 8256 := hz5_1
              have xf29 : f29.toInt = z5_1.toInt + 0 := sg_inc (k := 0) ef29 hz5_1 (by decide +kernel)
              have bq31 : 0 ≤ z5_2.toInt ∧ z5_2.toInt ≤ 30 := hz5_2
              have bq32 : 0 ≤ f6.toInt ∧ f6.toInt ≤ 30 := hf6
              have rr33 : (z5_2 : Int32).toInt < (f6 : Int32).toInt := Int32.lt_iff_toInt_lt.mp (iv_gt_of c7)
              have xf12 : f12.toInt = z5_1.toInt + 0 := sg_inc (k := 0) ef12 hz5_1 (by decide +kernel)
              have cq34 : (8256 : Int32).toInt = 8256 := by decide +kernel
              have rr35 : (f12 : Int32).toInt ≤ (8256 : Int32).toInt := Int32.le_iff_toInt_le.mp (iv_ge_of c13)
              exact B14_86 H _ _ f29 hG hS (lv_sub hl [2, 0, 3] rfl) ⟨by omega, by omega⟩
          · obtain ⟨qy11, vy11, kqy11, kfy11, key11, kpy11⟩ := hf9.2 c10
            refine lv_iconst (v := 1) X.1 X.2.1 dX2_sumUp_44 (by decide +kernel) ?_
            refine lv_aload_n X.1 X.2.1 dX2_sumUp_45 rfl (lv_at hl 0 rfl) ?_
            refine gg_X2_1 X hK hG oa0 wl_2_145 kfy11 dX2_sumUp_46 ?_
            refine lv_iload_n X.1 X.2.1 dX2_sumUp_49 rfl (lv_at hl 2 rfl) ?_
            refine sg_ialdK X hK hG kqy11 (k := 15) rfl (iv_vpin (iv_lt (b' := 29) (iv_gt_of c7) hz5_2 hf6 (by decide +kernel)) (by decide +kernel)) (n0 := z5_2.toNatClampNeg) rfl key11 dX2_sumUp_50 ?_
            refine ca_J6_bitCount_0f7a4_q X hK hG hC (fun _ h => h) hS hb vy11 wl_5_156 hl.1 (rest := [.int 1]) rfl (Nat.le_of_ble_eq_true rfl) ⟨Nat.le_of_ble_eq_true rfl, Nat.le_of_ble_eq_true rfl⟩ ⟨Nat.le_of_ble_eq_true rfl, Nat.le_of_ble_eq_true rfl⟩ dX2_sumUp_51 (fun f37 locs hf37 hS => ?_)
            refine lv_ishl X.1 X.2.1 dX2_sumUp_54 ?_
            refine lv_topi (fun f38 ef38 => ?_)
            refine lv_goto (tgt := 59) X.1 X.2.1 dX2_sumUp_55 (by decide) ?_
            refine lv_istore_n (lv' := [(3, .int f38), (0, .ref a0), (1, .int z5_1), (2, .int z5_2)]) X.1 X.2.1 dX2_sumUp_59 rfl hl (by decide) rfl (fun ls hl => ?_)
            refine lv_iload_n X.1 X.2.1 dX2_sumUp_60 rfl (lv_at hl 2 rfl) ?_
            refine lv_iload_n X.1 X.2.1 dX2_sumUp_61 rfl (lv_at hl 0 rfl) ?_
            refine lv_iadd X.1 X.2.1 dX2_sumUp_62 ?_
            refine lv_topi (fun f39 ef39 => ?_)
            refine lv_sipush (v := 8256) X.1 X.2.1 dX2_sumUp_63 (by decide +kernel) ?_
            have B41_86 : ∀ (H : Heap) (locs : List Loc) (ls : Array Slot) (z41_1 : Int32), sgG (KT (sgPlTop (P.1, true, P.2.2))) D vwCl (fun q : Nat => base ≤ q) tys1 ad1 ks1 H → va_S (fun q : Nat => base ≤ q) s.heap H locs → lv_has ls 4 [(0, .ref a0), (1, .int z41_1), (2, .int z5_2)] → iv 0 8256 z41_1 → W p l e (headSpec (Cond.code yX2_sumUp cX2_sumUp 4 none :: sg_tbl) ({ frames := 6, cells := 1, slots := 8256, locals := 143 })).room s m #[.ref a0] below meth c H locs 1 8256 (MQ below (va_Qv (fun (_ : Unit) => True) (fun _ => fun t => ∃ (b : Bool) (tys2 : List (ClassId × FieldType)) (ad2 ks2 : List Nat), sgMo ad ks ad2 ks2 ∧ sgB (KT (sgPlTop (P.1, b, P.2.2))) D vwCl base tys2 ad2 ks2 t) (fun q : Nat => base ≤ q)) #[.ref a0] s 1 8256 (fun q : Nat => base ≤ q)) (F0 m 86 ls []) := by
              intro H locs ls z41_1 hG hS hl hz41_1
              obtain ⟨y42, ey42⟩ : ∃ y : Int32, y = z5_2 + Int32.ofInt 1 := ⟨_, rfl⟩
              refine lv_iinc (v := y42) (lv' := [(2, .int y42), (0, .ref a0), (1, .int z41_1)]) X.1 X.2.1 dX2_sumUp_86 hl (k := 2) rfl ey42.symm (by decide) rfl (fun ls hl => ?_)
              refine lv_goto (tgt := 28) X.1 X.2.1 dX2_sumUp_89 (by decide) ?_
              have bq43 : 0 ≤ z41_1.toInt ∧ z41_1.toInt ≤ 8256 := hz41_1
              have bq44 : 0 ≤ z5_2.toInt ∧ z5_2.toInt ≤ 30 := hz5_2
              have bq45 : 0 ≤ f6.toInt ∧ f6.toInt ≤ 30 := hf6
              have rr46 : (z5_2 : Int32).toInt < (f6 : Int32).toInt := Int32.lt_iff_toInt_lt.mp (iv_gt_of c7)
              exact ih5 H _ _ z41_1 y42 hG hS (lv_sub hl [1, 2, 0] rfl) ⟨by omega, by omega⟩ (iv_of (iv_add (a' := 1) (b' := 30) ey42 (iv_lt (b' := 29) (iv_gt_of c7) hz5_2 hf6 (by decide +kernel)) (iv_c _ (a := 1) (b := 1) (by decide +kernel)) (by decide +kernel)) (a' := 0) (b' := 30) (by decide +kernel)) (iv_stepU ey42 (iv_lt (b' := 29) (iv_gt_of c7) hz5_2 hf6 (by decide +kernel)) (by decide +kernel) hN5)
            refine lv_icmp_gt (tgt := 86) X.1 X.2.1 dX2_sumUp_66 (by decide) (fun c40 => ?_) (fun c40 => ?_)
            · have bq47 : 0 ≤ z5_1.toInt ∧ z5_1.toInt ≤ 8256 := hz5_1
              have bq48 : 0 ≤ z5_2.toInt ∧ z5_2.toInt ≤ 30 := hz5_2
              have bq49 : 0 ≤ f6.toInt ∧ f6.toInt ≤ 30 := hf6
              have rr50 : (z5_2 : Int32).toInt < (f6 : Int32).toInt := Int32.lt_iff_toInt_lt.mp (iv_gt_of c7)
              have bq51 : 1 ≤ f38.toInt ∧ f38.toInt ≤ 4096 := (sg_shl1 ef38 (sg_popb hf37.2 kpy11 hf37.1) (by decide +kernel))
              have xf39 : f39.toInt = z5_1.toInt + f38.toInt := sg_exadd ef39 hz5_1 (sg_shl1 ef38 (sg_popb hf37.2 kpy11 hf37.1) (by decide +kernel)) (by decide +kernel) rfl rfl
              have cq52 : (8256 : Int32).toInt = 8256 := by decide +kernel
              have rr53 : (8256 : Int32).toInt < (f39 : Int32).toInt := Int32.lt_iff_toInt_lt.mp c40
              exact B41_86 H _ _ z5_1 hG hS (lv_sub hl [1, 2, 3] rfl) ⟨by omega, by omega⟩
            · refine lv_aload_n X.1 X.2.1 dX2_sumUp_69 rfl (lv_at hl 1 rfl) ?_
              refine gf_X2_2 X hK hG oa0 wl_2_147 dX2_sumUp_70 (fun q54 hq54 kq54 => ?_)
              refine lv_iload_n X.1 X.2.1 dX2_sumUp_73 rfl (lv_at hl 3 rfl) ?_
              refine lv_iload_n X.1 X.2.1 dX2_sumUp_74 rfl (lv_at hl 2 rfl) ?_
              refine as_16p X hK hG hS hq54 (iv_vpin (iv_lt (b' := 29) (iv_gt_of c7) hz5_2 hf6 (by decide +kernel)) (by decide +kernel)) hz5_1 dX2_sumUp_75 (fun H locs hG hS => ?_)
              refine lv_aload_n X.1 X.2.1 dX2_sumUp_76 rfl (lv_at hl 1 rfl) ?_
              refine lv_iload_n X.1 X.2.1 dX2_sumUp_77 rfl (lv_at hl 3 rfl) ?_
              refine lv_iload_n X.1 X.2.1 dX2_sumUp_78 rfl (lv_at hl 0 rfl) ?_
              have bq55 : 0 ≤ z5_1.toInt ∧ z5_1.toInt ≤ 8256 := hz5_1
              have bq56 : 1 ≤ f38.toInt ∧ f38.toInt ≤ 4096 := (sg_shl1 ef38 (sg_popb hf37.2 kpy11 hf37.1) (by decide +kernel))
              have bq57 : 0 ≤ z5_2.toInt ∧ z5_2.toInt ≤ 30 := hz5_2
              have bq58 : 0 ≤ f6.toInt ∧ f6.toInt ≤ 30 := hf6
              have rr59 : (z5_2 : Int32).toInt < (f6 : Int32).toInt := Int32.lt_iff_toInt_lt.mp (iv_gt_of c7)
              have xf39 : f39.toInt = z5_1.toInt + f38.toInt := sg_exadd ef39 hz5_1 (sg_shl1 ef38 (sg_popb hf37.2 kpy11 hf37.1) (by decide +kernel)) (by decide +kernel) rfl rfl
              have cq60 : (8256 : Int32).toInt = 8256 := by decide +kernel
              have rr61 : (f39 : Int32).toInt ≤ (8256 : Int32).toInt := Int32.le_iff_toInt_le.mp (iv_ge_of c40)
              refine ca_X2_sumPart_1 X hK hG hC hS hb rfl a0 oa0 z5_2 (iv_lt (b' := 29) (iv_gt_of c7) hz5_2 hf6 (by decide +kernel)) f38 (iv_of (sg_shl1 ef38 (sg_popb hf37.2 kpy11 hf37.1) (by decide +kernel)) (a' := 0) (b' := 4096) (by decide +kernel)) (sg_plok (by omega) (by omega)) wl_5_162 hl.1 (rest := []) rfl (Nat.le_of_ble_eq_true rfl) ⟨Nat.le_of_ble_eq_true rfl, Nat.le_of_ble_eq_true rfl⟩ ⟨Nat.le_of_ble_eq_true rfl, Nat.le_of_ble_eq_true rfl⟩ dX2_sumUp_79 (fun H locs hG hS => ?_)
              have hG : sgG (KT (sgPlTop (P.1, true, P.2.2))) D vwCl _ tys1 ad1 ks1 _ := sg_plTop2 hG
              refine lv_iload_n X.1 X.2.1 dX2_sumUp_82 rfl (lv_at hl 2 rfl) ?_
              refine lv_iload_n X.1 X.2.1 dX2_sumUp_83 rfl (lv_at hl 0 rfl) ?_
              refine lv_iadd X.1 X.2.1 dX2_sumUp_84 ?_
              refine lv_topi (fun f63 ef63 => ?_)
              refine lv_istore_n (lv' := [(1, .int f63), (3, .int f38), (0, .ref a0), (2, .int z5_2)]) X.1 X.2.1 dX2_sumUp_85 rfl hl (by decide) rfl (fun ls hl => ?_)
              have bq64 : 0 ≤ z5_1.toInt ∧ z5_1.toInt ≤ 8256 := hz5_1
              have bq65 : 1 ≤ f38.toInt ∧ f38.toInt ≤ 4096 := (sg_shl1 ef38 (sg_popb hf37.2 kpy11 hf37.1) (by decide +kernel))
              have xf63 : f63.toInt = z5_1.toInt + f38.toInt := sg_exadd ef63 hz5_1 (sg_shl1 ef38 (sg_popb hf37.2 kpy11 hf37.1) (by decide +kernel)) (by decide +kernel) rfl rfl
              have bq66 : 0 ≤ z5_2.toInt ∧ z5_2.toInt ≤ 30 := hz5_2
              have bq67 : 0 ≤ f6.toInt ∧ f6.toInt ≤ 30 := hf6
              have rr68 : (z5_2 : Int32).toInt < (f6 : Int32).toInt := Int32.lt_iff_toInt_lt.mp (iv_gt_of c7)
              have xf39 : f39.toInt = z5_1.toInt + f38.toInt := sg_exadd ef39 hz5_1 (sg_shl1 ef38 (sg_popb hf37.2 kpy11 hf37.1) (by decide +kernel)) (by decide +kernel) rfl rfl
              have cq69 : (8256 : Int32).toInt = 8256 := by decide +kernel
              have rr70 : (f39 : Int32).toInt ≤ (8256 : Int32).toInt := Int32.le_iff_toInt_le.mp (iv_ge_of c40)
              exact B41_86 H _ _ f63 hG hS (lv_sub hl [2, 0, 3] rfl) ⟨by omega, by omega⟩
    have cq71 : (0 : Int32).toInt = 0 := by decide +kernel
    exact B5_28 _ H _ _ 0 0 hG hS (lv_sub hl [2, 1, 0] rfl) (iv_of (iv_c 0 (a := 0) (b := 0) (by decide +kernel)) (a' := 0) (b' := 8256) (by decide +kernel)) (iv_of (iv_c 0 (a := 0) (b := 0) (by decide +kernel)) (a' := 0) (b' := 30) (by decide +kernel)) (Nat.le_refl _)
  · have hG := sg_plTopF hp1 hG
    refine W.widen (k := 1) (n := 8256) (Nat.le_of_ble_eq_true rfl) (Nat.le_of_ble_eq_true rfl) ?_
    exact sg_vretN X hr hlk hS (fun t ht hW => ⟨false, _, _, _, sgMo.rf _ _, sg_post hb hK hC hG hS ht hW⟩) dX2_sumUp_7

theorem ca_X2_sumUp_0   (X : CallFix p m c cc nL s args sg_tbl own) (hK : va_K D vwCl tys s) (hG : sgG (KT P) D vwCl (fun q : Nat => base ≤ q) tys ad ks H) (hC : sgC base s) (hS : va_S (fun q : Nat => base ≤ q) s.heap H locs) (hb : base ≤ s.heap.size) (hp1 : P.2.1 = false) (a0 : Nat) (h0 : isK ad ks 2 a0) (hl : Cond.methodLink own index yX2_sumUp ∈ sg_tbl) (hsize : ls.size = nL) (hst : st0 = [].reverse ++ .ref a0 :: rest) (hW : (rest.map fun v => v.category).sum ≤ 8) (hR : 7 ≤ R.frames ∧ 166 ≤ R.locals) (hf : cells + 1 ≤ R.cells ∧ slots + 8256 ≤ R.slots) (hdg : decode cc pc = .ok (.invokevirtual index, 3)) (kk : ∀ (t : State) (H1 : Heap) (locs1 : List Loc), s.vm.Alike t.vm → t.heap = H1 → ((fun t => ∃ (b : Bool) (tys2 : List (ClassId × FieldType)) (ad2 ks2 : List Nat), sgMo ad ks ad2 ks2 ∧ sgB (KT (sgPlTop (P.1, b, P.2.2))) D vwCl base tys2 ad2 ks2 t) t) → va_S (fun q : Nat => base ≤ q) s.heap H1 locs1 → W p l e R s m args below meth c H1 locs1 (cells + 1) (slots + 8256) Q (F0 m (pc + 3) ls rest)) : W p l e R s m args below meth c H locs cells slots Q (F0 m pc ls st0) :=
  sg_callNv X hK hG hC hS hb (m_X2_sumUp_0 l hp1 a0 h0) h0 (k := 2) (ci := 2) rfl (C := RX2) (T := TX2) (N := 10) rfl wl_5_160 wl_1_11 wl_5_158 wl_5_159 (n := 0) (by decide +kernel) rfl rfl rfl hl hsize hst hW hR hf hdg kk
end
