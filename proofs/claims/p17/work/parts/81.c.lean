abbrev cX2_sumLeft : ByteArray := prog_4_method_11_code
def yX2_sumLeft : MethodName := ⟨RX2, "sumLeft", "(II)I"⟩
abbrev cX2_sumUp : ByteArray := prog_4_method_9_code
def yX2_sumUp : MethodName := ⟨RX2, "sumUp", "()V"⟩
theorem dX2_sumLeft_0 : decode cX2_sumLeft 0 = .ok (.aload_n 0, 1) := by decide +kernel
theorem dX2_sumLeft_1 : decode cX2_sumLeft 1 = .ok (.getfield 15, 3) := by decide +kernel
theorem dX2_sumLeft_4 : decode cX2_sumLeft 4 = .ok (.iload_n 1, 1) := by decide +kernel
theorem dX2_sumLeft_5 : decode cX2_sumLeft 5 = .ok (.iaload, 1) := by decide +kernel
theorem dX2_sumLeft_6 : decode cX2_sumLeft 6 = .ok (.aload_n 0, 1) := by decide +kernel
theorem dX2_sumLeft_7 : decode cX2_sumLeft 7 = .ok (.iload_n 1, 1) := by decide +kernel
theorem dX2_sumLeft_8 : decode cX2_sumLeft 8 = .ok (.iload_n 2, 1) := by decide +kernel
theorem dX2_sumLeft_9 : decode cX2_sumLeft 9 = .ok (.invokevirtual 74, 3) := by decide +kernel
theorem dX2_sumLeft_12 : decode cX2_sumLeft 12 = .ok (.iadd, 1) := by decide +kernel
theorem dX2_sumLeft_13 : decode cX2_sumLeft 13 = .ok (.istore_n 3, 1) := by decide +kernel
theorem dX2_sumLeft_14 : decode cX2_sumLeft 14 = .ok (.aload_n 0, 1) := by decide +kernel
theorem dX2_sumLeft_15 : decode cX2_sumLeft 15 = .ok (.getfield 77, 3) := by decide +kernel
theorem dX2_sumLeft_18 : decode cX2_sumLeft 18 = .ok (.ifnull 10, 3) := by decide +kernel
theorem dX2_sumLeft_21 : decode cX2_sumLeft 21 = .ok (.iload_n 3, 1) := by decide +kernel
theorem dX2_sumLeft_22 : decode cX2_sumLeft 22 = .ok (.sipush 8256, 3) := by decide +kernel
theorem dX2_sumLeft_25 : decode cX2_sumLeft 25 = .ok (.if_icmp .lt 7, 3) := by decide +kernel
theorem dX2_sumLeft_28 : decode cX2_sumLeft 28 = .ok (.iconst 0, 1) := by decide +kernel
theorem dX2_sumLeft_29 : decode cX2_sumLeft 29 = .ok (.goto 9, 3) := by decide +kernel
theorem dX2_sumLeft_32 : decode cX2_sumLeft 32 = .ok (.aload_n 0, 1) := by decide +kernel
theorem dX2_sumLeft_33 : decode cX2_sumLeft 33 = .ok (.getfield 77, 3) := by decide +kernel
theorem dX2_sumLeft_36 : decode cX2_sumLeft 36 = .ok (.iload_n 3, 1) := by decide +kernel
theorem dX2_sumLeft_37 : decode cX2_sumLeft 37 = .ok (.iaload, 1) := by decide +kernel
theorem dX2_sumLeft_38 : decode cX2_sumLeft 38 = .ok (.ireturn, 1) := by decide +kernel
theorem dX2_sumUp_0 : decode cX2_sumUp 0 = .ok (.aload_n 0, 1) := by decide +kernel
theorem dX2_sumUp_1 : decode cX2_sumUp 1 = .ok (.getfield 35, 3) := by decide +kernel
theorem dX2_sumUp_4 : decode cX2_sumUp 4 = .ok (.ifCond .eq 4, 3) := by decide +kernel
theorem dX2_sumUp_7 : decode cX2_sumUp 7 = .ok (.return_, 1) := by decide +kernel
theorem dX2_sumUp_8 : decode cX2_sumUp 8 = .ok (.aload_n 0, 1) := by decide +kernel
theorem dX2_sumUp_9 : decode cX2_sumUp 9 = .ok (.getfield 77, 3) := by decide +kernel
theorem dX2_sumUp_12 : decode cX2_sumUp 12 = .ok (.ifnonnull 12, 3) := by decide +kernel
theorem dX2_sumUp_24 : decode cX2_sumUp 24 = .ok (.iconst 0, 1) := by decide +kernel
theorem dX2_sumUp_25 : decode cX2_sumUp 25 = .ok (.istore_n 1, 1) := by decide +kernel
theorem dX2_sumUp_26 : decode cX2_sumUp 26 = .ok (.iconst 0, 1) := by decide +kernel
theorem dX2_sumUp_27 : decode cX2_sumUp 27 = .ok (.istore_n 2, 1) := by decide +kernel
theorem dX2_sumUp_28 : decode cX2_sumUp 28 = .ok (.iload_n 2, 1) := by decide +kernel
theorem dX2_sumUp_29 : decode cX2_sumUp 29 = .ok (.aload_n 0, 1) := by decide +kernel
theorem dX2_sumUp_30 : decode cX2_sumUp 30 = .ok (.getfield 38, 3) := by decide +kernel
theorem dX2_sumUp_33 : decode cX2_sumUp 33 = .ok (.if_icmp .ge 59, 3) := by decide +kernel
theorem dX2_sumUp_36 : decode cX2_sumUp 36 = .ok (.aload_n 0, 1) := by decide +kernel
theorem dX2_sumUp_37 : decode cX2_sumUp 37 = .ok (.iload_n 2, 1) := by decide +kernel
theorem dX2_sumUp_38 : decode cX2_sumUp 38 = .ok (.invokevirtual 60, 3) := by decide +kernel
theorem dX2_sumUp_41 : decode cX2_sumUp 41 = .ok (.ifCond .eq 17, 3) := by decide +kernel
theorem dX2_sumUp_44 : decode cX2_sumUp 44 = .ok (.iconst 1, 1) := by decide +kernel
theorem dX2_sumUp_45 : decode cX2_sumUp 45 = .ok (.aload_n 0, 1) := by decide +kernel
theorem dX2_sumUp_46 : decode cX2_sumUp 46 = .ok (.getfield 9, 3) := by decide +kernel
theorem dX2_sumUp_49 : decode cX2_sumUp 49 = .ok (.iload_n 2, 1) := by decide +kernel
theorem dX2_sumUp_50 : decode cX2_sumUp 50 = .ok (.iaload, 1) := by decide +kernel
theorem dX2_sumUp_51 : decode cX2_sumUp 51 = .ok (.invokestatic 55, 3) := by decide +kernel
theorem dX2_sumUp_54 : decode cX2_sumUp 54 = .ok (.ishl, 1) := by decide +kernel
theorem dX2_sumUp_55 : decode cX2_sumUp 55 = .ok (.goto 4, 3) := by decide +kernel
theorem dX2_sumUp_58 : decode cX2_sumUp 58 = .ok (.iconst 0, 1) := by decide +kernel
theorem dX2_sumUp_59 : decode cX2_sumUp 59 = .ok (.istore_n 3, 1) := by decide +kernel
theorem dX2_sumUp_60 : decode cX2_sumUp 60 = .ok (.iload_n 1, 1) := by decide +kernel
theorem dX2_sumUp_61 : decode cX2_sumUp 61 = .ok (.iload_n 3, 1) := by decide +kernel
theorem dX2_sumUp_62 : decode cX2_sumUp 62 = .ok (.iadd, 1) := by decide +kernel
theorem dX2_sumUp_63 : decode cX2_sumUp 63 = .ok (.sipush 8256, 3) := by decide +kernel
theorem dX2_sumUp_66 : decode cX2_sumUp 66 = .ok (.if_icmp .gt 20, 3) := by decide +kernel
theorem dX2_sumUp_69 : decode cX2_sumUp 69 = .ok (.aload_n 0, 1) := by decide +kernel
theorem dX2_sumUp_70 : decode cX2_sumUp 70 = .ok (.getfield 15, 3) := by decide +kernel
theorem dX2_sumUp_73 : decode cX2_sumUp 73 = .ok (.iload_n 2, 1) := by decide +kernel
theorem dX2_sumUp_74 : decode cX2_sumUp 74 = .ok (.iload_n 1, 1) := by decide +kernel
theorem dX2_sumUp_75 : decode cX2_sumUp 75 = .ok (.iastore, 1) := by decide +kernel
theorem dX2_sumUp_76 : decode cX2_sumUp 76 = .ok (.aload_n 0, 1) := by decide +kernel
theorem dX2_sumUp_77 : decode cX2_sumUp 77 = .ok (.iload_n 2, 1) := by decide +kernel
theorem dX2_sumUp_78 : decode cX2_sumUp 78 = .ok (.iload_n 3, 1) := by decide +kernel
theorem dX2_sumUp_79 : decode cX2_sumUp 79 = .ok (.invokevirtual 80, 3) := by decide +kernel
theorem dX2_sumUp_82 : decode cX2_sumUp 82 = .ok (.iload_n 1, 1) := by decide +kernel
theorem dX2_sumUp_83 : decode cX2_sumUp 83 = .ok (.iload_n 3, 1) := by decide +kernel
theorem dX2_sumUp_84 : decode cX2_sumUp 84 = .ok (.iadd, 1) := by decide +kernel
theorem dX2_sumUp_85 : decode cX2_sumUp 85 = .ok (.istore_n 1, 1) := by decide +kernel
theorem dX2_sumUp_86 : decode cX2_sumUp 86 = .ok (.iinc 2 1, 3) := by decide +kernel
theorem dX2_sumUp_89 : decode cX2_sumUp 89 = .ok (.goto (-61), 3) := by decide +kernel
theorem dX2_sumUp_92 : decode cX2_sumUp 92 = .ok (.aload_n 0, 1) := by decide +kernel
theorem dX2_sumUp_93 : decode cX2_sumUp 93 = .ok (.iconst 1, 1) := by decide +kernel
theorem dX2_sumUp_94 : decode cX2_sumUp 94 = .ok (.putfield 35, 3) := by decide +kernel
theorem dX2_sumUp_97 : decode cX2_sumUp 97 = .ok (.return_, 1) := by decide +kernel
theorem wl_5_162 : (.methodLink RX2 80 yX2_sumPart : Cond) ∈ sg_tbl := tb_5 _ (List.mem_of_getElem? (i := 162) (by decide +kernel)) (by decide +kernel)
theorem wl_5_160 : (.code yX2_sumUp cX2_sumUp 4 none : Cond) ∈ sg_tbl := tb_5 _ (List.mem_of_getElem? (i := 160) (by decide +kernel)) (by decide +kernel)
theorem wl_5_158 : (.instanceMethod yX2_sumUp : Cond) ∈ sg_tbl := tb_5 _ (List.mem_of_getElem? (i := 158) (by decide +kernel)) (by decide +kernel)
theorem wl_5_159 : (.selects RX2 yX2_sumUp yX2_sumUp : Cond) ∈ sg_tbl := tb_5 _ (List.mem_of_getElem? (i := 159) (by decide +kernel)) (by decide +kernel)
theorem wl_5_182 : (.code yX2_sumLeft cX2_sumLeft 4 (some .int) : Cond) ∈ sg_tbl := tb_5 _ (List.mem_of_getElem? (i := 182) (by decide +kernel)) (by decide +kernel)
theorem wl_5_180 : (.instanceMethod yX2_sumLeft : Cond) ∈ sg_tbl := tb_5 _ (List.mem_of_getElem? (i := 180) (by decide +kernel)) (by decide +kernel)
theorem wl_5_181 : (.selects RX2 yX2_sumLeft yX2_sumLeft : Cond) ∈ sg_tbl := tb_5 _ (List.mem_of_getElem? (i := 181) (by decide +kernel)) (by decide +kernel)
section
variable {p : Program} {l : Launch} {e : Env} {R : Room} {s : State} {m : MethodId} {args : Array Value} {below : List Frame} {meth : Method} {c : Code} {H : Heap} {locs : List Loc} {cells slots : Nat} {Q : State → Prop} {cc : ByteArray} {nL pc : Nat} {ls : Array Slot} {rest : List Value} {own : String} {D : va_G} {A : Nat → Prop} {tys : List (ClassId × FieldType)} {ad ks : List Nat} {P : sgPm} {H0 : Heap} {index : Nat} {base : Nat} {st0 : List Value} {a : Nat}
theorem gf_X2_9   (X : CallFix p m c cc nL s args sg_tbl own) (hK : va_K D vwCl tys s) (hG : sgG (KT P) D vwCl A tys ad ks H) (ha : isK ad ks 2 a) (hl : Cond.fieldLink own index "LawnAhead$Ends" "summed" "Z" ∈ sg_tbl) (hdg : decode cc pc = .ok (.getfield index, 3)) (kk : ∀ x : Int32, iv 0 1 x → fld D H 2 a 9 (.int x) → W p l e R s m args below meth c H locs cells slots Q (F0 m (pc + 3) ls (.int x :: rest))) : W p l e R s m args below meth c H locs cells slots Q (F0 m pc ls (.ref a :: rest)) :=
  sg_get X hK hG ha (k := 2) (ci := 2) rfl (C := RX2) (T := TX2) (N := 10) rfl inL_X2 9 (by decide) rfl hl (fun _ h => h) hdg (fun v hv hf => by obtain ⟨x, rfl, hx⟩ := hv; exact kk x hx hf)
theorem gg_X2_4   (X : CallFix p m c cc nL s args sg_tbl own) (hK : va_K D vwCl tys s) (hG : sgG (KT P) D vwCl A tys ad ks H) (ha : isK ad ks 2 a) (hl : Cond.fieldLink own index "LawnAhead$Ends" "sums" "[I" ∈ sg_tbl) {v : Value} (hf : fld D H 2 a 4 v) (hdg : decode cc pc = .ok (.getfield index, 3)) (kk : W p l e R s m args below meth c H locs cells slots Q (F0 m (pc + 3) ls (v :: rest))) : W p l e R s m args below meth c H locs cells slots Q (F0 m pc ls (.ref a :: rest)) :=
  sg_getf X hK hG ha (k := 2) (ci := 2) rfl (C := RX2) (T := TX2) (N := 10) rfl inL_X2 4 (by decide) (show 4 < 10 by decide) hl (fun _ h => h) hf hdg kk
theorem al_16  {i : Int32}  (X : CallFix p m c cc nL s args sg_tbl own) (hK : va_K D vwCl tys s) (hG : sgG (KT P) D vwCl A tys ad ks H) (ha : isK ad ks 16 a) (hin : vp_in i 30) (hdg : decode cc pc = .ok (.iaload, 1)) (kk : ∀ x : Int32, okV ad ks ((sg_plc (sgPl P) : Nat → sgT) i.toNatClampNeg) (.int x) → W p l e R s m args below meth c H locs cells slots Q (F0 m (pc + 1) ls (.int x :: rest))) : W p l e R s m args below meth c H locs cells slots Q (F0 m pc ls (.int i :: .ref a :: rest)) :=
  sg_iald X hK hG ha (k := 16) rfl hin hdg kk
theorem al_18  {i : Int32}  (X : CallFix p m c cc nL s args sg_tbl own) (hK : va_K D vwCl tys s) (hG : sgG (KT P) D vwCl A tys ad ks H) (ha : isK ad ks 18 a) (hin : vp_in i 8256) (hdg : decode cc pc = .ok (.iaload, 1)) (kk : ∀ x : Int32, iv (-2147483648) 2147483647 x → W p l e R s m args below meth c H locs cells slots Q (F0 m (pc + 1) ls (.int x :: rest))) : W p l e R s m args below meth c H locs cells slots Q (F0 m pc ls (.int i :: .ref a :: rest)) :=
  sg_iald X hK hG ha (k := 18) rfl hin hdg (fun x hx => by obtain ⟨y, h1, h2⟩ := hx; cases h1; exact kk _ h2)
set_option maxHeartbeats 8000000 in
set_option maxRecDepth 100000 in
theorem m_X2_sumUp_1 (l : Launch) {D : va_G} {base : Nat} {tys : List (ClassId × FieldType)} {ad ks : List Nat} {P : sgPm} (hp1 : P.2.1 = true) (a0 : Nat) (h0 : isK ad ks 2 a0) : Met l yX2_sumUp (Cond.code yX2_sumUp cX2_sumUp 4 none :: sg_tbl) ({ frames := 6, cells := 0, slots := 0, locals := 143 }) (va_Pc [.ref a0] (sgB (KT P) D vwCl base tys ad ks)) (va_Qv (fun (_ : Unit) => True) (fun _ => sgB (KT (sgPlTop P)) D vwCl base tys ad ks) (fun q : Nat => base ≤ q)) 0 0 (fun q : Nat => base ≤ q) := by
  refine sg_ofW (by decide +kernel) (Nat.le_of_ble_eq_true rfl) (fun p e s m below meth c X hr hlk hb hK hC hG ls hl => ?_)
  have hS : va_S (fun q : Nat => base ≤ q) s.heap s.heap [] := va_S.rf
  have hl : lv_has ls 4 [(0, .ref a0)] := hl
  have hG : sgG (KT (sgPlTop P)) D vwCl _ tys ad ks _ := sg_plTop hG
  refine lv_aload_n X.1 X.2.1 dX2_sumUp_0 rfl (lv_at hl 0 rfl) ?_
  refine gf_X2_9 X hK hG h0 wl_2_155 dX2_sumUp_1 (fun f1 hf1 kf1 => ?_)
  refine lv_if_eq (tgt := 8) X.1 X.2.1 dX2_sumUp_4 (by decide) (fun c2 => ?_) (fun c2 => ?_)
  · refine lv_aload_n X.1 X.2.1 dX2_sumUp_8 rfl (lv_at hl 0 rfl) ?_
    refine gf_X2_4s X hK hG h0 hp1 wl_2_149 dX2_sumUp_9 (fun q3 hq3 kq3 => ?_)
    have B4_24 : ∀ (H : Heap) (locs : List Loc) (ls : Array Slot), sgG (KT (sgPlTop P)) D vwCl (fun q : Nat => base ≤ q) tys ad ks H → va_S (fun q : Nat => base ≤ q) s.heap H locs → lv_has ls 4 [(0, .ref a0)] → W p l e (headSpec (Cond.code yX2_sumUp cX2_sumUp 4 none :: sg_tbl) ({ frames := 6, cells := 0, slots := 0, locals := 143 })).room s m #[.ref a0] below meth c H locs 0 0 (MQ below (va_Qv (fun (_ : Unit) => True) (fun _ => sgB (KT (sgPlTop P)) D vwCl base tys ad ks) (fun q : Nat => base ≤ q)) #[.ref a0] s 0 0 (fun q : Nat => base ≤ q)) (F0 m 24 ls []) := by
      intro H locs ls hG hS hl
      refine lv_iconst (v := 0) X.1 X.2.1 dX2_sumUp_24 (by decide +kernel) ?_
      refine lv_istore_n (lv' := [(1, .int 0), (0, .ref a0)]) X.1 X.2.1 dX2_sumUp_25 rfl hl (by decide) rfl (fun ls hl => ?_)
      refine lv_iconst (v := 0) X.1 X.2.1 dX2_sumUp_26 (by decide +kernel) ?_
      refine lv_istore_n (lv' := [(2, .int 0), (1, .int 0), (0, .ref a0)]) X.1 X.2.1 dX2_sumUp_27 rfl hl (by decide) rfl (fun ls hl => ?_)
      have B5_28 : ∀ (N : Nat) (H : Heap) (locs : List Loc) (ls : Array Slot) (z5_1 : Int32) (z5_2 : Int32), sgG (KT (sgPlTop P)) D vwCl (fun q : Nat => base ≤ q) tys ad ks H → va_S (fun q : Nat => base ≤ q) s.heap H locs → lv_has ls 4 [(0, .ref a0), (1, .int z5_1), (2, .int z5_2)] → iv 0 8256 z5_1 → iv 0 30 z5_2 → (31 - z5_2.toInt).toNat ≤ N → W p l e (headSpec (Cond.code yX2_sumUp cX2_sumUp 4 none :: sg_tbl) ({ frames := 6, cells := 0, slots := 0, locals := 143 })).room s m #[.ref a0] below meth c H locs 0 0 (MQ below (va_Qv (fun (_ : Unit) => True) (fun _ => sgB (KT (sgPlTop P)) D vwCl base tys ad ks) (fun q : Nat => base ≤ q)) #[.ref a0] s 0 0 (fun q : Nat => base ≤ q)) (F0 m 28 ls []) := by
        intro N; induction N with
        | zero =>
          intro H locs ls z5_1 z5_2 hG hS hl hz5_1 hz5_2 hN
          exact absurd hN (by have := iv_up hz5_2; omega)
        | succ N ih5 =>
          intro H locs ls z5_1 z5_2 hG hS hl hz5_1 hz5_2 hN5
          refine lv_iload_n X.1 X.2.1 dX2_sumUp_28 rfl (lv_at hl 2 rfl) ?_
          refine lv_aload_n X.1 X.2.1 dX2_sumUp_29 rfl (lv_at hl 0 rfl) ?_
          refine gf_X2_6 X hK hG h0 wl_2_151 dX2_sumUp_30 (fun f6 hf6 kf6 => ?_)
          refine lv_icmp_ge (tgt := 92) X.1 X.2.1 dX2_sumUp_33 (by decide) (fun c7 => ?_) (fun c7 => ?_)
          · refine lv_aload_n X.1 X.2.1 dX2_sumUp_92 rfl (lv_at hl 0 rfl) ?_
            refine lv_iconst (v := 1) X.1 X.2.1 dX2_sumUp_93 (by decide +kernel) ?_
            refine pf_X2_9 X hK hG hS h0 wl_2_155 ⟨_, rfl, (iv_of (iv_c 1 (a := 1) (b := 1) (by decide +kernel)) (a' := 0) (b' := 1) (by decide +kernel))⟩ dX2_sumUp_94 (fun H locs hG hS ku8 ru8 => ?_)
            exact sg_vret2 X hr hlk hS (fun t ht hW => sg_post hb hK hC hG hS ht hW) dX2_sumUp_97
          · refine lv_aload_n X.1 X.2.1 dX2_sumUp_36 rfl (lv_at hl 0 rfl) ?_
            refine lv_iload_n X.1 X.2.1 dX2_sumUp_37 rfl (lv_at hl 2 rfl) ?_
            refine ca_X2_isSmall_s X hK hG hC (fun _ h => h) hS hb a0 h0 z5_2 (iv_lt (b' := 29) (iv_gt_of c7) hz5_2 hf6 (by decide +kernel)) wl_5_161 hl.1 (rest := []) rfl (Nat.le_of_ble_eq_true rfl) ⟨Nat.le_of_ble_eq_true rfl, Nat.le_of_ble_eq_true rfl⟩ ⟨Nat.le_of_ble_eq_true rfl, Nat.le_of_ble_eq_true rfl⟩ dX2_sumUp_38 (fun f9 locs hf9 hS => ?_)
            refine lv_if_eq (tgt := 58) X.1 X.2.1 dX2_sumUp_41 (by decide) (fun c10 => ?_) (fun c10 => ?_)
            · refine lv_iconst (v := 0) X.1 X.2.1 dX2_sumUp_58 (by decide +kernel) ?_
              refine lv_istore_n (lv' := [(3, .int 0), (0, .ref a0), (1, .int z5_1), (2, .int z5_2)]) X.1 X.2.1 dX2_sumUp_59 rfl hl (by decide) rfl (fun ls hl => ?_)
              refine lv_iload_n X.1 X.2.1 dX2_sumUp_60 rfl (lv_at hl 2 rfl) ?_
              refine lv_iload_n X.1 X.2.1 dX2_sumUp_61 rfl (lv_at hl 0 rfl) ?_
              refine lv_iadd X.1 X.2.1 dX2_sumUp_62 ?_
              refine lv_topi (fun f12 ef12 => ?_)
              refine lv_sipush (v := 8256) X.1 X.2.1 dX2_sumUp_63 (by decide +kernel) ?_
              have B14_86 : ∀ (H : Heap) (locs : List Loc) (ls : Array Slot) (z14_1 : Int32), sgG (KT (sgPlTop P)) D vwCl (fun q : Nat => base ≤ q) tys ad ks H → va_S (fun q : Nat => base ≤ q) s.heap H locs → lv_has ls 4 [(0, .ref a0), (1, .int z14_1), (2, .int z5_2)] → iv 0 8256 z14_1 → W p l e (headSpec (Cond.code yX2_sumUp cX2_sumUp 4 none :: sg_tbl) ({ frames := 6, cells := 0, slots := 0, locals := 143 })).room s m #[.ref a0] below meth c H locs 0 0 (MQ below (va_Qv (fun (_ : Unit) => True) (fun _ => sgB (KT (sgPlTop P)) D vwCl base tys ad ks) (fun q : Nat => base ≤ q)) #[.ref a0] s 0 0 (fun q : Nat => base ≤ q)) (F0 m 86 ls []) := by
                intro H locs ls z14_1 hG hS hl hz14_1
                obtain ⟨y15, ey15⟩ : ∃ y : Int32, y = z5_2 + Int32.ofInt 1 := ⟨_, rfl⟩
                refine lv_iinc (v := y15) (lv' := [(2, .int y15), (0, .ref a0), (1, .int z14_1)]) X.1 X.2.1 dX2_sumUp_86 hl (k := 2) rfl ey15.symm (by decide) rfl (fun ls hl => ?_)
                refine lv_goto (tgt := 28) X.1 X.2.1 dX2_sumUp_89 (by decide) ?_
                have bq16 : 0 ≤ z14_1.toInt ∧ z14_1.toInt ≤ 8256 := hz14_1
                have bq17 : 0 ≤ z5_2.toInt ∧ z5_2.toInt ≤ 30 := hz5_2
                have bq18 : 0 ≤ f6.toInt ∧ f6.toInt ≤ 30 := hf6
                have rr19 : (z5_2 : Int32).toInt < (f6 : Int32).toInt := Int32.lt_iff_toInt_lt.mp (iv_gt_of c7)
                exact ih5 H _ _ z14_1 y15 hG hS (lv_sub hl [1, 2, 0] rfl) ⟨by omega, by omega⟩ (iv_of (iv_add (a' := 1) (b' := 30) ey15 (iv_lt (b' := 29) (iv_gt_of c7) hz5_2 hf6 (by decide +kernel)) (iv_c _ (a := 1) (b := 1) (by decide +kernel)) (by decide +kernel)) (a' := 0) (b' := 30) (by decide +kernel)) (iv_stepU ey15 (iv_lt (b' := 29) (iv_gt_of c7) hz5_2 hf6 (by decide +kernel)) (by decide +kernel) hN5)
              refine lv_icmp_gt (tgt := 86) X.1 X.2.1 dX2_sumUp_66 (by decide) (fun c13 => ?_) (fun c13 => ?_)
              · exact ((iv_no (iv_lt (b' := 8255) c13 (iv_c 8256 (a := 8256) (b := 8256) (by decide +kernel)) (iv_add (a' := 0) (b' := 8256) ef12 hz5_1 (iv_c 0 (a := 0) (b := 0) (by decide +kernel)) (by decide +kernel)) (by decide +kernel)) (by decide +kernel))).elim
              · refine lv_aload_n X.1 X.2.1 dX2_sumUp_69 rfl (lv_at hl 1 rfl) ?_
                refine gf_X2_2 X hK hG h0 wl_2_147 dX2_sumUp_70 (fun q20 hq20 kq20 => ?_)
                refine lv_iload_n X.1 X.2.1 dX2_sumUp_73 rfl (lv_at hl 3 rfl) ?_
                refine lv_iload_n X.1 X.2.1 dX2_sumUp_74 rfl (lv_at hl 2 rfl) ?_
                refine as_16p X hK hG hS hq20 (iv_vpin (iv_lt (b' := 29) (iv_gt_of c7) hz5_2 hf6 (by decide +kernel)) (by decide +kernel)) hz5_1 dX2_sumUp_75 (fun H locs hG hS => ?_)
                refine lv_aload_n X.1 X.2.1 dX2_sumUp_76 rfl (lv_at hl 1 rfl) ?_
                refine lv_iload_n X.1 X.2.1 dX2_sumUp_77 rfl (lv_at hl 3 rfl) ?_
                refine lv_iload_n X.1 X.2.1 dX2_sumUp_78 rfl (lv_at hl 0 rfl) ?_
                have bq21 : 0 ≤ z5_1.toInt ∧ z5_1.toInt ≤ 8256 := hz5_1
                have cq22 : (0 : Int32).toInt = 0 := by decide +kernel
                have bq23 : 0 ≤ z5_2.toInt ∧ z5_2.toInt ≤ 30 := hz5_2
                have bq24 : 0 ≤ f6.toInt ∧ f6.toInt ≤ 30 := hf6
                have rr25 : (z5_2 : Int32).toInt < (f6 : Int32).toInt := Int32.lt_iff_toInt_lt.mp (iv_gt_of c7)
                have xf12 : f12.toInt = z5_1.toInt + 0 := sg_inc (k := 0) ef12 hz5_1 (by decide +kernel)
                have cq26 : (8256 : Int32).toInt = 8256 := by decide +kernel
                have rr27 : (f12 : Int32).toInt ≤ (8256 : Int32).toInt := Int32.le_iff_toInt_le.mp (iv_ge_of c13)
                refine ca_X2_sumPart_1 X hK hG hC hS hb hp1 a0 h0 z5_2 (iv_lt (b' := 29) (iv_gt_of c7) hz5_2 hf6 (by decide +kernel)) 0 (iv_of (iv_c 0 (a := 0) (b := 0) (by decide +kernel)) (a' := 0) (b' := 4096) (by decide +kernel)) (sg_plok (by omega) (by omega)) wl_5_162 hl.1 (rest := []) rfl (Nat.le_of_ble_eq_true rfl) ⟨Nat.le_of_ble_eq_true rfl, Nat.le_of_ble_eq_true rfl⟩ ⟨Nat.le_of_ble_eq_true rfl, Nat.le_of_ble_eq_true rfl⟩ dX2_sumUp_79 (fun H locs hG hS => ?_)
                have hG : sgG (KT (sgPlTop P)) D vwCl _ tys ad ks _ := sg_plTop2 hG
                refine lv_iload_n X.1 X.2.1 dX2_sumUp_82 rfl (lv_at hl 2 rfl) ?_
                refine lv_iload_n X.1 X.2.1 dX2_sumUp_83 rfl (lv_at hl 0 rfl) ?_
                refine lv_iadd X.1 X.2.1 dX2_sumUp_84 ?_
                refine lv_topi (fun f29 ef29 => ?_)
                refine lv_istore_n (lv' := [(1, .int f29), (3, .int 0), (0, .ref a0), (2, .int z5_2)]) X.1 X.2.1 dX2_sumUp_85 rfl hl (by decide) rfl (fun ls hl => ?_)
                have bq30 : 0 ≤ z5_1.toInt ∧ z5_1.toInt ≤ 8256 := hz5_1
                have xf29 : f29.toInt = z5_1.toInt + 0 := sg_inc (k := 0) ef29 hz5_1 (by decide +kernel)
                have bq31 : 0 ≤ z5_2.toInt ∧ z5_2.toInt ≤ 30 := hz5_2
                have bq32 : 0 ≤ f6.toInt ∧ f6.toInt ≤ 30 := hf6
                have rr33 : (z5_2 : Int32).toInt < (f6 : Int32).toInt := Int32.lt_iff_toInt_lt.mp (iv_gt_of c7)
                have xf12 : f12.toInt = z5_1.toInt + 0 := sg_inc (k := 0) ef12 hz5_1 (by decide +kernel)
                have cq34 : (8256 : Int32).toInt = 8256 := by decide +kernel
                have rr35 : (f12 : Int32).toInt ≤ (8256 : Int32).toInt := Int32.le_iff_toInt_le.mp (iv_ge_of c13)
                exact B14_86 H _ _ f29 hG hS (lv_sub hl [2, 0, 3] rfl) ⟨by omega, by omega⟩
            · obtain ⟨qy11, vy11, kqy11, kfy11, key11, kpy11⟩ := hf9.2 c10
              refine lv_iconst (v := 1) X.1 X.2.1 dX2_sumUp_44 (by decide +kernel) ?_
              refine lv_aload_n X.1 X.2.1 dX2_sumUp_45 rfl (lv_at hl 0 rfl) ?_
              refine gg_X2_1 X hK hG h0 wl_2_145 kfy11 dX2_sumUp_46 ?_
              refine lv_iload_n X.1 X.2.1 dX2_sumUp_49 rfl (lv_at hl 2 rfl) ?_
              refine sg_ialdK X hK hG kqy11 (k := 15) rfl (iv_vpin (iv_lt (b' := 29) (iv_gt_of c7) hz5_2 hf6 (by decide +kernel)) (by decide +kernel)) (n0 := z5_2.toNatClampNeg) rfl key11 dX2_sumUp_50 ?_
              refine ca_J6_bitCount_0f7a4_q X hK hG hC (fun _ h => h) hS hb vy11 wl_5_156 hl.1 (rest := [.int 1]) rfl (Nat.le_of_ble_eq_true rfl) ⟨Nat.le_of_ble_eq_true rfl, Nat.le_of_ble_eq_true rfl⟩ ⟨Nat.le_of_ble_eq_true rfl, Nat.le_of_ble_eq_true rfl⟩ dX2_sumUp_51 (fun f37 locs hf37 hS => ?_)
              refine lv_ishl X.1 X.2.1 dX2_sumUp_54 ?_
              refine lv_topi (fun f38 ef38 => ?_)
              refine lv_goto (tgt := 59) X.1 X.2.1 dX2_sumUp_55 (by decide) ?_
              refine lv_istore_n (lv' := [(3, .int f38), (0, .ref a0), (1, .int z5_1), (2, .int z5_2)]) X.1 X.2.1 dX2_sumUp_59 rfl hl (by decide) rfl (fun ls hl => ?_)
              refine lv_iload_n X.1 X.2.1 dX2_sumUp_60 rfl (lv_at hl 2 rfl) ?_
              refine lv_iload_n X.1 X.2.1 dX2_sumUp_61 rfl (lv_at hl 0 rfl) ?_
              refine lv_iadd X.1 X.2.1 dX2_sumUp_62 ?_
              refine lv_topi (fun f39 ef39 => ?_)
              refine lv_sipush (v := 8256) X.1 X.2.1 dX2_sumUp_63 (by decide +kernel) ?_
              have B41_86 : ∀ (H : Heap) (locs : List Loc) (ls : Array Slot) (z41_1 : Int32), sgG (KT (sgPlTop P)) D vwCl (fun q : Nat => base ≤ q) tys ad ks H → va_S (fun q : Nat => base ≤ q) s.heap H locs → lv_has ls 4 [(0, .ref a0), (1, .int z41_1), (2, .int z5_2)] → iv 0 8256 z41_1 → W p l e (headSpec (Cond.code yX2_sumUp cX2_sumUp 4 none :: sg_tbl) ({ frames := 6, cells := 0, slots := 0, locals := 143 })).room s m #[.ref a0] below meth c H locs 0 0 (MQ below (va_Qv (fun (_ : Unit) => True) (fun _ => sgB (KT (sgPlTop P)) D vwCl base tys ad ks) (fun q : Nat => base ≤ q)) #[.ref a0] s 0 0 (fun q : Nat => base ≤ q)) (F0 m 86 ls []) := by
                intro H locs ls z41_1 hG hS hl hz41_1
                obtain ⟨y42, ey42⟩ : ∃ y : Int32, y = z5_2 + Int32.ofInt 1 := ⟨_, rfl⟩
                refine lv_iinc (v := y42) (lv' := [(2, .int y42), (0, .ref a0), (1, .int z41_1)]) X.1 X.2.1 dX2_sumUp_86 hl (k := 2) rfl ey42.symm (by decide) rfl (fun ls hl => ?_)
                refine lv_goto (tgt := 28) X.1 X.2.1 dX2_sumUp_89 (by decide) ?_
                have bq43 : 0 ≤ z41_1.toInt ∧ z41_1.toInt ≤ 8256 := hz41_1
                have bq44 : 0 ≤ z5_2.toInt ∧ z5_2.toInt ≤ 30 := hz5_2
                have bq45 : 0 ≤ f6.toInt ∧ f6.toInt ≤ 30 := hf6
                have rr46 : (z5_2 : Int32).toInt < (f6 : Int32).toInt := Int32.lt_iff_toInt_lt.mp (iv_gt_of c7)
                exact ih5 H _ _ z41_1 y42 hG hS (lv_sub hl [1, 2, 0] rfl) ⟨by omega, by omega⟩ (iv_of (iv_add (a' := 1) (b' := 30) ey42 (iv_lt (b' := 29) (iv_gt_of c7) hz5_2 hf6 (by decide +kernel)) (iv_c _ (a := 1) (b := 1) (by decide +kernel)) (by decide +kernel)) (a' := 0) (b' := 30) (by decide +kernel)) (iv_stepU ey42 (iv_lt (b' := 29) (iv_gt_of c7) hz5_2 hf6 (by decide +kernel)) (by decide +kernel) hN5)
              refine lv_icmp_gt (tgt := 86) X.1 X.2.1 dX2_sumUp_66 (by decide) (fun c40 => ?_) (fun c40 => ?_)
              · have bq47 : 0 ≤ z5_1.toInt ∧ z5_1.toInt ≤ 8256 := hz5_1
                have bq48 : 0 ≤ z5_2.toInt ∧ z5_2.toInt ≤ 30 := hz5_2
                have bq49 : 0 ≤ f6.toInt ∧ f6.toInt ≤ 30 := hf6
                have rr50 : (z5_2 : Int32).toInt < (f6 : Int32).toInt := Int32.lt_iff_toInt_lt.mp (iv_gt_of c7)
                have bq51 : 1 ≤ f38.toInt ∧ f38.toInt ≤ 4096 := (sg_shl1 ef38 (sg_popb hf37.2 kpy11 hf37.1) (by decide +kernel))
                have xf39 : f39.toInt = z5_1.toInt + f38.toInt := sg_exadd ef39 hz5_1 (sg_shl1 ef38 (sg_popb hf37.2 kpy11 hf37.1) (by decide +kernel)) (by decide +kernel) rfl rfl
                have cq52 : (8256 : Int32).toInt = 8256 := by decide +kernel
                have rr53 : (8256 : Int32).toInt < (f39 : Int32).toInt := Int32.lt_iff_toInt_lt.mp c40
                exact B41_86 H _ _ z5_1 hG hS (lv_sub hl [1, 2, 3] rfl) ⟨by omega, by omega⟩
              · refine lv_aload_n X.1 X.2.1 dX2_sumUp_69 rfl (lv_at hl 1 rfl) ?_
                refine gf_X2_2 X hK hG h0 wl_2_147 dX2_sumUp_70 (fun q54 hq54 kq54 => ?_)
                refine lv_iload_n X.1 X.2.1 dX2_sumUp_73 rfl (lv_at hl 3 rfl) ?_
                refine lv_iload_n X.1 X.2.1 dX2_sumUp_74 rfl (lv_at hl 2 rfl) ?_
                refine as_16p X hK hG hS hq54 (iv_vpin (iv_lt (b' := 29) (iv_gt_of c7) hz5_2 hf6 (by decide +kernel)) (by decide +kernel)) hz5_1 dX2_sumUp_75 (fun H locs hG hS => ?_)
                refine lv_aload_n X.1 X.2.1 dX2_sumUp_76 rfl (lv_at hl 1 rfl) ?_
                refine lv_iload_n X.1 X.2.1 dX2_sumUp_77 rfl (lv_at hl 3 rfl) ?_
                refine lv_iload_n X.1 X.2.1 dX2_sumUp_78 rfl (lv_at hl 0 rfl) ?_
                have bq55 : 0 ≤ z5_1.toInt ∧ z5_1.toInt ≤ 8256 := hz5_1
                have bq56 : 1 ≤ f38.toInt ∧ f38.toInt ≤ 4096 := (sg_shl1 ef38 (sg_popb hf37.2 kpy11 hf37.1) (by decide +kernel))
                have bq57 : 0 ≤ z5_2.toInt ∧ z5_2.toInt ≤ 30 := hz5_2
                have bq58 : 0 ≤ f6.toInt ∧ f6.toInt ≤ 30 := hf6
                have rr59 : (z5_2 : Int32).toInt < (f6 : Int32).toInt := Int32.lt_iff_toInt_lt.mp (iv_gt_of c7)
                have xf39 : f39.toInt = z5_1.toInt + f38.toInt := sg_exadd ef39 hz5_1 (sg_shl1 ef38 (sg_popb hf37.2 kpy11 hf37.1) (by decide +kernel)) (by decide +kernel) rfl rfl
                have cq60 : (8256 : Int32).toInt = 8256 := by decide +kernel
                have rr61 : (f39 : Int32).toInt ≤ (8256 : Int32).toInt := Int32.le_iff_toInt_le.mp (iv_ge_of c40)
                refine ca_X2_sumPart_1 X hK hG hC hS hb hp1 a0 h0 z5_2 (iv_lt (b' := 29) (iv_gt_of c7) hz5_2 hf6 (by decide +kernel)) f38 (iv_of (sg_shl1 ef38 (sg_popb hf37.2 kpy11 hf37.1) (by decide +kernel)) (a' := 0) (b' := 4096) (by decide +kernel)) (sg_plok (by omega) (by omega)) wl_5_162 hl.1 (rest := []) rfl (Nat.le_of_ble_eq_true rfl) ⟨Nat.le_of_ble_eq_true rfl, Nat.le_of_ble_eq_true rfl⟩ ⟨Nat.le_of_ble_eq_true rfl, Nat.le_of_ble_eq_true rfl⟩ dX2_sumUp_79 (fun H locs hG hS => ?_)
                have hG : sgG (KT (sgPlTop P)) D vwCl _ tys ad ks _ := sg_plTop2 hG
                refine lv_iload_n X.1 X.2.1 dX2_sumUp_82 rfl (lv_at hl 2 rfl) ?_
                refine lv_iload_n X.1 X.2.1 dX2_sumUp_83 rfl (lv_at hl 0 rfl) ?_
                refine lv_iadd X.1 X.2.1 dX2_sumUp_84 ?_
                refine lv_topi (fun f63 ef63 => ?_)
                refine lv_istore_n (lv' := [(1, .int f63), (3, .int f38), (0, .ref a0), (2, .int z5_2)]) X.1 X.2.1 dX2_sumUp_85 rfl hl (by decide) rfl (fun ls hl => ?_)
                have bq64 : 0 ≤ z5_1.toInt ∧ z5_1.toInt ≤ 8256 := hz5_1
                have bq65 : 1 ≤ f38.toInt ∧ f38.toInt ≤ 4096 := (sg_shl1 ef38 (sg_popb hf37.2 kpy11 hf37.1) (by decide +kernel))
                have xf63 : f63.toInt = z5_1.toInt + f38.toInt := sg_exadd ef63 hz5_1 (sg_shl1 ef38 (sg_popb hf37.2 kpy11 hf37.1) (by decide +kernel)) (by decide +kernel) rfl rfl
                have bq66 : 0 ≤ z5_2.toInt ∧ z5_2.toInt ≤ 30 := hz5_2
                have bq67 : 0 ≤ f6.toInt ∧ f6.toInt ≤ 30 := hf6
                have rr68 : (z5_2 : Int32).toInt < (f6 : Int32).toInt := Int32.lt_iff_toInt_lt.mp (iv_gt_of c7)
                have xf39 : f39.toInt = z5_1.toInt + f38.toInt := sg_exadd ef39 hz5_1 (sg_shl1 ef38 (sg_popb hf37.2 kpy11 hf37.1) (by decide +kernel)) (by decide +kernel) rfl rfl
                have cq69 : (8256 : Int32).toInt = 8256 := by decide +kernel
                have rr70 : (f39 : Int32).toInt ≤ (8256 : Int32).toInt := Int32.le_iff_toInt_le.mp (iv_ge_of c40)
                exact B41_86 H _ _ f63 hG hS (lv_sub hl [2, 0, 3] rfl) ⟨by omega, by omega⟩
      have cq71 : (0 : Int32).toInt = 0 := by decide +kernel
      exact B5_28 _ H _ _ 0 0 hG hS (lv_sub hl [2, 1, 0] rfl) (iv_of (iv_c 0 (a := 0) (b := 0) (by decide +kernel)) (a' := 0) (b' := 8256) (by decide +kernel)) (iv_of (iv_c 0 (a := 0) (b := 0) (by decide +kernel)) (a' := 0) (b' := 30) (by decide +kernel)) (Nat.le_refl _)
    refine lv_ifnonnull (tgt := 24) X.1 X.2.1 dX2_sumUp_12 (by decide) ?_
    exact B4_24 s.heap _ _ hG hS (lv_sub hl [0] rfl)
  · exact sg_vret2 X hr hlk hS (fun t ht hW => sg_post hb hK hC hG hS ht hW) dX2_sumUp_7

theorem ca_X2_sumUp_1   (X : CallFix p m c cc nL s args sg_tbl own) (hK : va_K D vwCl tys s) (hG : sgG (KT P) D vwCl (fun q : Nat => base ≤ q) tys ad ks H) (hC : sgC base s) (hS : va_S (fun q : Nat => base ≤ q) s.heap H locs) (hb : base ≤ s.heap.size) (hp1 : P.2.1 = true) (a0 : Nat) (h0 : isK ad ks 2 a0) (hl : Cond.methodLink own index yX2_sumUp ∈ sg_tbl) (hsize : ls.size = nL) (hst : st0 = [].reverse ++ .ref a0 :: rest) (hW : (rest.map fun v => v.category).sum ≤ 8) (hR : 7 ≤ R.frames ∧ 166 ≤ R.locals) (hf : cells ≤ R.cells ∧ slots ≤ R.slots) (hdg : decode cc pc = .ok (.invokevirtual index, 3)) (kk : ∀ (t : State) (H1 : Heap) (locs1 : List Loc), t.heap = H1 → (sgB (KT (sgPlTop P)) D vwCl base tys ad ks t) → va_S (fun q : Nat => base ≤ q) s.heap H1 locs1 → W p l e R s m args below meth c H1 locs1 cells slots Q (F0 m (pc + 3) ls rest)) : W p l e R s m args below meth c H locs cells slots Q (F0 m pc ls st0) :=
  sg_callV2v X hK hG hC hS hb (m_X2_sumUp_1 l hp1 a0 h0) h0 (k := 2) (ci := 2) rfl (C := RX2) (T := TX2) (N := 10) rfl wl_5_160 wl_1_11 wl_5_158 wl_5_159 (n := 0) (by decide +kernel) rfl rfl rfl hl hsize hst hW hR hf hdg kk

set_option maxHeartbeats 8000000 in
set_option maxRecDepth 100000 in
theorem m_X2_sumLeft_1 (l : Launch) {D : va_G} {base : Nat} {tys : List (ClassId × FieldType)} {ad ks : List Nat} {P : sgPm} {Hx : Heap} (hp1 : P.2.1 = true) (a0 : Nat) (h0 : isK ad ks 2 a0) (x1 : Int32) (h1 : iv 0 29 x1) (x2 : Int32) : sgPi l (KT P) D vwCl base tys ad ks Hx yX2_sumLeft cX2_sumLeft 4 (some .int) ({ frames := 1, cells := 0, slots := 0, locals := 25 }) [.ref a0, .int x1, .int x2] (fun r : Int32 => True) := by
  refine sg_ofP (Pq := fun Hx => va_Qi (fun r (_ : Unit) => (fun r : Int32 => True) r) (fun _ t => t.heap = Hx) (fun _ : Nat => False)) (by decide +kernel) (Nat.le_of_ble_eq_true rfl) (fun p e s m below meth c X hr hlk hb hK hC hG ls hl => ?_)
  have hS : va_S (fun _ : Nat => False) s.heap s.heap [] := va_S.rf
  have hl : lv_has ls 4 [(0, .ref a0), (1, .int x1), (2, .int x2)] := hl
  refine lv_aload_n X.1 X.2.1 dX2_sumLeft_0 rfl (lv_at hl 0 rfl) ?_
  refine gf_X2_2 X hK hG h0 wl_2_147 dX2_sumLeft_1 (fun q1 hq1 kq1 => ?_)
  refine lv_iload_n X.1 X.2.1 dX2_sumLeft_4 rfl (lv_at hl 1 rfl) ?_
  refine al_16 X hK hG hq1 (iv_vpin h1 (by decide +kernel)) dX2_sumLeft_5 (fun f2 hf2 => ?_)
  have of2 := hf2
  have hf2 : iv 0 8256 f2 := sg_plr hf2
  refine lv_aload_n X.1 X.2.1 dX2_sumLeft_6 rfl (lv_at hl 0 rfl) ?_
  refine lv_iload_n X.1 X.2.1 dX2_sumLeft_7 rfl (lv_at hl 1 rfl) ?_
  refine lv_iload_n X.1 X.2.1 dX2_sumLeft_8 rfl (lv_at hl 2 rfl) ?_
  refine ca_X2_local X hK hG hC (fun _ h => h.elim) hS hb a0 h0 x1 h1 x2 wl_5_171 hl.1 (rest := [.int f2]) rfl (Nat.le_of_ble_eq_true rfl) ⟨Nat.le_of_ble_eq_true rfl, Nat.le_of_ble_eq_true rfl⟩ ⟨Nat.le_of_ble_eq_true rfl, Nat.le_of_ble_eq_true rfl⟩ dX2_sumLeft_9 (fun f3 locs hf3 hS => ?_)
  refine lv_iadd X.1 X.2.1 dX2_sumLeft_12 ?_
  refine lv_topi (fun f4 ef4 => ?_)
  refine lv_istore_n (lv' := [(3, .int f4), (0, .ref a0), (1, .int x1), (2, .int x2)]) X.1 X.2.1 dX2_sumLeft_13 rfl hl (by decide) rfl (fun ls hl => ?_)
  refine lv_aload_n X.1 X.2.1 dX2_sumLeft_14 rfl (lv_at hl 1 rfl) ?_
  refine gf_X2_4s X hK hG h0 hp1 wl_2_149 dX2_sumLeft_15 (fun q5 hq5 kq5 => ?_)
  have B6_28 : ∀ (locs : List Loc) (ls : Array Slot), va_S (fun _ : Nat => False) s.heap s.heap locs → lv_has ls 4 [] → W p l e (headSpec (Cond.code yX2_sumLeft cX2_sumLeft 4 (some .int) :: sg_tbl) ({ frames := 1, cells := 0, slots := 0, locals := 25 })).room s m #[.ref a0, .int x1, .int x2] below meth c s.heap locs 0 0 (MQ below (va_Qi (fun r (_ : Unit) => (fun r : Int32 => True) r) (fun _ t => t.heap = s.heap) (fun _ : Nat => False)) #[.ref a0, .int x1, .int x2] s 0 0 (fun _ : Nat => False)) (F0 m 28 ls []) := by
    intro locs ls hS hl
    refine lv_iconst (v := 0) X.1 X.2.1 dX2_sumLeft_28 (by decide +kernel) ?_
    refine lv_goto (tgt := 38) X.1 X.2.1 dX2_sumLeft_29 (by decide) ?_
    exact sg_iretP X hr hlk hS trivial dX2_sumLeft_38
  refine lv_ifnull X.1 X.2.1 dX2_sumLeft_18 ?_
  refine lv_iload_n X.1 X.2.1 dX2_sumLeft_21 rfl (lv_at hl 0 rfl) ?_
  refine lv_sipush (v := 8256) X.1 X.2.1 dX2_sumLeft_22 (by decide +kernel) ?_
  refine lv_icmp_lt (tgt := 32) X.1 X.2.1 dX2_sumLeft_25 (by decide) (fun c7 => ?_) (fun c7 => ?_)
  · refine lv_aload_n X.1 X.2.1 dX2_sumLeft_32 rfl (lv_at hl 1 rfl) ?_
    refine gg_X2_4 X hK hG h0 wl_2_149 kq5 dX2_sumLeft_33 ?_
    refine lv_iload_n X.1 X.2.1 dX2_sumLeft_36 rfl (lv_at hl 0 rfl) ?_
    refine al_18 X hK hG hq5 (iv_vpin (iv_lt (b' := 8255) c7 (iv_add (a' := 0) (b' := 1073750079) ef4 hf2 hf3 (by decide +kernel)) (iv_c 8256 (a := 8256) (b := 8256) (by decide +kernel)) (by decide +kernel)) (by decide +kernel)) dX2_sumLeft_37 (fun f8 hf8 => ?_)
    exact sg_iretP X hr hlk hS trivial dX2_sumLeft_38
  · exact B6_28 _ _ hS (lv_sub hl [] rfl)

theorem ca_X2_sumLeft_1   (X : CallFix p m c cc nL s args sg_tbl own) (hK : va_K D vwCl tys s) (hG : sgG (KT P) D vwCl (fun q : Nat => base ≤ q) tys ad ks H) (hC : sgC base s) (hA : ∀ q : Nat, A q → base ≤ q) (hS : va_S A s.heap H locs) (hb : base ≤ s.heap.size) (hp1 : P.2.1 = true) (a0 : Nat) (h0 : isK ad ks 2 a0) (x1 : Int32) (h1 : iv 0 29 x1) (x2 : Int32) (hl : Cond.methodLink own index yX2_sumLeft ∈ sg_tbl) (hsize : ls.size = nL) (hst : st0 = [.int x1, .int x2].reverse ++ .ref a0 :: rest) (hW : (rest.map fun v => v.category).sum ≤ 8) (hR : 2 ≤ R.frames ∧ 48 ≤ R.locals) (hf : cells ≤ R.cells ∧ slots ≤ R.slots) (hdg : decode cc pc = .ok (.invokevirtual index, 3)) (kk : ∀ (r : Int32) (locs1 : List Loc), (fun r : Int32 => True) r → va_S A s.heap H locs1 → W p l e R s m args below meth c H locs1 cells slots Q (F0 m (pc + 3) ls (.int r :: rest))) : W p l e R s m args below meth c H locs cells slots Q (F0 m pc ls st0) :=
  sg_callPVi X hK hG hC hA hS hb (m_X2_sumLeft_1 l hp1 a0 h0 x1 h1 x2) h0 (k := 2) (ci := 2) rfl (C := RX2) (T := TX2) (N := 10) rfl wl_5_182 wl_1_11 wl_5_180 wl_5_181 (n := 2) (by decide +kernel) rfl rfl rfl hl hsize hst hW hR hf hdg kk
end
