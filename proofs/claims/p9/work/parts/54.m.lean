abbrev cX12_goThrough : ByteArray := prog_14_method_26_code
def yX12_goThrough : MethodName := ⟨RX12, "goThrough", "([BII)V"⟩
theorem dX12_goThrough_0 : decode cX12_goThrough 0 = .ok (.aload_n 0, 1) := by decide +kernel
theorem dX12_goThrough_1 : decode cX12_goThrough 1 = .ok (.aload_n 1, 1) := by decide +kernel
theorem dX12_goThrough_2 : decode cX12_goThrough 2 = .ok (.iload_n 2, 1) := by decide +kernel
theorem dX12_goThrough_3 : decode cX12_goThrough 3 = .ok (.iload_n 3, 1) := by decide +kernel
theorem dX12_goThrough_4 : decode cX12_goThrough 4 = .ok (.invokevirtual 205, 3) := by decide +kernel
theorem dX12_goThrough_7 : decode cX12_goThrough 7 = .ok (.aload_n 0, 1) := by decide +kernel
theorem dX12_goThrough_8 : decode cX12_goThrough 8 = .ok (.bipush 121, 2) := by decide +kernel
theorem dX12_goThrough_10 : decode cX12_goThrough 10 = .ok (.putfield 199, 3) := by decide +kernel
theorem dX12_goThrough_13 : decode cX12_goThrough 13 = .ok (.aload_n 0, 1) := by decide +kernel
theorem dX12_goThrough_14 : decode cX12_goThrough 14 = .ok (.iconst 0, 1) := by decide +kernel
theorem dX12_goThrough_15 : decode cX12_goThrough 15 = .ok (.putfield 129, 3) := by decide +kernel
theorem dX12_goThrough_18 : decode cX12_goThrough 18 = .ok (.aload_n 0, 1) := by decide +kernel
theorem dX12_goThrough_19 : decode cX12_goThrough 19 = .ok (.iconst 0, 1) := by decide +kernel
theorem dX12_goThrough_20 : decode cX12_goThrough 20 = .ok (.putfield 195, 3) := by decide +kernel
theorem dX12_goThrough_23 : decode cX12_goThrough 23 = .ok (.aload_n 0, 1) := by decide +kernel
theorem dX12_goThrough_24 : decode cX12_goThrough 24 = .ok (.iconst 0, 1) := by decide +kernel
theorem dX12_goThrough_25 : decode cX12_goThrough 25 = .ok (.putfield 202, 3) := by decide +kernel
theorem dX12_goThrough_28 : decode cX12_goThrough 28 = .ok (.aload_n 0, 1) := by decide +kernel
theorem dX12_goThrough_29 : decode cX12_goThrough 29 = .ok (.invokevirtual 209, 3) := by decide +kernel
theorem dX12_goThrough_32 : decode cX12_goThrough 32 = .ok (.aload_n 0, 1) := by decide +kernel
theorem dX12_goThrough_33 : decode cX12_goThrough 33 = .ok (.getfield 126, 3) := by decide +kernel
theorem dX12_goThrough_36 : decode cX12_goThrough 36 = .ok (.iconst (-1), 1) := by decide +kernel
theorem dX12_goThrough_37 : decode cX12_goThrough 37 = .ok (.if_icmp .ne 29, 3) := by decide +kernel
theorem dX12_goThrough_40 : decode cX12_goThrough 40 = .ok (.aload_n 0, 1) := by decide +kernel
theorem dX12_goThrough_41 : decode cX12_goThrough 41 = .ok (.invokevirtual 136, 3) := by decide +kernel
theorem dX12_goThrough_44 : decode cX12_goThrough 44 = .ok (.bipush 59, 2) := by decide +kernel
theorem dX12_goThrough_46 : decode cX12_goThrough 46 = .ok (.if_icmp .ne 20, 3) := by decide +kernel
theorem dX12_goThrough_49 : decode cX12_goThrough 49 = .ok (.aload_n 0, 1) := by decide +kernel
theorem dX12_goThrough_50 : decode cX12_goThrough 50 = .ok (.dup, 1) := by decide +kernel
theorem dX12_goThrough_51 : decode cX12_goThrough 51 = .ok (.getfield 117, 3) := by decide +kernel
theorem dX12_goThrough_54 : decode cX12_goThrough 54 = .ok (.iconst 1, 1) := by decide +kernel
theorem dX12_goThrough_55 : decode cX12_goThrough 55 = .ok (.iadd, 1) := by decide +kernel
theorem dX12_goThrough_56 : decode cX12_goThrough 56 = .ok (.putfield 117, 3) := by decide +kernel
theorem dX12_goThrough_59 : decode cX12_goThrough 59 = .ok (.aload_n 0, 1) := by decide +kernel
theorem dX12_goThrough_60 : decode cX12_goThrough 60 = .ok (.invokevirtual 209, 3) := by decide +kernel
theorem dX12_goThrough_63 : decode cX12_goThrough 63 = .ok (.goto (-31), 3) := by decide +kernel
theorem dX12_goThrough_66 : decode cX12_goThrough 66 = .ok (.aload_n 0, 1) := by decide +kernel
theorem dX12_goThrough_67 : decode cX12_goThrough 67 = .ok (.getfield 126, 3) := by decide +kernel
theorem dX12_goThrough_70 : decode cX12_goThrough 70 = .ok (.iconst (-1), 1) := by decide +kernel
theorem dX12_goThrough_71 : decode cX12_goThrough 71 = .ok (.if_icmp .ne 16, 3) := by decide +kernel
theorem dX12_goThrough_74 : decode cX12_goThrough 74 = .ok (.aload_n 0, 1) := by decide +kernel
theorem dX12_goThrough_75 : decode cX12_goThrough 75 = .ok (.invokevirtual 136, 3) := by decide +kernel
theorem dX12_goThrough_78 : decode cX12_goThrough 78 = .ok (.iconst (-1), 1) := by decide +kernel
theorem dX12_goThrough_79 : decode cX12_goThrough 79 = .ok (.if_icmp .eq 8, 3) := by decide +kernel
theorem dX12_goThrough_82 : decode cX12_goThrough 82 = .ok (.aload_n 0, 1) := by decide +kernel
theorem dX12_goThrough_83 : decode cX12_goThrough 83 = .ok (.invokevirtual 132, 3) := by decide +kernel
theorem dX12_goThrough_86 : decode cX12_goThrough 86 = .ok (.pop, 1) := by decide +kernel
theorem dX12_goThrough_87 : decode cX12_goThrough 87 = .ok (.return_, 1) := by decide +kernel
theorem wl_7_126 : (.methodLink RX12 205 yX12_starts : Cond) ∈ sg_tbl := tb_7 _ (List.mem_of_getElem? (i := 126) (by decide +kernel)) (by decide +kernel)
theorem wl_7_210 : (.methodLink RX12 209 yX12_clause : Cond) ∈ sg_tbl := tb_7 _ (List.mem_of_getElem? (i := 210) (by decide +kernel)) (by decide +kernel)
theorem wl_7_209 : (.code yX12_goThrough cX12_goThrough 4 none : Cond) ∈ sg_tbl := tb_7 _ (List.mem_of_getElem? (i := 209) (by decide +kernel)) (by decide +kernel)
theorem wl_7_208 : (.instanceMethod yX12_goThrough : Cond) ∈ sg_tbl := tb_7 _ (List.mem_of_getElem? (i := 208) (by decide +kernel)) (by decide +kernel)
theorem wl_0_58 : (.selects RX12 yX12_goThrough yX12_goThrough : Cond) ∈ sg_tbl := tb_0 _ (List.mem_of_getElem? (i := 58) (by decide +kernel)) (by decide +kernel)
section
variable {p : Program} {l : Launch} {e : Env} {R : Room} {s : State} {m : MethodId} {args : Array Value} {below : List Frame} {meth : Method} {c : Code} {H : Heap} {locs : List Loc} {cells slots : Nat} {Q : State → Prop} {cc : ByteArray} {nL pc : Nat} {ls : Array Slot} {rest : List Value} {own : String} {D : va_G} {A : Nat → Prop} {tys : List (ClassId × FieldType)} {ad ks : List Nat} {P : sgPm} {H0 : Heap} {index : Nat} {base : Nat} {st0 : List Value} {a : Nat}
theorem pf_X12_13r  {x : Int32} {b : Bool} {d lo hi m f : Int} (X : CallFix p m c cc nL s args sg_tbl own) (hK : va_K D vwCl tys s) (hG : sgG (KR b d lo hi m f P) D vwCl A tys ad ks H) (hS : va_S A H0 H locs) (ha : isK ad ks 12 a) (hl : Cond.fieldLink own index "LawnAheadModel" "label" "I" ∈ sg_tbl) (hv : okV ad ks (.inl ((-2147483648), 2147483647)) (.int x)) (hdg : decode cc pc = .ok (.putfield index, 3)) (kk : ∀ (H1 : Heap) (locs1 : List Loc), sgG (KR b d lo hi m f P) D vwCl A tys ad ks H1 → va_S A H0 H1 locs1 → fld D H1 12 a 13 (.int x) → sgFr (KR b d lo hi m f P) D vwCl ad ks H H1 (fun a' j' => a' = a ∧ j' = 13) → W p l e R s m args below meth c H1 locs1 cells slots Q (F0 m (pc + 3) ls rest)) : W p l e R s m args below meth c H locs cells slots Q (F0 m pc ls (.int x :: .ref a :: rest)) :=
  sg_put X hK hG hS ha (k := 12) (ci := 12) rfl (C := RX12) (T := TX12) (N := 53) rfl inL_X12 tyX12 tyX12_ok nmX12 13 (by decide) rfl hl (fun _ h => h) rfl (ty := .int) rfl rfl rfl hv hdg kk
set_option maxHeartbeats 8000000 in
set_option maxRecDepth 100000 in
theorem m_X12_goThrough_t (l : Launch) {D : va_G} {base : Nat} {tys : List (ClassId × FieldType)} {ad ks : List Nat} {P : sgPm} (a0 : Nat) (h0 : isK ad ks 12 a0) (a1 : Nat) (h1 : isK ad ks 45 a1) (x2 : Int32) (h2 : iv 0 0 x2) (x3 : Int32) (h3 : iv 0 240 x3) : sgMv l (KT P) D vwCl base tys ad ks yX12_goThrough cX12_goThrough 4 none ({ frames := 31, cells := 0, slots := 0, locals := 723 }) [.ref a0, .ref a1, .int x2, .int x3] := by
  refine sg_ofW (by decide +kernel) (Nat.le_of_ble_eq_true rfl) (fun p e s m below meth c X hr hlk hb hK hC hG ls hl => ?_)
  have hS : va_S (fun q : Nat => base ≤ q) s.heap s.heap [] := va_S.rf
  have hl : lv_has ls 4 [(0, .ref a0), (1, .ref a1), (2, .int x2), (3, .int x3)] := hl
  refine lv_aload_n X.1 X.2.1 dX12_goThrough_0 rfl (lv_at hl 0 rfl) ?_
  refine lv_aload_n X.1 X.2.1 dX12_goThrough_1 rfl (lv_at hl 1 rfl) ?_
  refine lv_iload_n X.1 X.2.1 dX12_goThrough_2 rfl (lv_at hl 2 rfl) ?_
  refine lv_iload_n X.1 X.2.1 dX12_goThrough_3 rfl (lv_at hl 3 rfl) ?_
  refine ca_X12_starts_t X hK hG hC hS hb a0 h0 a1 h1 x2 h2 x3 h3 wl_7_126 hl.1 (rest := []) rfl (Nat.le_of_ble_eq_true rfl) ⟨Nat.le_of_ble_eq_true rfl, Nat.le_of_ble_eq_true rfl⟩ ⟨Nat.le_of_ble_eq_true rfl, Nat.le_of_ble_eq_true rfl⟩ dX12_goThrough_4 (fun tg1 H locs htg1 hWg1 hS => ?_)
  have hG := hWg1.2.2.2
  rw [htg1] at hG
  refine lv_aload_n X.1 X.2.1 dX12_goThrough_7 rfl (lv_at hl 0 rfl) ?_
  refine lv_bipush (v := 121) X.1 X.2.1 dX12_goThrough_8 (by decide +kernel) ?_
  refine pf_X12_13r X hK hG hS h0 wl_6_191 ⟨_, rfl, (iv_of (iv_c 121 (a := 121) (b := 121) (by decide +kernel)) (a' := (-2147483648)) (b' := 2147483647) (by decide +kernel))⟩ dX12_goThrough_10 (fun H locs hG hS ku2 ru2 => ?_)
  refine lv_aload_n X.1 X.2.1 dX12_goThrough_13 rfl (lv_at hl 0 rfl) ?_
  refine lv_iconst (v := 0) X.1 X.2.1 dX12_goThrough_14 (by decide +kernel) ?_
  refine pf_X12_12R (d2 := 0) X hK hG hS h0 wl_6_190 ⟨_, rfl, (iv_of (iv_c 0 (a := 0) (b := 0) (by decide +kernel)) (a' := 0) (b' := 6) (by decide +kernel))⟩ dX12_goThrough_15 (fun H locs hG hS => ?_)
  refine lv_aload_n X.1 X.2.1 dX12_goThrough_18 rfl (lv_at hl 0 rfl) ?_
  refine lv_iconst (v := 0) X.1 X.2.1 dX12_goThrough_19 (by decide +kernel) ?_
  refine pf_X12_17r X hK hG hS h0 wl_6_195 ⟨_, rfl, (iv_of (iv_c 0 (a := 0) (b := 0) (by decide +kernel)) (a' := 0) (b' := 1) (by decide +kernel))⟩ dX12_goThrough_20 (fun H locs hG hS ku3 ru3 => ?_)
  refine lv_aload_n X.1 X.2.1 dX12_goThrough_23 rfl (lv_at hl 0 rfl) ?_
  refine lv_iconst (v := 0) X.1 X.2.1 dX12_goThrough_24 (by decide +kernel) ?_
  refine pf_X12_14r X hK hG hS h0 wl_6_192 ⟨_, rfl, (iv_of (iv_c 0 (a := 0) (b := 0) (by decide +kernel)) (a' := (-2147483648)) (b' := 2147483647) (by decide +kernel))⟩ dX12_goThrough_25 (fun H locs hG hS ku4 ru4 => ?_)
  refine lv_aload_n X.1 X.2.1 dX12_goThrough_28 rfl (lv_at hl 0 rfl) ?_
  refine ca_X12_clause X hK hG hC hS hb a0 h0 ⟨by omega, by omega, by omega, by omega, by omega⟩ wl_7_210 hl.1 (rest := []) rfl (Nat.le_of_ble_eq_true rfl) ⟨Nat.le_of_ble_eq_true rfl, Nat.le_of_ble_eq_true rfl⟩ ⟨Nat.le_of_ble_eq_true rfl, Nat.le_of_ble_eq_true rfl⟩ dX12_goThrough_29 (fun H locs hG hS => ?_)
  have B6_32 : ∀ (N : Nat) (H : Heap) (locs : List Loc) (ls : Array Slot) (lo6 : Int), 0 ≤ lo6 → lo6 ≤ 241 → sgG (KR false 0 lo6 241 0 (-1) P) D vwCl (fun q : Nat => base ≤ q) tys ad ks H → va_S (fun q : Nat => base ≤ q) s.heap H locs → lv_has ls 4 [(0, .ref a0)] → (242 - lo6).toNat ≤ N → W p l e (headSpec (Cond.code yX12_goThrough cX12_goThrough 4 none :: sg_tbl) ({ frames := 31, cells := 0, slots := 0, locals := 723 })).room s m #[.ref a0, .ref a1, .int x2, .int x3] below meth c H locs 0 0 (MQ below (va_Qv (fun (_ : Unit) => True) (fun _ => sgB (KT P) D vwCl base tys ad ks) (fun q : Nat => base ≤ q)) #[.ref a0, .ref a1, .int x2, .int x3] s 0 0 (fun q : Nat => base ≤ q)) (F0 m 32 ls []) := by
    intro N; induction N with
    | zero =>
      intro H locs ls lo6 jl6 jm6 hG hS hl hN
      exact absurd hN (by have := jm6; omega)
    | succ N ih6 =>
      intro H locs ls lo6 jl6 jm6 hG hS hl hN6
      refine lv_aload_n X.1 X.2.1 dX12_goThrough_32 rfl (lv_at hl 0 rfl) ?_
      refine gf_X12_11r X hK hG h0 wl_6_189 dX12_goThrough_33 (fun f7 hf7 kf7 => ?_)
      have ⟨laf7, uaf7⟩ : (-1) ≤ f7.toInt ∧ f7.toInt ≤ 241 := hf7
      have hf7 : iv (-1) 241 f7 := ⟨by omega, by omega⟩
      refine lv_iconst (v := (-1)) X.1 X.2.1 dX12_goThrough_36 (by decide +kernel) ?_
      have B9_66 : ∀ (H : Heap) (locs : List Loc) (ls : Array Slot) (lo9 : Int), lo6 ≤ lo9 → lo9 ≤ 241 → sgG (KR false 0 lo9 241 0 (-1) P) D vwCl (fun q : Nat => base ≤ q) tys ad ks H → va_S (fun q : Nat => base ≤ q) s.heap H locs → lv_has ls 4 [(0, .ref a0)] → W p l e (headSpec (Cond.code yX12_goThrough cX12_goThrough 4 none :: sg_tbl) ({ frames := 31, cells := 0, slots := 0, locals := 723 })).room s m #[.ref a0, .ref a1, .int x2, .int x3] below meth c H locs 0 0 (MQ below (va_Qv (fun (_ : Unit) => True) (fun _ => sgB (KT P) D vwCl base tys ad ks) (fun q : Nat => base ≤ q)) #[.ref a0, .ref a1, .int x2, .int x3] s 0 0 (fun q : Nat => base ≤ q)) (F0 m 66 ls []) := by
        intro H locs ls lo9 jl9 jm9 hG hS hl
        refine lv_aload_n X.1 X.2.1 dX12_goThrough_66 rfl (lv_at hl 0 rfl) ?_
        refine gf_X12_11r X hK hG h0 wl_6_189 dX12_goThrough_67 (fun f10 hf10 kf10 => ?_)
        have ⟨laf10, uaf10⟩ : (-1) ≤ f10.toInt ∧ f10.toInt ≤ 241 := hf10
        have hf10 : iv (-1) 241 f10 := ⟨by omega, by omega⟩
        refine lv_iconst (v := (-1)) X.1 X.2.1 dX12_goThrough_70 (by decide +kernel) ?_
        refine lv_icmp_ne (tgt := 87) X.1 X.2.1 dX12_goThrough_71 (by decide) (fun c11 => ?_) (fun c11 => ?_)
        · have hG := sgr_toKT hG (by omega) (by omega) (by omega)
          exact sg_vret X hr hlk hb hK hC hG hS dX12_goThrough_87
        · refine lv_aload_n X.1 X.2.1 dX12_goThrough_74 rfl (lv_at hl 0 rfl) ?_
          refine ca_X12_look X hK hG hC hS hb a0 h0 ⟨by omega, by omega, by omega, by omega, by omega⟩ ⟨by omega, by omega⟩ wl_7_137 hl.1 (rest := []) rfl (Nat.le_of_ble_eq_true rfl) ⟨Nat.le_of_ble_eq_true rfl, Nat.le_of_ble_eq_true rfl⟩ ⟨Nat.le_of_ble_eq_true rfl, Nat.le_of_ble_eq_true rfl⟩ dX12_goThrough_75 (fun f12 tf12 H locs htf12 hf12 hWf12 hS => ?_)
          obtain ⟨hBf12, v13, kv13, hv13, lv13⟩ := hWf12
          have hG := hBf12.2.2.2
          rw [htf12] at hG kv13
          have ⟨lav13, uav13⟩ : lo9 ≤ v13.toInt ∧ v13.toInt ≤ 241 := hv13
          have hv13 : iv 0 241 v13 := ⟨by omega, by omega⟩
          refine lv_iconst (v := (-1)) X.1 X.2.1 dX12_goThrough_78 (by decide +kernel) ?_
          refine lv_icmp_eq (tgt := 87) X.1 X.2.1 dX12_goThrough_79 (by decide) (fun c14 => ?_) (fun c14 => ?_)
          · have hG := sgr_toKT hG (by omega) (by omega) (by omega)
            exact sg_vret X hr hlk hb hK hC hG hS dX12_goThrough_87
          · refine lv_aload_n X.1 X.2.1 dX12_goThrough_82 rfl (lv_at hl 0 rfl) ?_
            refine ca_X12_fails X hK hG hC hS hb a0 h0 ⟨by omega, by omega, by omega, by omega, by omega⟩ wl_7_141 hl.1 (rest := []) rfl (Nat.le_of_ble_eq_true rfl) ⟨Nat.le_of_ble_eq_true rfl, Nat.le_of_ble_eq_true rfl⟩ ⟨Nat.le_of_ble_eq_true rfl, Nat.le_of_ble_eq_true rfl⟩ dX12_goThrough_83 (fun f15 H locs hf15 hG hS => ?_)
            refine lv_pop X.1 X.2.1 dX12_goThrough_86 rfl ?_
            have hG := sgr_toKT hG (by omega) (by omega) (by omega)
            exact sg_vret X hr hlk hb hK hC hG hS dX12_goThrough_87
      refine lv_icmp_ne (tgt := 66) X.1 X.2.1 dX12_goThrough_37 (by decide) (fun c8 => ?_) (fun c8 => ?_)
      · exact B9_66 H _ _ lo6 (by omega) (by omega) hG hS (lv_sub hl [0] rfl)
      · refine lv_aload_n X.1 X.2.1 dX12_goThrough_40 rfl (lv_at hl 0 rfl) ?_
        refine ca_X12_look X hK hG hC hS hb a0 h0 ⟨by omega, by omega, by omega, by omega, by omega⟩ ⟨by omega, by omega⟩ wl_7_137 hl.1 (rest := []) rfl (Nat.le_of_ble_eq_true rfl) ⟨Nat.le_of_ble_eq_true rfl, Nat.le_of_ble_eq_true rfl⟩ ⟨Nat.le_of_ble_eq_true rfl, Nat.le_of_ble_eq_true rfl⟩ dX12_goThrough_41 (fun f16 tf16 H locs htf16 hf16 hWf16 hS => ?_)
        obtain ⟨hBf16, v17, kv17, hv17, lv17⟩ := hWf16
        have hG := hBf16.2.2.2
        rw [htf16] at hG kv17
        have ⟨lav17, uav17⟩ : lo6 ≤ v17.toInt ∧ v17.toInt ≤ 241 := hv17
        have hv17 : iv 0 241 v17 := ⟨by omega, by omega⟩
        refine lv_bipush (v := 59) X.1 X.2.1 dX12_goThrough_44 (by decide +kernel) ?_
        refine lv_icmp_ne (tgt := 66) X.1 X.2.1 dX12_goThrough_46 (by decide) (fun c18 => ?_) (fun c18 => ?_)
        · exact B9_66 H _ _ lo6 (by omega) (by omega) hG hS (lv_sub hl [0] rfl)
        · refine lv_aload_n X.1 X.2.1 dX12_goThrough_49 rfl (lv_at hl 0 rfl) ?_
          refine lv_dup X.1 X.2.1 dX12_goThrough_50 rfl ?_
          refine gg_X12_10r X hK hG h0 wl_6_188 kv17 dX12_goThrough_51 ?_
          refine lv_iconst (v := 1) X.1 X.2.1 dX12_goThrough_54 (by decide +kernel) ?_
          refine lv_iadd X.1 X.2.1 dX12_goThrough_55 ?_
          refine lv_topi (fun f19 ef19 => ?_)
          have sf19 : f19.toInt = v17.toInt + 1 := sg_inc (k := 1) ef19 (sg_lk (iv_eqm (a' := 59) (b' := 59) c18 hf16 (iv_c 59 (a := 59) (b := 59) (by decide +kernel)) (by decide +kernel)) lv17 hv17) (by decide +kernel)
          have uf19 : f19.toInt ≤ 241 := Int.le_trans ((iv_add (a' := 1) (b' := 240) ef19 (sg_lk (iv_eqm (a' := 59) (b' := 59) c18 hf16 (iv_c 59 (a := 59) (b := 59) (by decide +kernel)) (by decide +kernel)) lv17 hv17) (iv_c 1 (a := 1) (b := 1) (by decide +kernel)) (by decide +kernel))).2 (by omega)
          refine pf_X12_10R (lo2 := f19.toInt) (hi2 := 241) X hK hG hS h0 wl_6_188 ⟨_, rfl, Int.le_refl _, uf19⟩ dX12_goThrough_56 (fun H locs hG hS => ?_)
          refine lv_aload_n X.1 X.2.1 dX12_goThrough_59 rfl (lv_at hl 0 rfl) ?_
          refine ca_X12_clause X hK hG hC hS hb a0 h0 ⟨by omega, by omega, by omega, by omega, by omega⟩ wl_7_210 hl.1 (rest := []) rfl (Nat.le_of_ble_eq_true rfl) ⟨Nat.le_of_ble_eq_true rfl, Nat.le_of_ble_eq_true rfl⟩ ⟨Nat.le_of_ble_eq_true rfl, Nat.le_of_ble_eq_true rfl⟩ dX12_goThrough_60 (fun H locs hG hS => ?_)
          refine lv_goto (tgt := 32) X.1 X.2.1 dX12_goThrough_63 (by decide) ?_
          exact ih6 H _ _ f19.toInt (by omega) (by omega) hG hS (lv_sub hl [0] rfl) (by omega)
  exact B6_32 _ H _ _ 0 (by omega) (by omega) hG hS (lv_sub hl [0] rfl) (Nat.le_refl _)

theorem ca_X12_goThrough_t   (X : CallFix p m c cc nL s args sg_tbl own) (hK : va_K D vwCl tys s) (hG : sgG (KT P) D vwCl (fun q : Nat => base ≤ q) tys ad ks H) (hC : sgC base s) (hS : va_S (fun q : Nat => base ≤ q) s.heap H locs) (hb : base ≤ s.heap.size) (a0 : Nat) (h0 : isK ad ks 12 a0) (a1 : Nat) (h1 : isK ad ks 45 a1) (x2 : Int32) (h2 : iv 0 0 x2) (x3 : Int32) (h3 : iv 0 240 x3) (hl : Cond.methodLink own index yX12_goThrough ∈ sg_tbl) (hsize : ls.size = nL) (hst : st0 = [.ref a1, .int x2, .int x3].reverse ++ .ref a0 :: rest) (hW : (rest.map fun v => v.category).sum ≤ 8) (hR : 32 ≤ R.frames ∧ 746 ≤ R.locals) (hf : cells ≤ R.cells ∧ slots ≤ R.slots) (hdg : decode cc pc = .ok (.invokevirtual index, 3)) (kk : ∀ (H1 : Heap) (locs1 : List Loc), sgG (KT P) D vwCl (fun q : Nat => base ≤ q) tys ad ks H1 → va_S (fun q : Nat => base ≤ q) s.heap H1 locs1 → W p l e R s m args below meth c H1 locs1 cells slots Q (F0 m (pc + 3) ls rest)) : W p l e R s m args below meth c H locs cells slots Q (F0 m pc ls st0) :=
  sg_callVv X hK hG hC hS hb (m_X12_goThrough_t l a0 h0 a1 h1 x2 h2 x3 h3) h0 (k := 12) (ci := 12) rfl (C := RX12) (T := TX12) (N := 53) rfl wl_7_209 wl_1_13 wl_7_208 wl_0_58 (n := 3) (by decide +kernel) rfl rfl rfl hl hsize hst hW hR hf hdg kk

set_option maxHeartbeats 8000000 in
set_option maxRecDepth 100000 in
theorem m_X12_starts_x (l : Launch) {D : va_G} {base : Nat} {tys : List (ClassId × FieldType)} {ad ks : List Nat} {P : sgPm} (a0 : Nat) (h0 : isK ad ks 12 a0) (a1 : Nat) (h1 : isK ad ks 46 a1) (x2 : Int32) (h2 : iv 0 720 x2) (x3 : Int32) (h3 : iv 0 240 x3) : Met l yX12_starts (Cond.code yX12_starts cX12_starts 4 none :: sg_tbl) ({ frames := 0, cells := 0, slots := 0, locals := 0 }) (va_Pc [.ref a0, .ref a1, .int x2, .int x3] (sgB (KT P) D vwCl base tys ad ks)) (va_Qv (fun (_ : Unit) => True) (fun _ => sgB (KR true 0 0 241 0 (-1) P) D vwCl base tys ad ks) (fun q : Nat => base ≤ q)) 0 0 (fun q : Nat => base ≤ q) := by
  refine sg_ofW (by decide +kernel) (Nat.le_of_ble_eq_true rfl) (fun p e s m below meth c X hr hlk hb hK hC hG ls hl => ?_)
  have hS : va_S (fun q : Nat => base ≤ q) s.heap s.heap [] := va_S.rf
  have hl : lv_has ls 4 [(0, .ref a0), (1, .ref a1), (2, .int x2), (3, .int x3)] := hl
  refine lv_aload_n X.1 X.2.1 dX12_starts_0 rfl (lv_at hl 0 rfl) ?_
  refine lv_aload_n X.1 X.2.1 dX12_starts_1 rfl (lv_at hl 1 rfl) ?_
  refine pf_X12_5S (b := true) X hK hG hS h0 wl_6_183 (Or.inr ⟨_, rfl, h1⟩) dX12_starts_2 (fun H locs hG hS => ?_)
  refine lv_aload_n X.1 X.2.1 dX12_starts_5 rfl (lv_at hl 0 rfl) ?_
  refine lv_iload_n X.1 X.2.1 dX12_starts_6 rfl (lv_at hl 2 rfl) ?_
  refine pf_X12_8S (b := true) X hK hG hS h0 wl_6_186 ⟨_, rfl, h2⟩ dX12_starts_7 (fun H locs hG hS => ?_)
  refine lv_aload_n X.1 X.2.1 dX12_starts_10 rfl (lv_at hl 0 rfl) ?_
  refine lv_iload_n X.1 X.2.1 dX12_starts_11 rfl (lv_at hl 3 rfl) ?_
  refine pf_X12_9u X hK hG hS h0 wl_6_187 ⟨_, rfl, h3⟩ dX12_starts_12 (fun H locs hG hS ku1 ru1 => ?_)
  refine lv_aload_n X.1 X.2.1 dX12_starts_15 rfl (lv_at hl 0 rfl) ?_
  refine lv_iconst (v := 0) X.1 X.2.1 dX12_starts_16 (by decide +kernel) ?_
  refine pf_X12_10S (b := true) X hK hG hS h0 wl_6_188 ⟨_, rfl, iv_c _ (by decide +kernel)⟩ dX12_starts_17 (fun H locs hG hS => ?_)
  refine lv_aload_n X.1 X.2.1 dX12_starts_20 rfl (lv_at hl 0 rfl) ?_
  refine lv_iconst (v := (-1)) X.1 X.2.1 dX12_starts_21 (by decide +kernel) ?_
  refine pf_X12_11r X hK hG hS h0 wl_6_189 ⟨_, rfl, iv_c _ (by decide +kernel)⟩ dX12_starts_22 (fun H locs hG hS ku2 ru2 => ?_)
  exact sg_vret2 X hr hlk hS (fun t ht hW => sg_post hb hK hC hG hS ht hW) dX12_starts_25

theorem ca_X12_starts_x   (X : CallFix p m c cc nL s args sg_tbl own) (hK : va_K D vwCl tys s) (hG : sgG (KT P) D vwCl (fun q : Nat => base ≤ q) tys ad ks H) (hC : sgC base s) (hS : va_S (fun q : Nat => base ≤ q) s.heap H locs) (hb : base ≤ s.heap.size) (a0 : Nat) (h0 : isK ad ks 12 a0) (a1 : Nat) (h1 : isK ad ks 46 a1) (x2 : Int32) (h2 : iv 0 720 x2) (x3 : Int32) (h3 : iv 0 240 x3) (hl : Cond.methodLink own index yX12_starts ∈ sg_tbl) (hsize : ls.size = nL) (hst : st0 = [.ref a1, .int x2, .int x3].reverse ++ .ref a0 :: rest) (hW : (rest.map fun v => v.category).sum ≤ 8) (hR : 1 ≤ R.frames ∧ 23 ≤ R.locals) (hf : cells ≤ R.cells ∧ slots ≤ R.slots) (hdg : decode cc pc = .ok (.invokevirtual index, 3)) (kk : ∀ (t : State) (H1 : Heap) (locs1 : List Loc), t.heap = H1 → (sgB (KR true 0 0 241 0 (-1) P) D vwCl base tys ad ks t) → va_S (fun q : Nat => base ≤ q) s.heap H1 locs1 → W p l e R s m args below meth c H1 locs1 cells slots Q (F0 m (pc + 3) ls rest)) : W p l e R s m args below meth c H locs cells slots Q (F0 m pc ls st0) :=
  sg_callV2v X hK hG hC hS hb (m_X12_starts_x l a0 h0 a1 h1 x2 h2 x3 h3) h0 (k := 12) (ci := 12) rfl (C := RX12) (T := TX12) (N := 53) rfl wl_7_129 wl_1_13 wl_7_128 wl_0_50 (n := 3) (by decide +kernel) rfl rfl rfl hl hsize hst hW hR hf hdg kk

set_option maxHeartbeats 8000000 in
set_option maxRecDepth 100000 in
theorem m_X12_goThrough_x (l : Launch) {D : va_G} {base : Nat} {tys : List (ClassId × FieldType)} {ad ks : List Nat} {P : sgPm} (a0 : Nat) (h0 : isK ad ks 12 a0) (a1 : Nat) (h1 : isK ad ks 46 a1) (x2 : Int32) (h2 : iv 0 720 x2) (x3 : Int32) (h3 : iv 0 240 x3) : sgMv l (KT P) D vwCl base tys ad ks yX12_goThrough cX12_goThrough 4 none ({ frames := 31, cells := 0, slots := 0, locals := 723 }) [.ref a0, .ref a1, .int x2, .int x3] := by
  refine sg_ofW (by decide +kernel) (Nat.le_of_ble_eq_true rfl) (fun p e s m below meth c X hr hlk hb hK hC hG ls hl => ?_)
  have hS : va_S (fun q : Nat => base ≤ q) s.heap s.heap [] := va_S.rf
  have hl : lv_has ls 4 [(0, .ref a0), (1, .ref a1), (2, .int x2), (3, .int x3)] := hl
  refine lv_aload_n X.1 X.2.1 dX12_goThrough_0 rfl (lv_at hl 0 rfl) ?_
  refine lv_aload_n X.1 X.2.1 dX12_goThrough_1 rfl (lv_at hl 1 rfl) ?_
  refine lv_iload_n X.1 X.2.1 dX12_goThrough_2 rfl (lv_at hl 2 rfl) ?_
  refine lv_iload_n X.1 X.2.1 dX12_goThrough_3 rfl (lv_at hl 3 rfl) ?_
  refine ca_X12_starts_x X hK hG hC hS hb a0 h0 a1 h1 x2 h2 x3 h3 wl_7_126 hl.1 (rest := []) rfl (Nat.le_of_ble_eq_true rfl) ⟨Nat.le_of_ble_eq_true rfl, Nat.le_of_ble_eq_true rfl⟩ ⟨Nat.le_of_ble_eq_true rfl, Nat.le_of_ble_eq_true rfl⟩ dX12_goThrough_4 (fun tg1 H locs htg1 hWg1 hS => ?_)
  have hG := hWg1.2.2.2
  rw [htg1] at hG
  refine lv_aload_n X.1 X.2.1 dX12_goThrough_7 rfl (lv_at hl 0 rfl) ?_
  refine lv_bipush (v := 121) X.1 X.2.1 dX12_goThrough_8 (by decide +kernel) ?_
  refine pf_X12_13r X hK hG hS h0 wl_6_191 ⟨_, rfl, (iv_of (iv_c 121 (a := 121) (b := 121) (by decide +kernel)) (a' := (-2147483648)) (b' := 2147483647) (by decide +kernel))⟩ dX12_goThrough_10 (fun H locs hG hS ku2 ru2 => ?_)
  refine lv_aload_n X.1 X.2.1 dX12_goThrough_13 rfl (lv_at hl 0 rfl) ?_
  refine lv_iconst (v := 0) X.1 X.2.1 dX12_goThrough_14 (by decide +kernel) ?_
  refine pf_X12_12R (d2 := 0) X hK hG hS h0 wl_6_190 ⟨_, rfl, (iv_of (iv_c 0 (a := 0) (b := 0) (by decide +kernel)) (a' := 0) (b' := 6) (by decide +kernel))⟩ dX12_goThrough_15 (fun H locs hG hS => ?_)
  refine lv_aload_n X.1 X.2.1 dX12_goThrough_18 rfl (lv_at hl 0 rfl) ?_
  refine lv_iconst (v := 0) X.1 X.2.1 dX12_goThrough_19 (by decide +kernel) ?_
  refine pf_X12_17r X hK hG hS h0 wl_6_195 ⟨_, rfl, (iv_of (iv_c 0 (a := 0) (b := 0) (by decide +kernel)) (a' := 0) (b' := 1) (by decide +kernel))⟩ dX12_goThrough_20 (fun H locs hG hS ku3 ru3 => ?_)
  refine lv_aload_n X.1 X.2.1 dX12_goThrough_23 rfl (lv_at hl 0 rfl) ?_
  refine lv_iconst (v := 0) X.1 X.2.1 dX12_goThrough_24 (by decide +kernel) ?_
  refine pf_X12_14r X hK hG hS h0 wl_6_192 ⟨_, rfl, (iv_of (iv_c 0 (a := 0) (b := 0) (by decide +kernel)) (a' := (-2147483648)) (b' := 2147483647) (by decide +kernel))⟩ dX12_goThrough_25 (fun H locs hG hS ku4 ru4 => ?_)
  refine lv_aload_n X.1 X.2.1 dX12_goThrough_28 rfl (lv_at hl 0 rfl) ?_
  refine ca_X12_clause X hK hG hC hS hb a0 h0 ⟨by omega, by omega, by omega, by omega, by omega⟩ wl_7_210 hl.1 (rest := []) rfl (Nat.le_of_ble_eq_true rfl) ⟨Nat.le_of_ble_eq_true rfl, Nat.le_of_ble_eq_true rfl⟩ ⟨Nat.le_of_ble_eq_true rfl, Nat.le_of_ble_eq_true rfl⟩ dX12_goThrough_29 (fun H locs hG hS => ?_)
  have B6_32 : ∀ (N : Nat) (H : Heap) (locs : List Loc) (ls : Array Slot) (lo6 : Int), 0 ≤ lo6 → lo6 ≤ 241 → sgG (KR true 0 lo6 241 0 (-1) P) D vwCl (fun q : Nat => base ≤ q) tys ad ks H → va_S (fun q : Nat => base ≤ q) s.heap H locs → lv_has ls 4 [(0, .ref a0)] → (242 - lo6).toNat ≤ N → W p l e (headSpec (Cond.code yX12_goThrough cX12_goThrough 4 none :: sg_tbl) ({ frames := 31, cells := 0, slots := 0, locals := 723 })).room s m #[.ref a0, .ref a1, .int x2, .int x3] below meth c H locs 0 0 (MQ below (va_Qv (fun (_ : Unit) => True) (fun _ => sgB (KT P) D vwCl base tys ad ks) (fun q : Nat => base ≤ q)) #[.ref a0, .ref a1, .int x2, .int x3] s 0 0 (fun q : Nat => base ≤ q)) (F0 m 32 ls []) := by
    intro N; induction N with
    | zero =>
      intro H locs ls lo6 jl6 jm6 hG hS hl hN
      exact absurd hN (by have := jm6; omega)
    | succ N ih6 =>
      intro H locs ls lo6 jl6 jm6 hG hS hl hN6
      refine lv_aload_n X.1 X.2.1 dX12_goThrough_32 rfl (lv_at hl 0 rfl) ?_
      refine gf_X12_11r X hK hG h0 wl_6_189 dX12_goThrough_33 (fun f7 hf7 kf7 => ?_)
      have ⟨laf7, uaf7⟩ : (-1) ≤ f7.toInt ∧ f7.toInt ≤ 241 := hf7
      have hf7 : iv (-1) 241 f7 := ⟨by omega, by omega⟩
      refine lv_iconst (v := (-1)) X.1 X.2.1 dX12_goThrough_36 (by decide +kernel) ?_
      have B9_66 : ∀ (H : Heap) (locs : List Loc) (ls : Array Slot) (lo9 : Int), lo6 ≤ lo9 → lo9 ≤ 241 → sgG (KR true 0 lo9 241 0 (-1) P) D vwCl (fun q : Nat => base ≤ q) tys ad ks H → va_S (fun q : Nat => base ≤ q) s.heap H locs → lv_has ls 4 [(0, .ref a0)] → W p l e (headSpec (Cond.code yX12_goThrough cX12_goThrough 4 none :: sg_tbl) ({ frames := 31, cells := 0, slots := 0, locals := 723 })).room s m #[.ref a0, .ref a1, .int x2, .int x3] below meth c H locs 0 0 (MQ below (va_Qv (fun (_ : Unit) => True) (fun _ => sgB (KT P) D vwCl base tys ad ks) (fun q : Nat => base ≤ q)) #[.ref a0, .ref a1, .int x2, .int x3] s 0 0 (fun q : Nat => base ≤ q)) (F0 m 66 ls []) := by
        intro H locs ls lo9 jl9 jm9 hG hS hl
        refine lv_aload_n X.1 X.2.1 dX12_goThrough_66 rfl (lv_at hl 0 rfl) ?_
        refine gf_X12_11r X hK hG h0 wl_6_189 dX12_goThrough_67 (fun f10 hf10 kf10 => ?_)
        have ⟨laf10, uaf10⟩ : (-1) ≤ f10.toInt ∧ f10.toInt ≤ 241 := hf10
        have hf10 : iv (-1) 241 f10 := ⟨by omega, by omega⟩
        refine lv_iconst (v := (-1)) X.1 X.2.1 dX12_goThrough_70 (by decide +kernel) ?_
        refine lv_icmp_ne (tgt := 87) X.1 X.2.1 dX12_goThrough_71 (by decide) (fun c11 => ?_) (fun c11 => ?_)
        · have hG := sgr_toKT hG (by omega) (by omega) (by omega)
          exact sg_vret X hr hlk hb hK hC hG hS dX12_goThrough_87
        · refine lv_aload_n X.1 X.2.1 dX12_goThrough_74 rfl (lv_at hl 0 rfl) ?_
          refine ca_X12_look X hK hG hC hS hb a0 h0 ⟨by omega, by omega, by omega, by omega, by omega⟩ ⟨by omega, by omega⟩ wl_7_137 hl.1 (rest := []) rfl (Nat.le_of_ble_eq_true rfl) ⟨Nat.le_of_ble_eq_true rfl, Nat.le_of_ble_eq_true rfl⟩ ⟨Nat.le_of_ble_eq_true rfl, Nat.le_of_ble_eq_true rfl⟩ dX12_goThrough_75 (fun f12 tf12 H locs htf12 hf12 hWf12 hS => ?_)
          obtain ⟨hBf12, v13, kv13, hv13, lv13⟩ := hWf12
          have hG := hBf12.2.2.2
          rw [htf12] at hG kv13
          have ⟨lav13, uav13⟩ : lo9 ≤ v13.toInt ∧ v13.toInt ≤ 241 := hv13
          have hv13 : iv 0 241 v13 := ⟨by omega, by omega⟩
          refine lv_iconst (v := (-1)) X.1 X.2.1 dX12_goThrough_78 (by decide +kernel) ?_
          refine lv_icmp_eq (tgt := 87) X.1 X.2.1 dX12_goThrough_79 (by decide) (fun c14 => ?_) (fun c14 => ?_)
          · have hG := sgr_toKT hG (by omega) (by omega) (by omega)
            exact sg_vret X hr hlk hb hK hC hG hS dX12_goThrough_87
          · refine lv_aload_n X.1 X.2.1 dX12_goThrough_82 rfl (lv_at hl 0 rfl) ?_
            refine ca_X12_fails X hK hG hC hS hb a0 h0 ⟨by omega, by omega, by omega, by omega, by omega⟩ wl_7_141 hl.1 (rest := []) rfl (Nat.le_of_ble_eq_true rfl) ⟨Nat.le_of_ble_eq_true rfl, Nat.le_of_ble_eq_true rfl⟩ ⟨Nat.le_of_ble_eq_true rfl, Nat.le_of_ble_eq_true rfl⟩ dX12_goThrough_83 (fun f15 H locs hf15 hG hS => ?_)
            refine lv_pop X.1 X.2.1 dX12_goThrough_86 rfl ?_
            have hG := sgr_toKT hG (by omega) (by omega) (by omega)
            exact sg_vret X hr hlk hb hK hC hG hS dX12_goThrough_87
      refine lv_icmp_ne (tgt := 66) X.1 X.2.1 dX12_goThrough_37 (by decide) (fun c8 => ?_) (fun c8 => ?_)
      · exact B9_66 H _ _ lo6 (by omega) (by omega) hG hS (lv_sub hl [0] rfl)
      · refine lv_aload_n X.1 X.2.1 dX12_goThrough_40 rfl (lv_at hl 0 rfl) ?_
        refine ca_X12_look X hK hG hC hS hb a0 h0 ⟨by omega, by omega, by omega, by omega, by omega⟩ ⟨by omega, by omega⟩ wl_7_137 hl.1 (rest := []) rfl (Nat.le_of_ble_eq_true rfl) ⟨Nat.le_of_ble_eq_true rfl, Nat.le_of_ble_eq_true rfl⟩ ⟨Nat.le_of_ble_eq_true rfl, Nat.le_of_ble_eq_true rfl⟩ dX12_goThrough_41 (fun f16 tf16 H locs htf16 hf16 hWf16 hS => ?_)
        obtain ⟨hBf16, v17, kv17, hv17, lv17⟩ := hWf16
        have hG := hBf16.2.2.2
        rw [htf16] at hG kv17
        have ⟨lav17, uav17⟩ : lo6 ≤ v17.toInt ∧ v17.toInt ≤ 241 := hv17
        have hv17 : iv 0 241 v17 := ⟨by omega, by omega⟩
        refine lv_bipush (v := 59) X.1 X.2.1 dX12_goThrough_44 (by decide +kernel) ?_
        refine lv_icmp_ne (tgt := 66) X.1 X.2.1 dX12_goThrough_46 (by decide) (fun c18 => ?_) (fun c18 => ?_)
        · exact B9_66 H _ _ lo6 (by omega) (by omega) hG hS (lv_sub hl [0] rfl)
        · refine lv_aload_n X.1 X.2.1 dX12_goThrough_49 rfl (lv_at hl 0 rfl) ?_
          refine lv_dup X.1 X.2.1 dX12_goThrough_50 rfl ?_
          refine gg_X12_10r X hK hG h0 wl_6_188 kv17 dX12_goThrough_51 ?_
          refine lv_iconst (v := 1) X.1 X.2.1 dX12_goThrough_54 (by decide +kernel) ?_
          refine lv_iadd X.1 X.2.1 dX12_goThrough_55 ?_
          refine lv_topi (fun f19 ef19 => ?_)
          have sf19 : f19.toInt = v17.toInt + 1 := sg_inc (k := 1) ef19 (sg_lk (iv_eqm (a' := 59) (b' := 59) c18 hf16 (iv_c 59 (a := 59) (b := 59) (by decide +kernel)) (by decide +kernel)) lv17 hv17) (by decide +kernel)
          have uf19 : f19.toInt ≤ 241 := Int.le_trans ((iv_add (a' := 1) (b' := 240) ef19 (sg_lk (iv_eqm (a' := 59) (b' := 59) c18 hf16 (iv_c 59 (a := 59) (b := 59) (by decide +kernel)) (by decide +kernel)) lv17 hv17) (iv_c 1 (a := 1) (b := 1) (by decide +kernel)) (by decide +kernel))).2 (by omega)
          refine pf_X12_10R (lo2 := f19.toInt) (hi2 := 241) X hK hG hS h0 wl_6_188 ⟨_, rfl, Int.le_refl _, uf19⟩ dX12_goThrough_56 (fun H locs hG hS => ?_)
          refine lv_aload_n X.1 X.2.1 dX12_goThrough_59 rfl (lv_at hl 0 rfl) ?_
          refine ca_X12_clause X hK hG hC hS hb a0 h0 ⟨by omega, by omega, by omega, by omega, by omega⟩ wl_7_210 hl.1 (rest := []) rfl (Nat.le_of_ble_eq_true rfl) ⟨Nat.le_of_ble_eq_true rfl, Nat.le_of_ble_eq_true rfl⟩ ⟨Nat.le_of_ble_eq_true rfl, Nat.le_of_ble_eq_true rfl⟩ dX12_goThrough_60 (fun H locs hG hS => ?_)
          refine lv_goto (tgt := 32) X.1 X.2.1 dX12_goThrough_63 (by decide) ?_
          exact ih6 H _ _ f19.toInt (by omega) (by omega) hG hS (lv_sub hl [0] rfl) (by omega)
  exact B6_32 _ H _ _ 0 (by omega) (by omega) hG hS (lv_sub hl [0] rfl) (Nat.le_refl _)

theorem ca_X12_goThrough_x   (X : CallFix p m c cc nL s args sg_tbl own) (hK : va_K D vwCl tys s) (hG : sgG (KT P) D vwCl (fun q : Nat => base ≤ q) tys ad ks H) (hC : sgC base s) (hS : va_S (fun q : Nat => base ≤ q) s.heap H locs) (hb : base ≤ s.heap.size) (a0 : Nat) (h0 : isK ad ks 12 a0) (a1 : Nat) (h1 : isK ad ks 46 a1) (x2 : Int32) (h2 : iv 0 720 x2) (x3 : Int32) (h3 : iv 0 240 x3) (hl : Cond.methodLink own index yX12_goThrough ∈ sg_tbl) (hsize : ls.size = nL) (hst : st0 = [.ref a1, .int x2, .int x3].reverse ++ .ref a0 :: rest) (hW : (rest.map fun v => v.category).sum ≤ 8) (hR : 32 ≤ R.frames ∧ 746 ≤ R.locals) (hf : cells ≤ R.cells ∧ slots ≤ R.slots) (hdg : decode cc pc = .ok (.invokevirtual index, 3)) (kk : ∀ (H1 : Heap) (locs1 : List Loc), sgG (KT P) D vwCl (fun q : Nat => base ≤ q) tys ad ks H1 → va_S (fun q : Nat => base ≤ q) s.heap H1 locs1 → W p l e R s m args below meth c H1 locs1 cells slots Q (F0 m (pc + 3) ls rest)) : W p l e R s m args below meth c H locs cells slots Q (F0 m pc ls st0) :=
  sg_callVv X hK hG hC hS hb (m_X12_goThrough_x l a0 h0 a1 h1 x2 h2 x3 h3) h0 (k := 12) (ci := 12) rfl (C := RX12) (T := TX12) (N := 53) rfl wl_7_209 wl_1_13 wl_7_208 wl_0_58 (n := 3) (by decide +kernel) rfl rfl rfl hl hsize hst hW hR hf hdg kk
end
