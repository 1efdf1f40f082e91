abbrev cX12_feed : ByteArray := prog_14_method_8_code
def yX12_feed : MethodName := ⟨RX12, "feed", "(IIIII)I"⟩
theorem dX12_feed_0 : decode cX12_feed 0 = .ok (.aload_n 0, 1) := by decide +kernel
theorem dX12_feed_1 : decode cX12_feed 1 = .ok (.iconst 0, 1) := by decide +kernel
theorem dX12_feed_2 : decode cX12_feed 2 = .ok (.putfield 94, 3) := by decide +kernel
theorem dX12_feed_5 : decode cX12_feed 5 = .ok (.aload_n 0, 1) := by decide +kernel
theorem dX12_feed_6 : decode cX12_feed 6 = .ok (.getfield 107, 3) := by decide +kernel
theorem dX12_feed_9 : decode cX12_feed 9 = .ok (.iload_n 1, 1) := by decide +kernel
theorem dX12_feed_10 : decode cX12_feed 10 = .ok (.invokestatic 109, 3) := by decide +kernel
theorem dX12_feed_13 : decode cX12_feed 13 = .ok (.iadd, 1) := by decide +kernel
theorem dX12_feed_14 : decode cX12_feed 14 = .ok (.iload_n 2, 1) := by decide +kernel
theorem dX12_feed_15 : decode cX12_feed 15 = .ok (.invokestatic 109, 3) := by decide +kernel
theorem dX12_feed_18 : decode cX12_feed 18 = .ok (.iadd, 1) := by decide +kernel
theorem dX12_feed_19 : decode cX12_feed 19 = .ok (.iload_n 3, 1) := by decide +kernel
theorem dX12_feed_20 : decode cX12_feed 20 = .ok (.invokestatic 109, 3) := by decide +kernel
theorem dX12_feed_23 : decode cX12_feed 23 = .ok (.iadd, 1) := by decide +kernel
theorem dX12_feed_24 : decode cX12_feed 24 = .ok (.iload 4, 2) := by decide +kernel
theorem dX12_feed_26 : decode cX12_feed 26 = .ok (.invokestatic 109, 3) := by decide +kernel
theorem dX12_feed_29 : decode cX12_feed 29 = .ok (.iadd, 1) := by decide +kernel
theorem dX12_feed_30 : decode cX12_feed 30 = .ok (.iload 5, 2) := by decide +kernel
theorem dX12_feed_32 : decode cX12_feed 32 = .ok (.invokestatic 109, 3) := by decide +kernel
theorem dX12_feed_35 : decode cX12_feed 35 = .ok (.iadd, 1) := by decide +kernel
theorem dX12_feed_36 : decode cX12_feed 36 = .ok (.sipush 240, 3) := by decide +kernel
theorem dX12_feed_39 : decode cX12_feed 39 = .ok (.if_icmp .le 5, 3) := by decide +kernel
theorem dX12_feed_42 : decode cX12_feed 42 = .ok (.iconst (-1), 1) := by decide +kernel
theorem dX12_feed_43 : decode cX12_feed 43 = .ok (.ireturn, 1) := by decide +kernel
theorem dX12_feed_44 : decode cX12_feed 44 = .ok (.aload_n 0, 1) := by decide +kernel
theorem dX12_feed_45 : decode cX12_feed 45 = .ok (.iload_n 1, 1) := by decide +kernel
theorem dX12_feed_46 : decode cX12_feed 46 = .ok (.invokevirtual 113, 3) := by decide +kernel
theorem dX12_feed_49 : decode cX12_feed 49 = .ok (.aload_n 0, 1) := by decide +kernel
theorem dX12_feed_50 : decode cX12_feed 50 = .ok (.iload_n 2, 1) := by decide +kernel
theorem dX12_feed_51 : decode cX12_feed 51 = .ok (.invokevirtual 113, 3) := by decide +kernel
theorem dX12_feed_54 : decode cX12_feed 54 = .ok (.aload_n 0, 1) := by decide +kernel
theorem dX12_feed_55 : decode cX12_feed 55 = .ok (.iload_n 3, 1) := by decide +kernel
theorem dX12_feed_56 : decode cX12_feed 56 = .ok (.invokevirtual 113, 3) := by decide +kernel
theorem dX12_feed_59 : decode cX12_feed 59 = .ok (.aload_n 0, 1) := by decide +kernel
theorem dX12_feed_60 : decode cX12_feed 60 = .ok (.iload 4, 2) := by decide +kernel
theorem dX12_feed_62 : decode cX12_feed 62 = .ok (.invokevirtual 113, 3) := by decide +kernel
theorem dX12_feed_65 : decode cX12_feed 65 = .ok (.aload_n 0, 1) := by decide +kernel
theorem dX12_feed_66 : decode cX12_feed 66 = .ok (.iload 5, 2) := by decide +kernel
theorem dX12_feed_68 : decode cX12_feed 68 = .ok (.invokevirtual 113, 3) := by decide +kernel
theorem dX12_feed_71 : decode cX12_feed 71 = .ok (.aload_n 0, 1) := by decide +kernel
theorem dX12_feed_72 : decode cX12_feed 72 = .ok (.getfield 107, 3) := by decide +kernel
theorem dX12_feed_75 : decode cX12_feed 75 = .ok (.ireturn, 1) := by decide +kernel
theorem wl_7_103 : (.methodLink RX12 109 yX12_bytesIn : Cond) ∈ sg_tbl := tb_7 _ (List.mem_of_getElem? (i := 103) (by decide +kernel)) (by decide +kernel)
theorem wl_7_106 : (.methodLink RX12 113 yX12_put : Cond) ∈ sg_tbl := tb_7 _ (List.mem_of_getElem? (i := 106) (by decide +kernel)) (by decide +kernel)
theorem wl_7_102 : (.code yX12_feed cX12_feed 6 (some .int) : Cond) ∈ sg_tbl := tb_7 _ (List.mem_of_getElem? (i := 102) (by decide +kernel)) (by decide +kernel)
theorem wl_7_100 : (.instanceMethod yX12_feed : Cond) ∈ sg_tbl := tb_7 _ (List.mem_of_getElem? (i := 100) (by decide +kernel)) (by decide +kernel)
theorem wl_7_101 : (.selects RX12 yX12_feed yX12_feed : Cond) ∈ sg_tbl := tb_7 _ (List.mem_of_getElem? (i := 101) (by decide +kernel)) (by decide +kernel)
section
variable {p : Program} {l : Launch} {e : Env} {R : Room} {s : State} {m : MethodId} {args : Array Value} {below : List Frame} {meth : Method} {c : Code} {H : Heap} {locs : List Loc} {cells slots : Nat} {Q : State → Prop} {cc : ByteArray} {nL pc : Nat} {ls : Array Slot} {rest : List Value} {own : String} {D : va_G} {A : Nat → Prop} {tys : List (ClassId × FieldType)} {ad ks : List Nat} {P : sgPm} {H0 : Heap} {index : Nat} {base : Nat} {st0 : List Value} {a : Nat}

set_option maxHeartbeats 8000000 in
set_option maxRecDepth 100000 in
theorem m_X12_feed (l : Launch) {D : va_G} {base : Nat} {tys : List (ClassId × FieldType)} {ad ks : List Nat} {P : sgPm} (a0 : Nat) (h0 : isK ad ks 12 a0) (x1 : Int32) (x2 : Int32) (x3 : Int32) (x4 : Int32) (x5 : Int32) : sgMi l (KT P) D vwCl base tys ad ks yX12_feed cX12_feed 6 (some .int) ({ frames := 1, cells := 0, slots := 0, locals := 22 }) [.ref a0, .int x1, .int x2, .int x3, .int x4, .int x5] (fun r : Int32 => True) := by
  refine sg_ofW (by decide +kernel) (Nat.le_of_ble_eq_true rfl) (fun p e s m below meth c X hr hlk hb hK hC hG ls hl => ?_)
  have hS : va_S (fun q : Nat => base ≤ q) s.heap s.heap [] := va_S.rf
  have hl : lv_has ls 6 [(0, .ref a0), (1, .int x1), (2, .int x2), (3, .int x3), (4, .int x4), (5, .int x5)] := hl
  refine lv_aload_n X.1 X.2.1 dX12_feed_0 rfl (lv_at hl 0 rfl) ?_
  refine lv_iconst (v := 0) X.1 X.2.1 dX12_feed_1 (by decide +kernel) ?_
  refine pf_X12_0 X hK hG hS h0 wl_6_178 ⟨_, rfl, (iv_top _)⟩ dX12_feed_2 (fun H locs hG hS ku1 ru1 => ?_)
  refine lv_aload_n X.1 X.2.1 dX12_feed_5 rfl (lv_at hl 0 rfl) ?_
  refine gf_X12_6 X hK hG h0 wl_6_184 dX12_feed_6 (fun f2 hf2 kf2 => ?_)
  refine lv_iload_n X.1 X.2.1 dX12_feed_9 rfl (lv_at hl 1 rfl) ?_
  refine ca_X12_bytesIn_b X hK hG hC (fun _ h => h) hS hb x1 wl_7_103 hl.1 (rest := [.int f2]) rfl (Nat.le_of_ble_eq_true rfl) ⟨Nat.le_of_ble_eq_true rfl, Nat.le_of_ble_eq_true rfl⟩ ⟨Nat.le_of_ble_eq_true rfl, Nat.le_of_ble_eq_true rfl⟩ dX12_feed_10 (fun f3 locs hf3 hS => ?_)
  refine lv_iadd X.1 X.2.1 dX12_feed_13 ?_
  refine lv_topi (fun f4 ef4 => ?_)
  refine lv_iload_n X.1 X.2.1 dX12_feed_14 rfl (lv_at hl 2 rfl) ?_
  refine ca_X12_bytesIn_b X hK hG hC (fun _ h => h) hS hb x2 wl_7_103 hl.1 (rest := [.int f4]) rfl (Nat.le_of_ble_eq_true rfl) ⟨Nat.le_of_ble_eq_true rfl, Nat.le_of_ble_eq_true rfl⟩ ⟨Nat.le_of_ble_eq_true rfl, Nat.le_of_ble_eq_true rfl⟩ dX12_feed_15 (fun f5 locs hf5 hS => ?_)
  refine lv_iadd X.1 X.2.1 dX12_feed_18 ?_
  refine lv_topi (fun f6 ef6 => ?_)
  refine lv_iload_n X.1 X.2.1 dX12_feed_19 rfl (lv_at hl 3 rfl) ?_
  refine ca_X12_bytesIn_b X hK hG hC (fun _ h => h) hS hb x3 wl_7_103 hl.1 (rest := [.int f6]) rfl (Nat.le_of_ble_eq_true rfl) ⟨Nat.le_of_ble_eq_true rfl, Nat.le_of_ble_eq_true rfl⟩ ⟨Nat.le_of_ble_eq_true rfl, Nat.le_of_ble_eq_true rfl⟩ dX12_feed_20 (fun f7 locs hf7 hS => ?_)
  refine lv_iadd X.1 X.2.1 dX12_feed_23 ?_
  refine lv_topi (fun f8 ef8 => ?_)
  refine lv_iload X.1 X.2.1 dX12_feed_24 (lv_at hl 4 rfl) ?_
  refine ca_X12_bytesIn_b X hK hG hC (fun _ h => h) hS hb x4 wl_7_103 hl.1 (rest := [.int f8]) rfl (Nat.le_of_ble_eq_true rfl) ⟨Nat.le_of_ble_eq_true rfl, Nat.le_of_ble_eq_true rfl⟩ ⟨Nat.le_of_ble_eq_true rfl, Nat.le_of_ble_eq_true rfl⟩ dX12_feed_26 (fun f9 locs hf9 hS => ?_)
  refine lv_iadd X.1 X.2.1 dX12_feed_29 ?_
  refine lv_topi (fun f10 ef10 => ?_)
  refine lv_iload X.1 X.2.1 dX12_feed_30 (lv_at hl 5 rfl) ?_
  refine ca_X12_bytesIn_b X hK hG hC (fun _ h => h) hS hb x5 wl_7_103 hl.1 (rest := [.int f10]) rfl (Nat.le_of_ble_eq_true rfl) ⟨Nat.le_of_ble_eq_true rfl, Nat.le_of_ble_eq_true rfl⟩ ⟨Nat.le_of_ble_eq_true rfl, Nat.le_of_ble_eq_true rfl⟩ dX12_feed_32 (fun f11 locs hf11 hS => ?_)
  refine lv_iadd X.1 X.2.1 dX12_feed_35 ?_
  refine lv_topi (fun f12 ef12 => ?_)
  refine lv_sipush (v := 240) X.1 X.2.1 dX12_feed_36 (by decide +kernel) ?_
  refine lv_icmp_le (tgt := 44) X.1 X.2.1 dX12_feed_39 (by decide) (fun c13 => ?_) (fun c13 => ?_)
  · have bq14 : 0 ≤ f2.toInt ∧ f2.toInt ≤ 240 := hf2
    have bq15 : 0 ≤ f3.toInt ∧ f3.toInt ≤ 4 := hf3.1
    have xf4 : f4.toInt = f2.toInt + f3.toInt := sg_exadd ef4 hf2 hf3.1 (by decide +kernel) rfl rfl
    have bq16 : 0 ≤ f5.toInt ∧ f5.toInt ≤ 4 := hf5.1
    have xf6 : f6.toInt = f4.toInt + f5.toInt := sg_exadd ef6 (iv_add (a' := 0) (b' := 244) ef4 hf2 hf3.1 (by decide +kernel)) hf5.1 (by decide +kernel) rfl rfl
    have bq17 : 0 ≤ f7.toInt ∧ f7.toInt ≤ 4 := hf7.1
    have xf8 : f8.toInt = f6.toInt + f7.toInt := sg_exadd ef8 (iv_add (a' := 0) (b' := 248) ef6 (iv_add (a' := 0) (b' := 244) ef4 hf2 hf3.1 (by decide +kernel)) hf5.1 (by decide +kernel)) hf7.1 (by decide +kernel) rfl rfl
    have bq18 : 0 ≤ f9.toInt ∧ f9.toInt ≤ 4 := hf9.1
    have xf10 : f10.toInt = f8.toInt + f9.toInt := sg_exadd ef10 (iv_add (a' := 0) (b' := 252) ef8 (iv_add (a' := 0) (b' := 248) ef6 (iv_add (a' := 0) (b' := 244) ef4 hf2 hf3.1 (by decide +kernel)) hf5.1 (by decide +kernel)) hf7.1 (by decide +kernel)) hf9.1 (by decide +kernel) rfl rfl
    have bq19 : 0 ≤ f11.toInt ∧ f11.toInt ≤ 4 := hf11.1
    have xf12 : f12.toInt = f10.toInt + f11.toInt := sg_exadd ef12 (iv_add (a' := 0) (b' := 256) ef10 (iv_add (a' := 0) (b' := 252) ef8 (iv_add (a' := 0) (b' := 248) ef6 (iv_add (a' := 0) (b' := 244) ef4 hf2 hf3.1 (by decide +kernel)) hf5.1 (by decide +kernel)) hf7.1 (by decide +kernel)) hf9.1 (by decide +kernel)) hf11.1 (by decide +kernel) rfl rfl
    have cq20 : (240 : Int32).toInt = 240 := by decide +kernel
    have rr21 : (f12 : Int32).toInt ≤ (240 : Int32).toInt := Int32.le_iff_toInt_le.mp c13
    have nbf11 := hf11.2
    have nnf11 := sg_nb_le x5
    have nbf9 := hf9.2
    have nnf9 := sg_nb_le x4
    have nbf7 := hf7.2
    have nnf7 := sg_nb_le x3
    have nbf5 := hf5.2
    have nnf5 := sg_nb_le x2
    have nbf3 := hf3.2
    have nnf3 := sg_nb_le x1
    have bl : 0 ≤ f2.toInt ∧ f2.toInt ≤ 240 := hf2
    have hG := kv_str (u := f2.toInt) hG h0 kf2 ⟨by omega, Int.le_refl _⟩
    refine lv_aload_n X.1 X.2.1 dX12_feed_44 rfl (lv_at hl 0 rfl) ?_
    refine lv_iload_n X.1 X.2.1 dX12_feed_45 rfl (lv_at hl 1 rfl) ?_
    refine ca_X12_put X hK hG hC hS hb a0 h0 x1 ⟨by omega, by omega⟩ wl_7_106 hl.1 (rest := []) rfl (Nat.le_of_ble_eq_true rfl) ⟨Nat.le_of_ble_eq_true rfl, Nat.le_of_ble_eq_true rfl⟩ ⟨Nat.le_of_ble_eq_true rfl, Nat.le_of_ble_eq_true rfl⟩ dX12_feed_46 (fun tg22 H locs htg22 hWg22 hS => ?_)
    have hG := hWg22.2.2.2
    rw [htg22] at hG
    refine lv_aload_n X.1 X.2.1 dX12_feed_49 rfl (lv_at hl 0 rfl) ?_
    refine lv_iload_n X.1 X.2.1 dX12_feed_50 rfl (lv_at hl 2 rfl) ?_
    refine ca_X12_put X hK hG hC hS hb a0 h0 x2 ⟨by omega, by omega⟩ wl_7_106 hl.1 (rest := []) rfl (Nat.le_of_ble_eq_true rfl) ⟨Nat.le_of_ble_eq_true rfl, Nat.le_of_ble_eq_true rfl⟩ ⟨Nat.le_of_ble_eq_true rfl, Nat.le_of_ble_eq_true rfl⟩ dX12_feed_51 (fun tg23 H locs htg23 hWg23 hS => ?_)
    have hG := hWg23.2.2.2
    rw [htg23] at hG
    refine lv_aload_n X.1 X.2.1 dX12_feed_54 rfl (lv_at hl 0 rfl) ?_
    refine lv_iload_n X.1 X.2.1 dX12_feed_55 rfl (lv_at hl 3 rfl) ?_
    refine ca_X12_put X hK hG hC hS hb a0 h0 x3 ⟨by omega, by omega⟩ wl_7_106 hl.1 (rest := []) rfl (Nat.le_of_ble_eq_true rfl) ⟨Nat.le_of_ble_eq_true rfl, Nat.le_of_ble_eq_true rfl⟩ ⟨Nat.le_of_ble_eq_true rfl, Nat.le_of_ble_eq_true rfl⟩ dX12_feed_56 (fun tg24 H locs htg24 hWg24 hS => ?_)
    have hG := hWg24.2.2.2
    rw [htg24] at hG
    refine lv_aload_n X.1 X.2.1 dX12_feed_59 rfl (lv_at hl 0 rfl) ?_
    refine lv_iload X.1 X.2.1 dX12_feed_60 (lv_at hl 4 rfl) ?_
    refine ca_X12_put X hK hG hC hS hb a0 h0 x4 ⟨by omega, by omega⟩ wl_7_106 hl.1 (rest := []) rfl (Nat.le_of_ble_eq_true rfl) ⟨Nat.le_of_ble_eq_true rfl, Nat.le_of_ble_eq_true rfl⟩ ⟨Nat.le_of_ble_eq_true rfl, Nat.le_of_ble_eq_true rfl⟩ dX12_feed_62 (fun tg25 H locs htg25 hWg25 hS => ?_)
    have hG := hWg25.2.2.2
    rw [htg25] at hG
    refine lv_aload_n X.1 X.2.1 dX12_feed_65 rfl (lv_at hl 0 rfl) ?_
    refine lv_iload X.1 X.2.1 dX12_feed_66 (lv_at hl 5 rfl) ?_
    refine ca_X12_put X hK hG hC hS hb a0 h0 x5 ⟨by omega, by omega⟩ wl_7_106 hl.1 (rest := []) rfl (Nat.le_of_ble_eq_true rfl) ⟨Nat.le_of_ble_eq_true rfl, Nat.le_of_ble_eq_true rfl⟩ ⟨Nat.le_of_ble_eq_true rfl, Nat.le_of_ble_eq_true rfl⟩ dX12_feed_68 (fun tg26 H locs htg26 hWg26 hS => ?_)
    have hG := hWg26.2.2.2
    rw [htg26] at hG
    refine lv_aload_n X.1 X.2.1 dX12_feed_71 rfl (lv_at hl 0 rfl) ?_
    refine gf_X12_6v X hK hG h0 wl_6_184 dX12_feed_72 (fun f27 hf27 kf27 => ?_)
    have ⟨laf27, uaf27⟩ : 0 ≤ f27.toInt ∧ f27.toInt ≤ (((((f2.toInt + sg_nb x1) + sg_nb x2) + sg_nb x3) + sg_nb x4) + sg_nb x5) := hf27
    have hf27 : iv 0 240 f27 := ⟨by omega, by omega⟩
    have hG := kv_toKT hG (by omega)
    exact sg_iret X hr hlk hb hK hC hG hS trivial dX12_feed_75
  · refine lv_iconst (v := (-1)) X.1 X.2.1 dX12_feed_42 (by decide +kernel) ?_
    exact sg_iret X hr hlk hb hK hC hG hS trivial dX12_feed_43

theorem ca_X12_feed   (X : CallFix p m c cc nL s args sg_tbl own) (hK : va_K D vwCl tys s) (hG : sgG (KT P) D vwCl (fun q : Nat => base ≤ q) tys ad ks H) (hC : sgC base s) (hS : va_S (fun q : Nat => base ≤ q) s.heap H locs) (hb : base ≤ s.heap.size) (a0 : Nat) (h0 : isK ad ks 12 a0) (x1 : Int32) (x2 : Int32) (x3 : Int32) (x4 : Int32) (x5 : Int32) (hl : Cond.methodLink own index yX12_feed ∈ sg_tbl) (hsize : ls.size = nL) (hst : st0 = [.int x1, .int x2, .int x3, .int x4, .int x5].reverse ++ .ref a0 :: rest) (hW : (rest.map fun v => v.category).sum ≤ 8) (hR : 2 ≤ R.frames ∧ 47 ≤ R.locals) (hf : cells ≤ R.cells ∧ slots ≤ R.slots) (hdg : decode cc pc = .ok (.invokevirtual index, 3)) (kk : ∀ (r : Int32) (H1 : Heap) (locs1 : List Loc), (fun r : Int32 => True) r → sgG (KT P) D vwCl (fun q : Nat => base ≤ q) tys ad ks H1 → va_S (fun q : Nat => base ≤ q) s.heap H1 locs1 → W p l e R s m args below meth c H1 locs1 cells slots Q (F0 m (pc + 3) ls (.int r :: rest))) : W p l e R s m args below meth c H locs cells slots Q (F0 m pc ls st0) :=
  sg_callVi X hK hG hC hS hb (m_X12_feed l a0 h0 x1 x2 x3 x4 x5) h0 (k := 12) (ci := 12) rfl (C := RX12) (T := TX12) (N := 53) rfl wl_7_102 wl_1_13 wl_7_100 wl_7_101 (n := 5) (by decide +kernel) rfl rfl rfl hl hsize hst hW hR hf hdg kk
end
