abbrev cL_cell : ByteArray := method_3_code
def yL_cell : MethodName := ⟨RL, "cell", "(LLawnAhead;II[J)I"⟩
abbrev cX11_cell : ByteArray := prog_1_method_12_code
def yX11_cell : MethodName := ⟨RX11, "cell", "(II)I"⟩
theorem dL_cell_0 : decode cL_cell 0 = .ok (.aload_n 3, 1) := by decide +kernel
theorem dL_cell_1 : decode cL_cell 1 = .ok (.iconst 0, 1) := by decide +kernel
theorem dL_cell_2 : decode cL_cell 2 = .ok (.aload_n 0, 1) := by decide +kernel
theorem dL_cell_3 : decode cL_cell 3 = .ok (.iload_n 1, 1) := by decide +kernel
theorem dL_cell_4 : decode cL_cell 4 = .ok (.iload_n 2, 1) := by decide +kernel
theorem dL_cell_5 : decode cL_cell 5 = .ok (.invokevirtual 7, 3) := by decide +kernel
theorem dL_cell_8 : decode cL_cell 8 = .ok (.i2l, 1) := by decide +kernel
theorem dL_cell_9 : decode cL_cell 9 = .ok (.lastore, 1) := by decide +kernel
theorem dL_cell_10 : decode cL_cell 10 = .ok (.goto 7, 3) := by decide +kernel
theorem dL_cell_13 : decode cL_cell 13 = .ok (.astore 4, 2) := by decide +kernel
theorem dL_cell_15 : decode cL_cell 15 = .ok (.iconst 1, 1) := by decide +kernel
theorem dL_cell_16 : decode cL_cell 16 = .ok (.ireturn, 1) := by decide +kernel
theorem dL_cell_17 : decode cL_cell 17 = .ok (.iconst 0, 1) := by decide +kernel
theorem dL_cell_18 : decode cL_cell 18 = .ok (.ireturn, 1) := by decide +kernel
theorem dL_law_397 : decode cL_law 397 = .ok (.aload_n 1, 1) := by decide +kernel
theorem dL_law_398 : decode cL_law 398 = .ok (.aload_n 0, 1) := by decide +kernel
theorem dL_law_399 : decode cL_law 399 = .ok (.iload 4, 2) := by decide +kernel
theorem dL_law_401 : decode cL_law 401 = .ok (.iconst 1, 1) := by decide +kernel
theorem dL_law_402 : decode cL_law 402 = .ok (.iadd, 1) := by decide +kernel
theorem dL_law_403 : decode cL_law 403 = .ok (.iaload, 1) := by decide +kernel
theorem dL_law_404 : decode cL_law 404 = .ok (.aload_n 0, 1) := by decide +kernel
theorem dL_law_405 : decode cL_law 405 = .ok (.iload 4, 2) := by decide +kernel
theorem dL_law_407 : decode cL_law 407 = .ok (.iconst 2, 1) := by decide +kernel
theorem dL_law_408 : decode cL_law 408 = .ok (.iadd, 1) := by decide +kernel
theorem dL_law_409 : decode cL_law 409 = .ok (.iaload, 1) := by decide +kernel
theorem dL_law_410 : decode cL_law 410 = .ok (.aload_n 3, 1) := by decide +kernel
theorem dL_law_411 : decode cL_law 411 = .ok (.invokestatic 42, 3) := by decide +kernel
theorem dL_law_414 : decode cL_law 414 = .ok (.istore 5, 2) := by decide +kernel
theorem dL_law_416 : decode cL_law 416 = .ok (.aload_n 2, 1) := by decide +kernel
theorem dL_law_417 : decode cL_law 417 = .ok (.aload_n 0, 1) := by decide +kernel
theorem dL_law_418 : decode cL_law 418 = .ok (.iload 4, 2) := by decide +kernel
theorem dL_law_420 : decode cL_law 420 = .ok (.iconst 1, 1) := by decide +kernel
theorem dL_law_421 : decode cL_law 421 = .ok (.iadd, 1) := by decide +kernel
theorem dL_law_422 : decode cL_law 422 = .ok (.iaload, 1) := by decide +kernel
theorem dL_law_423 : decode cL_law 423 = .ok (.aload_n 0, 1) := by decide +kernel
theorem dL_law_424 : decode cL_law 424 = .ok (.iload 4, 2) := by decide +kernel
theorem dL_law_426 : decode cL_law 426 = .ok (.iconst 2, 1) := by decide +kernel
theorem dL_law_427 : decode cL_law 427 = .ok (.iadd, 1) := by decide +kernel
theorem dL_law_428 : decode cL_law 428 = .ok (.iaload, 1) := by decide +kernel
theorem dL_law_429 : decode cL_law 429 = .ok (.invokevirtual 47, 3) := by decide +kernel
theorem dL_law_432 : decode cL_law 432 = .ok (.istore 6, 2) := by decide +kernel
theorem dL_law_434 : decode cL_law 434 = .ok (.goto 915, 3) := by decide +kernel
theorem dX11_cell_0 : decode cX11_cell 0 = .ok (.aload_n 0, 1) := by decide +kernel
theorem dX11_cell_1 : decode cX11_cell 1 = .ok (.iload_n 1, 1) := by decide +kernel
theorem dX11_cell_2 : decode cX11_cell 2 = .ok (.invokevirtual 159, 3) := by decide +kernel
theorem dX11_cell_5 : decode cX11_cell 5 = .ok (.ifCond .eq 12, 3) := by decide +kernel
theorem dX11_cell_8 : decode cX11_cell 8 = .ok (.iload_n 2, 1) := by decide +kernel
theorem dX11_cell_9 : decode cX11_cell 9 = .ok (.ifCond .lt 8, 3) := by decide +kernel
theorem dX11_cell_12 : decode cX11_cell 12 = .ok (.iload_n 2, 1) := by decide +kernel
theorem dX11_cell_13 : decode cX11_cell 13 = .ok (.iconst 2, 1) := by decide +kernel
theorem dX11_cell_14 : decode cX11_cell 14 = .ok (.if_icmp .le 11, 3) := by decide +kernel
theorem dX11_cell_17 : decode cX11_cell 17 = .ok (.new 163, 3) := by decide +kernel
theorem dX11_cell_20 : decode cX11_cell 20 = .ok (.dup, 1) := by decide +kernel
theorem dX11_cell_21 : decode cX11_cell 21 = .ok (.invokespecial 165, 3) := by decide +kernel
theorem dX11_cell_24 : decode cX11_cell 24 = .ok (.athrow, 1) := by decide +kernel
theorem dX11_cell_25 : decode cX11_cell 25 = .ok (.iload_n 2, 1) := by decide +kernel
theorem dX11_cell_26 : decode cX11_cell 26 = .ok (.ifCond .ne 11, 3) := by decide +kernel
theorem dX11_cell_29 : decode cX11_cell 29 = .ok (.aload_n 0, 1) := by decide +kernel
theorem dX11_cell_30 : decode cX11_cell 30 = .ok (.iconst 1, 1) := by decide +kernel
theorem dX11_cell_31 : decode cX11_cell 31 = .ok (.iload_n 1, 1) := by decide +kernel
theorem dX11_cell_32 : decode cX11_cell 32 = .ok (.ishl, 1) := by decide +kernel
theorem dX11_cell_33 : decode cX11_cell 33 = .ok (.invokevirtual 166, 3) := by decide +kernel
theorem dX11_cell_36 : decode cX11_cell 36 = .ok (.ireturn, 1) := by decide +kernel
theorem dX11_cell_37 : decode cX11_cell 37 = .ok (.iload_n 2, 1) := by decide +kernel
theorem dX11_cell_38 : decode cX11_cell 38 = .ok (.iconst 1, 1) := by decide +kernel
theorem dX11_cell_39 : decode cX11_cell 39 = .ok (.if_icmp .ne 19, 3) := by decide +kernel
theorem dX11_cell_42 : decode cX11_cell 42 = .ok (.aload_n 0, 1) := by decide +kernel
theorem dX11_cell_43 : decode cX11_cell 43 = .ok (.getfield 47, 3) := by decide +kernel
theorem dX11_cell_46 : decode cX11_cell 46 = .ok (.iload_n 1, 1) := by decide +kernel
theorem dX11_cell_47 : decode cX11_cell 47 = .ok (.aload_n 0, 1) := by decide +kernel
theorem dX11_cell_48 : decode cX11_cell 48 = .ok (.getfield 33, 3) := by decide +kernel
theorem dX11_cell_51 : decode cX11_cell 51 = .ok (.getfield 169, 3) := by decide +kernel
theorem dX11_cell_54 : decode cX11_cell 54 = .ok (.invokevirtual 170, 3) := by decide +kernel
theorem dX11_cell_57 : decode cX11_cell 57 = .ok (.ireturn, 1) := by decide +kernel
theorem dX11_cell_58 : decode cX11_cell 58 = .ok (.aload_n 0, 1) := by decide +kernel
theorem dX11_cell_59 : decode cX11_cell 59 = .ok (.getfield 59, 3) := by decide +kernel
theorem dX11_cell_62 : decode cX11_cell 62 = .ok (.iload_n 1, 1) := by decide +kernel
theorem dX11_cell_63 : decode cX11_cell 63 = .ok (.aload_n 0, 1) := by decide +kernel
theorem dX11_cell_64 : decode cX11_cell 64 = .ok (.getfield 33, 3) := by decide +kernel
theorem dX11_cell_67 : decode cX11_cell 67 = .ok (.getfield 169, 3) := by decide +kernel
theorem dX11_cell_70 : decode cX11_cell 70 = .ok (.aload_n 0, 1) := by decide +kernel
theorem dX11_cell_71 : decode cX11_cell 71 = .ok (.getfield 33, 3) := by decide +kernel
theorem dX11_cell_74 : decode cX11_cell 74 = .ok (.getfield 174, 3) := by decide +kernel
theorem dX11_cell_77 : decode cX11_cell 77 = .ok (.aload_n 0, 1) := by decide +kernel
theorem dX11_cell_78 : decode cX11_cell 78 = .ok (.getfield 33, 3) := by decide +kernel
theorem dX11_cell_81 : decode cX11_cell 81 = .ok (.getfield 177, 3) := by decide +kernel
theorem dX11_cell_84 : decode cX11_cell 84 = .ok (.invokevirtual 180, 3) := by decide +kernel
theorem dX11_cell_87 : decode cX11_cell 87 = .ok (.ifCond .eq 7, 3) := by decide +kernel
theorem dX11_cell_90 : decode cX11_cell 90 = .ok (.iconst 1, 1) := by decide +kernel
theorem dX11_cell_91 : decode cX11_cell 91 = .ok (.goto 4, 3) := by decide +kernel
theorem dX11_cell_94 : decode cX11_cell 94 = .ok (.iconst 0, 1) := by decide +kernel
theorem dX11_cell_95 : decode cX11_cell 95 = .ok (.ireturn, 1) := by decide +kernel
theorem wl_6_108 : (.classLink RX11 163 "java/util/NoSuchElementException" : Cond) ∈ sg_tbl := tb_6 _ (List.mem_of_getElem? (i := 108) (by decide +kernel)) (by decide +kernel)
theorem wl_1_25 : (.initialized "java/util/NoSuchElementException" : Cond) ∈ sg_tbl := tb_1 _ (List.mem_of_getElem? (i := 25) (by decide +kernel)) (by decide +kernel)
theorem wl_6_169 : (.methodLink RX11 180 yX8_grows : Cond) ∈ sg_tbl := tb_6 _ (List.mem_of_getElem? (i := 169) (by decide +kernel)) (by decide +kernel)
theorem wl_6_107 : (.code yX11_cell cX11_cell 3 (some .int) : Cond) ∈ sg_tbl := tb_6 _ (List.mem_of_getElem? (i := 107) (by decide +kernel)) (by decide +kernel)
theorem wl_6_102 : (.codeWith yL_cell cL_cell 5 (some .int) [(0, 10, 13, 13)] : Cond) ∈ sg_tbl := tb_6 _ (List.mem_of_getElem? (i := 102) (by decide +kernel)) (by decide +kernel)
theorem wl_6_105 : (.instanceMethod yX11_cell : Cond) ∈ sg_tbl := tb_6 _ (List.mem_of_getElem? (i := 105) (by decide +kernel)) (by decide +kernel)
theorem wl_6_106 : (.selects RX11 yX11_cell yX11_cell : Cond) ∈ sg_tbl := tb_6 _ (List.mem_of_getElem? (i := 106) (by decide +kernel)) (by decide +kernel)
theorem wl_6_104 : (.methodLink RL 7 yX11_cell : Cond) ∈ sg_tbl := tb_6 _ (List.mem_of_getElem? (i := 104) (by decide +kernel)) (by decide +kernel)
theorem wl_6_103 : (.classLink RL 13 "java/util/NoSuchElementException" : Cond) ∈ sg_tbl := tb_6 _ (List.mem_of_getElem? (i := 103) (by decide +kernel)) (by decide +kernel)
theorem wl_6_100 : (.methodLink RL 42 yL_cell : Cond) ∈ sg_tbl := tb_6 _ (List.mem_of_getElem? (i := 100) (by decide +kernel)) (by decide +kernel)
theorem wl_6_101 : (.static yL_cell : Cond) ∈ sg_tbl := tb_6 _ (List.mem_of_getElem? (i := 101) (by decide +kernel)) (by decide +kernel)
theorem wl_1_0 : (.initialized RL : Cond) ∈ sg_tbl := tb_1 _ (List.mem_of_getElem? (i := 0) (by decide +kernel)) (by decide +kernel)
theorem wl_8_51 : (.methodLink RL 47 yX12_cell : Cond) ∈ sg_tbl := tb_8 _ (List.mem_of_getElem? (i := 51) (by decide +kernel)) (by decide +kernel)
section
variable {p : Program} {l : Launch} {e : Env} {R : Room} {s : State} {m : MethodId} {args : Array Value} {below : List Frame} {meth : Method} {c : Code} {H : Heap} {locs : List Loc} {cells slots : Nat} {Q : State → Prop} {cc : ByteArray} {nL pc : Nat} {ls : Array Slot} {rest : List Value} {own : String} {D : va_G} {A : Nat → Prop} {tys : List (ClassId × FieldType)} {ad ks : List Nat} {P : sgPm} {H0 : Heap} {index : Nat} {base : Nat} {st0 : List Value} {a : Nat}
theorem as_66  {i : Int32} {x : Int64}  (X : CallFix p m c cc nL s args sg_tbl own) (hK : va_K D vwCl tys s) (hG : sgG (KT P) D vwCl A tys ad ks H) (hS : va_S A H0 H locs) (ha : isK ad ks 66 a) (hin : vp_in i 1)  (hdg : decode cc pc = .ok (.lastore, 1)) (kk : ∀ (H1 : Heap) (locs1 : List Loc), sgG (KT P) D vwCl A tys ad ks H1 → va_S A H0 H1 locs1 → sgFr (KT P) D vwCl ad ks H H1 (fun _ _ => False) → W p l e R s m args below meth c H1 locs1 cells slots Q (F0 m (pc + 1) ls rest)) : W p l e R s m args below meth c H locs cells slots Q (F0 m pc ls (.long x :: .int i :: .ref a :: rest)) :=
  sg_last X hK hG hS ha (k := 66) rfl hin hdg kk
set_option maxRecDepth 1000000 in
theorem cell_words : ∀ w ∈ (vx_at0 RX11 165 "java/util/NoSuchElementException" ["java/lang/RuntimeException", "java/lang/Exception"]).filter goodWord, w ∈ sg_tbl := fun w hw => List.mem_filter.mpr ⟨(show ∀ w ∈ (vx_at0 RX11 165 "java/util/NoSuchElementException" ["java/lang/RuntimeException", "java/lang/Exception"]).filter goodWord, w ∈ lw_tbl from by decide +kernel) w hw, (List.mem_filter.mp hw).2⟩
set_option maxHeartbeats 8000000 in
set_option maxRecDepth 100000 in
theorem m_X11_cell (l : Launch) (hl0 : l.stackTraces = false) {D : va_G} {base : Nat} {tys : List (ClassId × FieldType)} {ad ks : List Nat} {P : sgPm} (a0 : Nat) (h0 : isK ad ks 11 a0) (x1 x2 : Int32) : vx_Met l yX11_cell (Cond.code yX11_cell cX11_cell 3 (some .int) :: sg_tbl) ({ frames := 6, cells := 1, slots := 6, locals := 104 } : Room) (va_Pc [.ref a0, .int x1, .int x2] (fun U => sgX base U ∧ sgB (KT P) D vwCl base tys ad ks U)) (va_Qi (fun _ (_ : Unit) => True) (fun _ t => sgG (KT P) D vwCl (fun q : Nat => base ≤ q) tys ad ks t.heap) (fun q : Nat => base ≤ q)) (vx_X (fun (_ : Unit) => True) (fun E _ t => E = "java/util/NoSuchElementException" ∧ sgG (KT P) D vwCl (fun q : Nat => base ≤ q) tys ad ks t.heap) (fun q : Nat => base ≤ q)) 1 6 (fun q : Nat => base ≤ q) := by
  refine vx_ofW (cc := cX11_cell) (maxL := 3) (ret := some .int) (by decide +kernel) rfl ?_
  intro p e s m args below meth c s₁ B hml htab hv
  obtain ⟨rfl, ⟨hTU, hTN, hB1, hB2, hB3, hB4⟩, hb, hK, hC, hG⟩ := hv
  have hts := atoms_spec (ws := Cond.code yX11_cell cX11_cell 3 (some .int) :: sg_tbl) B.pre
  have X : CallFix p m c cX11_cell 3 s ([.ref a0, .int x1, .int x2] : List Value).toArray sg_tbl RX11 := ⟨B.exec, B.bytes, hml, findClass_of_methodNamed B.named, fun w hw => hts w (List.mem_cons_of_mem _ hw)⟩
  have hr := B.returns
  have hlk := B.notSynchronized
  have hS : va_S (fun q : Nat => base ≤ q) s.heap s.heap [] := va_S.rf
  have hl := lv_entry ([.ref a0, .int x1, .int x2]) (n := 3) (Nat.le_of_ble_eq_true rfl)
  rw [lg_entry_eq]
  generalize (lg_sl ([.ref a0, .int x1, .int x2]) ++ List.replicate (3 - (lg_sl ([.ref a0, .int x1, .int x2])).length) Slot.unset).toArray = ls at hl ⊢
  have hl : lv_has ls 3 [(0, .ref a0), (1, .int x1), (2, .int x2)] := hl
  refine lv_aload_n X.1 X.2.1 dX11_cell_0 rfl (lv_at hl 0 rfl) ?_
  refine lv_iload_n X.1 X.2.1 dX11_cell_1 rfl (lv_at hl 1 rfl) ?_
  refine ca_X11_isCell X hK hG hC (fun _ h => h) hS hb a0 h0 x1 wl_5_217 hl.1 (rest := []) rfl (Nat.le_of_ble_eq_true rfl) ⟨Nat.le_of_ble_eq_true rfl, Nat.le_of_ble_eq_true rfl⟩ ⟨Nat.le_of_ble_eq_true rfl, Nat.le_of_ble_eq_true rfl⟩ dX11_cell_2 (fun f1 locs hf1 hS => ?_)
  refine lv_if_eq (tgt := 17) X.1 X.2.1 dX11_cell_5 (by decide) (fun c2 => ?_) (fun c2 => ?_)
  · exact vx_throw0 (A := fun q : Nat => base ≤ q) X.1 X.2.1 hl0 X.2.2.2.1 (by decide +kernel) (by decide +kernel) (X.2.2.2.2 _ wl_6_108) (X.2.2.2.2 _ wl_1_25) (vx_hat (B := [.declares (Bundle.init0 "java/lang/RuntimeException"), .declares (Bundle.init0 "java/lang/Exception"), .declares (Bundle.init0 Bundle.tN), .castable "java/util/NoSuchElementException" "java/util/NoSuchElementException"]) (fun w h => X.2.2.2.2 w (cell_words w h)) (by decide +kernel) (vx_c (va_Nw.use rfl hB1) (vx_c (va_Nw.use rfl hB2) (vx_c (va_Nw.use rfl hB3) (vx_c (va_Nw.use rfl hB4) vx_n))))) (by decide +kernel) hTU hTN hS (hl.1.trans hml.symm) dX11_cell_17 dX11_cell_20 dX11_cell_21 dX11_cell_24 (fun x hx => (htab x hx).elim) (Nat.lt_of_lt_of_le (show (5 : Nat) < 6 by decide) (Nat.le_of_ble_eq_true rfl)) (Nat.le_of_ble_eq_true rfl) (Nat.le_of_ble_eq_true rfl) (Nat.le_of_ble_eq_true rfl) hlk (fun t hvm h2 h3 => ⟨(), trivial, ⟨rfl, sg_ext hG h2 h3⟩, Nat.le_trans hS.1 h2, fun q a b => (h3 q (Nat.lt_of_lt_of_le a hS.1)).trans (hS.2.1 q a b)⟩) hS.2.2 (Nat.le_of_ble_eq_true rfl) (Nat.le_of_ble_eq_true rfl)
  · refine lv_iload_n X.1 X.2.1 dX11_cell_8 rfl (lv_at hl 2 rfl) ?_
    refine lv_if_lt (tgt := 17) X.1 X.2.1 dX11_cell_9 (by decide) (fun c3 => ?_) (fun c3 => ?_)
    · exact vx_throw0 (A := fun q : Nat => base ≤ q) X.1 X.2.1 hl0 X.2.2.2.1 (by decide +kernel) (by decide +kernel) (X.2.2.2.2 _ wl_6_108) (X.2.2.2.2 _ wl_1_25) (vx_hat (B := [.declares (Bundle.init0 "java/lang/RuntimeException"), .declares (Bundle.init0 "java/lang/Exception"), .declares (Bundle.init0 Bundle.tN), .castable "java/util/NoSuchElementException" "java/util/NoSuchElementException"]) (fun w h => X.2.2.2.2 w (cell_words w h)) (by decide +kernel) (vx_c (va_Nw.use rfl hB1) (vx_c (va_Nw.use rfl hB2) (vx_c (va_Nw.use rfl hB3) (vx_c (va_Nw.use rfl hB4) vx_n))))) (by decide +kernel) hTU hTN hS (hl.1.trans hml.symm) dX11_cell_17 dX11_cell_20 dX11_cell_21 dX11_cell_24 (fun x hx => (htab x hx).elim) (Nat.lt_of_lt_of_le (show (5 : Nat) < 6 by decide) (Nat.le_of_ble_eq_true rfl)) (Nat.le_of_ble_eq_true rfl) (Nat.le_of_ble_eq_true rfl) (Nat.le_of_ble_eq_true rfl) hlk (fun t hvm h2 h3 => ⟨(), trivial, ⟨rfl, sg_ext hG h2 h3⟩, Nat.le_trans hS.1 h2, fun q a b => (h3 q (Nat.lt_of_lt_of_le a hS.1)).trans (hS.2.1 q a b)⟩) hS.2.2 (Nat.le_of_ble_eq_true rfl) (Nat.le_of_ble_eq_true rfl)
    · refine lv_iload_n X.1 X.2.1 dX11_cell_12 rfl (lv_at hl 2 rfl) ?_
      refine lv_iconst (v := 2) X.1 X.2.1 dX11_cell_13 (by decide +kernel) ?_
      refine lv_icmp_le (tgt := 25) X.1 X.2.1 dX11_cell_14 (by decide) (fun c4 => ?_) (fun c4 => ?_)
      · refine lv_iload_n X.1 X.2.1 dX11_cell_25 rfl (lv_at hl 2 rfl) ?_
        refine lv_if_ne (tgt := 37) X.1 X.2.1 dX11_cell_26 (by decide) (fun c5 => ?_) (fun c5 => ?_)
        · refine lv_iload_n X.1 X.2.1 dX11_cell_37 rfl (lv_at hl 2 rfl) ?_
          refine lv_iconst (v := 1) X.1 X.2.1 dX11_cell_38 (by decide +kernel) ?_
          refine lv_icmp_ne (tgt := 58) X.1 X.2.1 dX11_cell_39 (by decide) (fun c6 => ?_) (fun c6 => ?_)
          · refine lv_aload_n X.1 X.2.1 dX11_cell_58 rfl (lv_at hl 0 rfl) ?_
            refine gf_X11_5 X hK hG h0 wl_2_200 dX11_cell_59 (fun q7 hq7 kq7 => ?_)
            refine lv_iload_n X.1 X.2.1 dX11_cell_62 rfl (lv_at hl 1 rfl) ?_
            refine lv_aload_n X.1 X.2.1 dX11_cell_63 rfl (lv_at hl 0 rfl) ?_
            refine gf_X11_3 X hK hG h0 wl_2_198 dX11_cell_64 (fun q8 hq8 kq8 => ?_)
            refine gf_X9_0 X hK hG hq8 wl_1_118 dX11_cell_67 (fun f9 hf9 kf9 => ?_)
            refine lv_aload_n X.1 X.2.1 dX11_cell_70 rfl (lv_at hl 0 rfl) ?_
            refine gg_X11_3 X hK hG h0 wl_2_198 kq8 dX11_cell_71 ?_
            refine gf_X9_1 X hK hG hq8 wl_1_122 dX11_cell_74 (fun f10 hf10 kf10 => ?_)
            refine lv_aload_n X.1 X.2.1 dX11_cell_77 rfl (lv_at hl 0 rfl) ?_
            refine gg_X11_3 X hK hG h0 wl_2_198 kq8 dX11_cell_78 ?_
            refine gf_X9_3 X hK hG hq8 wl_1_130 dX11_cell_81 (fun f11 hf11 kf11 => ?_)
            refine ca_X8_grows X hK hG hC hS hb q7 hq7 x1 f9 f10 f11 wl_6_169 hl.1 (rest := []) rfl (Nat.le_of_ble_eq_true rfl) ⟨Nat.le_of_ble_eq_true rfl, Nat.le_of_ble_eq_true rfl⟩ ⟨Nat.le_of_ble_eq_true rfl, Nat.le_of_ble_eq_true rfl⟩ dX11_cell_84 (fun f12 H locs hf12 hG hS => ?_)
            refine lv_if_eq (tgt := 94) X.1 X.2.1 dX11_cell_87 (by decide) (fun c13 => ?_) (fun c13 => ?_)
            · refine lv_iconst (v := 0) X.1 X.2.1 dX11_cell_94 (by decide +kernel) ?_
              refine vx_ret ?_
              refine W.widen (k := 1) (n := 6) (Nat.le_of_ble_eq_true rfl) (Nat.le_of_ble_eq_true rfl) ?_
              exact W.iret (v := 0) X.1 X.2.1 hr (fun t ht hW => ⟨⟨0, (), rfl, trivial, sg_th ht hG⟩, hS.F ht⟩) hS.2.2 dX11_cell_95 hlk
            · refine lv_iconst (v := 1) X.1 X.2.1 dX11_cell_90 (by decide +kernel) ?_
              refine lv_goto (tgt := 95) X.1 X.2.1 dX11_cell_91 (by decide) ?_
              refine vx_ret ?_
              refine W.widen (k := 1) (n := 6) (Nat.le_of_ble_eq_true rfl) (Nat.le_of_ble_eq_true rfl) ?_
              exact W.iret (v := 1) X.1 X.2.1 hr (fun t ht hW => ⟨⟨1, (), rfl, trivial, sg_th ht hG⟩, hS.F ht⟩) hS.2.2 dX11_cell_95 hlk
          · refine lv_aload_n X.1 X.2.1 dX11_cell_42 rfl (lv_at hl 0 rfl) ?_
            refine gf_X11_10 X hK hG h0 wl_2_205 dX11_cell_43 (fun q14 hq14 kq14 => ?_)
            refine lv_iload_n X.1 X.2.1 dX11_cell_46 rfl (lv_at hl 1 rfl) ?_
            refine lv_aload_n X.1 X.2.1 dX11_cell_47 rfl (lv_at hl 0 rfl) ?_
            refine gf_X11_3 X hK hG h0 wl_2_198 dX11_cell_48 (fun q15 hq15 kq15 => ?_)
            refine gf_X9_0 X hK hG hq15 wl_1_118 dX11_cell_51 (fun f16 hf16 kf16 => ?_)
            refine ca_X4_around X hK hG hC (fun _ h => h) hS hb q14 hq14 x1 f16 wl_5_225 hl.1 (rest := []) rfl (Nat.le_of_ble_eq_true rfl) ⟨Nat.le_of_ble_eq_true rfl, Nat.le_of_ble_eq_true rfl⟩ ⟨Nat.le_of_ble_eq_true rfl, Nat.le_of_ble_eq_true rfl⟩ dX11_cell_54 (fun f17 locs hf17 hS => ?_)
            refine vx_ret ?_
            refine W.widen (k := 1) (n := 6) (Nat.le_of_ble_eq_true rfl) (Nat.le_of_ble_eq_true rfl) ?_
            exact W.iret (v := f17) X.1 X.2.1 hr (fun t ht hW => ⟨⟨f17, (), rfl, trivial, sg_th ht hG⟩, hS.F ht⟩) hS.2.2 dX11_cell_57 hlk
        · refine lv_aload_n X.1 X.2.1 dX11_cell_29 rfl (lv_at hl 0 rfl) ?_
          refine lv_iconst (v := 1) X.1 X.2.1 dX11_cell_30 (by decide +kernel) ?_
          refine lv_iload_n X.1 X.2.1 dX11_cell_31 rfl (lv_at hl 1 rfl) ?_
          refine lv_ishl X.1 X.2.1 dX11_cell_32 ?_
          refine lv_topi (fun f18 ef18 => ?_)
          refine ca_X11_kindOf X hK hG hC (fun _ h => h) hS hb a0 h0 f18 wl_5_221 hl.1 (rest := []) rfl (Nat.le_of_ble_eq_true rfl) ⟨Nat.le_of_ble_eq_true rfl, Nat.le_of_ble_eq_true rfl⟩ ⟨Nat.le_of_ble_eq_true rfl, Nat.le_of_ble_eq_true rfl⟩ dX11_cell_33 (fun f19 locs hf19 hS => ?_)
          refine vx_ret ?_
          refine W.widen (k := 1) (n := 6) (Nat.le_of_ble_eq_true rfl) (Nat.le_of_ble_eq_true rfl) ?_
          exact W.iret (v := f19) X.1 X.2.1 hr (fun t ht hW => ⟨⟨f19, (), rfl, trivial, sg_th ht hG⟩, hS.F ht⟩) hS.2.2 dX11_cell_36 hlk
      · exact vx_throw0 (A := fun q : Nat => base ≤ q) X.1 X.2.1 hl0 X.2.2.2.1 (by decide +kernel) (by decide +kernel) (X.2.2.2.2 _ wl_6_108) (X.2.2.2.2 _ wl_1_25) (vx_hat (B := [.declares (Bundle.init0 "java/lang/RuntimeException"), .declares (Bundle.init0 "java/lang/Exception"), .declares (Bundle.init0 Bundle.tN), .castable "java/util/NoSuchElementException" "java/util/NoSuchElementException"]) (fun w h => X.2.2.2.2 w (cell_words w h)) (by decide +kernel) (vx_c (va_Nw.use rfl hB1) (vx_c (va_Nw.use rfl hB2) (vx_c (va_Nw.use rfl hB3) (vx_c (va_Nw.use rfl hB4) vx_n))))) (by decide +kernel) hTU hTN hS (hl.1.trans hml.symm) dX11_cell_17 dX11_cell_20 dX11_cell_21 dX11_cell_24 (fun x hx => (htab x hx).elim) (Nat.lt_of_lt_of_le (show (5 : Nat) < 6 by decide) (Nat.le_of_ble_eq_true rfl)) (Nat.le_of_ble_eq_true rfl) (Nat.le_of_ble_eq_true rfl) (Nat.le_of_ble_eq_true rfl) hlk (fun t hvm h2 h3 => ⟨(), trivial, ⟨rfl, sg_ext hG h2 h3⟩, Nat.le_trans hS.1 h2, fun q a b => (h3 q (Nat.lt_of_lt_of_le a hS.1)).trans (hS.2.1 q a b)⟩) hS.2.2 (Nat.le_of_ble_eq_true rfl) (Nat.le_of_ble_eq_true rfl)
set_option maxHeartbeats 8000000 in
set_option maxRecDepth 100000 in
theorem m_L_cell (l : Launch) (hl0 : l.stackTraces = false) {D : va_G} {base : Nat} {tys : List (ClassId × FieldType)} {ad ks : List Nat} {P : sgPm} (a0 : Nat) (h0 : isK ad ks 11 a0) (x1 x2 : Int32) (a3 : Nat) (h3 : isK ad ks 66 a3) : Met l yL_cell (Cond.codeWith yL_cell cL_cell 5 (some .int) [(0, 10, 13, 13)] :: sg_tbl) ({ frames := 7, cells := 1, slots := 6, locals := 126 } : Room) (va_Pc [.ref a0, .int x1, .int x2, .ref a3] (fun U => sgX base U ∧ sgB (KT P) D vwCl base tys ad ks U)) (va_Qi (fun _ (_ : Unit) => True) (fun _ t => sgG (KT P) D vwCl (fun q : Nat => base ≤ q) tys ad ks t.heap) (fun q : Nat => base ≤ q)) 1 6 (fun q : Nat => base ≤ q) := by
  refine p1_ofWH (cc := cL_cell) (maxL := 5) (ret := some .int) (hh := [(0, 10, 13, 13)]) (by decide +kernel) rfl ?_
  intro p e s m args below meth c s₁ B hml hv
  obtain ⟨rfl, ⟨hTU, hTN, hB1, hB2, hB3, hB4⟩, hb, hK, hC, hG⟩ := hv
  have hts := atoms_spec (ws := Cond.codeWith yL_cell cL_cell 5 (some .int) [(0, 10, 13, 13)] :: sg_tbl) B.pre
  have htab := vx_table (x := yL_cell) B (hts _ List.mem_cons_self)
  have X : CallFix p m c cL_cell 5 s ([.ref a0, .int x1, .int x2, .ref a3] : List Value).toArray sg_tbl RL := ⟨B.exec, B.bytes, hml, findClass_of_methodNamed B.named, fun w hw => hts w (List.mem_cons_of_mem _ hw)⟩
  have hr := B.returns
  have hlk := B.notSynchronized
  have hS : va_S (fun q : Nat => base ≤ q) s.heap s.heap [] := va_S.rf
  have hl := lv_entry ([.ref a0, .int x1, .int x2, .ref a3]) (n := 5) (Nat.le_of_ble_eq_true rfl)
  rw [lg_entry_eq]
  generalize (lg_sl ([.ref a0, .int x1, .int x2, .ref a3]) ++ List.replicate (5 - (lg_sl ([.ref a0, .int x1, .int x2, .ref a3])).length) Slot.unset).toArray = ls at hl ⊢
  have hl : lv_has ls 5 [(0, .ref a0), (1, .int x1), (2, .int x2), (3, .ref a3)] := hl
  refine lv_aload_n X.1 X.2.1 dL_cell_0 rfl (lv_at hl 3 rfl) ?_
  refine lv_iconst (v := 0) X.1 X.2.1 dL_cell_1 (by decide +kernel) ?_
  refine lv_aload_n X.1 X.2.1 dL_cell_2 rfl (lv_at hl 0 rfl) ?_
  refine lv_iload_n X.1 X.2.1 dL_cell_3 rfl (lv_at hl 1 rfl) ?_
  refine lv_iload_n X.1 X.2.1 dL_cell_4 rfl (lv_at hl 2 rfl) ?_
  refine sg_cellrun (As := [.int x1, .int x2]) X hK hG hC hS hb ⟨hTU, hTN, hB1, hB2, hB3, hB4⟩ (m_X11_cell l hl0 a0 h0 x1 x2) h0 (k := 11) (ci := 11) rfl (C := RX11) (T := TX11) (N := 17) rfl wl_6_107 wl_1_1 wl_6_105 wl_6_106 (n := 2) (by decide +kernel) rfl rfl rfl wl_6_104 hl.1 (rest := [.int 0, .ref a3]) rfl (Nat.le_of_ble_eq_true rfl) ⟨Nat.le_of_ble_eq_true rfl, Nat.le_of_ble_eq_true rfl⟩ ⟨Nat.le_of_ble_eq_true rfl, Nat.le_of_ble_eq_true rfl⟩ dL_cell_5 ?_ ?_
  · intro ce q9 H locs hce hcv hcl hG hS
    refine vx_catch X.2.2.2.1 [] { startPc := 0, endPc := 10, handlerPc := 13, catchType := 13 } [] htab (fun z hz => nomatch hz) (by decide) (by decide) (X.2.2.2.2 _ wl_6_103) (va_Nw.use rfl hB4) hce hcv hcl ?_
    refine lv_astore (lv' := [(4, .ref q9), (0, .ref a0), (1, .int x1), (2, .int x2), (3, .ref a3)]) X.1 X.2.1 dL_cell_13 hl (by decide) rfl (fun ls hl => ?_)
    refine lv_iconst (v := 1) X.1 X.2.1 dL_cell_15 (by decide) ?_
    exact W.iret (v := 1) X.1 X.2.1 hr (fun t ht hW => ⟨⟨1, (), rfl, trivial, sg_th ht hG⟩, hS.F ht⟩) hS.2.2 dL_cell_16 hlk
  · intro r H locs hG hS
    obtain ⟨g1, eg1⟩ : ∃ y : Int64, y = (r : Int32).toInt64 := ⟨_, rfl⟩
    refine lv_i2l (v := g1) X.1 X.2.1 dL_cell_8 eg1.symm ?_
    refine as_66 X hK hG hS h3 (iv_vpin (iv_c 0 (a := 0) (b := 0) (by decide +kernel)) (by decide +kernel)) dL_cell_9 (fun H locs hG hS _ => ?_)
    refine lv_goto (tgt := 17) X.1 X.2.1 dL_cell_10 (by decide) ?_
    refine lv_iconst (v := 0) X.1 X.2.1 dL_cell_17 (by decide) ?_
    exact W.iret (v := 0) X.1 X.2.1 hr (fun t ht hW => ⟨⟨0, (), rfl, trivial, sg_th ht hG⟩, hS.F ht⟩) hS.2.2 dL_cell_18 hlk
set_option maxHeartbeats 8000000 in
set_option maxRecDepth 100000 in
theorem law_case_5 {p : Program} {l : Launch} {e : Env} {s : State} {m : MethodId} {below : List Frame} {meth : Method} {c : Code} {b L : Nat} {xs : Nat → Int32} {D : va_G} (hst : l.stackTraces = false) (hXX : sgX s.heap.size s) (C : lwC p l e s m below meth c b L xs) {n : Nat} {P : sgPm} {tys : List (ClassId × FieldType)} {ad ks : List Nat} {xx mm oq : Nat} {H : Heap} {locs : List Loc} (hW : lwV D n P tys ad ks xx mm oq s H) (hS : va_S (fun q : Nat => s.heap.size ≤ q) s.heap H locs) {i : Int32} (hi0 : 0 ≤ i.toInt) (hi6 : i.toInt + 6 ≤ L) (hn : n ≤ 511) {ls : Array Slot} (hl : lv_has ls 7 [(4, .int i), (3, .ref oq), (2, .ref mm), (1, .ref xx), (0, .ref b)]) {cells slots : Nat} (hc : cells + 4 ≤ 601024) (hs : slots + 8300 ≤ 7293034) {Q : State → Prop}
    (kk : ∀ (P1 : sgPm) (tys1 : List (ClassId × FieldType)) (ad1 ks1 : List Nat) (H1 : Heap) (locs1 : List Loc) (ls1 : Array Slot), lwV D (n + 1) P1 tys1 ad1 ks1 xx mm oq s H1 → va_S (fun q : Nat => s.heap.size ≤ q) s.heap H1 locs1 → lv_has ls1 7 [(4, .int i), (3, .ref oq), (2, .ref mm), (1, .ref xx), (0, .ref b)] → W p l e room_1 s m #[.ref b] below meth c H1 locs1 (cells + 4) (slots + 8300) Q (F0 m 1349 ls1 [])) :
    W p l e room_1 s m #[.ref b] below meth c H locs cells slots Q (F0 m 397 ls []) := by
  obtain ⟨X, hC, hX, hbl, hL⟩ := C
  obtain ⟨hK, hG, hxx, hmm, hoq, hpin, hN0, hinv, hgl⟩ := id hW
  have hp10 := hpin
  have hb : s.heap.size ≤ s.heap.size := Nat.le_refl _
  have hbA : ¬ (fun q : Nat => s.heap.size ≤ q) b := Nat.not_le.mpr hbl
  have lwr : cells ≤ room_1.cells ∧ slots ≤ room_1.slots := ⟨by show cells ≤ 601024; omega, by show slots ≤ 7293034; omega⟩
  have lwr1 : cells + 1 ≤ room_1.cells ∧ slots + 8256 ≤ room_1.slots := ⟨by show cells + 1 ≤ 601024; omega, by show slots + 8256 ≤ 7293034; omega⟩
  have lwr2 : cells + 1 ≤ room_1.cells ∧ slots + 4096 ≤ room_1.slots := ⟨by show cells + 1 ≤ 601024; omega, by show slots + 4096 ≤ 7293034; omega⟩
  have hgi := hgl.1.1
  have hgg := hgl.2.1
  have hpk := hm_pk hgl.2
  have hl0 := sgInv_l1 hinv
  have hby := sgInv_b1 hinv
  have lwr6 : cells + 1 ≤ room_1.cells ∧ slots + 6 ≤ room_1.slots := ⟨by show cells + 1 ≤ 601024; omega, by show slots + 6 ≤ 7293034; omega⟩
  refine lv_aload_n X.1 X.2.1 dL_law_397 rfl (lv_at hl 3 rfl) ?_
  refine lv_aload_n X.1 X.2.1 dL_law_398 rfl (lv_at hl 4 rfl) ?_
  refine lv_iload X.1 X.2.1 dL_law_399 (lv_at hl 0 rfl) ?_
  refine lv_iconst (v := 1) X.1 X.2.1 dL_law_401 (by decide +kernel) ?_
  refine lv_iadd X.1 X.2.1 dL_law_402 ?_
  refine lv_topi (fun f1 ef1 => ?_)
  refine va_sld (i := f1) X.1 X.2.1 hX hbl hbA hS (lw_ix ef1 hi0 hi6 hL (by decide +kernel)) dL_law_403 ?_
  refine lv_aload_n X.1 X.2.1 dL_law_404 rfl (lv_at hl 4 rfl) ?_
  refine lv_iload X.1 X.2.1 dL_law_405 (lv_at hl 0 rfl) ?_
  refine lv_iconst (v := 2) X.1 X.2.1 dL_law_407 (by decide +kernel) ?_
  refine lv_iadd X.1 X.2.1 dL_law_408 ?_
  refine lv_topi (fun f3 ef3 => ?_)
  refine va_sld (i := f3) X.1 X.2.1 hX hbl hbA hS (lw_ix ef3 hi0 hi6 hL (by decide +kernel)) dL_law_409 ?_
  refine lv_aload_n X.1 X.2.1 dL_law_410 rfl (lv_at hl 1 rfl) ?_
  refine sg_lcellrun (As := [.ref xx, .int (xs f1.toNatClampNeg), .int (xs f3.toNatClampNeg), .ref oq]) X hK hG hC hS hb hXX (m_L_cell l hst xx hxx (xs f1.toNatClampNeg) (xs f3.toNatClampNeg) oq hoq) wl_6_102 wl_6_100 wl_6_101 wl_1_0 (n := 4) (by decide +kernel) rfl rfl rfl hl.1 (rest := []) rfl (Nat.le_of_ble_eq_true rfl) ⟨Nat.le_of_ble_eq_true rfl, Nat.le_of_ble_eq_true rfl⟩ lwr6 dL_law_411 (fun r1 H locs hG hS => ?_)
  refine lv_istore (lv' := [(5, .int r1), (4, .int i), (3, .ref oq), (2, .ref mm), (1, .ref xx), (0, .ref b)]) X.1 X.2.1 dL_law_414 hl (by decide) rfl (fun ls hl => ?_)
  refine lv_aload_n X.1 X.2.1 dL_law_416 rfl (lv_at hl 3 rfl) ?_
  refine lv_aload_n X.1 X.2.1 dL_law_417 rfl (lv_at hl 5 rfl) ?_
  refine lv_iload X.1 X.2.1 dL_law_418 (lv_at hl 1 rfl) ?_
  refine lv_iconst (v := 1) X.1 X.2.1 dL_law_420 (by decide +kernel) ?_
  refine lv_iadd X.1 X.2.1 dL_law_421 ?_
  refine lv_topi (fun f5 ef5 => ?_)
  refine va_sld (i := f5) X.1 X.2.1 hX hbl hbA hS (lw_ix ef5 hi0 hi6 hL (by decide +kernel)) dL_law_422 ?_
  refine lv_aload_n X.1 X.2.1 dL_law_423 rfl (lv_at hl 5 rfl) ?_
  refine lv_iload X.1 X.2.1 dL_law_424 (lv_at hl 1 rfl) ?_
  refine lv_iconst (v := 2) X.1 X.2.1 dL_law_426 (by decide +kernel) ?_
  refine lv_iadd X.1 X.2.1 dL_law_427 ?_
  refine lv_topi (fun f7 ef7 => ?_)
  refine va_sld (i := f7) X.1 X.2.1 hX hbl hbA hS (lw_ix ef7 hi0 hi6 hL (by decide +kernel)) dL_law_428 ?_
  rcases Bool.eq_false_or_eq_true P.2.2.2.2.1 with hp4 | hp4
  · refine ca_X12_cell_1 X hK hG hC hS hb hp4 mm hmm (xs f5.toNatClampNeg) (xs f7.toNatClampNeg) wl_8_51 hl.1 (rest := []) rfl (Nat.le_of_ble_eq_true rfl) ⟨Nat.le_of_ble_eq_true rfl, Nat.le_of_ble_eq_true rfl⟩ lwr6 dL_law_429 (fun f9 H locs hf9 hG hS => ?_)
    refine lv_istore (lv' := [(6, .int f9), (5, .int r1), (4, .int i), (3, .ref oq), (2, .ref mm), (1, .ref xx), (0, .ref b)]) X.1 X.2.1 dL_law_432 hl (by decide) rfl (fun ls hl => ?_)
    refine lv_goto (tgt := 1349) X.1 X.2.1 dL_law_434 (by decide) ?_
    refine W.widen (k := cells + 4) (n := slots + 8300) (by omega) (by omega) ?_
    exact kk _ _ _ _ _ _ _ (lwV_next hW hK hG hpin (Nat.le_add_right _ _) (sgMo.rf _ _) hinv hgl) hS (lv_sub hl [2, 3, 4, 5, 6] rfl)
  · refine ca_X12_cell_0 X hK hG hC hS hb hp4 mm hmm (xs f5.toNatClampNeg) (xs f7.toNatClampNeg) wl_8_51 hl.1 (rest := []) rfl (Nat.le_of_ble_eq_true rfl) ⟨Nat.le_of_ble_eq_true rfl, Nat.le_of_ble_eq_true rfl⟩ lwr6 dL_law_429 (fun f10 H locs hf10 hG hS => ?_)
    refine lv_istore (lv' := [(6, .int f10), (5, .int r1), (4, .int i), (3, .ref oq), (2, .ref mm), (1, .ref xx), (0, .ref b)]) X.1 X.2.1 dL_law_432 hl (by decide) rfl (fun ls hl => ?_)
    refine lv_goto (tgt := 1349) X.1 X.2.1 dL_law_434 (by decide) ?_
    refine W.widen (k := cells + 4) (n := slots + 8300) (by omega) (by omega) ?_
    exact kk _ _ _ _ _ _ _ (lwV_next hW hK hG hpin (Nat.le_add_right _ _) (sgMo.rf _ _) hinv hgl) hS (lv_sub hl [2, 3, 4, 5, 6] rfl)
end
