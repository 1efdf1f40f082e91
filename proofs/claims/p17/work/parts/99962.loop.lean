theorem dL_law_23 : decode cL_law 23 = .ok (.iload 4, 2) := by decide +kernel
theorem dL_law_25 : decode cL_law 25 = .ok (.aload_n 0, 1) := by decide +kernel
theorem dL_law_26 : decode cL_law 26 = .ok (.arraylength, 1) := by decide +kernel
theorem dL_law_27 : decode cL_law 27 = .ok (.bipush 6, 2) := by decide +kernel
theorem dL_law_29 : decode cL_law 29 = .ok (.isub, 1) := by decide +kernel
theorem dL_law_30 : decode cL_law 30 = .ok (.if_icmp .gt 1325, 3) := by decide +kernel
theorem dL_law_33 : decode cL_law 33 = .ok (.aload_n 0, 1) := by decide +kernel
theorem dL_law_34 : decode cL_law 34 = .ok (.iload 4, 2) := by decide +kernel
theorem dL_law_36 : decode cL_law 36 = .ok (.iaload, 1) := by decide +kernel
theorem dL_law_37 : decode cL_law 37 = .ok (.bipush 63, 2) := by decide +kernel
theorem dL_law_39 : decode cL_law 39 = .ok (.iand, 1) := by decide +kernel
theorem dL_law_40 : decode cL_law 40 = .ok (.tableswitch 1309 0 41 #[184, 257, 282, 307, 332, 357, 397, 422, 447, 472, 521, 534, 559, 628, 641, 678, 727, 752, 777, 826, 839, 864, 889, 914, 939, 952, 965, 990, 1015, 1028, 1041, 1094, 1119, 1132, 1157, 1170, 1207, 1232, 1245, 1258, 1271, 1284], 184) := by decide +kernel
theorem dL_law_1349 : decode cL_law 1349 = .ok (.iinc 4 6, 3) := by decide +kernel
theorem dL_law_1352 : decode cL_law 1352 = .ok (.goto (-1329), 3) := by decide +kernel
theorem dL_law_1355 : decode cL_law 1355 = .ok (.iconst 1, 1) := by decide +kernel
theorem dL_law_1356 : decode cL_law 1356 = .ok (.ireturn, 1) := by decide +kernel
theorem lw_f6 {f : Int32} {L : Nat} (e : f = Int32.ofNat L - 6) (hL : L ≤ 3072) : f.toInt = (L : Int) - 6 := by
  have h1 : (Int32.ofNat L).toInt = (L : Int) := Int32.toInt_ofNat_of_lt (by omega)
  have h2 : (6 : Int32).toInt = 6 := by decide +kernel
  rw [e, Jvm.Kit.i32_sub (by omega) (by omega), h1, h2]
theorem lw_up {i y : Int32} (e : y = i + Int32.ofInt 6) (h0 : 0 ≤ i.toInt) (h : i.toInt ≤ 3072) : y.toInt = i.toInt + 6 := by
  have h2 : (Int32.ofInt 6).toInt = 6 := by decide +kernel
  rw [e, Jvm.Kit.i32_add (by omega) (by omega), h2]
set_option maxHeartbeats 8000000 in
set_option maxRecDepth 100000 in
theorem law_loop {p : Program} {l : Launch} {e : Env} {s : State} {m : MethodId} {below : List Frame} {meth : Method} {c : Code} {b L : Nat} {xs : Nat → Int32} {D : va_G} (C : lwC p l e s m below meth c b L xs) (hst : l.stackTraces = false) (hXX : sgX s.heap.size s) (hr : meth.sig.returnType = ret) (hlk : meth.locks = false) : ∀ (r n : Nat) (P : sgPm) (tys : List (ClassId × FieldType)) (ad ks : List Nat) (xx mm oq : Nat) (H : Heap) (locs : List Loc) (i : Int32) (ls : Array Slot) (cells slots : Nat), n + r = 512 → lwV D n P tys ad ks xx mm oq s H → va_S (fun q : Nat => s.heap.size ≤ q) s.heap H locs → i.toInt = 6 * (n : Int) → lv_has ls 7 [(4, .int i), (3, .ref oq), (2, .ref mm), (1, .ref xx), (0, .ref b)] → cells ≤ 200 + 4 * n → slots ≤ 50000 + 8300 * n →
    W p l e room_1 s m #[.ref b] below meth c H locs cells slots (lw_Z below #[.ref b] s) (F0 m 23 ls []) := by
  intro r
  induction r with
  | zero =>
    intro n P tys ad ks xx mm oq H locs i ls cells slots hnr hW hS hi hl hc0 hs0
    obtain ⟨X, hC, hX, hbl, hL⟩ := id C
    have hbA : ¬ (fun q : Nat => s.heap.size ≤ q) b := Nat.not_le.mpr hbl
    refine lv_iload X.1 X.2.1 dL_law_23 (lv_at hl 0 rfl) ?_
    refine lv_aload_n X.1 X.2.1 dL_law_25 rfl (lv_at hl 4 rfl) ?_
    refine va_slen X.1 X.2.1 hX hbl hbA hS dL_law_26 ?_
    refine lv_bipush (v := 6) X.1 X.2.1 dL_law_27 (by decide +kernel) ?_
    refine lv_isub X.1 X.2.1 dL_law_29 ?_
    refine lv_topi (fun f1 ef1 => ?_)
    have hf1 := lw_f6 ef1 hL
    refine lv_icmp_gt (tgt := 1355) X.1 X.2.1 dL_law_30 (by decide) (fun c1 => ?_) (fun c1 => ?_)
    · refine lv_iconst (v := 1) X.1 X.2.1 dL_law_1355 (by decide) ?_
      refine va_forget (fun q hq => hS.2.2 q hq) ?_
      refine W.widen (k := 601024) (n := 7293034) (by omega) (by omega) ?_
      exact lw_ret X.1 X.2.1 hr hlk dL_law_1356
    · have h1 := Int32.le_iff_toInt_le.mp (iv_ge_of c1)
      omega
  | succ r ih =>
    intro n P tys ad ks xx mm oq H locs i ls cells slots hnr hW hS hi hl hc0 hs0
    obtain ⟨X, hC, hX, hbl, hL⟩ := id C
    obtain ⟨hK, hG, hxx, hmm, hoq, hpin, hN0, hinv, hgl⟩ := id hW
    have hbA : ¬ (fun q : Nat => s.heap.size ≤ q) b := Nat.not_le.mpr hbl
    have hi0 : 0 ≤ i.toInt := by omega
    refine lv_iload X.1 X.2.1 dL_law_23 (lv_at hl 0 rfl) ?_
    refine lv_aload_n X.1 X.2.1 dL_law_25 rfl (lv_at hl 4 rfl) ?_
    refine va_slen X.1 X.2.1 hX hbl hbA hS dL_law_26 ?_
    refine lv_bipush (v := 6) X.1 X.2.1 dL_law_27 (by decide +kernel) ?_
    refine lv_isub X.1 X.2.1 dL_law_29 ?_
    refine lv_topi (fun f1 ef1 => ?_)
    have hf1 := lw_f6 ef1 hL
    refine lv_icmp_gt (tgt := 1355) X.1 X.2.1 dL_law_30 (by decide) (fun c1 => ?_) (fun c1 => ?_)
    · refine lv_iconst (v := 1) X.1 X.2.1 dL_law_1355 (by decide) ?_
      refine va_forget (fun q hq => hS.2.2 q hq) ?_
      refine W.widen (k := 601024) (n := 7293034) (by omega) (by omega) ?_
      exact lw_ret X.1 X.2.1 hr hlk dL_law_1356
    · have h1 := Int32.le_iff_toInt_le.mp (iv_ge_of c1)
      have hi6 : i.toInt + 6 ≤ L := by omega
      have hn : n ≤ 511 := by omega
      have hc : cells + 4 ≤ 601024 := by omega
      have hs : slots + 8300 ≤ 7293034 := by omega
      have tail : ∀ (P1 : sgPm) (tys1 : List (ClassId × FieldType)) (ad1 ks1 : List Nat) (H1 : Heap) (locs1 : List Loc) (ls1 : Array Slot), lwV D (n + 1) P1 tys1 ad1 ks1 xx mm oq s H1 → va_S (fun q : Nat => s.heap.size ≤ q) s.heap H1 locs1 → lv_has ls1 7 [(4, .int i), (3, .ref oq), (2, .ref mm), (1, .ref xx), (0, .ref b)] → W p l e room_1 s m #[.ref b] below meth c H1 locs1 (cells + 4) (slots + 8300) (lw_Z below #[.ref b] s) (F0 m 1349 ls1 []) := by
        intro P1 tys1 ad1 ks1 H1 locs1 ls1 hW1 hS1 hl1
        obtain ⟨y, ey⟩ : ∃ y : Int32, y = i + Int32.ofInt 6 := ⟨_, rfl⟩
        refine lv_iinc (v := y) (lv' := [(4, .int y), (3, .ref oq), (2, .ref mm), (1, .ref xx), (0, .ref b)]) X.1 X.2.1 dL_law_1349 hl1 (k := 0) rfl ey.symm (by decide) rfl (fun ls hl => ?_)
        refine lv_goto (tgt := 23) X.1 X.2.1 dL_law_1352 (by decide) ?_
        exact ih (n + 1) P1 tys1 ad1 ks1 xx mm oq H1 locs1 y ls _ _ (by omega) hW1 hS1 (by rw [lw_up ey hi0 (by omega), hi]; omega) hl (by omega) (by omega)
      refine lv_aload_n X.1 X.2.1 dL_law_33 rfl (lv_at hl 4 rfl) ?_
      refine lv_iload X.1 X.2.1 dL_law_34 (lv_at hl 0 rfl) ?_
      refine va_sld (i := i) X.1 X.2.1 hX hbl hbA hS (vp_in_iff.mpr ⟨by omega, by omega⟩) dL_law_36 ?_
      refine lv_bipush (v := 63) X.1 X.2.1 dL_law_37 (by decide +kernel) ?_
      refine lv_iand X.1 X.2.1 dL_law_39 ?_
      refine lv_topi (fun f2 ef2 => ?_)
      have hf2 : iv 0 63 f2 := iv_and (b' := 63) ef2 (iv_c 63 (a := 63) (b := 63) (by decide +kernel)) (by decide +kernel)
      by_cases c1 : f2 = 0
      · refine lv_tableIn (tgt := 224) (off := 184) X.1 X.2.1 dL_law_40 (by rw [c1]; decide +kernel) (by rw [c1]; decide +kernel) (by rw [c1]; rfl) (by decide) ?_
        exact law_case_0 C hW hS hi0 hi6 hn hl hc hs tail
      by_cases c2 : f2 = 1
      · refine lv_tableIn (tgt := 297) (off := 257) X.1 X.2.1 dL_law_40 (by rw [c2]; decide +kernel) (by rw [c2]; decide +kernel) (by rw [c2]; rfl) (by decide) ?_
        exact law_case_1 C hW hS hi0 hi6 hn hl hc hs tail
      by_cases c3 : f2 = 2
      · refine lv_tableIn (tgt := 322) (off := 282) X.1 X.2.1 dL_law_40 (by rw [c3]; decide +kernel) (by rw [c3]; decide +kernel) (by rw [c3]; rfl) (by decide) ?_
        exact law_case_2 C hW hS hi0 hi6 hn hl hc hs tail
      by_cases c4 : f2 = 3
      · refine lv_tableIn (tgt := 347) (off := 307) X.1 X.2.1 dL_law_40 (by rw [c4]; decide +kernel) (by rw [c4]; decide +kernel) (by rw [c4]; rfl) (by decide) ?_
        exact law_case_3 C hW hS hi0 hi6 hn hl hc hs tail
      by_cases c5 : f2 = 4
      · refine lv_tableIn (tgt := 372) (off := 332) X.1 X.2.1 dL_law_40 (by rw [c5]; decide +kernel) (by rw [c5]; decide +kernel) (by rw [c5]; rfl) (by decide) ?_
        exact law_case_4 C hW hS hi0 hi6 hn hl hc hs tail
      by_cases c6 : f2 = 5
      · refine lv_tableIn (tgt := 397) (off := 357) X.1 X.2.1 dL_law_40 (by rw [c6]; decide +kernel) (by rw [c6]; decide +kernel) (by rw [c6]; rfl) (by decide) ?_
        exact law_case_5 hst hXX C hW hS hi0 hi6 hn hl hc hs tail
      by_cases c7 : f2 = 6
      · refine lv_tableIn (tgt := 437) (off := 397) X.1 X.2.1 dL_law_40 (by rw [c7]; decide +kernel) (by rw [c7]; decide +kernel) (by rw [c7]; rfl) (by decide) ?_
        exact law_case_6 C hW hS hi0 hi6 hn hl hc hs tail
      by_cases c8 : f2 = 7
      · refine lv_tableIn (tgt := 462) (off := 422) X.1 X.2.1 dL_law_40 (by rw [c8]; decide +kernel) (by rw [c8]; decide +kernel) (by rw [c8]; rfl) (by decide) ?_
        exact law_case_7 C hW hS hi0 hi6 hn hl hc hs tail
      by_cases c9 : f2 = 8
      · refine lv_tableIn (tgt := 487) (off := 447) X.1 X.2.1 dL_law_40 (by rw [c9]; decide +kernel) (by rw [c9]; decide +kernel) (by rw [c9]; rfl) (by decide) ?_
        exact law_case_8 C hW hS hi0 hi6 hn hl hc hs tail
      by_cases c10 : f2 = 9
      · refine lv_tableIn (tgt := 512) (off := 472) X.1 X.2.1 dL_law_40 (by rw [c10]; decide +kernel) (by rw [c10]; decide +kernel) (by rw [c10]; rfl) (by decide) ?_
        exact law_case_9 C hW hS hi0 hi6 hn hl hc hs tail
      by_cases c11 : f2 = 10
      · refine lv_tableIn (tgt := 561) (off := 521) X.1 X.2.1 dL_law_40 (by rw [c11]; decide +kernel) (by rw [c11]; decide +kernel) (by rw [c11]; rfl) (by decide) ?_
        exact law_case_10 C hW hS hi0 hi6 hn hl hc hs tail
      by_cases c12 : f2 = 11
      · refine lv_tableIn (tgt := 574) (off := 534) X.1 X.2.1 dL_law_40 (by rw [c12]; decide +kernel) (by rw [c12]; decide +kernel) (by rw [c12]; rfl) (by decide) ?_
        exact law_case_11 C hW hS hi0 hi6 hn hl hc hs tail
      by_cases c13 : f2 = 12
      · refine lv_tableIn (tgt := 599) (off := 559) X.1 X.2.1 dL_law_40 (by rw [c13]; decide +kernel) (by rw [c13]; decide +kernel) (by rw [c13]; rfl) (by decide) ?_
        exact law_case_12 C hW hS hi0 hi6 hn hl hc hs tail
      by_cases c14 : f2 = 13
      · refine lv_tableIn (tgt := 668) (off := 628) X.1 X.2.1 dL_law_40 (by rw [c14]; decide +kernel) (by rw [c14]; decide +kernel) (by rw [c14]; rfl) (by decide) ?_
        exact law_case_13 C hW hS hi0 hi6 hn hl hc hs tail
      by_cases c15 : f2 = 14
      · refine lv_tableIn (tgt := 681) (off := 641) X.1 X.2.1 dL_law_40 (by rw [c15]; decide +kernel) (by rw [c15]; decide +kernel) (by rw [c15]; rfl) (by decide) ?_
        exact law_case_14 C hW hS hi0 hi6 hn hl hc hs tail
      by_cases c16 : f2 = 15
      · refine lv_tableIn (tgt := 718) (off := 678) X.1 X.2.1 dL_law_40 (by rw [c16]; decide +kernel) (by rw [c16]; decide +kernel) (by rw [c16]; rfl) (by decide) ?_
        exact law_case_15 C hW hS hi0 hi6 hn hl hc hs tail
      by_cases c17 : f2 = 16
      · refine lv_tableIn (tgt := 767) (off := 727) X.1 X.2.1 dL_law_40 (by rw [c17]; decide +kernel) (by rw [c17]; decide +kernel) (by rw [c17]; rfl) (by decide) ?_
        exact law_case_16 C hW hS hi0 hi6 hn hl hc hs tail
      by_cases c18 : f2 = 17
      · refine lv_tableIn (tgt := 792) (off := 752) X.1 X.2.1 dL_law_40 (by rw [c18]; decide +kernel) (by rw [c18]; decide +kernel) (by rw [c18]; rfl) (by decide) ?_
        exact law_case_17 C hW hS hi0 hi6 hn hl hc hs tail
      by_cases c19 : f2 = 18
      · refine lv_tableIn (tgt := 817) (off := 777) X.1 X.2.1 dL_law_40 (by rw [c19]; decide +kernel) (by rw [c19]; decide +kernel) (by rw [c19]; rfl) (by decide) ?_
        exact law_case_18 C hW hS hi0 hi6 hn hl hc hs tail
      by_cases c20 : f2 = 19
      · refine lv_tableIn (tgt := 866) (off := 826) X.1 X.2.1 dL_law_40 (by rw [c20]; decide +kernel) (by rw [c20]; decide +kernel) (by rw [c20]; rfl) (by decide) ?_
        exact law_case_19 C hW hS hi0 hi6 hn hl hc hs tail
      by_cases c21 : f2 = 20
      · refine lv_tableIn (tgt := 879) (off := 839) X.1 X.2.1 dL_law_40 (by rw [c21]; decide +kernel) (by rw [c21]; decide +kernel) (by rw [c21]; rfl) (by decide) ?_
        exact law_case_20 C hW hS hi0 hi6 hn hl hc hs tail
      by_cases c22 : f2 = 21
      · refine lv_tableIn (tgt := 904) (off := 864) X.1 X.2.1 dL_law_40 (by rw [c22]; decide +kernel) (by rw [c22]; decide +kernel) (by rw [c22]; rfl) (by decide) ?_
        exact law_case_21 C hW hS hi0 hi6 hn hl hc hs tail
      by_cases c23 : f2 = 22
      · refine lv_tableIn (tgt := 929) (off := 889) X.1 X.2.1 dL_law_40 (by rw [c23]; decide +kernel) (by rw [c23]; decide +kernel) (by rw [c23]; rfl) (by decide) ?_
        exact law_case_22 C hW hS hi0 hi6 hn hl hc hs tail
      by_cases c24 : f2 = 23
      · refine lv_tableIn (tgt := 954) (off := 914) X.1 X.2.1 dL_law_40 (by rw [c24]; decide +kernel) (by rw [c24]; decide +kernel) (by rw [c24]; rfl) (by decide) ?_
        exact law_case_23 C hW hS hi0 hi6 hn hl hc hs tail
      by_cases c25 : f2 = 24
      · refine lv_tableIn (tgt := 979) (off := 939) X.1 X.2.1 dL_law_40 (by rw [c25]; decide +kernel) (by rw [c25]; decide +kernel) (by rw [c25]; rfl) (by decide) ?_
        exact law_case_24 C hW hS hi0 hi6 hn hl hc hs tail
      by_cases c26 : f2 = 25
      · refine lv_tableIn (tgt := 992) (off := 952) X.1 X.2.1 dL_law_40 (by rw [c26]; decide +kernel) (by rw [c26]; decide +kernel) (by rw [c26]; rfl) (by decide) ?_
        exact law_case_25 C hW hS hi0 hi6 hn hl hc hs tail
      by_cases c27 : f2 = 26
      · refine lv_tableIn (tgt := 1005) (off := 965) X.1 X.2.1 dL_law_40 (by rw [c27]; decide +kernel) (by rw [c27]; decide +kernel) (by rw [c27]; rfl) (by decide) ?_
        exact law_case_26 C hW hS hi0 hi6 hn hl hc hs tail
      by_cases c28 : f2 = 27
      · refine lv_tableIn (tgt := 1030) (off := 990) X.1 X.2.1 dL_law_40 (by rw [c28]; decide +kernel) (by rw [c28]; decide +kernel) (by rw [c28]; rfl) (by decide) ?_
        exact law_case_27 C hW hS hi0 hi6 hn hl hc hs tail
      by_cases c29 : f2 = 28
      · refine lv_tableIn (tgt := 1055) (off := 1015) X.1 X.2.1 dL_law_40 (by rw [c29]; decide +kernel) (by rw [c29]; decide +kernel) (by rw [c29]; rfl) (by decide) ?_
        exact law_case_28 C hW hS hi0 hi6 hn hl hc hs tail
      by_cases c30 : f2 = 29
      · refine lv_tableIn (tgt := 1068) (off := 1028) X.1 X.2.1 dL_law_40 (by rw [c30]; decide +kernel) (by rw [c30]; decide +kernel) (by rw [c30]; rfl) (by decide) ?_
        exact law_case_29 C hW hS hi0 hi6 hn hl hc hs tail
      by_cases c31 : f2 = 30
      · refine lv_tableIn (tgt := 1081) (off := 1041) X.1 X.2.1 dL_law_40 (by rw [c31]; decide +kernel) (by rw [c31]; decide +kernel) (by rw [c31]; rfl) (by decide) ?_
        exact law_case_30 C hW hS hi0 hi6 hn hl hc hs tail
      by_cases c32 : f2 = 31
      · refine lv_tableIn (tgt := 1134) (off := 1094) X.1 X.2.1 dL_law_40 (by rw [c32]; decide +kernel) (by rw [c32]; decide +kernel) (by rw [c32]; rfl) (by decide) ?_
        exact law_case_31 C hW hS hi0 hi6 hn hl hc hs tail
      by_cases c33 : f2 = 32
      · refine lv_tableIn (tgt := 1159) (off := 1119) X.1 X.2.1 dL_law_40 (by rw [c33]; decide +kernel) (by rw [c33]; decide +kernel) (by rw [c33]; rfl) (by decide) ?_
        exact law_case_32 C hW hS hi0 hi6 hn hl hc hs tail
      by_cases c34 : f2 = 33
      · refine lv_tableIn (tgt := 1172) (off := 1132) X.1 X.2.1 dL_law_40 (by rw [c34]; decide +kernel) (by rw [c34]; decide +kernel) (by rw [c34]; rfl) (by decide) ?_
        exact law_case_33 C hW hS hi0 hi6 hn hl hc hs tail
      by_cases c35 : f2 = 34
      · refine lv_tableIn (tgt := 1197) (off := 1157) X.1 X.2.1 dL_law_40 (by rw [c35]; decide +kernel) (by rw [c35]; decide +kernel) (by rw [c35]; rfl) (by decide) ?_
        exact law_case_34 C hW hS hi0 hi6 hn hl hc hs tail
      by_cases c36 : f2 = 35
      · refine lv_tableIn (tgt := 1210) (off := 1170) X.1 X.2.1 dL_law_40 (by rw [c36]; decide +kernel) (by rw [c36]; decide +kernel) (by rw [c36]; rfl) (by decide) ?_
        exact law_case_35 C hW hS hi0 hi6 hn hl hc hs tail
      by_cases c37 : f2 = 36
      · refine lv_tableIn (tgt := 1247) (off := 1207) X.1 X.2.1 dL_law_40 (by rw [c37]; decide +kernel) (by rw [c37]; decide +kernel) (by rw [c37]; rfl) (by decide) ?_
        exact law_case_36 C hW hS hi0 hi6 hn hl hc hs tail
      by_cases c38 : f2 = 37
      · refine lv_tableIn (tgt := 1272) (off := 1232) X.1 X.2.1 dL_law_40 (by rw [c38]; decide +kernel) (by rw [c38]; decide +kernel) (by rw [c38]; rfl) (by decide) ?_
        exact law_case_37 C hW hS hi0 hi6 hn hl hc hs tail
      by_cases c39 : f2 = 38
      · refine lv_tableIn (tgt := 1285) (off := 1245) X.1 X.2.1 dL_law_40 (by rw [c39]; decide +kernel) (by rw [c39]; decide +kernel) (by rw [c39]; rfl) (by decide) ?_
        exact law_case_38 C hW hS hi0 hi6 hn hl hc hs tail
      by_cases c40 : f2 = 39
      · refine lv_tableIn (tgt := 1298) (off := 1258) X.1 X.2.1 dL_law_40 (by rw [c40]; decide +kernel) (by rw [c40]; decide +kernel) (by rw [c40]; rfl) (by decide) ?_
        exact law_case_39 C hW hS hi0 hi6 hn hl hc hs tail
      by_cases c41 : f2 = 40
      · refine lv_tableIn (tgt := 1311) (off := 1271) X.1 X.2.1 dL_law_40 (by rw [c41]; decide +kernel) (by rw [c41]; decide +kernel) (by rw [c41]; rfl) (by decide) ?_
        exact law_case_40 C hW hS hi0 hi6 hn hl hc hs tail
      by_cases c42 : f2 = 41
      · refine lv_tableIn (tgt := 1324) (off := 1284) X.1 X.2.1 dL_law_40 (by rw [c42]; decide +kernel) (by rw [c42]; decide +kernel) (by rw [c42]; rfl) (by decide) ?_
        exact law_case_41 C hW hS hi0 hi6 hn hl hc hs tail
      refine lv_tableOut (tgt := 1349) X.1 X.2.1 dL_law_40 (by have tc1 := iv_nt 0 c1 (by decide +kernel); have tc2 := iv_nt 1 c2 (by decide +kernel); have tc3 := iv_nt 2 c3 (by decide +kernel); have tc4 := iv_nt 3 c4 (by decide +kernel); have tc5 := iv_nt 4 c5 (by decide +kernel); have tc6 := iv_nt 5 c6 (by decide +kernel); have tc7 := iv_nt 6 c7 (by decide +kernel); have tc8 := iv_nt 7 c8 (by decide +kernel); have tc9 := iv_nt 8 c9 (by decide +kernel); have tc10 := iv_nt 9 c10 (by decide +kernel); have tc11 := iv_nt 10 c11 (by decide +kernel); have tc12 := iv_nt 11 c12 (by decide +kernel); have tc13 := iv_nt 12 c13 (by decide +kernel); have tc14 := iv_nt 13 c14 (by decide +kernel); have tc15 := iv_nt 14 c15 (by decide +kernel); have tc16 := iv_nt 15 c16 (by decide +kernel); have tc17 := iv_nt 16 c17 (by decide +kernel); have tc18 := iv_nt 17 c18 (by decide +kernel); have tc19 := iv_nt 18 c19 (by decide +kernel); have tc20 := iv_nt 19 c20 (by decide +kernel); have tc21 := iv_nt 20 c21 (by decide +kernel); have tc22 := iv_nt 21 c22 (by decide +kernel); have tc23 := iv_nt 22 c23 (by decide +kernel); have tc24 := iv_nt 23 c24 (by decide +kernel); have tc25 := iv_nt 24 c25 (by decide +kernel); have tc26 := iv_nt 25 c26 (by decide +kernel); have tc27 := iv_nt 26 c27 (by decide +kernel); have tc28 := iv_nt 27 c28 (by decide +kernel); have tc29 := iv_nt 28 c29 (by decide +kernel); have tc30 := iv_nt 29 c30 (by decide +kernel); have tc31 := iv_nt 30 c31 (by decide +kernel); have tc32 := iv_nt 31 c32 (by decide +kernel); have tc33 := iv_nt 32 c33 (by decide +kernel); have tc34 := iv_nt 33 c34 (by decide +kernel); have tc35 := iv_nt 34 c35 (by decide +kernel); have tc36 := iv_nt 35 c36 (by decide +kernel); have tc37 := iv_nt 36 c37 (by decide +kernel); have tc38 := iv_nt 37 c38 (by decide +kernel); have tc39 := iv_nt 38 c39 (by decide +kernel); have tc40 := iv_nt 39 c40 (by decide +kernel); have tc41 := iv_nt 40 c41 (by decide +kernel); have tc42 := iv_nt 41 c42 (by decide +kernel); have b1 := (hf2).1; have b2 := (hf2).2; omega) (by decide) ?_
      refine W.widen (k := cells + 4) (n := slots + 8300) (by omega) (by omega) ?_
      exact tail _ _ _ _ _ _ _ (lwV_next hW hK hG hpin (Nat.le_add_right _ _) (sgMo.rf _ _) hinv hgl) hS hl
