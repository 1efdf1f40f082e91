theorem dL_law_866 : decode cL_law 866 = .ok (.aload_n 1, 1) := by decide +kernel
theorem dL_law_867 : decode cL_law 867 = .ok (.invokevirtual 105, 3) := by decide +kernel
theorem dL_law_870 : decode cL_law 870 = .ok (.pop, 1) := by decide +kernel
theorem dL_law_871 : decode cL_law 871 = .ok (.aload_n 2, 1) := by decide +kernel
theorem dL_law_872 : decode cL_law 872 = .ok (.invokevirtual 108, 3) := by decide +kernel
theorem dL_law_875 : decode cL_law 875 = .ok (.pop, 1) := by decide +kernel
theorem dL_law_876 : decode cL_law 876 = .ok (.goto 473, 3) := by decide +kernel
theorem dL_law_879 : decode cL_law 879 = .ok (.aload_n 1, 1) := by decide +kernel
theorem dL_law_880 : decode cL_law 880 = .ok (.aload_n 0, 1) := by decide +kernel
theorem dL_law_881 : decode cL_law 881 = .ok (.iload 4, 2) := by decide +kernel
theorem dL_law_883 : decode cL_law 883 = .ok (.iconst 1, 1) := by decide +kernel
theorem dL_law_884 : decode cL_law 884 = .ok (.iadd, 1) := by decide +kernel
theorem dL_law_885 : decode cL_law 885 = .ok (.iaload, 1) := by decide +kernel
theorem dL_law_886 : decode cL_law 886 = .ok (.invokevirtual 109, 3) := by decide +kernel
theorem dL_law_889 : decode cL_law 889 = .ok (.pop, 1) := by decide +kernel
theorem dL_law_890 : decode cL_law 890 = .ok (.aload_n 2, 1) := by decide +kernel
theorem dL_law_891 : decode cL_law 891 = .ok (.aload_n 0, 1) := by decide +kernel
theorem dL_law_892 : decode cL_law 892 = .ok (.iload 4, 2) := by decide +kernel
theorem dL_law_894 : decode cL_law 894 = .ok (.iconst 1, 1) := by decide +kernel
theorem dL_law_895 : decode cL_law 895 = .ok (.iadd, 1) := by decide +kernel
theorem dL_law_896 : decode cL_law 896 = .ok (.iaload, 1) := by decide +kernel
theorem dL_law_897 : decode cL_law 897 = .ok (.invokevirtual 112, 3) := by decide +kernel
theorem dL_law_900 : decode cL_law 900 = .ok (.pop, 1) := by decide +kernel
theorem dL_law_901 : decode cL_law 901 = .ok (.goto 448, 3) := by decide +kernel
theorem dL_law_904 : decode cL_law 904 = .ok (.aload_n 1, 1) := by decide +kernel
theorem dL_law_905 : decode cL_law 905 = .ok (.aload_n 0, 1) := by decide +kernel
theorem dL_law_906 : decode cL_law 906 = .ok (.iload 4, 2) := by decide +kernel
theorem dL_law_908 : decode cL_law 908 = .ok (.iconst 1, 1) := by decide +kernel
theorem dL_law_909 : decode cL_law 909 = .ok (.iadd, 1) := by decide +kernel
theorem dL_law_910 : decode cL_law 910 = .ok (.iaload, 1) := by decide +kernel
theorem dL_law_911 : decode cL_law 911 = .ok (.invokevirtual 113, 3) := by decide +kernel
theorem dL_law_914 : decode cL_law 914 = .ok (.pop, 1) := by decide +kernel
theorem dL_law_915 : decode cL_law 915 = .ok (.aload_n 2, 1) := by decide +kernel
theorem dL_law_916 : decode cL_law 916 = .ok (.aload_n 0, 1) := by decide +kernel
theorem dL_law_917 : decode cL_law 917 = .ok (.iload 4, 2) := by decide +kernel
theorem dL_law_919 : decode cL_law 919 = .ok (.iconst 1, 1) := by decide +kernel
theorem dL_law_920 : decode cL_law 920 = .ok (.iadd, 1) := by decide +kernel
theorem dL_law_921 : decode cL_law 921 = .ok (.iaload, 1) := by decide +kernel
theorem dL_law_922 : decode cL_law 922 = .ok (.invokevirtual 116, 3) := by decide +kernel
theorem dL_law_925 : decode cL_law 925 = .ok (.pop, 1) := by decide +kernel
theorem dL_law_926 : decode cL_law 926 = .ok (.goto 423, 3) := by decide +kernel
theorem dL_law_929 : decode cL_law 929 = .ok (.aload_n 1, 1) := by decide +kernel
theorem dL_law_930 : decode cL_law 930 = .ok (.aload_n 0, 1) := by decide +kernel
theorem dL_law_931 : decode cL_law 931 = .ok (.iload 4, 2) := by decide +kernel
theorem dL_law_933 : decode cL_law 933 = .ok (.iconst 1, 1) := by decide +kernel
theorem dL_law_934 : decode cL_law 934 = .ok (.iadd, 1) := by decide +kernel
theorem dL_law_935 : decode cL_law 935 = .ok (.iaload, 1) := by decide +kernel
theorem dL_law_936 : decode cL_law 936 = .ok (.invokevirtual 117, 3) := by decide +kernel
theorem dL_law_939 : decode cL_law 939 = .ok (.pop, 1) := by decide +kernel
theorem dL_law_940 : decode cL_law 940 = .ok (.aload_n 2, 1) := by decide +kernel
theorem dL_law_941 : decode cL_law 941 = .ok (.aload_n 0, 1) := by decide +kernel
theorem dL_law_942 : decode cL_law 942 = .ok (.iload 4, 2) := by decide +kernel
theorem dL_law_944 : decode cL_law 944 = .ok (.iconst 1, 1) := by decide +kernel
theorem dL_law_945 : decode cL_law 945 = .ok (.iadd, 1) := by decide +kernel
theorem dL_law_946 : decode cL_law 946 = .ok (.iaload, 1) := by decide +kernel
theorem dL_law_947 : decode cL_law 947 = .ok (.invokevirtual 120, 3) := by decide +kernel
theorem dL_law_950 : decode cL_law 950 = .ok (.pop, 1) := by decide +kernel
theorem dL_law_951 : decode cL_law 951 = .ok (.goto 398, 3) := by decide +kernel
theorem dL_law_954 : decode cL_law 954 = .ok (.aload_n 1, 1) := by decide +kernel
theorem dL_law_955 : decode cL_law 955 = .ok (.aload_n 0, 1) := by decide +kernel
theorem dL_law_956 : decode cL_law 956 = .ok (.iload 4, 2) := by decide +kernel
theorem dL_law_958 : decode cL_law 958 = .ok (.iconst 1, 1) := by decide +kernel
theorem dL_law_959 : decode cL_law 959 = .ok (.iadd, 1) := by decide +kernel
theorem dL_law_960 : decode cL_law 960 = .ok (.iaload, 1) := by decide +kernel
theorem dL_law_961 : decode cL_law 961 = .ok (.invokevirtual 121, 3) := by decide +kernel
theorem dL_law_964 : decode cL_law 964 = .ok (.pop, 1) := by decide +kernel
theorem dL_law_965 : decode cL_law 965 = .ok (.aload_n 2, 1) := by decide +kernel
theorem dL_law_966 : decode cL_law 966 = .ok (.aload_n 0, 1) := by decide +kernel
theorem dL_law_967 : decode cL_law 967 = .ok (.iload 4, 2) := by decide +kernel
theorem dL_law_969 : decode cL_law 969 = .ok (.iconst 1, 1) := by decide +kernel
theorem dL_law_970 : decode cL_law 970 = .ok (.iadd, 1) := by decide +kernel
theorem dL_law_971 : decode cL_law 971 = .ok (.iaload, 1) := by decide +kernel
theorem dL_law_972 : decode cL_law 972 = .ok (.invokevirtual 124, 3) := by decide +kernel
theorem dL_law_975 : decode cL_law 975 = .ok (.pop, 1) := by decide +kernel
theorem dL_law_976 : decode cL_law 976 = .ok (.goto 373, 3) := by decide +kernel
theorem dL_law_979 : decode cL_law 979 = .ok (.aload_n 1, 1) := by decide +kernel
theorem dL_law_980 : decode cL_law 980 = .ok (.invokevirtual 125, 3) := by decide +kernel
theorem dL_law_983 : decode cL_law 983 = .ok (.pop, 1) := by decide +kernel
theorem dL_law_984 : decode cL_law 984 = .ok (.aload_n 2, 1) := by decide +kernel
theorem dL_law_985 : decode cL_law 985 = .ok (.invokevirtual 128, 3) := by decide +kernel
theorem dL_law_988 : decode cL_law 988 = .ok (.pop, 1) := by decide +kernel
theorem dL_law_989 : decode cL_law 989 = .ok (.goto 360, 3) := by decide +kernel
theorem wl_5_82 : (.methodLink RL 105 yX11_threats : Cond) ∈ sg_tbl := tb_5 _ (List.mem_of_getElem? (i := 82) (by decide +kernel)) (by decide +kernel)
theorem wl_8_235 : (.methodLink RL 108 yX12_threats : Cond) ∈ sg_tbl := tb_8 _ (List.mem_of_getElem? (i := 235) (by decide +kernel)) (by decide +kernel)
theorem wl_5_87 : (.methodLink RL 109 yX11_cuts : Cond) ∈ sg_tbl := tb_5 _ (List.mem_of_getElem? (i := 87) (by decide +kernel)) (by decide +kernel)
theorem wl_8_239 : (.methodLink RL 112 yX12_cuts : Cond) ∈ sg_tbl := tb_8 _ (List.mem_of_getElem? (i := 239) (by decide +kernel)) (by decide +kernel)
theorem wl_5_92 : (.methodLink RL 113 yX11_answers : Cond) ∈ sg_tbl := tb_5 _ (List.mem_of_getElem? (i := 92) (by decide +kernel)) (by decide +kernel)
theorem wl_9_7 : (.methodLink RL 116 yX12_answers : Cond) ∈ sg_tbl := tb_9 _ (List.mem_of_getElem? (i := 7) (by decide +kernel)) (by decide +kernel)
theorem wl_5_101 : (.methodLink RL 117 yX11_advice : Cond) ∈ sg_tbl := tb_5 _ (List.mem_of_getElem? (i := 101) (by decide +kernel)) (by decide +kernel)
theorem wl_9_11 : (.methodLink RL 120 yX12_advice : Cond) ∈ sg_tbl := tb_9 _ (List.mem_of_getElem? (i := 11) (by decide +kernel)) (by decide +kernel)
theorem wl_5_105 : (.methodLink RL 121 yX11_holds : Cond) ∈ sg_tbl := tb_5 _ (List.mem_of_getElem? (i := 105) (by decide +kernel)) (by decide +kernel)
theorem wl_9_15 : (.methodLink RL 124 yX12_holds : Cond) ∈ sg_tbl := tb_9 _ (List.mem_of_getElem? (i := 15) (by decide +kernel)) (by decide +kernel)
theorem wl_5_124 : (.methodLink RL 125 yX11_forced : Cond) ∈ sg_tbl := tb_5 _ (List.mem_of_getElem? (i := 124) (by decide +kernel)) (by decide +kernel)
theorem wl_9_31 : (.methodLink RL 128 yX12_forced : Cond) ∈ sg_tbl := tb_9 _ (List.mem_of_getElem? (i := 31) (by decide +kernel)) (by decide +kernel)
section
variable {p : Program} {l : Launch} {e : Env} {R : Room} {s : State} {m : MethodId} {args : Array Value} {below : List Frame} {meth : Method} {c : Code} {H : Heap} {locs : List Loc} {cells slots : Nat} {Q : State → Prop} {cc : ByteArray} {nL pc : Nat} {ls : Array Slot} {rest : List Value} {own : String} {D : va_G} {A : Nat → Prop} {tys : List (ClassId × FieldType)} {ad ks : List Nat} {P : sgPm} {H0 : Heap} {index : Nat} {base : Nat} {st0 : List Value} {a : Nat}

set_option maxHeartbeats 8000000 in
set_option maxRecDepth 100000 in
theorem law_case_19 {p : Program} {l : Launch} {e : Env} {s : State} {m : MethodId} {below : List Frame} {meth : Method} {c : Code} {b L : Nat} {xs : Nat → Int32} {D : va_G} (C : lwC p l e s m below meth c b L xs) {n : Nat} {P : sgPm} {tys : List (ClassId × FieldType)} {ad ks : List Nat} {xx mm oq : Nat} {H : Heap} {locs : List Loc} (hW : lwV D n P tys ad ks xx mm oq s H) (hS : va_S (fun q : Nat => s.heap.size ≤ q) s.heap H locs) {i : Int32} (hi0 : 0 ≤ i.toInt) (hi6 : i.toInt + 6 ≤ L) (hn : n ≤ 511) {ls : Array Slot} (hl : lv_has ls 7 [(4, .int i), (3, .ref oq), (2, .ref mm), (1, .ref xx), (0, .ref b)]) {cells slots : Nat} (hc : cells + 4 ≤ 601024) (hs : slots + 8300 ≤ 7293034) {Q : State → Prop}
    (kk : ∀ (P1 : sgPm) (tys1 : List (ClassId × FieldType)) (ad1 ks1 : List Nat) (H1 : Heap) (locs1 : List Loc) (ls1 : Array Slot), lwV D (n + 1) P1 tys1 ad1 ks1 xx mm oq s H1 → va_S (fun q : Nat => s.heap.size ≤ q) s.heap H1 locs1 → lv_has ls1 7 [(4, .int i), (3, .ref oq), (2, .ref mm), (1, .ref xx), (0, .ref b)] → W p l e room_1 s m #[.ref b] below meth c H1 locs1 (cells + 4) (slots + 8300) Q (F0 m 1349 ls1 [])) :
    W p l e room_1 s m #[.ref b] below meth c H locs cells slots Q (F0 m 866 ls []) := by
  obtain ⟨X, hC, hX, hbl, hL⟩ := C
  obtain ⟨hK, hG, hxx, hmm, hoq, hpin, hN0, hinv, hgl⟩ := id hW
  have hp10 := hpin
  have hb : s.heap.size ≤ s.heap.size := Nat.le_refl _
  have hbA : ¬ (fun q : Nat => s.heap.size ≤ q) b := Nat.not_le.mpr hbl
  have lwr : cells ≤ room_1.cells ∧ slots ≤ room_1.slots := ⟨by show cells ≤ 601024; omega, by show slots ≤ 7293034; omega⟩
  have lwr1 : cells + 1 ≤ room_1.cells ∧ slots + 8256 ≤ room_1.slots := ⟨by show cells + 1 ≤ 601024; omega, by show slots + 8256 ≤ 7293034; omega⟩
  have lwr2 : cells + 1 ≤ room_1.cells ∧ slots + 4096 ≤ room_1.slots := ⟨by show cells + 1 ≤ 601024; omega, by show slots + 4096 ≤ 7293034; omega⟩
  have hgi := hgl.1.1
  have hgg := hgl.2.1
  have hpk := hm_pk hgl.2
  have hl0 := sgInv_l1 hinv
  have hby := sgInv_b1 hinv
  refine lv_aload_n X.1 X.2.1 dL_law_866 rfl (lv_at hl 3 rfl) ?_
  refine ca_X11_threats X hK hG hC hS hb xx hxx wl_5_82 hl.1 (rest := []) rfl (Nat.le_of_ble_eq_true rfl) ⟨Nat.le_of_ble_eq_true rfl, Nat.le_of_ble_eq_true rfl⟩ lwr dL_law_867 (fun f1 H locs hf1 hG hS => ?_)
  refine lv_pop X.1 X.2.1 dL_law_870 rfl ?_
  refine lv_aload_n X.1 X.2.1 dL_law_871 rfl (lv_at hl 2 rfl) ?_
  rcases Bool.eq_false_or_eq_true P.2.2.2.2.1 with hp4 | hp4
  · refine ca_X12_threats_1 X hK hG hC hS hb hp4 mm hmm wl_8_235 hl.1 (rest := []) rfl (Nat.le_of_ble_eq_true rfl) ⟨Nat.le_of_ble_eq_true rfl, Nat.le_of_ble_eq_true rfl⟩ lwr dL_law_872 (fun f2 H locs hf2 hG hS => ?_)
    refine lv_pop X.1 X.2.1 dL_law_875 rfl ?_
    refine lv_goto (tgt := 1349) X.1 X.2.1 dL_law_876 (by decide) ?_
    refine W.widen (k := cells + 4) (n := slots + 8300) (by omega) (by omega) ?_
    exact kk _ _ _ _ _ _ _ (lwV_next hW hK hG hpin (Nat.le_add_right _ _) (sgMo.rf _ _) hinv hgl) hS (lv_sub hl [0, 1, 2, 3, 4] rfl)
  · refine ca_X12_threats_0 X hK hG hC hS hb hp4 mm hmm wl_8_235 hl.1 (rest := []) rfl (Nat.le_of_ble_eq_true rfl) ⟨Nat.le_of_ble_eq_true rfl, Nat.le_of_ble_eq_true rfl⟩ lwr dL_law_872 (fun f3 H locs hf3 hG hS => ?_)
    refine lv_pop X.1 X.2.1 dL_law_875 rfl ?_
    refine lv_goto (tgt := 1349) X.1 X.2.1 dL_law_876 (by decide) ?_
    refine W.widen (k := cells + 4) (n := slots + 8300) (by omega) (by omega) ?_
    exact kk _ _ _ _ _ _ _ (lwV_next hW hK hG hpin (Nat.le_add_right _ _) (sgMo.rf _ _) hinv hgl) hS (lv_sub hl [0, 1, 2, 3, 4] rfl)

set_option maxHeartbeats 8000000 in
set_option maxRecDepth 100000 in
theorem law_case_20 {p : Program} {l : Launch} {e : Env} {s : State} {m : MethodId} {below : List Frame} {meth : Method} {c : Code} {b L : Nat} {xs : Nat → Int32} {D : va_G} (C : lwC p l e s m below meth c b L xs) {n : Nat} {P : sgPm} {tys : List (ClassId × FieldType)} {ad ks : List Nat} {xx mm oq : Nat} {H : Heap} {locs : List Loc} (hW : lwV D n P tys ad ks xx mm oq s H) (hS : va_S (fun q : Nat => s.heap.size ≤ q) s.heap H locs) {i : Int32} (hi0 : 0 ≤ i.toInt) (hi6 : i.toInt + 6 ≤ L) (hn : n ≤ 511) {ls : Array Slot} (hl : lv_has ls 7 [(4, .int i), (3, .ref oq), (2, .ref mm), (1, .ref xx), (0, .ref b)]) {cells slots : Nat} (hc : cells + 4 ≤ 601024) (hs : slots + 8300 ≤ 7293034) {Q : State → Prop}
    (kk : ∀ (P1 : sgPm) (tys1 : List (ClassId × FieldType)) (ad1 ks1 : List Nat) (H1 : Heap) (locs1 : List Loc) (ls1 : Array Slot), lwV D (n + 1) P1 tys1 ad1 ks1 xx mm oq s H1 → va_S (fun q : Nat => s.heap.size ≤ q) s.heap H1 locs1 → lv_has ls1 7 [(4, .int i), (3, .ref oq), (2, .ref mm), (1, .ref xx), (0, .ref b)] → W p l e room_1 s m #[.ref b] below meth c H1 locs1 (cells + 4) (slots + 8300) Q (F0 m 1349 ls1 [])) :
    W p l e room_1 s m #[.ref b] below meth c H locs cells slots Q (F0 m 879 ls []) := by
  obtain ⟨X, hC, hX, hbl, hL⟩ := C
  obtain ⟨hK, hG, hxx, hmm, hoq, hpin, hN0, hinv, hgl⟩ := id hW
  have hp10 := hpin
  have hb : s.heap.size ≤ s.heap.size := Nat.le_refl _
  have hbA : ¬ (fun q : Nat => s.heap.size ≤ q) b := Nat.not_le.mpr hbl
  have lwr : cells ≤ room_1.cells ∧ slots ≤ room_1.slots := ⟨by show cells ≤ 601024; omega, by show slots ≤ 7293034; omega⟩
  have lwr1 : cells + 1 ≤ room_1.cells ∧ slots + 8256 ≤ room_1.slots := ⟨by show cells + 1 ≤ 601024; omega, by show slots + 8256 ≤ 7293034; omega⟩
  have lwr2 : cells + 1 ≤ room_1.cells ∧ slots + 4096 ≤ room_1.slots := ⟨by show cells + 1 ≤ 601024; omega, by show slots + 4096 ≤ 7293034; omega⟩
  have hgi := hgl.1.1
  have hgg := hgl.2.1
  have hpk := hm_pk hgl.2
  have hl0 := sgInv_l1 hinv
  have hby := sgInv_b1 hinv
  refine lv_aload_n X.1 X.2.1 dL_law_879 rfl (lv_at hl 3 rfl) ?_
  refine lv_aload_n X.1 X.2.1 dL_law_880 rfl (lv_at hl 4 rfl) ?_
  refine lv_iload X.1 X.2.1 dL_law_881 (lv_at hl 0 rfl) ?_
  refine lv_iconst (v := 1) X.1 X.2.1 dL_law_883 (by decide +kernel) ?_
  refine lv_iadd X.1 X.2.1 dL_law_884 ?_
  refine lv_topi (fun f1 ef1 => ?_)
  refine va_sld (i := f1) X.1 X.2.1 hX hbl hbA hS (lw_ix ef1 hi0 hi6 hL (by decide +kernel)) dL_law_885 ?_
  refine ca_X11_cuts X hK hG hC hS hb xx hxx (xs f1.toNatClampNeg) wl_5_87 hl.1 (rest := []) rfl (Nat.le_of_ble_eq_true rfl) ⟨Nat.le_of_ble_eq_true rfl, Nat.le_of_ble_eq_true rfl⟩ lwr dL_law_886 (fun f3 H locs hf3 hG hS => ?_)
  refine lv_pop X.1 X.2.1 dL_law_889 rfl ?_
  refine lv_aload_n X.1 X.2.1 dL_law_890 rfl (lv_at hl 2 rfl) ?_
  refine lv_aload_n X.1 X.2.1 dL_law_891 rfl (lv_at hl 4 rfl) ?_
  refine lv_iload X.1 X.2.1 dL_law_892 (lv_at hl 0 rfl) ?_
  refine lv_iconst (v := 1) X.1 X.2.1 dL_law_894 (by decide +kernel) ?_
  refine lv_iadd X.1 X.2.1 dL_law_895 ?_
  refine lv_topi (fun f4 ef4 => ?_)
  refine va_sld (i := f4) X.1 X.2.1 hX hbl hbA hS (lw_ix ef4 hi0 hi6 hL (by decide +kernel)) dL_law_896 ?_
  rcases Bool.eq_false_or_eq_true P.2.2.2.2.1 with hp4 | hp4
  · refine ca_X12_cuts_1 X hK hG hC hS hb hp4 mm hmm (xs f4.toNatClampNeg) wl_8_239 hl.1 (rest := []) rfl (Nat.le_of_ble_eq_true rfl) ⟨Nat.le_of_ble_eq_true rfl, Nat.le_of_ble_eq_true rfl⟩ lwr dL_law_897 (fun f6 H locs hf6 hG hS => ?_)
    refine lv_pop X.1 X.2.1 dL_law_900 rfl ?_
    refine lv_goto (tgt := 1349) X.1 X.2.1 dL_law_901 (by decide) ?_
    refine W.widen (k := cells + 4) (n := slots + 8300) (by omega) (by omega) ?_
    exact kk _ _ _ _ _ _ _ (lwV_next hW hK hG hpin (Nat.le_add_right _ _) (sgMo.rf _ _) hinv hgl) hS (lv_sub hl [0, 1, 2, 3, 4] rfl)
  · refine ca_X12_cuts_0 X hK hG hC hS hb hp4 mm hmm (xs f4.toNatClampNeg) wl_8_239 hl.1 (rest := []) rfl (Nat.le_of_ble_eq_true rfl) ⟨Nat.le_of_ble_eq_true rfl, Nat.le_of_ble_eq_true rfl⟩ lwr dL_law_897 (fun f7 H locs hf7 hG hS => ?_)
    refine lv_pop X.1 X.2.1 dL_law_900 rfl ?_
    refine lv_goto (tgt := 1349) X.1 X.2.1 dL_law_901 (by decide) ?_
    refine W.widen (k := cells + 4) (n := slots + 8300) (by omega) (by omega) ?_
    exact kk _ _ _ _ _ _ _ (lwV_next hW hK hG hpin (Nat.le_add_right _ _) (sgMo.rf _ _) hinv hgl) hS (lv_sub hl [0, 1, 2, 3, 4] rfl)

set_option maxHeartbeats 8000000 in
set_option maxRecDepth 100000 in
theorem law_case_21 {p : Program} {l : Launch} {e : Env} {s : State} {m : MethodId} {below : List Frame} {meth : Method} {c : Code} {b L : Nat} {xs : Nat → Int32} {D : va_G} (C : lwC p l e s m below meth c b L xs) {n : Nat} {P : sgPm} {tys : List (ClassId × FieldType)} {ad ks : List Nat} {xx mm oq : Nat} {H : Heap} {locs : List Loc} (hW : lwV D n P tys ad ks xx mm oq s H) (hS : va_S (fun q : Nat => s.heap.size ≤ q) s.heap H locs) {i : Int32} (hi0 : 0 ≤ i.toInt) (hi6 : i.toInt + 6 ≤ L) (hn : n ≤ 511) {ls : Array Slot} (hl : lv_has ls 7 [(4, .int i), (3, .ref oq), (2, .ref mm), (1, .ref xx), (0, .ref b)]) {cells slots : Nat} (hc : cells + 4 ≤ 601024) (hs : slots + 8300 ≤ 7293034) {Q : State → Prop}
    (kk : ∀ (P1 : sgPm) (tys1 : List (ClassId × FieldType)) (ad1 ks1 : List Nat) (H1 : Heap) (locs1 : List Loc) (ls1 : Array Slot), lwV D (n + 1) P1 tys1 ad1 ks1 xx mm oq s H1 → va_S (fun q : Nat => s.heap.size ≤ q) s.heap H1 locs1 → lv_has ls1 7 [(4, .int i), (3, .ref oq), (2, .ref mm), (1, .ref xx), (0, .ref b)] → W p l e room_1 s m #[.ref b] below meth c H1 locs1 (cells + 4) (slots + 8300) Q (F0 m 1349 ls1 [])) :
    W p l e room_1 s m #[.ref b] below meth c H locs cells slots Q (F0 m 904 ls []) := by
  obtain ⟨X, hC, hX, hbl, hL⟩ := C
  obtain ⟨hK, hG, hxx, hmm, hoq, hpin, hN0, hinv, hgl⟩ := id hW
  have hp10 := hpin
  have hb : s.heap.size ≤ s.heap.size := Nat.le_refl _
  have hbA : ¬ (fun q : Nat => s.heap.size ≤ q) b := Nat.not_le.mpr hbl
  have lwr : cells ≤ room_1.cells ∧ slots ≤ room_1.slots := ⟨by show cells ≤ 601024; omega, by show slots ≤ 7293034; omega⟩
  have lwr1 : cells + 1 ≤ room_1.cells ∧ slots + 8256 ≤ room_1.slots := ⟨by show cells + 1 ≤ 601024; omega, by show slots + 8256 ≤ 7293034; omega⟩
  have lwr2 : cells + 1 ≤ room_1.cells ∧ slots + 4096 ≤ room_1.slots := ⟨by show cells + 1 ≤ 601024; omega, by show slots + 4096 ≤ 7293034; omega⟩
  have hgi := hgl.1.1
  have hgg := hgl.2.1
  have hpk := hm_pk hgl.2
  have hl0 := sgInv_l1 hinv
  have hby := sgInv_b1 hinv
  refine lv_aload_n X.1 X.2.1 dL_law_904 rfl (lv_at hl 3 rfl) ?_
  refine lv_aload_n X.1 X.2.1 dL_law_905 rfl (lv_at hl 4 rfl) ?_
  refine lv_iload X.1 X.2.1 dL_law_906 (lv_at hl 0 rfl) ?_
  refine lv_iconst (v := 1) X.1 X.2.1 dL_law_908 (by decide +kernel) ?_
  refine lv_iadd X.1 X.2.1 dL_law_909 ?_
  refine lv_topi (fun f1 ef1 => ?_)
  refine va_sld (i := f1) X.1 X.2.1 hX hbl hbA hS (lw_ix ef1 hi0 hi6 hL (by decide +kernel)) dL_law_910 ?_
  refine ca_X11_answers X hK hG hC hS hb xx hxx (xs f1.toNatClampNeg) wl_5_92 hl.1 (rest := []) rfl (Nat.le_of_ble_eq_true rfl) ⟨Nat.le_of_ble_eq_true rfl, Nat.le_of_ble_eq_true rfl⟩ lwr dL_law_911 (fun f3 H locs hf3 hG hS => ?_)
  refine lv_pop X.1 X.2.1 dL_law_914 rfl ?_
  refine lv_aload_n X.1 X.2.1 dL_law_915 rfl (lv_at hl 2 rfl) ?_
  refine lv_aload_n X.1 X.2.1 dL_law_916 rfl (lv_at hl 4 rfl) ?_
  refine lv_iload X.1 X.2.1 dL_law_917 (lv_at hl 0 rfl) ?_
  refine lv_iconst (v := 1) X.1 X.2.1 dL_law_919 (by decide +kernel) ?_
  refine lv_iadd X.1 X.2.1 dL_law_920 ?_
  refine lv_topi (fun f4 ef4 => ?_)
  refine va_sld (i := f4) X.1 X.2.1 hX hbl hbA hS (lw_ix ef4 hi0 hi6 hL (by decide +kernel)) dL_law_921 ?_
  rcases Bool.eq_false_or_eq_true P.2.2.2.2.1 with hp4 | hp4
  · refine ca_X12_answers_1 X hK hG hC hS hb hp4 mm hmm (xs f4.toNatClampNeg) wl_9_7 hl.1 (rest := []) rfl (Nat.le_of_ble_eq_true rfl) ⟨Nat.le_of_ble_eq_true rfl, Nat.le_of_ble_eq_true rfl⟩ lwr dL_law_922 (fun f6 H locs hf6 hG hS => ?_)
    refine lv_pop X.1 X.2.1 dL_law_925 rfl ?_
    refine lv_goto (tgt := 1349) X.1 X.2.1 dL_law_926 (by decide) ?_
    refine W.widen (k := cells + 4) (n := slots + 8300) (by omega) (by omega) ?_
    exact kk _ _ _ _ _ _ _ (lwV_next hW hK hG hpin (Nat.le_add_right _ _) (sgMo.rf _ _) hinv hgl) hS (lv_sub hl [0, 1, 2, 3, 4] rfl)
  · refine ca_X12_answers_0 X hK hG hC hS hb hp4 mm hmm (xs f4.toNatClampNeg) wl_9_7 hl.1 (rest := []) rfl (Nat.le_of_ble_eq_true rfl) ⟨Nat.le_of_ble_eq_true rfl, Nat.le_of_ble_eq_true rfl⟩ lwr dL_law_922 (fun f7 H locs hf7 hG hS => ?_)
    refine lv_pop X.1 X.2.1 dL_law_925 rfl ?_
    refine lv_goto (tgt := 1349) X.1 X.2.1 dL_law_926 (by decide) ?_
    refine W.widen (k := cells + 4) (n := slots + 8300) (by omega) (by omega) ?_
    exact kk _ _ _ _ _ _ _ (lwV_next hW hK hG hpin (Nat.le_add_right _ _) (sgMo.rf _ _) hinv hgl) hS (lv_sub hl [0, 1, 2, 3, 4] rfl)

set_option maxHeartbeats 8000000 in
set_option maxRecDepth 100000 in
theorem law_case_22 {p : Program} {l : Launch} {e : Env} {s : State} {m : MethodId} {below : List Frame} {meth : Method} {c : Code} {b L : Nat} {xs : Nat → Int32} {D : va_G} (C : lwC p l e s m below meth c b L xs) {n : Nat} {P : sgPm} {tys : List (ClassId × FieldType)} {ad ks : List Nat} {xx mm oq : Nat} {H : Heap} {locs : List Loc} (hW : lwV D n P tys ad ks xx mm oq s H) (hS : va_S (fun q : Nat => s.heap.size ≤ q) s.heap H locs) {i : Int32} (hi0 : 0 ≤ i.toInt) (hi6 : i.toInt + 6 ≤ L) (hn : n ≤ 511) {ls : Array Slot} (hl : lv_has ls 7 [(4, .int i), (3, .ref oq), (2, .ref mm), (1, .ref xx), (0, .ref b)]) {cells slots : Nat} (hc : cells + 4 ≤ 601024) (hs : slots + 8300 ≤ 7293034) {Q : State → Prop}
    (kk : ∀ (P1 : sgPm) (tys1 : List (ClassId × FieldType)) (ad1 ks1 : List Nat) (H1 : Heap) (locs1 : List Loc) (ls1 : Array Slot), lwV D (n + 1) P1 tys1 ad1 ks1 xx mm oq s H1 → va_S (fun q : Nat => s.heap.size ≤ q) s.heap H1 locs1 → lv_has ls1 7 [(4, .int i), (3, .ref oq), (2, .ref mm), (1, .ref xx), (0, .ref b)] → W p l e room_1 s m #[.ref b] below meth c H1 locs1 (cells + 4) (slots + 8300) Q (F0 m 1349 ls1 [])) :
    W p l e room_1 s m #[.ref b] below meth c H locs cells slots Q (F0 m 929 ls []) := by
  obtain ⟨X, hC, hX, hbl, hL⟩ := C
  obtain ⟨hK, hG, hxx, hmm, hoq, hpin, hN0, hinv, hgl⟩ := id hW
  have hp10 := hpin
  have hb : s.heap.size ≤ s.heap.size := Nat.le_refl _
  have hbA : ¬ (fun q : Nat => s.heap.size ≤ q) b := Nat.not_le.mpr hbl
  have lwr : cells ≤ room_1.cells ∧ slots ≤ room_1.slots := ⟨by show cells ≤ 601024; omega, by show slots ≤ 7293034; omega⟩
  have lwr1 : cells + 1 ≤ room_1.cells ∧ slots + 8256 ≤ room_1.slots := ⟨by show cells + 1 ≤ 601024; omega, by show slots + 8256 ≤ 7293034; omega⟩
  have lwr2 : cells + 1 ≤ room_1.cells ∧ slots + 4096 ≤ room_1.slots := ⟨by show cells + 1 ≤ 601024; omega, by show slots + 4096 ≤ 7293034; omega⟩
  have hgi := hgl.1.1
  have hgg := hgl.2.1
  have hpk := hm_pk hgl.2
  have hl0 := sgInv_l1 hinv
  have hby := sgInv_b1 hinv
  refine lv_aload_n X.1 X.2.1 dL_law_929 rfl (lv_at hl 3 rfl) ?_
  refine lv_aload_n X.1 X.2.1 dL_law_930 rfl (lv_at hl 4 rfl) ?_
  refine lv_iload X.1 X.2.1 dL_law_931 (lv_at hl 0 rfl) ?_
  refine lv_iconst (v := 1) X.1 X.2.1 dL_law_933 (by decide +kernel) ?_
  refine lv_iadd X.1 X.2.1 dL_law_934 ?_
  refine lv_topi (fun f1 ef1 => ?_)
  refine va_sld (i := f1) X.1 X.2.1 hX hbl hbA hS (lw_ix ef1 hi0 hi6 hL (by decide +kernel)) dL_law_935 ?_
  refine ca_X11_advice X hK hG hC hS hb xx hxx (xs f1.toNatClampNeg) wl_5_101 hl.1 (rest := []) rfl (Nat.le_of_ble_eq_true rfl) ⟨Nat.le_of_ble_eq_true rfl, Nat.le_of_ble_eq_true rfl⟩ lwr dL_law_936 (fun f3 H locs hf3 hG hS => ?_)
  refine lv_pop X.1 X.2.1 dL_law_939 rfl ?_
  refine lv_aload_n X.1 X.2.1 dL_law_940 rfl (lv_at hl 2 rfl) ?_
  refine lv_aload_n X.1 X.2.1 dL_law_941 rfl (lv_at hl 4 rfl) ?_
  refine lv_iload X.1 X.2.1 dL_law_942 (lv_at hl 0 rfl) ?_
  refine lv_iconst (v := 1) X.1 X.2.1 dL_law_944 (by decide +kernel) ?_
  refine lv_iadd X.1 X.2.1 dL_law_945 ?_
  refine lv_topi (fun f4 ef4 => ?_)
  refine va_sld (i := f4) X.1 X.2.1 hX hbl hbA hS (lw_ix ef4 hi0 hi6 hL (by decide +kernel)) dL_law_946 ?_
  rcases Bool.eq_false_or_eq_true P.2.2.2.2.1 with hp4 | hp4
  · refine ca_X12_advice_1 X hK hG hC hS hb hp4 mm hmm (xs f4.toNatClampNeg) wl_9_11 hl.1 (rest := []) rfl (Nat.le_of_ble_eq_true rfl) ⟨Nat.le_of_ble_eq_true rfl, Nat.le_of_ble_eq_true rfl⟩ lwr dL_law_947 (fun f6 H locs hf6 hG hS => ?_)
    refine lv_pop X.1 X.2.1 dL_law_950 rfl ?_
    refine lv_goto (tgt := 1349) X.1 X.2.1 dL_law_951 (by decide) ?_
    refine W.widen (k := cells + 4) (n := slots + 8300) (by omega) (by omega) ?_
    exact kk _ _ _ _ _ _ _ (lwV_next hW hK hG hpin (Nat.le_add_right _ _) (sgMo.rf _ _) hinv hgl) hS (lv_sub hl [0, 1, 2, 3, 4] rfl)
  · refine ca_X12_advice_0 X hK hG hC hS hb hp4 mm hmm (xs f4.toNatClampNeg) wl_9_11 hl.1 (rest := []) rfl (Nat.le_of_ble_eq_true rfl) ⟨Nat.le_of_ble_eq_true rfl, Nat.le_of_ble_eq_true rfl⟩ lwr dL_law_947 (fun f7 H locs hf7 hG hS => ?_)
    refine lv_pop X.1 X.2.1 dL_law_950 rfl ?_
    refine lv_goto (tgt := 1349) X.1 X.2.1 dL_law_951 (by decide) ?_
    refine W.widen (k := cells + 4) (n := slots + 8300) (by omega) (by omega) ?_
    exact kk _ _ _ _ _ _ _ (lwV_next hW hK hG hpin (Nat.le_add_right _ _) (sgMo.rf _ _) hinv hgl) hS (lv_sub hl [0, 1, 2, 3, 4] rfl)

set_option maxHeartbeats 8000000 in
set_option maxRecDepth 100000 in
theorem law_case_23 {p : Program} {l : Launch} {e : Env} {s : State} {m : MethodId} {below : List Frame} {meth : Method} {c : Code} {b L : Nat} {xs : Nat → Int32} {D : va_G} (C : lwC p l e s m below meth c b L xs) {n : Nat} {P : sgPm} {tys : List (ClassId × FieldType)} {ad ks : List Nat} {xx mm oq : Nat} {H : Heap} {locs : List Loc} (hW : lwV D n P tys ad ks xx mm oq s H) (hS : va_S (fun q : Nat => s.heap.size ≤ q) s.heap H locs) {i : Int32} (hi0 : 0 ≤ i.toInt) (hi6 : i.toInt + 6 ≤ L) (hn : n ≤ 511) {ls : Array Slot} (hl : lv_has ls 7 [(4, .int i), (3, .ref oq), (2, .ref mm), (1, .ref xx), (0, .ref b)]) {cells slots : Nat} (hc : cells + 4 ≤ 601024) (hs : slots + 8300 ≤ 7293034) {Q : State → Prop}
    (kk : ∀ (P1 : sgPm) (tys1 : List (ClassId × FieldType)) (ad1 ks1 : List Nat) (H1 : Heap) (locs1 : List Loc) (ls1 : Array Slot), lwV D (n + 1) P1 tys1 ad1 ks1 xx mm oq s H1 → va_S (fun q : Nat => s.heap.size ≤ q) s.heap H1 locs1 → lv_has ls1 7 [(4, .int i), (3, .ref oq), (2, .ref mm), (1, .ref xx), (0, .ref b)] → W p l e room_1 s m #[.ref b] below meth c H1 locs1 (cells + 4) (slots + 8300) Q (F0 m 1349 ls1 [])) :
    W p l e room_1 s m #[.ref b] below meth c H locs cells slots Q (F0 m 954 ls []) := by
  obtain ⟨X, hC, hX, hbl, hL⟩ := C
  obtain ⟨hK, hG, hxx, hmm, hoq, hpin, hN0, hinv, hgl⟩ := id hW
  have hp10 := hpin
  have hb : s.heap.size ≤ s.heap.size := Nat.le_refl _
  have hbA : ¬ (fun q : Nat => s.heap.size ≤ q) b := Nat.not_le.mpr hbl
  have lwr : cells ≤ room_1.cells ∧ slots ≤ room_1.slots := ⟨by show cells ≤ 601024; omega, by show slots ≤ 7293034; omega⟩
  have lwr1 : cells + 1 ≤ room_1.cells ∧ slots + 8256 ≤ room_1.slots := ⟨by show cells + 1 ≤ 601024; omega, by show slots + 8256 ≤ 7293034; omega⟩
  have lwr2 : cells + 1 ≤ room_1.cells ∧ slots + 4096 ≤ room_1.slots := ⟨by show cells + 1 ≤ 601024; omega, by show slots + 4096 ≤ 7293034; omega⟩
  have hgi := hgl.1.1
  have hgg := hgl.2.1
  have hpk := hm_pk hgl.2
  have hl0 := sgInv_l1 hinv
  have hby := sgInv_b1 hinv
  refine lv_aload_n X.1 X.2.1 dL_law_954 rfl (lv_at hl 3 rfl) ?_
  refine lv_aload_n X.1 X.2.1 dL_law_955 rfl (lv_at hl 4 rfl) ?_
  refine lv_iload X.1 X.2.1 dL_law_956 (lv_at hl 0 rfl) ?_
  refine lv_iconst (v := 1) X.1 X.2.1 dL_law_958 (by decide +kernel) ?_
  refine lv_iadd X.1 X.2.1 dL_law_959 ?_
  refine lv_topi (fun f1 ef1 => ?_)
  refine va_sld (i := f1) X.1 X.2.1 hX hbl hbA hS (lw_ix ef1 hi0 hi6 hL (by decide +kernel)) dL_law_960 ?_
  refine ca_X11_holds X hK hG hC hS hb xx hxx (xs f1.toNatClampNeg) wl_5_105 hl.1 (rest := []) rfl (Nat.le_of_ble_eq_true rfl) ⟨Nat.le_of_ble_eq_true rfl, Nat.le_of_ble_eq_true rfl⟩ lwr dL_law_961 (fun f3 H locs hf3 hG hS => ?_)
  refine lv_pop X.1 X.2.1 dL_law_964 rfl ?_
  refine lv_aload_n X.1 X.2.1 dL_law_965 rfl (lv_at hl 2 rfl) ?_
  refine lv_aload_n X.1 X.2.1 dL_law_966 rfl (lv_at hl 4 rfl) ?_
  refine lv_iload X.1 X.2.1 dL_law_967 (lv_at hl 0 rfl) ?_
  refine lv_iconst (v := 1) X.1 X.2.1 dL_law_969 (by decide +kernel) ?_
  refine lv_iadd X.1 X.2.1 dL_law_970 ?_
  refine lv_topi (fun f4 ef4 => ?_)
  refine va_sld (i := f4) X.1 X.2.1 hX hbl hbA hS (lw_ix ef4 hi0 hi6 hL (by decide +kernel)) dL_law_971 ?_
  rcases Bool.eq_false_or_eq_true P.2.2.2.2.1 with hp4 | hp4
  · refine ca_X12_holds_1 X hK hG hC hS hb hp4 mm hmm (xs f4.toNatClampNeg) wl_9_15 hl.1 (rest := []) rfl (Nat.le_of_ble_eq_true rfl) ⟨Nat.le_of_ble_eq_true rfl, Nat.le_of_ble_eq_true rfl⟩ lwr dL_law_972 (fun f6 H locs hf6 hG hS => ?_)
    refine lv_pop X.1 X.2.1 dL_law_975 rfl ?_
    refine lv_goto (tgt := 1349) X.1 X.2.1 dL_law_976 (by decide) ?_
    refine W.widen (k := cells + 4) (n := slots + 8300) (by omega) (by omega) ?_
    exact kk _ _ _ _ _ _ _ (lwV_next hW hK hG hpin (Nat.le_add_right _ _) (sgMo.rf _ _) hinv hgl) hS (lv_sub hl [0, 1, 2, 3, 4] rfl)
  · refine ca_X12_holds_0 X hK hG hC hS hb hp4 mm hmm (xs f4.toNatClampNeg) wl_9_15 hl.1 (rest := []) rfl (Nat.le_of_ble_eq_true rfl) ⟨Nat.le_of_ble_eq_true rfl, Nat.le_of_ble_eq_true rfl⟩ lwr dL_law_972 (fun f7 H locs hf7 hG hS => ?_)
    refine lv_pop X.1 X.2.1 dL_law_975 rfl ?_
    refine lv_goto (tgt := 1349) X.1 X.2.1 dL_law_976 (by decide) ?_
    refine W.widen (k := cells + 4) (n := slots + 8300) (by omega) (by omega) ?_
    exact kk _ _ _ _ _ _ _ (lwV_next hW hK hG hpin (Nat.le_add_right _ _) (sgMo.rf _ _) hinv hgl) hS (lv_sub hl [0, 1, 2, 3, 4] rfl)

set_option maxHeartbeats 8000000 in
set_option maxRecDepth 100000 in
theorem law_case_24 {p : Program} {l : Launch} {e : Env} {s : State} {m : MethodId} {below : List Frame} {meth : Method} {c : Code} {b L : Nat} {xs : Nat → Int32} {D : va_G} (C : lwC p l e s m below meth c b L xs) {n : Nat} {P : sgPm} {tys : List (ClassId × FieldType)} {ad ks : List Nat} {xx mm oq : Nat} {H : Heap} {locs : List Loc} (hW : lwV D n P tys ad ks xx mm oq s H) (hS : va_S (fun q : Nat => s.heap.size ≤ q) s.heap H locs) {i : Int32} (hi0 : 0 ≤ i.toInt) (hi6 : i.toInt + 6 ≤ L) (hn : n ≤ 511) {ls : Array Slot} (hl : lv_has ls 7 [(4, .int i), (3, .ref oq), (2, .ref mm), (1, .ref xx), (0, .ref b)]) {cells slots : Nat} (hc : cells + 4 ≤ 601024) (hs : slots + 8300 ≤ 7293034) {Q : State → Prop}
    (kk : ∀ (P1 : sgPm) (tys1 : List (ClassId × FieldType)) (ad1 ks1 : List Nat) (H1 : Heap) (locs1 : List Loc) (ls1 : Array Slot), lwV D (n + 1) P1 tys1 ad1 ks1 xx mm oq s H1 → va_S (fun q : Nat => s.heap.size ≤ q) s.heap H1 locs1 → lv_has ls1 7 [(4, .int i), (3, .ref oq), (2, .ref mm), (1, .ref xx), (0, .ref b)] → W p l e room_1 s m #[.ref b] below meth c H1 locs1 (cells + 4) (slots + 8300) Q (F0 m 1349 ls1 [])) :
    W p l e room_1 s m #[.ref b] below meth c H locs cells slots Q (F0 m 979 ls []) := by
  obtain ⟨X, hC, hX, hbl, hL⟩ := C
  obtain ⟨hK, hG, hxx, hmm, hoq, hpin, hN0, hinv, hgl⟩ := id hW
  have hp10 := hpin
  have hb : s.heap.size ≤ s.heap.size := Nat.le_refl _
  have hbA : ¬ (fun q : Nat => s.heap.size ≤ q) b := Nat.not_le.mpr hbl
  have lwr : cells ≤ room_1.cells ∧ slots ≤ room_1.slots := ⟨by show cells ≤ 601024; omega, by show slots ≤ 7293034; omega⟩
  have lwr1 : cells + 1 ≤ room_1.cells ∧ slots + 8256 ≤ room_1.slots := ⟨by show cells + 1 ≤ 601024; omega, by show slots + 8256 ≤ 7293034; omega⟩
  have lwr2 : cells + 1 ≤ room_1.cells ∧ slots + 4096 ≤ room_1.slots := ⟨by show cells + 1 ≤ 601024; omega, by show slots + 4096 ≤ 7293034; omega⟩
  have hgi := hgl.1.1
  have hgg := hgl.2.1
  have hpk := hm_pk hgl.2
  have hl0 := sgInv_l1 hinv
  have hby := sgInv_b1 hinv
  refine lv_aload_n X.1 X.2.1 dL_law_979 rfl (lv_at hl 3 rfl) ?_
  refine ca_X11_forced X hK hG hC hS hb xx hxx wl_5_124 hl.1 (rest := []) rfl (Nat.le_of_ble_eq_true rfl) ⟨Nat.le_of_ble_eq_true rfl, Nat.le_of_ble_eq_true rfl⟩ lwr dL_law_980 (fun f1 H locs hf1 hG hS => ?_)
  refine lv_pop X.1 X.2.1 dL_law_983 rfl ?_
  refine lv_aload_n X.1 X.2.1 dL_law_984 rfl (lv_at hl 2 rfl) ?_
  rcases Bool.eq_false_or_eq_true P.2.2.2.2.1 with hp4 | hp4
  · refine ca_X12_forced_1 X hK hG hC hS hb hp4 mm hmm wl_9_31 hl.1 (rest := []) rfl (Nat.le_of_ble_eq_true rfl) ⟨Nat.le_of_ble_eq_true rfl, Nat.le_of_ble_eq_true rfl⟩ lwr dL_law_985 (fun f2 H locs hf2 hG hS => ?_)
    refine lv_pop X.1 X.2.1 dL_law_988 rfl ?_
    refine lv_goto (tgt := 1349) X.1 X.2.1 dL_law_989 (by decide) ?_
    refine W.widen (k := cells + 4) (n := slots + 8300) (by omega) (by omega) ?_
    exact kk _ _ _ _ _ _ _ (lwV_next hW hK hG hpin (Nat.le_add_right _ _) (sgMo.rf _ _) hinv hgl) hS (lv_sub hl [0, 1, 2, 3, 4] rfl)
  · refine ca_X12_forced_0 X hK hG hC hS hb hp4 mm hmm wl_9_31 hl.1 (rest := []) rfl (Nat.le_of_ble_eq_true rfl) ⟨Nat.le_of_ble_eq_true rfl, Nat.le_of_ble_eq_true rfl⟩ lwr dL_law_985 (fun f3 H locs hf3 hG hS => ?_)
    refine lv_pop X.1 X.2.1 dL_law_988 rfl ?_
    refine lv_goto (tgt := 1349) X.1 X.2.1 dL_law_989 (by decide) ?_
    refine W.widen (k := cells + 4) (n := slots + 8300) (by omega) (by omega) ?_
    exact kk _ _ _ _ _ _ _ (lwV_next hW hK hG hpin (Nat.le_add_right _ _) (sgMo.rf _ _) hinv hgl) hS (lv_sub hl [0, 1, 2, 3, 4] rfl)
end
