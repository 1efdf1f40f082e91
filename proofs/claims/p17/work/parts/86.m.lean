abbrev cX12_laySet : ByteArray := prog_14_method_106_code
def yX12_laySet : MethodName := ⟨RX12, "laySet", "(I)V"⟩
theorem dX12_laySet_0 : decode cX12_laySet 0 = .ok (.lconst 0, 1) := by decide +kernel
theorem dX12_laySet_1 : decode cX12_laySet 1 = .ok (.lstore_n 2, 1) := by decide +kernel
theorem dX12_laySet_2 : decode cX12_laySet 2 = .ok (.iload_n 1, 1) := by decide +kernel
theorem dX12_laySet_3 : decode cX12_laySet 3 = .ok (.ifCond .ne 7, 3) := by decide +kernel
theorem dX12_laySet_6 : decode cX12_laySet 6 = .ok (.iconst 0, 1) := by decide +kernel
theorem dX12_laySet_7 : decode cX12_laySet 7 = .ok (.goto 5, 3) := by decide +kernel
theorem dX12_laySet_10 : decode cX12_laySet 10 = .ok (.bipush 13, 2) := by decide +kernel
theorem dX12_laySet_12 : decode cX12_laySet 12 = .ok (.istore 4, 2) := by decide +kernel
theorem dX12_laySet_14 : decode cX12_laySet 14 = .ok (.aload_n 0, 1) := by decide +kernel
theorem dX12_laySet_15 : decode cX12_laySet 15 = .ok (.iload_n 1, 1) := by decide +kernel
theorem dX12_laySet_16 : decode cX12_laySet 16 = .ok (.invokevirtual 502, 3) := by decide +kernel
theorem dX12_laySet_19 : decode cX12_laySet 19 = .ok (.istore 5, 2) := by decide +kernel
theorem dX12_laySet_21 : decode cX12_laySet 21 = .ok (.iconst 0, 1) := by decide +kernel
theorem dX12_laySet_22 : decode cX12_laySet 22 = .ok (.istore 6, 2) := by decide +kernel
theorem dX12_laySet_24 : decode cX12_laySet 24 = .ok (.iload 6, 2) := by decide +kernel
theorem dX12_laySet_26 : decode cX12_laySet 26 = .ok (.aload_n 0, 1) := by decide +kernel
theorem dX12_laySet_27 : decode cX12_laySet 27 = .ok (.getfield 496, 3) := by decide +kernel
theorem dX12_laySet_30 : decode cX12_laySet 30 = .ok (.if_icmp .ge 124, 3) := by decide +kernel
theorem dX12_laySet_33 : decode cX12_laySet 33 = .ok (.iload_n 1, 1) := by decide +kernel
theorem dX12_laySet_34 : decode cX12_laySet 34 = .ok (.iload 6, 2) := by decide +kernel
theorem dX12_laySet_36 : decode cX12_laySet 36 = .ok (.invokestatic 227, 3) := by decide +kernel
theorem dX12_laySet_39 : decode cX12_laySet 39 = .ok (.ifCond .ne 6, 3) := by decide +kernel
theorem dX12_laySet_42 : decode cX12_laySet 42 = .ok (.goto 106, 3) := by decide +kernel
theorem dX12_laySet_45 : decode cX12_laySet 45 = .ok (.iconst 0, 1) := by decide +kernel
theorem dX12_laySet_46 : decode cX12_laySet 46 = .ok (.istore 7, 2) := by decide +kernel
theorem dX12_laySet_48 : decode cX12_laySet 48 = .ok (.iload 7, 2) := by decide +kernel
theorem dX12_laySet_50 : decode cX12_laySet 50 = .ok (.iconst 2, 1) := by decide +kernel
theorem dX12_laySet_51 : decode cX12_laySet 51 = .ok (.if_icmp .ge 97, 3) := by decide +kernel
theorem dX12_laySet_54 : decode cX12_laySet 54 = .ok (.iconst 1, 1) := by decide +kernel
theorem dX12_laySet_55 : decode cX12_laySet 55 = .ok (.istore 8, 2) := by decide +kernel
theorem dX12_laySet_57 : decode cX12_laySet 57 = .ok (.iload 8, 2) := by decide +kernel
theorem dX12_laySet_59 : decode cX12_laySet 59 = .ok (.aload_n 0, 1) := by decide +kernel
theorem dX12_laySet_60 : decode cX12_laySet 60 = .ok (.getfield 37, 3) := by decide +kernel
theorem dX12_laySet_63 : decode cX12_laySet 63 = .ok (.iconst 3, 1) := by decide +kernel
theorem dX12_laySet_64 : decode cX12_laySet 64 = .ok (.iaload, 1) := by decide +kernel
theorem dX12_laySet_65 : decode cX12_laySet 65 = .ok (.if_icmp .gt 77, 3) := by decide +kernel
theorem dX12_laySet_68 : decode cX12_laySet 68 = .ok (.aload_n 0, 1) := by decide +kernel
theorem dX12_laySet_69 : decode cX12_laySet 69 = .ok (.iload 5, 2) := by decide +kernel
theorem dX12_laySet_71 : decode cX12_laySet 71 = .ok (.aload_n 0, 1) := by decide +kernel
theorem dX12_laySet_72 : decode cX12_laySet 72 = .ok (.getfield 75, 3) := by decide +kernel
theorem dX12_laySet_75 : decode cX12_laySet 75 = .ok (.iload 6, 2) := by decide +kernel
theorem dX12_laySet_77 : decode cX12_laySet 77 = .ok (.iaload, 1) := by decide +kernel
theorem dX12_laySet_78 : decode cX12_laySet 78 = .ok (.iload 7, 2) := by decide +kernel
theorem dX12_laySet_80 : decode cX12_laySet 80 = .ok (.iload 8, 2) := by decide +kernel
theorem dX12_laySet_82 : decode cX12_laySet 82 = .ok (.invokevirtual 386, 3) := by decide +kernel
theorem dX12_laySet_85 : decode cX12_laySet 85 = .ok (.istore 9, 2) := by decide +kernel
theorem dX12_laySet_87 : decode cX12_laySet 87 = .ok (.iload 9, 2) := by decide +kernel
theorem dX12_laySet_89 : decode cX12_laySet 89 = .ok (.iconst (-1), 1) := by decide +kernel
theorem dX12_laySet_90 : decode cX12_laySet 90 = .ok (.if_icmp .ne 6, 3) := by decide +kernel
theorem dX12_laySet_93 : decode cX12_laySet 93 = .ok (.goto 49, 3) := by decide +kernel
theorem dX12_laySet_96 : decode cX12_laySet 96 = .ok (.iload_n 1, 1) := by decide +kernel
theorem dX12_laySet_97 : decode cX12_laySet 97 = .ok (.aload_n 0, 1) := by decide +kernel
theorem dX12_laySet_98 : decode cX12_laySet 98 = .ok (.iload 9, 2) := by decide +kernel
theorem dX12_laySet_100 : decode cX12_laySet 100 = .ok (.invokevirtual 505, 3) := by decide +kernel
theorem dX12_laySet_103 : decode cX12_laySet 103 = .ok (.iconst (-1), 1) := by decide +kernel
theorem dX12_laySet_104 : decode cX12_laySet 104 = .ok (.ixor, 1) := by decide +kernel
theorem dX12_laySet_105 : decode cX12_laySet 105 = .ok (.iand, 1) := by decide +kernel
theorem dX12_laySet_106 : decode cX12_laySet 106 = .ok (.istore 10, 2) := by decide +kernel
theorem dX12_laySet_108 : decode cX12_laySet 108 = .ok (.lload_n 2, 1) := by decide +kernel
theorem dX12_laySet_109 : decode cX12_laySet 109 = .ok (.lconst 1, 1) := by decide +kernel
theorem dX12_laySet_110 : decode cX12_laySet 110 = .ok (.aload_n 0, 1) := by decide +kernel
theorem dX12_laySet_111 : decode cX12_laySet 111 = .ok (.getfield 78, 3) := by decide +kernel
theorem dX12_laySet_114 : decode cX12_laySet 114 = .ok (.iload 10, 2) := by decide +kernel
theorem dX12_laySet_116 : decode cX12_laySet 116 = .ok (.iaload, 1) := by decide +kernel
theorem dX12_laySet_117 : decode cX12_laySet 117 = .ok (.lshl, 1) := by decide +kernel
theorem dX12_laySet_118 : decode cX12_laySet 118 = .ok (.lor, 1) := by decide +kernel
theorem dX12_laySet_119 : decode cX12_laySet 119 = .ok (.lstore_n 2, 1) := by decide +kernel
theorem dX12_laySet_120 : decode cX12_laySet 120 = .ok (.iload 4, 2) := by decide +kernel
theorem dX12_laySet_122 : decode cX12_laySet 122 = .ok (.aload_n 0, 1) := by decide +kernel
theorem dX12_laySet_123 : decode cX12_laySet 123 = .ok (.getfield 81, 3) := by decide +kernel
theorem dX12_laySet_126 : decode cX12_laySet 126 = .ok (.iload 10, 2) := by decide +kernel
theorem dX12_laySet_128 : decode cX12_laySet 128 = .ok (.iaload, 1) := by decide +kernel
theorem dX12_laySet_129 : decode cX12_laySet 129 = .ok (.iconst 1, 1) := by decide +kernel
theorem dX12_laySet_130 : decode cX12_laySet 130 = .ok (.iadd, 1) := by decide +kernel
theorem dX12_laySet_131 : decode cX12_laySet 131 = .ok (.invokestatic 508, 3) := by decide +kernel
theorem dX12_laySet_134 : decode cX12_laySet 134 = .ok (.istore 4, 2) := by decide +kernel
theorem dX12_laySet_136 : decode cX12_laySet 136 = .ok (.iinc 8 1, 3) := by decide +kernel
theorem dX12_laySet_139 : decode cX12_laySet 139 = .ok (.goto (-82), 3) := by decide +kernel
theorem dX12_laySet_142 : decode cX12_laySet 142 = .ok (.iinc 7 1, 3) := by decide +kernel
theorem dX12_laySet_145 : decode cX12_laySet 145 = .ok (.goto (-97), 3) := by decide +kernel
theorem dX12_laySet_148 : decode cX12_laySet 148 = .ok (.iinc 6 1, 3) := by decide +kernel
theorem dX12_laySet_151 : decode cX12_laySet 151 = .ok (.goto (-127), 3) := by decide +kernel
theorem dX12_laySet_154 : decode cX12_laySet 154 = .ok (.iconst 0, 1) := by decide +kernel
theorem dX12_laySet_155 : decode cX12_laySet 155 = .ok (.istore 6, 2) := by decide +kernel
theorem dX12_laySet_157 : decode cX12_laySet 157 = .ok (.lload_n 2, 1) := by decide +kernel
theorem dX12_laySet_158 : decode cX12_laySet 158 = .ok (.iload 6, 2) := by decide +kernel
theorem dX12_laySet_160 : decode cX12_laySet 160 = .ok (.lshr, 1) := by decide +kernel
theorem dX12_laySet_161 : decode cX12_laySet 161 = .ok (.lconst 1, 1) := by decide +kernel
theorem dX12_laySet_162 : decode cX12_laySet 162 = .ok (.land, 1) := by decide +kernel
theorem dX12_laySet_163 : decode cX12_laySet 163 = .ok (.lconst 1, 1) := by decide +kernel
theorem dX12_laySet_164 : decode cX12_laySet 164 = .ok (.lcmp, 1) := by decide +kernel
theorem dX12_laySet_165 : decode cX12_laySet 165 = .ok (.ifCond .ne 9, 3) := by decide +kernel
theorem dX12_laySet_168 : decode cX12_laySet 168 = .ok (.iinc 6 1, 3) := by decide +kernel
theorem dX12_laySet_171 : decode cX12_laySet 171 = .ok (.goto (-14), 3) := by decide +kernel
theorem dX12_laySet_174 : decode cX12_laySet 174 = .ok (.aload_n 0, 1) := by decide +kernel
theorem dX12_laySet_175 : decode cX12_laySet 175 = .ok (.getfield 78, 3) := by decide +kernel
theorem dX12_laySet_178 : decode cX12_laySet 178 = .ok (.iload_n 1, 1) := by decide +kernel
theorem dX12_laySet_179 : decode cX12_laySet 179 = .ok (.iload 6, 2) := by decide +kernel
theorem dX12_laySet_181 : decode cX12_laySet 181 = .ok (.iastore, 1) := by decide +kernel
theorem dX12_laySet_182 : decode cX12_laySet 182 = .ok (.aload_n 0, 1) := by decide +kernel
theorem dX12_laySet_183 : decode cX12_laySet 183 = .ok (.getfield 81, 3) := by decide +kernel
theorem dX12_laySet_186 : decode cX12_laySet 186 = .ok (.iload_n 1, 1) := by decide +kernel
theorem dX12_laySet_187 : decode cX12_laySet 187 = .ok (.iload 4, 2) := by decide +kernel
theorem dX12_laySet_189 : decode cX12_laySet 189 = .ok (.iastore, 1) := by decide +kernel
theorem dX12_laySet_190 : decode cX12_laySet 190 = .ok (.return_, 1) := by decide +kernel
theorem wl_9_63 : (.methodLink RX12 502 yX12_spread : Cond) ∈ sg_tbl := tb_9 _ (List.mem_of_getElem? (i := 63) (by decide +kernel)) (by decide +kernel)
theorem wl_6_223 : (.fieldLink RX12 78 "LawnAheadModel" "sums" "[I" : Cond) ∈ sg_tbl := tb_6 _ (List.mem_of_getElem? (i := 223) (by decide +kernel)) (by decide +kernel)
theorem wl_6_224 : (.fieldLink RX12 81 "LawnAheadModel" "cutMany" "[I" : Cond) ∈ sg_tbl := tb_6 _ (List.mem_of_getElem? (i := 224) (by decide +kernel)) (by decide +kernel)
theorem wl_9_67 : (.methodLink RX12 505 yX12_gathered : Cond) ∈ sg_tbl := tb_9 _ (List.mem_of_getElem? (i := 67) (by decide +kernel)) (by decide +kernel)
theorem wl_9_62 : (.code yX12_laySet cX12_laySet 11 none : Cond) ∈ sg_tbl := tb_9 _ (List.mem_of_getElem? (i := 62) (by decide +kernel)) (by decide +kernel)
theorem wl_9_61 : (.instanceMethod yX12_laySet : Cond) ∈ sg_tbl := tb_9 _ (List.mem_of_getElem? (i := 61) (by decide +kernel)) (by decide +kernel)
theorem wl_0_104 : (.selects RX12 yX12_laySet yX12_laySet : Cond) ∈ sg_tbl := tb_0 _ (List.mem_of_getElem? (i := 104) (by decide +kernel)) (by decide +kernel)
section
variable {p : Program} {l : Launch} {e : Env} {R : Room} {s : State} {m : MethodId} {args : Array Value} {below : List Frame} {meth : Method} {c : Code} {H : Heap} {locs : List Loc} {cells slots : Nat} {Q : State → Prop} {cc : ByteArray} {nL pc : Nat} {ls : Array Slot} {rest : List Value} {own : String} {D : va_G} {A : Nat → Prop} {tys : List (ClassId × FieldType)} {ad ks : List Nat} {P : sgPm} {H0 : Heap} {index : Nat} {base : Nat} {st0 : List Value} {a : Nat}
theorem gf_X12_45   (X : CallFix p m c cc nL s args sg_tbl own) (hK : va_K D vwCl tys s) (hG : sgG (KT P) D vwCl A tys ad ks H) (ha : isK ad ks 12 a) (hl : Cond.fieldLink own index "LawnAheadModel" "sums" "[I" ∈ sg_tbl) (hdg : decode cc pc = .ok (.getfield index, 3)) (kk : ∀ x : Nat, isK ad ks 61 x → fld D H 12 a 45 (.ref x) → W p l e R s m args below meth c H locs cells slots Q (F0 m (pc + 3) ls (.ref x :: rest))) : W p l e R s m args below meth c H locs cells slots Q (F0 m pc ls (.ref a :: rest)) :=
  sg_get X hK hG ha (k := 12) (ci := 12) rfl (C := RX12) (T := TX12) (N := 53) rfl inL_X12 45 (by decide) rfl hl (fun _ h => h) hdg (fun v hv hf => by
    obtain ⟨h1, -⟩ | ⟨x, rfl, hx⟩ := hv
    · cases h1
    · exact kk x hx hf)
theorem gf_X12_46   (X : CallFix p m c cc nL s args sg_tbl own) (hK : va_K D vwCl tys s) (hG : sgG (KT P) D vwCl A tys ad ks H) (ha : isK ad ks 12 a) (hl : Cond.fieldLink own index "LawnAheadModel" "cutMany" "[I" ∈ sg_tbl) (hdg : decode cc pc = .ok (.getfield index, 3)) (kk : ∀ x : Nat, isK ad ks 62 x → fld D H 12 a 46 (.ref x) → W p l e R s m args below meth c H locs cells slots Q (F0 m (pc + 3) ls (.ref x :: rest))) : W p l e R s m args below meth c H locs cells slots Q (F0 m pc ls (.ref a :: rest)) :=
  sg_get X hK hG ha (k := 12) (ci := 12) rfl (C := RX12) (T := TX12) (N := 53) rfl inL_X12 46 (by decide) rfl hl (fun _ h => h) hdg (fun v hv hf => by
    obtain ⟨h1, -⟩ | ⟨x, rfl, hx⟩ := hv
    · cases h1
    · exact kk x hx hf)
theorem pk_X12_47  (hG : sgG (KT P) D vwCl A tys ad ks H) (ha : isK ad ks 12 a) : ∃ x : Int32, iv 0 12 x ∧ fld D H 12 a 47 (.int x) := by
  obtain ⟨v, hv, hf⟩ := sg_peek hG ha (k := 12) (ci := 12) rfl (r := (RX12, TX12, 53)) rfl 47 (show 47 < 53 by decide) rfl
  obtain ⟨x, rfl, hx⟩ := hv
  exact ⟨x, hx, hf⟩
theorem as_61  {i : Int32} {x : Int32}  (X : CallFix p m c cc nL s args sg_tbl own) (hK : va_K D vwCl tys s) (hG : sgG (KT P) D vwCl A tys ad ks H) (hS : va_S A H0 H locs) (ha : isK ad ks 61 a) (hin : vp_in i 4096) (hv : okV ad ks ((sg_sum : Nat → sgT) i.toNatClampNeg) (.int x)) (hdg : decode cc pc = .ok (.iastore, 1)) (kk : ∀ (H1 : Heap) (locs1 : List Loc), sgG (KT P) D vwCl A tys ad ks H1 → va_S A H0 H1 locs1 → sgFr (KT P) D vwCl ad ks H H1 (fun _ _ => False) → W p l e R s m args below meth c H1 locs1 cells slots Q (F0 m (pc + 1) ls rest)) : W p l e R s m args below meth c H locs cells slots Q (F0 m pc ls (.int x :: .int i :: .ref a :: rest)) :=
  sg_iast X hK hG hS ha (k := 61) rfl hin hv hdg kk
theorem as_62  {i : Int32} {x : Int32}  (X : CallFix p m c cc nL s args sg_tbl own) (hK : va_K D vwCl tys s) (hG : sgG (KT P) D vwCl A tys ad ks H) (hS : va_S A H0 H locs) (ha : isK ad ks 62 a) (hin : vp_in i 4096) (hv : okV ad ks (.inl ((-2147483648), 2147483647)) (.int x)) (hdg : decode cc pc = .ok (.iastore, 1)) (kk : ∀ (H1 : Heap) (locs1 : List Loc), sgG (KT P) D vwCl A tys ad ks H1 → va_S A H0 H1 locs1 → sgFr (KT P) D vwCl ad ks H H1 (fun _ _ => False) → W p l e R s m args below meth c H1 locs1 cells slots Q (F0 m (pc + 1) ls rest)) : W p l e R s m args below meth c H locs cells slots Q (F0 m pc ls (.int x :: .int i :: .ref a :: rest)) :=
  sg_iast X hK hG hS ha (k := 62) rfl hin hv hdg kk
set_option maxHeartbeats 8000000 in
set_option maxRecDepth 100000 in
theorem m_X12_laySet_1 (l : Launch) {D : va_G} {base : Nat} {tys : List (ClassId × FieldType)} {ad ks : List Nat} {P : sgPm} (hp4 : P.2.2.2.2.1 = true) (a0 : Nat) (h0 : isK ad ks 12 a0) (x1 : Int32) (h1 : iv 0 4095 x1) : sgMv l (KT P) D vwCl base tys ad ks yX12_laySet cX12_laySet 11 none ({ frames := 3, cells := 0, slots := 0, locals := 75 }) [.ref a0, .int x1] := by
  refine sg_ofW (by decide +kernel) (Nat.le_of_ble_eq_true rfl) (fun p e s m below meth c X hr hlk hb hK hC hG ls hl => ?_)
  have hS : va_S (fun q : Nat => base ≤ q) s.heap s.heap [] := va_S.rf
  have hl : lv_has ls 11 [(0, .ref a0), (1, .int x1)] := hl
  obtain ⟨mm, hmi, hm⟩ := pk_X12_47 hG h0
  obtain ⟨vr, hvr, hq⟩ := sg_peek hG h0 (k := 12) (ci := 12) rfl (r := (RX12, TX12, 53)) rfl 44 (show 44 < 53 by decide) rfl
  obtain ⟨qr, rfl, hqk⟩ : ∃ qr : Nat, vr = .ref qr ∧ isK ad ks 60 qr := by rcases hvr with ⟨h1, -⟩ | ⟨x, rfl, hx⟩ <;> first | (cases h1; done) | exact ⟨_, rfl, hx⟩
  obtain ⟨F, hF⟩ := sg_eleF hG hqk (k := 60) (n := 12) rfl
  have hs0 : (0 : Int64).toBitVec.toNat < 2 ^ sg_pc 12 x1.toBitVec.toNat := by rw [show (0 : Int64).toBitVec.toNat = 0 from by decide +kernel]; exact Nat.two_pow_pos _
  refine lv_lconst (v := 0) X.1 X.2.1 dX12_laySet_0 (by decide +kernel) ?_
  refine lv_lstore_n (lv' := [(2, .long 0), (0, .ref a0), (1, .int x1)]) X.1 X.2.1 dX12_laySet_1 rfl hl (by decide) rfl (fun ls hl => ?_)
  refine lv_iload_n X.1 X.2.1 dX12_laySet_2 rfl (lv_at hl 2 rfl) ?_
  refine lv_if_ne (tgt := 10) X.1 X.2.1 dX12_laySet_3 (by decide) (fun c1 => ?_) (fun c1 => ?_)
  · refine lv_bipush (v := 13) X.1 X.2.1 dX12_laySet_10 (by decide +kernel) ?_
    refine lv_istore (lv' := [(4, .int 13), (2, .long 0), (0, .ref a0), (1, .int x1)]) X.1 X.2.1 dX12_laySet_12 hl (by decide) rfl (fun ls hl => ?_)
    refine lv_aload_n X.1 X.2.1 dX12_laySet_14 rfl (lv_at hl 2 rfl) ?_
    refine lv_iload_n X.1 X.2.1 dX12_laySet_15 rfl (lv_at hl 3 rfl) ?_
    refine ca_X12_spread X hK hG hC (fun _ h => h) hS hb a0 h0 x1 wl_9_63 hl.1 (rest := []) rfl (Nat.le_of_ble_eq_true rfl) ⟨Nat.le_of_ble_eq_true rfl, Nat.le_of_ble_eq_true rfl⟩ ⟨Nat.le_of_ble_eq_true rfl, Nat.le_of_ble_eq_true rfl⟩ dX12_laySet_16 (fun f2 locs hf2 hS => ?_)
    refine lv_istore (lv' := [(5, .int f2), (4, .int 13), (2, .long 0), (0, .ref a0), (1, .int x1)]) X.1 X.2.1 dX12_laySet_19 hl (by decide) rfl (fun ls hl => ?_)
    refine lv_iconst (v := 0) X.1 X.2.1 dX12_laySet_21 (by decide +kernel) ?_
    refine lv_istore (lv' := [(6, .int 0), (5, .int f2), (4, .int 13), (2, .long 0), (0, .ref a0), (1, .int x1)]) X.1 X.2.1 dX12_laySet_22 hl (by decide) rfl (fun ls hl => ?_)
    have B3_24 : ∀ (N : Nat) (locs : List Loc) (ls : Array Slot) (z3_2 : Int64) (z3_4 : Int32) (z3_6 : Int32), va_S (fun q : Nat => base ≤ q) s.heap s.heap locs → lv_has ls 11 [(0, .ref a0), (1, .int x1), (2, .long z3_2), (4, .int z3_4), (5, .int f2), (6, .int z3_6)] → iv (-2147483648) 13 z3_4 → iv 0 12 z3_6 → z3_2.toBitVec.toNat < 2 ^ sg_pc 12 x1.toBitVec.toNat → (13 - z3_6.toInt).toNat ≤ N → W p l e (headSpec (Cond.code yX12_laySet cX12_laySet 11 none :: sg_tbl) ({ frames := 3, cells := 0, slots := 0, locals := 75 })).room s m #[.ref a0, .int x1] below meth c s.heap locs 0 0 (MQ below (va_Qv (fun (_ : Unit) => True) (fun _ => sgB (KT P) D vwCl base tys ad ks) (fun q : Nat => base ≤ q)) #[.ref a0, .int x1] s 0 0 (fun q : Nat => base ≤ q)) (F0 m 24 ls []) := by
      intro N; induction N with
      | zero =>
        intro locs ls z3_2 z3_4 z3_6 hS hl hz3_4 hz3_6 xf3 hN
        exact absurd hN (by have := iv_up hz3_6; omega)
      | succ N ih3 =>
        intro locs ls z3_2 z3_4 z3_6 hS hl hz3_4 hz3_6 xf3 hN3
        refine lv_iload X.1 X.2.1 dX12_laySet_24 (lv_at hl 5 rfl) ?_
        refine lv_aload_n X.1 X.2.1 dX12_laySet_26 rfl (lv_at hl 0 rfl) ?_
        refine gg_X12_47 X hK hG h0 wl_6_225 hm dX12_laySet_27 ?_
        refine lv_icmp_ge (tgt := 154) X.1 X.2.1 dX12_laySet_30 (by decide) (fun c4 => ?_) (fun c4 => ?_)
        · refine lv_iconst (v := 0) X.1 X.2.1 dX12_laySet_154 (by decide +kernel) ?_
          refine lv_istore (lv' := [(6, .int 0), (0, .ref a0), (1, .int x1), (2, .long z3_2), (4, .int z3_4), (5, .int f2)]) X.1 X.2.1 dX12_laySet_155 hl (by decide) rfl (fun ls hl => ?_)
          have B5_157 : ∀ (N : Nat) (locs : List Loc) (ls : Array Slot) (z5_6 : Int32), va_S (fun q : Nat => base ≤ q) s.heap s.heap locs → lv_has ls 11 [(0, .ref a0), (1, .int x1), (2, .long z3_2), (4, .int z3_4), (6, .int z5_6)] → iv 0 12 z5_6 → z5_6.toInt ≤ (sg_pc 12 x1.toBitVec.toNat : Int) → (13 - z5_6.toInt).toNat ≤ N → W p l e (headSpec (Cond.code yX12_laySet cX12_laySet 11 none :: sg_tbl) ({ frames := 3, cells := 0, slots := 0, locals := 75 })).room s m #[.ref a0, .int x1] below meth c s.heap locs 0 0 (MQ below (va_Qv (fun (_ : Unit) => True) (fun _ => sgB (KT P) D vwCl base tys ad ks) (fun q : Nat => base ≤ q)) #[.ref a0, .int x1] s 0 0 (fun q : Nat => base ≤ q)) (F0 m 157 ls []) := by
            intro N; induction N with
            | zero =>
              intro locs ls z5_6 hS hl hz5_6 xf5 hN
              exact absurd hN (by have := iv_up hz5_6; omega)
            | succ N ih5 =>
              intro locs ls z5_6 hS hl hz5_6 xf5 hN5
              refine lv_lload_n X.1 X.2.1 dX12_laySet_157 rfl (lv_at hl 2 rfl) ?_
              refine lv_iload X.1 X.2.1 dX12_laySet_158 (lv_at hl 4 rfl) ?_
              obtain ⟨g6, eg6⟩ : ∃ y : Int64, y = (z3_2 : Int64) >>> ((z5_6 : Int32).toInt64 &&& 63) := ⟨_, rfl⟩
              refine lv_lshr (v := g6) X.1 X.2.1 dX12_laySet_160 eg6.symm ?_
              refine lv_lconst (v := 1) X.1 X.2.1 dX12_laySet_161 (by decide +kernel) ?_
              refine lv_land X.1 X.2.1 dX12_laySet_162 ?_
              refine lv_topl (fun g7 eg7 => ?_)
              refine lv_lconst (v := 1) X.1 X.2.1 dX12_laySet_163 (by decide +kernel) ?_
              refine W.lcmp X.1 X.2.1 dX12_laySet_164 ?_
              refine lv_topi (fun f8 ef8 => ?_)
              refine lv_if_ne (tgt := 174) X.1 X.2.1 dX12_laySet_165 (by decide) (fun c9 => ?_) (fun c9 => ?_)
              · refine lv_aload_n X.1 X.2.1 dX12_laySet_174 rfl (lv_at hl 0 rfl) ?_
                refine gf_X12_45 X hK hG h0 wl_6_223 dX12_laySet_175 (fun q10 hq10 kq10 => ?_)
                refine lv_iload_n X.1 X.2.1 dX12_laySet_178 rfl (lv_at hl 1 rfl) ?_
                refine lv_iload X.1 X.2.1 dX12_laySet_179 (lv_at hl 4 rfl) ?_
                refine as_61 X hK hG hS hq10 (iv_vpin (iv_ne_lo (a' := 1) c1 h1 (by decide +kernel)) (by decide +kernel)) (sum_ok (iv_of (iv_ne_lo (a' := 1) c1 h1 (by decide +kernel)) (a' := 0) (b' := 4095) (by decide +kernel)) (hz5_6).1 xf5) dX12_laySet_181 (fun H locs hG hS ru11 => ?_)
                refine lv_aload_n X.1 X.2.1 dX12_laySet_182 rfl (lv_at hl 0 rfl) ?_
                refine gf_X12_46 X hK hG h0 wl_6_224 dX12_laySet_183 (fun q12 hq12 kq12 => ?_)
                refine lv_iload_n X.1 X.2.1 dX12_laySet_186 rfl (lv_at hl 1 rfl) ?_
                refine lv_iload X.1 X.2.1 dX12_laySet_187 (lv_at hl 3 rfl) ?_
                refine as_62 X hK hG hS hq12 (iv_vpin (iv_ne_lo (a' := 1) c1 h1 (by decide +kernel)) (by decide +kernel)) ⟨_, rfl, (iv_top _)⟩ dX12_laySet_189 (fun H locs hG hS ru13 => ?_)
                exact sg_vret X hr hlk hb hK hC hG hS dX12_laySet_190
              · obtain ⟨y14, ey14⟩ : ∃ y : Int32, y = z5_6 + Int32.ofInt 1 := ⟨_, rfl⟩
                refine lv_iinc (v := y14) (lv' := [(6, .int y14), (0, .ref a0), (1, .int x1), (2, .long z3_2), (4, .int z3_4)]) X.1 X.2.1 dX12_laySet_168 hl (k := 4) rfl ey14.symm (by decide) rfl (fun ls hl => ?_)
                refine lv_goto (tgt := 157) X.1 X.2.1 dX12_laySet_171 (by decide) ?_
                have bq15 : 0 ≤ z5_6.toInt ∧ z5_6.toInt ≤ 12 := hz5_6
                have xy14 : y14.toInt = z5_6.toInt + 1 := sg_inc (k := 1) ey14 hz5_6 (by decide +kernel)
                have hp12 := sg_pc_le x1.toBitVec.toNat 12
                have hbt := seen_bit xf3 (sg_pc_le x1.toBitVec.toNat 12) hz5_6 eg6 eg7 ef8 c9
                exact ih5 _ _ y14 hS (lv_sub hl [1, 2, 3, 4, 0] rfl) ⟨by omega, by omega⟩ (by omega) (iv_stepU ey14 hz5_6 (by decide +kernel) hN5)
          have cq16 : (0 : Int32).toInt = 0 := by decide +kernel
          have hp12 := sg_pc_le x1.toBitVec.toNat 12
          exact B5_157 _ _ _ 0 hS (lv_sub hl [1, 2, 3, 4, 0] rfl) (iv_of (iv_c 0 (a := 0) (b := 0) (by decide +kernel)) (a' := 0) (b' := 12) (by decide +kernel)) (by omega) (Nat.le_refl _)
        · refine lv_iload_n X.1 X.2.1 dX12_laySet_33 rfl (lv_at hl 1 rfl) ?_
          refine lv_iload X.1 X.2.1 dX12_laySet_34 (lv_at hl 5 rfl) ?_
          refine ca_X12_has_h X hK hG hC (fun _ h => h) hS hb x1 z3_6 wl_7_174 hl.1 (rest := []) rfl (Nat.le_of_ble_eq_true rfl) ⟨Nat.le_of_ble_eq_true rfl, Nat.le_of_ble_eq_true rfl⟩ ⟨Nat.le_of_ble_eq_true rfl, Nat.le_of_ble_eq_true rfl⟩ dX12_laySet_36 (fun f17 locs hf17 hS => ?_)
          have B19_148 : ∀ (locs : List Loc) (ls : Array Slot) (z19_2 : Int64) (z19_4 : Int32), va_S (fun q : Nat => base ≤ q) s.heap s.heap locs → lv_has ls 11 [(0, .ref a0), (1, .int x1), (2, .long z19_2), (4, .int z19_4), (5, .int f2), (6, .int z3_6)] → iv (-2147483648) 13 z19_4 → z19_2.toBitVec.toNat < 2 ^ sg_pc 12 x1.toBitVec.toNat → W p l e (headSpec (Cond.code yX12_laySet cX12_laySet 11 none :: sg_tbl) ({ frames := 3, cells := 0, slots := 0, locals := 75 })).room s m #[.ref a0, .int x1] below meth c s.heap locs 0 0 (MQ below (va_Qv (fun (_ : Unit) => True) (fun _ => sgB (KT P) D vwCl base tys ad ks) (fun q : Nat => base ≤ q)) #[.ref a0, .int x1] s 0 0 (fun q : Nat => base ≤ q)) (F0 m 148 ls []) := by
            intro locs ls z19_2 z19_4 hS hl hz19_4 xf19
            obtain ⟨y20, ey20⟩ : ∃ y : Int32, y = z3_6 + Int32.ofInt 1 := ⟨_, rfl⟩
            refine lv_iinc (v := y20) (lv' := [(6, .int y20), (0, .ref a0), (1, .int x1), (2, .long z19_2), (4, .int z19_4), (5, .int f2)]) X.1 X.2.1 dX12_laySet_148 hl (k := 5) rfl ey20.symm (by decide) rfl (fun ls hl => ?_)
            refine lv_goto (tgt := 24) X.1 X.2.1 dX12_laySet_151 (by decide) ?_
            exact ih3 _ _ z19_2 z19_4 y20 hS (lv_sub hl [1, 2, 3, 4, 5, 0] rfl) hz19_4 (iv_of (iv_add (a' := 1) (b' := 12) ey20 (iv_lt (b' := 11) (iv_gt_of c4) hz3_6 hmi (by decide +kernel)) (iv_c _ (a := 1) (b := 1) (by decide +kernel)) (by decide +kernel)) (a' := 0) (b' := 12) (by decide +kernel)) xf19 (iv_stepU ey20 (iv_lt (b' := 11) (iv_gt_of c4) hz3_6 hmi (by decide +kernel)) (by decide +kernel) hN3)
          refine lv_if_ne (tgt := 45) X.1 X.2.1 dX12_laySet_39 (by decide) (fun c18 => ?_) (fun c18 => ?_)
          · have hsq21 : sgHas x1 z3_6 := sg_hast hf17.1 hf17.2 c18
            refine lv_iconst (v := 0) X.1 X.2.1 dX12_laySet_45 (by decide +kernel) ?_
            refine lv_istore (lv' := [(7, .int 0), (0, .ref a0), (1, .int x1), (2, .long z3_2), (4, .int z3_4), (5, .int f2), (6, .int z3_6)]) X.1 X.2.1 dX12_laySet_46 hl (by decide) rfl (fun ls hl => ?_)
            have B23_48 : ∀ (N : Nat) (locs : List Loc) (ls : Array Slot) (z23_2 : Int64) (z23_4 : Int32) (z23_7 : Int32), va_S (fun q : Nat => base ≤ q) s.heap s.heap locs → lv_has ls 11 [(0, .ref a0), (1, .int x1), (2, .long z23_2), (4, .int z23_4), (5, .int f2), (6, .int z3_6), (7, .int z23_7)] → iv (-2147483648) 13 z23_4 → iv 0 2 z23_7 → z23_2.toBitVec.toNat < 2 ^ sg_pc 12 x1.toBitVec.toNat → (3 - z23_7.toInt).toNat ≤ N → W p l e (headSpec (Cond.code yX12_laySet cX12_laySet 11 none :: sg_tbl) ({ frames := 3, cells := 0, slots := 0, locals := 75 })).room s m #[.ref a0, .int x1] below meth c s.heap locs 0 0 (MQ below (va_Qv (fun (_ : Unit) => True) (fun _ => sgB (KT P) D vwCl base tys ad ks) (fun q : Nat => base ≤ q)) #[.ref a0, .int x1] s 0 0 (fun q : Nat => base ≤ q)) (F0 m 48 ls []) := by
              intro N; induction N with
              | zero =>
                intro locs ls z23_2 z23_4 z23_7 hS hl hz23_4 hz23_7 xf23 hN
                exact absurd hN (by have := iv_up hz23_7; omega)
              | succ N ih23 =>
                intro locs ls z23_2 z23_4 z23_7 hS hl hz23_4 hz23_7 xf23 hN23
                refine lv_iload X.1 X.2.1 dX12_laySet_48 (lv_at hl 6 rfl) ?_
                refine lv_iconst (v := 2) X.1 X.2.1 dX12_laySet_50 (by decide +kernel) ?_
                refine lv_icmp_ge (tgt := 148) X.1 X.2.1 dX12_laySet_51 (by decide) (fun c24 => ?_) (fun c24 => ?_)
                · exact B19_148 _ _ z23_2 z23_4 hS (lv_sub hl [0, 1, 2, 3, 4, 5] rfl) hz23_4 xf23
                · refine lv_iconst (v := 1) X.1 X.2.1 dX12_laySet_54 (by decide +kernel) ?_
                  refine lv_istore (lv' := [(8, .int 1), (0, .ref a0), (1, .int x1), (2, .long z23_2), (4, .int z23_4), (5, .int f2), (6, .int z3_6), (7, .int z23_7)]) X.1 X.2.1 dX12_laySet_55 hl (by decide) rfl (fun ls hl => ?_)
                  have B25_57 : ∀ (N : Nat) (locs : List Loc) (ls : Array Slot) (z25_2 : Int64) (z25_4 : Int32) (z25_8 : Int32), va_S (fun q : Nat => base ≤ q) s.heap s.heap locs → lv_has ls 11 [(0, .ref a0), (1, .int x1), (2, .long z25_2), (4, .int z25_4), (5, .int f2), (6, .int z3_6), (7, .int z23_7), (8, .int z25_8)] → iv (-2147483648) 13 z25_4 → iv 1 6 z25_8 → z25_2.toBitVec.toNat < 2 ^ sg_pc 12 x1.toBitVec.toNat → (7 - z25_8.toInt).toNat ≤ N → W p l e (headSpec (Cond.code yX12_laySet cX12_laySet 11 none :: sg_tbl) ({ frames := 3, cells := 0, slots := 0, locals := 75 })).room s m #[.ref a0, .int x1] below meth c s.heap locs 0 0 (MQ below (va_Qv (fun (_ : Unit) => True) (fun _ => sgB (KT P) D vwCl base tys ad ks) (fun q : Nat => base ≤ q)) #[.ref a0, .int x1] s 0 0 (fun q : Nat => base ≤ q)) (F0 m 57 ls []) := by
                    intro N; induction N with
                    | zero =>
                      intro locs ls z25_2 z25_4 z25_8 hS hl hz25_4 hz25_8 xf25 hN
                      exact absurd hN (by have := iv_up hz25_8; omega)
                    | succ N ih25 =>
                      intro locs ls z25_2 z25_4 z25_8 hS hl hz25_4 hz25_8 xf25 hN25
                      refine lv_iload X.1 X.2.1 dX12_laySet_57 (lv_at hl 7 rfl) ?_
                      refine lv_aload_n X.1 X.2.1 dX12_laySet_59 rfl (lv_at hl 0 rfl) ?_
                      refine gf_X12_18 X hK hG h0 wl_6_196 dX12_laySet_60 (fun q26 hq26 kq26 => ?_)
                      refine lv_iconst (v := 3) X.1 X.2.1 dX12_laySet_63 (by decide +kernel) ?_
                      refine sg_ialdE X hK hG hq26 (k := 49) rfl (iv_vpin (iv_c 3 (a := 3) (b := 3) (by decide +kernel)) (by decide +kernel)) (n0 := (3 : Int32).toNatClampNeg) rfl dX12_laySet_64 (fun f27 hf27 kf27 => ?_)
                      have of27 := hf27
                      have hf27 : iv 1 5 f27 := sg_r1 hp4 hf27 (iv_c 3 (a := 3) (b := 3) (by decide +kernel)) (by decide +kernel) rfl
                      have B29_142 : ∀ (locs : List Loc) (ls : Array Slot), va_S (fun q : Nat => base ≤ q) s.heap s.heap locs → lv_has ls 11 [(0, .ref a0), (1, .int x1), (2, .long z25_2), (4, .int z25_4), (5, .int f2), (6, .int z3_6), (7, .int z23_7)] → z25_2.toBitVec.toNat < 2 ^ sg_pc 12 x1.toBitVec.toNat → W p l e (headSpec (Cond.code yX12_laySet cX12_laySet 11 none :: sg_tbl) ({ frames := 3, cells := 0, slots := 0, locals := 75 })).room s m #[.ref a0, .int x1] below meth c s.heap locs 0 0 (MQ below (va_Qv (fun (_ : Unit) => True) (fun _ => sgB (KT P) D vwCl base tys ad ks) (fun q : Nat => base ≤ q)) #[.ref a0, .int x1] s 0 0 (fun q : Nat => base ≤ q)) (F0 m 142 ls []) := by
                        intro locs ls hS hl xf29
                        obtain ⟨y30, ey30⟩ : ∃ y : Int32, y = z23_7 + Int32.ofInt 1 := ⟨_, rfl⟩
                        refine lv_iinc (v := y30) (lv' := [(7, .int y30), (0, .ref a0), (1, .int x1), (2, .long z25_2), (4, .int z25_4), (5, .int f2), (6, .int z3_6)]) X.1 X.2.1 dX12_laySet_142 hl (k := 6) rfl ey30.symm (by decide) rfl (fun ls hl => ?_)
                        refine lv_goto (tgt := 48) X.1 X.2.1 dX12_laySet_145 (by decide) ?_
                        exact ih23 _ _ z25_2 z25_4 y30 hS (lv_sub hl [1, 2, 3, 4, 5, 6, 0] rfl) hz25_4 (iv_of (iv_add (a' := 1) (b' := 2) ey30 (iv_lt (b' := 1) (iv_gt_of c24) hz23_7 (iv_c 2 (a := 2) (b := 2) (by decide +kernel)) (by decide +kernel)) (iv_c _ (a := 1) (b := 1) (by decide +kernel)) (by decide +kernel)) (a' := 0) (b' := 2) (by decide +kernel)) xf25 (iv_stepU ey30 (iv_lt (b' := 1) (iv_gt_of c24) hz23_7 (iv_c 2 (a := 2) (b := 2) (by decide +kernel)) (by decide +kernel)) (by decide +kernel) hN23)
                      refine lv_icmp_gt (tgt := 142) X.1 X.2.1 dX12_laySet_65 (by decide) (fun c28 => ?_) (fun c28 => ?_)
                      · exact B29_142 _ _ hS (lv_sub hl [0, 1, 2, 3, 4, 5, 6] rfl) xf25
                      · refine lv_aload_n X.1 X.2.1 dX12_laySet_68 rfl (lv_at hl 0 rfl) ?_
                        refine lv_iload X.1 X.2.1 dX12_laySet_69 (lv_at hl 4 rfl) ?_
                        refine lv_aload_n X.1 X.2.1 dX12_laySet_71 rfl (lv_at hl 0 rfl) ?_
                        refine gg_X12_44 X hK hG h0 wl_6_222 hq dX12_laySet_72 ?_
                        refine lv_iload X.1 X.2.1 dX12_laySet_75 (lv_at hl 5 rfl) ?_
                        refine sg_ialdE X hK hG hqk (k := 60) rfl (iv_vpin (iv_lt (b' := 11) (iv_gt_of c4) hz3_6 hmi (by decide +kernel)) (by decide +kernel)) (n0 := z3_6.toNatClampNeg) rfl dX12_laySet_77 (fun f31 hf31 kf31 => ?_)
                        have hf31 : iv (-2147483648) 2147483647 f31 := by obtain ⟨y, h1, h2⟩ := hf31; cases h1; exact h2
                        refine lv_iload X.1 X.2.1 dX12_laySet_78 (lv_at hl 6 rfl) ?_
                        refine lv_iload X.1 X.2.1 dX12_laySet_80 (lv_at hl 7 rfl) ?_
                        refine ca_X12_cutBits_p X hK hG hC (fun _ h => h) hS hb hp4 a0 h0 f2 f31 z23_7 z25_8 wl_8_121 hl.1 (rest := []) rfl (Nat.le_of_ble_eq_true rfl) ⟨Nat.le_of_ble_eq_true rfl, Nat.le_of_ble_eq_true rfl⟩ ⟨Nat.le_of_ble_eq_true rfl, Nat.le_of_ble_eq_true rfl⟩ dX12_laySet_82 (fun f32 locs hf32 hS => ?_)
                        refine lv_istore (lv' := [(9, .int f32), (0, .ref a0), (1, .int x1), (2, .long z25_2), (4, .int z25_4), (5, .int f2), (6, .int z3_6), (7, .int z23_7), (8, .int z25_8)]) X.1 X.2.1 dX12_laySet_85 hl (by decide) rfl (fun ls hl => ?_)
                        refine lv_iload X.1 X.2.1 dX12_laySet_87 (lv_at hl 0 rfl) ?_
                        refine lv_iconst (v := (-1)) X.1 X.2.1 dX12_laySet_89 (by decide +kernel) ?_
                        refine lv_icmp_ne (tgt := 96) X.1 X.2.1 dX12_laySet_90 (by decide) (fun c33 => ?_) (fun c33 => ?_)
                        · refine lv_iload_n X.1 X.2.1 dX12_laySet_96 rfl (lv_at hl 2 rfl) ?_
                          refine lv_aload_n X.1 X.2.1 dX12_laySet_97 rfl (lv_at hl 1 rfl) ?_
                          refine lv_iload X.1 X.2.1 dX12_laySet_98 (lv_at hl 0 rfl) ?_
                          refine ca_X12_gathered_p X hK hG hC (fun _ h => h) hS hb a0 h0 f32 qr mm F hqk hq hmi hm hF wl_9_67 hl.1 (rest := [.int x1]) rfl (Nat.le_of_ble_eq_true rfl) ⟨Nat.le_of_ble_eq_true rfl, Nat.le_of_ble_eq_true rfl⟩ ⟨Nat.le_of_ble_eq_true rfl, Nat.le_of_ble_eq_true rfl⟩ dX12_laySet_100 (fun f34 locs hf34 hS => ?_)
                          refine lv_iconst (v := (-1)) X.1 X.2.1 dX12_laySet_103 (by decide +kernel) ?_
                          refine lv_ixor X.1 X.2.1 dX12_laySet_104 ?_
                          refine lv_topi (fun f35 ef35 => ?_)
                          refine lv_iand X.1 X.2.1 dX12_laySet_105 ?_
                          refine lv_topi (fun f36 ef36 => ?_)
                          refine lv_istore (lv' := [(10, .int f36), (9, .int f32), (0, .ref a0), (1, .int x1), (2, .long z25_2), (4, .int z25_4), (5, .int f2), (6, .int z3_6), (7, .int z23_7), (8, .int z25_8)]) X.1 X.2.1 dX12_laySet_106 hl (by decide) rfl (fun ls hl => ?_)
                          refine lv_lload_n X.1 X.2.1 dX12_laySet_108 rfl (lv_at hl 4 rfl) ?_
                          refine lv_lconst (v := 1) X.1 X.2.1 dX12_laySet_109 (by decide +kernel) ?_
                          refine lv_aload_n X.1 X.2.1 dX12_laySet_110 rfl (lv_at hl 2 rfl) ?_
                          refine gf_X12_45 X hK hG h0 wl_6_223 dX12_laySet_111 (fun q37 hq37 kq37 => ?_)
                          refine lv_iload X.1 X.2.1 dX12_laySet_114 (lv_at hl 0 rfl) ?_
                          refine sg_ialdE X hK hG hq37 (k := 61) rfl (iv_vpin (iv_and' (b' := 4095) ef36 (iv_ne_lo (a' := 1) c1 h1 (by decide +kernel)) (by decide +kernel)) (by decide +kernel)) (n0 := f36.toNatClampNeg) rfl dX12_laySet_116 (fun f38 hf38 kf38 => ?_)
                          have of38 := hf38
                          have hf38 : iv 0 12 f38 := sg_sums hf38
                          obtain ⟨g39, eg39⟩ : ∃ y : Int64, y = (1 : Int64) <<< ((f38 : Int32).toInt64 &&& 63) := ⟨_, rfl⟩
                          refine lv_lshl (v := g39) X.1 X.2.1 dX12_laySet_117 eg39.symm ?_
                          refine lv_lor X.1 X.2.1 dX12_laySet_118 ?_
                          refine lv_topl (fun g40 eg40 => ?_)
                          have hFk : F z3_6.toInt.toNat = f31 := ele_fun (hF z3_6.toInt.toNat (by have := ((iv_lt (b' := 11) (iv_gt_of c4) hz3_6 hmi (by decide +kernel))).2; omega)) kf31
                          have hcut : sgHas f32 f31 := hf32 c33
                          have hkm : (z3_6.toInt.toNat : Int) < mm.toInt := by have h1 := Int32.lt_iff_toInt_lt.mp (iv_gt_of c4); have := ((iv_lt (b' := 11) (iv_gt_of c4) hz3_6 hmi (by decide +kernel))).1; omega
                          have hgk : sgHas f34 z3_6 := by have h1 := hf34.2 z3_6.toInt.toNat hkm (by rw [hFk]; exact hcut); rwa [ofNat_clamp ((iv_lt (b' := 11) (iv_gt_of c4) hz3_6 hmi (by decide +kernel))).1 (by have := ((iv_lt (b' := 11) (iv_gt_of c4) hz3_6 hmi (by decide +kernel))).1; omega)] at h1
                          have hlt := left_lt (t := x1) (iv_lt (b' := 11) (iv_gt_of c4) hz3_6 hmi (by decide +kernel)) (by assumption) hgk ef35 ef36
                          have hsl := sum_le of38 (iv_and' (b' := 4095) ef36 (iv_ne_lo (a' := 1) c1 h1 (by decide +kernel)) (by decide +kernel))
                          have hse : g40.toBitVec.toNat < 2 ^ sg_pc 12 x1.toBitVec.toNat := seen_step xf25 hf38 (by omega) eg39 eg40
                          refine lv_lstore_n (lv' := [(2, .long g40), (10, .int f36), (9, .int f32), (0, .ref a0), (1, .int x1), (4, .int z25_4), (5, .int f2), (6, .int z3_6), (7, .int z23_7), (8, .int z25_8)]) X.1 X.2.1 dX12_laySet_119 rfl hl (by decide) rfl (fun ls hl => ?_)
                          refine lv_iload X.1 X.2.1 dX12_laySet_120 (lv_at hl 5 rfl) ?_
                          refine lv_aload_n X.1 X.2.1 dX12_laySet_122 rfl (lv_at hl 3 rfl) ?_
                          refine gf_X12_46 X hK hG h0 wl_6_224 dX12_laySet_123 (fun q41 hq41 kq41 => ?_)
                          refine lv_iload X.1 X.2.1 dX12_laySet_126 (lv_at hl 1 rfl) ?_
                          refine sg_ialdE X hK hG hq41 (k := 62) rfl (iv_vpin (iv_and' (b' := 4095) ef36 (iv_ne_lo (a' := 1) c1 h1 (by decide +kernel)) (by decide +kernel)) (by decide +kernel)) (n0 := f36.toNatClampNeg) rfl dX12_laySet_128 (fun f42 hf42 kf42 => ?_)
                          have hf42 : iv (-2147483648) 2147483647 f42 := by obtain ⟨y, h1, h2⟩ := hf42; cases h1; exact h2
                          refine lv_iconst (v := 1) X.1 X.2.1 dX12_laySet_129 (by decide +kernel) ?_
                          refine lv_iadd X.1 X.2.1 dX12_laySet_130 ?_
                          refine lv_topi (fun f43 ef43 => ?_)
                          refine va_mmin X.1 X.2.1 (X.2.2.1.trans hl.1.symm) X.2.2.2.1 (X.2.2.2.2 _ wl_9_71) (X.2.2.2.2 _ wl_3_64) (X.2.2.2.2 _ wl_1_15) (X.2.2.2.2 _ wl_3_65) (Nat.le_of_ble_eq_true rfl) (Nat.le_of_ble_eq_true rfl) (Nat.le_of_ble_eq_true rfl) (Nat.le_of_ble_eq_true rfl) dX12_laySet_131 ?_
                          refine lv_topi (fun f44 ef44 => ?_)
                          refine lv_istore (lv' := [(4, .int f44), (2, .long g40), (10, .int f36), (9, .int f32), (0, .ref a0), (1, .int x1), (5, .int f2), (6, .int z3_6), (7, .int z23_7), (8, .int z25_8)]) X.1 X.2.1 dX12_laySet_134 hl (by decide) rfl (fun ls hl => ?_)
                          obtain ⟨y45, ey45⟩ : ∃ y : Int32, y = z25_8 + Int32.ofInt 1 := ⟨_, rfl⟩
                          refine lv_iinc (v := y45) (lv' := [(8, .int y45), (4, .int f44), (2, .long g40), (10, .int f36), (9, .int f32), (0, .ref a0), (1, .int x1), (5, .int f2), (6, .int z3_6), (7, .int z23_7)]) X.1 X.2.1 dX12_laySet_136 hl (k := 9) rfl ey45.symm (by decide) rfl (fun ls hl => ?_)
                          refine lv_goto (tgt := 57) X.1 X.2.1 dX12_laySet_139 (by decide) ?_
                          exact ih25 _ _ g40 f44 y45 hS (lv_sub hl [5, 6, 2, 1, 7, 8, 9, 0] rfl) (iv_min (a' := (-2147483648)) (b' := 13) ef44 hz25_4 (iv_top f43) (by decide +kernel)) (iv_of (iv_add (a' := 2) (b' := 6) ey45 (iv_le (b' := 5) (iv_ge_of c28) hz25_8 hf27 (by decide +kernel)) (iv_c _ (a := 1) (b := 1) (by decide +kernel)) (by decide +kernel)) (a' := 1) (b' := 6) (by decide +kernel)) hse (iv_stepU ey45 (iv_le (b' := 5) (iv_ge_of c28) hz25_8 hf27 (by decide +kernel)) (by decide +kernel) hN25)
                        · refine lv_goto (tgt := 142) X.1 X.2.1 dX12_laySet_93 (by decide) ?_
                          exact B29_142 _ _ hS (lv_sub hl [1, 2, 3, 4, 5, 6, 7] rfl) xf25
                  exact B25_57 _ _ _ z23_2 z23_4 1 hS (lv_sub hl [1, 2, 3, 4, 5, 6, 7, 0] rfl) hz23_4 (iv_of (iv_c 1 (a := 1) (b := 1) (by decide +kernel)) (a' := 1) (b' := 6) (by decide +kernel)) xf23 (Nat.le_refl _)
            exact B23_48 _ _ _ z3_2 z3_4 0 hS (lv_sub hl [1, 2, 3, 4, 5, 6, 0] rfl) hz3_4 (iv_of (iv_c 0 (a := 0) (b := 0) (by decide +kernel)) (a' := 0) (b' := 2) (by decide +kernel)) xf3 (Nat.le_refl _)
          · have hsq22 : ¬ sgHas x1 z3_6 := sg_hasf hf17.1 hf17.2 c18
            refine lv_goto (tgt := 148) X.1 X.2.1 dX12_laySet_42 (by decide) ?_
            exact B19_148 _ _ z3_2 z3_4 hS (lv_sub hl [0, 1, 2, 3, 4, 5] rfl) hz3_4 xf3
    exact B3_24 _ _ _ 0 13 0 hS (lv_sub hl [4, 5, 3, 2, 1, 0] rfl) (iv_of (iv_c 13 (a := 13) (b := 13) (by decide +kernel)) (a' := (-2147483648)) (b' := 13) (by decide +kernel)) (iv_of (iv_c 0 (a := 0) (b := 0) (by decide +kernel)) (a' := 0) (b' := 12) (by decide +kernel)) hs0 (Nat.le_refl _)
  · refine lv_iconst (v := 0) X.1 X.2.1 dX12_laySet_6 (by decide +kernel) ?_
    refine lv_goto (tgt := 12) X.1 X.2.1 dX12_laySet_7 (by decide) ?_
    refine lv_istore (lv' := [(4, .int 0), (2, .long 0), (0, .ref a0), (1, .int x1)]) X.1 X.2.1 dX12_laySet_12 hl (by decide) rfl (fun ls hl => ?_)
    refine lv_aload_n X.1 X.2.1 dX12_laySet_14 rfl (lv_at hl 2 rfl) ?_
    refine lv_iload_n X.1 X.2.1 dX12_laySet_15 rfl (lv_at hl 3 rfl) ?_
    refine ca_X12_spread X hK hG hC (fun _ h => h) hS hb a0 h0 x1 wl_9_63 hl.1 (rest := []) rfl (Nat.le_of_ble_eq_true rfl) ⟨Nat.le_of_ble_eq_true rfl, Nat.le_of_ble_eq_true rfl⟩ ⟨Nat.le_of_ble_eq_true rfl, Nat.le_of_ble_eq_true rfl⟩ dX12_laySet_16 (fun f46 locs hf46 hS => ?_)
    refine lv_istore (lv' := [(5, .int f46), (4, .int 0), (2, .long 0), (0, .ref a0), (1, .int x1)]) X.1 X.2.1 dX12_laySet_19 hl (by decide) rfl (fun ls hl => ?_)
    refine lv_iconst (v := 0) X.1 X.2.1 dX12_laySet_21 (by decide +kernel) ?_
    refine lv_istore (lv' := [(6, .int 0), (5, .int f46), (4, .int 0), (2, .long 0), (0, .ref a0), (1, .int x1)]) X.1 X.2.1 dX12_laySet_22 hl (by decide) rfl (fun ls hl => ?_)
    have B47_24 : ∀ (N : Nat) (locs : List Loc) (ls : Array Slot) (z47_2 : Int64) (z47_4 : Int32) (z47_6 : Int32), va_S (fun q : Nat => base ≤ q) s.heap s.heap locs → lv_has ls 11 [(0, .ref a0), (1, .int x1), (2, .long z47_2), (4, .int z47_4), (5, .int f46), (6, .int z47_6)] → iv (-2147483648) 13 z47_4 → iv 0 12 z47_6 → z47_2.toBitVec.toNat < 2 ^ sg_pc 12 x1.toBitVec.toNat → (13 - z47_6.toInt).toNat ≤ N → W p l e (headSpec (Cond.code yX12_laySet cX12_laySet 11 none :: sg_tbl) ({ frames := 3, cells := 0, slots := 0, locals := 75 })).room s m #[.ref a0, .int x1] below meth c s.heap locs 0 0 (MQ below (va_Qv (fun (_ : Unit) => True) (fun _ => sgB (KT P) D vwCl base tys ad ks) (fun q : Nat => base ≤ q)) #[.ref a0, .int x1] s 0 0 (fun q : Nat => base ≤ q)) (F0 m 24 ls []) := by
      intro N; induction N with
      | zero =>
        intro locs ls z47_2 z47_4 z47_6 hS hl hz47_4 hz47_6 xf47 hN
        exact absurd hN (by have := iv_up hz47_6; omega)
      | succ N ih47 =>
        intro locs ls z47_2 z47_4 z47_6 hS hl hz47_4 hz47_6 xf47 hN47
        refine lv_iload X.1 X.2.1 dX12_laySet_24 (lv_at hl 5 rfl) ?_
        refine lv_aload_n X.1 X.2.1 dX12_laySet_26 rfl (lv_at hl 0 rfl) ?_
        refine gg_X12_47 X hK hG h0 wl_6_225 hm dX12_laySet_27 ?_
        refine lv_icmp_ge (tgt := 154) X.1 X.2.1 dX12_laySet_30 (by decide) (fun c48 => ?_) (fun c48 => ?_)
        · refine lv_iconst (v := 0) X.1 X.2.1 dX12_laySet_154 (by decide +kernel) ?_
          refine lv_istore (lv' := [(6, .int 0), (0, .ref a0), (1, .int x1), (2, .long z47_2), (4, .int z47_4), (5, .int f46)]) X.1 X.2.1 dX12_laySet_155 hl (by decide) rfl (fun ls hl => ?_)
          have B49_157 : ∀ (N : Nat) (locs : List Loc) (ls : Array Slot) (z49_6 : Int32), va_S (fun q : Nat => base ≤ q) s.heap s.heap locs → lv_has ls 11 [(0, .ref a0), (1, .int x1), (2, .long z47_2), (4, .int z47_4), (6, .int z49_6)] → iv 0 12 z49_6 → z49_6.toInt ≤ (sg_pc 12 x1.toBitVec.toNat : Int) → (13 - z49_6.toInt).toNat ≤ N → W p l e (headSpec (Cond.code yX12_laySet cX12_laySet 11 none :: sg_tbl) ({ frames := 3, cells := 0, slots := 0, locals := 75 })).room s m #[.ref a0, .int x1] below meth c s.heap locs 0 0 (MQ below (va_Qv (fun (_ : Unit) => True) (fun _ => sgB (KT P) D vwCl base tys ad ks) (fun q : Nat => base ≤ q)) #[.ref a0, .int x1] s 0 0 (fun q : Nat => base ≤ q)) (F0 m 157 ls []) := by
            intro N; induction N with
            | zero =>
              intro locs ls z49_6 hS hl hz49_6 xf49 hN
              exact absurd hN (by have := iv_up hz49_6; omega)
            | succ N ih49 =>
              intro locs ls z49_6 hS hl hz49_6 xf49 hN49
              refine lv_lload_n X.1 X.2.1 dX12_laySet_157 rfl (lv_at hl 2 rfl) ?_
              refine lv_iload X.1 X.2.1 dX12_laySet_158 (lv_at hl 4 rfl) ?_
              obtain ⟨g50, eg50⟩ : ∃ y : Int64, y = (z47_2 : Int64) >>> ((z49_6 : Int32).toInt64 &&& 63) := ⟨_, rfl⟩
              refine lv_lshr (v := g50) X.1 X.2.1 dX12_laySet_160 eg50.symm ?_
              refine lv_lconst (v := 1) X.1 X.2.1 dX12_laySet_161 (by decide +kernel) ?_
              refine lv_land X.1 X.2.1 dX12_laySet_162 ?_
              refine lv_topl (fun g51 eg51 => ?_)
              refine lv_lconst (v := 1) X.1 X.2.1 dX12_laySet_163 (by decide +kernel) ?_
              refine W.lcmp X.1 X.2.1 dX12_laySet_164 ?_
              refine lv_topi (fun f52 ef52 => ?_)
              refine lv_if_ne (tgt := 174) X.1 X.2.1 dX12_laySet_165 (by decide) (fun c53 => ?_) (fun c53 => ?_)
              · refine lv_aload_n X.1 X.2.1 dX12_laySet_174 rfl (lv_at hl 0 rfl) ?_
                refine gf_X12_45 X hK hG h0 wl_6_223 dX12_laySet_175 (fun q54 hq54 kq54 => ?_)
                refine lv_iload_n X.1 X.2.1 dX12_laySet_178 rfl (lv_at hl 1 rfl) ?_
                refine lv_iload X.1 X.2.1 dX12_laySet_179 (lv_at hl 4 rfl) ?_
                refine as_61 X hK hG hS hq54 (iv_vpin (iv_eqm (a' := 0) (b' := 0) c1 h1 (iv_c 0 (a := 0) (b := 0) (by decide +kernel)) (by decide +kernel)) (by decide +kernel)) (sum_ok (iv_of (iv_eqm (a' := 0) (b' := 0) c1 h1 (iv_c 0 (a := 0) (b := 0) (by decide +kernel)) (by decide +kernel)) (a' := 0) (b' := 4095) (by decide +kernel)) (hz49_6).1 xf49) dX12_laySet_181 (fun H locs hG hS ru55 => ?_)
                refine lv_aload_n X.1 X.2.1 dX12_laySet_182 rfl (lv_at hl 0 rfl) ?_
                refine gf_X12_46 X hK hG h0 wl_6_224 dX12_laySet_183 (fun q56 hq56 kq56 => ?_)
                refine lv_iload_n X.1 X.2.1 dX12_laySet_186 rfl (lv_at hl 1 rfl) ?_
                refine lv_iload X.1 X.2.1 dX12_laySet_187 (lv_at hl 3 rfl) ?_
                refine as_62 X hK hG hS hq56 (iv_vpin (iv_eqm (a' := 0) (b' := 0) c1 h1 (iv_c 0 (a := 0) (b := 0) (by decide +kernel)) (by decide +kernel)) (by decide +kernel)) ⟨_, rfl, (iv_top _)⟩ dX12_laySet_189 (fun H locs hG hS ru57 => ?_)
                exact sg_vret X hr hlk hb hK hC hG hS dX12_laySet_190
              · obtain ⟨y58, ey58⟩ : ∃ y : Int32, y = z49_6 + Int32.ofInt 1 := ⟨_, rfl⟩
                refine lv_iinc (v := y58) (lv' := [(6, .int y58), (0, .ref a0), (1, .int x1), (2, .long z47_2), (4, .int z47_4)]) X.1 X.2.1 dX12_laySet_168 hl (k := 4) rfl ey58.symm (by decide) rfl (fun ls hl => ?_)
                refine lv_goto (tgt := 157) X.1 X.2.1 dX12_laySet_171 (by decide) ?_
                have bq59 : 0 ≤ z49_6.toInt ∧ z49_6.toInt ≤ 12 := hz49_6
                have xy58 : y58.toInt = z49_6.toInt + 1 := sg_inc (k := 1) ey58 hz49_6 (by decide +kernel)
                have hp12 := sg_pc_le x1.toBitVec.toNat 12
                have hbt := seen_bit xf47 (sg_pc_le x1.toBitVec.toNat 12) hz49_6 eg50 eg51 ef52 c53
                exact ih49 _ _ y58 hS (lv_sub hl [1, 2, 3, 4, 0] rfl) ⟨by omega, by omega⟩ (by omega) (iv_stepU ey58 hz49_6 (by decide +kernel) hN49)
          have cq60 : (0 : Int32).toInt = 0 := by decide +kernel
          have hp12 := sg_pc_le x1.toBitVec.toNat 12
          exact B49_157 _ _ _ 0 hS (lv_sub hl [1, 2, 3, 4, 0] rfl) (iv_of (iv_c 0 (a := 0) (b := 0) (by decide +kernel)) (a' := 0) (b' := 12) (by decide +kernel)) (by omega) (Nat.le_refl _)
        · refine lv_iload_n X.1 X.2.1 dX12_laySet_33 rfl (lv_at hl 1 rfl) ?_
          refine lv_iload X.1 X.2.1 dX12_laySet_34 (lv_at hl 5 rfl) ?_
          refine ca_X12_has_h X hK hG hC (fun _ h => h) hS hb x1 z47_6 wl_7_174 hl.1 (rest := []) rfl (Nat.le_of_ble_eq_true rfl) ⟨Nat.le_of_ble_eq_true rfl, Nat.le_of_ble_eq_true rfl⟩ ⟨Nat.le_of_ble_eq_true rfl, Nat.le_of_ble_eq_true rfl⟩ dX12_laySet_36 (fun f61 locs hf61 hS => ?_)
          have B63_148 : ∀ (locs : List Loc) (ls : Array Slot) (z63_2 : Int64) (z63_4 : Int32), va_S (fun q : Nat => base ≤ q) s.heap s.heap locs → lv_has ls 11 [(0, .ref a0), (1, .int x1), (2, .long z63_2), (4, .int z63_4), (5, .int f46), (6, .int z47_6)] → iv (-2147483648) 13 z63_4 → z63_2.toBitVec.toNat < 2 ^ sg_pc 12 x1.toBitVec.toNat → W p l e (headSpec (Cond.code yX12_laySet cX12_laySet 11 none :: sg_tbl) ({ frames := 3, cells := 0, slots := 0, locals := 75 })).room s m #[.ref a0, .int x1] below meth c s.heap locs 0 0 (MQ below (va_Qv (fun (_ : Unit) => True) (fun _ => sgB (KT P) D vwCl base tys ad ks) (fun q : Nat => base ≤ q)) #[.ref a0, .int x1] s 0 0 (fun q : Nat => base ≤ q)) (F0 m 148 ls []) := by
            intro locs ls z63_2 z63_4 hS hl hz63_4 xf63
            obtain ⟨y64, ey64⟩ : ∃ y : Int32, y = z47_6 + Int32.ofInt 1 := ⟨_, rfl⟩
            refine lv_iinc (v := y64) (lv' := [(6, .int y64), (0, .ref a0), (1, .int x1), (2, .long z63_2), (4, .int z63_4), (5, .int f46)]) X.1 X.2.1 dX12_laySet_148 hl (k := 5) rfl ey64.symm (by decide) rfl (fun ls hl => ?_)
            refine lv_goto (tgt := 24) X.1 X.2.1 dX12_laySet_151 (by decide) ?_
            exact ih47 _ _ z63_2 z63_4 y64 hS (lv_sub hl [1, 2, 3, 4, 5, 0] rfl) hz63_4 (iv_of (iv_add (a' := 1) (b' := 12) ey64 (iv_lt (b' := 11) (iv_gt_of c48) hz47_6 hmi (by decide +kernel)) (iv_c _ (a := 1) (b := 1) (by decide +kernel)) (by decide +kernel)) (a' := 0) (b' := 12) (by decide +kernel)) xf63 (iv_stepU ey64 (iv_lt (b' := 11) (iv_gt_of c48) hz47_6 hmi (by decide +kernel)) (by decide +kernel) hN47)
          refine lv_if_ne (tgt := 45) X.1 X.2.1 dX12_laySet_39 (by decide) (fun c62 => ?_) (fun c62 => ?_)
          · have hsq65 : sgHas x1 z47_6 := sg_hast hf61.1 hf61.2 c62
            refine lv_iconst (v := 0) X.1 X.2.1 dX12_laySet_45 (by decide +kernel) ?_
            refine lv_istore (lv' := [(7, .int 0), (0, .ref a0), (1, .int x1), (2, .long z47_2), (4, .int z47_4), (5, .int f46), (6, .int z47_6)]) X.1 X.2.1 dX12_laySet_46 hl (by decide) rfl (fun ls hl => ?_)
            have B67_48 : ∀ (N : Nat) (locs : List Loc) (ls : Array Slot) (z67_2 : Int64) (z67_4 : Int32) (z67_7 : Int32), va_S (fun q : Nat => base ≤ q) s.heap s.heap locs → lv_has ls 11 [(0, .ref a0), (1, .int x1), (2, .long z67_2), (4, .int z67_4), (5, .int f46), (6, .int z47_6), (7, .int z67_7)] → iv (-2147483648) 13 z67_4 → iv 0 2 z67_7 → z67_2.toBitVec.toNat < 2 ^ sg_pc 12 x1.toBitVec.toNat → (3 - z67_7.toInt).toNat ≤ N → W p l e (headSpec (Cond.code yX12_laySet cX12_laySet 11 none :: sg_tbl) ({ frames := 3, cells := 0, slots := 0, locals := 75 })).room s m #[.ref a0, .int x1] below meth c s.heap locs 0 0 (MQ below (va_Qv (fun (_ : Unit) => True) (fun _ => sgB (KT P) D vwCl base tys ad ks) (fun q : Nat => base ≤ q)) #[.ref a0, .int x1] s 0 0 (fun q : Nat => base ≤ q)) (F0 m 48 ls []) := by
              intro N; induction N with
              | zero =>
                intro locs ls z67_2 z67_4 z67_7 hS hl hz67_4 hz67_7 xf67 hN
                exact absurd hN (by have := iv_up hz67_7; omega)
              | succ N ih67 =>
                intro locs ls z67_2 z67_4 z67_7 hS hl hz67_4 hz67_7 xf67 hN67
                refine lv_iload X.1 X.2.1 dX12_laySet_48 (lv_at hl 6 rfl) ?_
                refine lv_iconst (v := 2) X.1 X.2.1 dX12_laySet_50 (by decide +kernel) ?_
                refine lv_icmp_ge (tgt := 148) X.1 X.2.1 dX12_laySet_51 (by decide) (fun c68 => ?_) (fun c68 => ?_)
                · exact B63_148 _ _ z67_2 z67_4 hS (lv_sub hl [0, 1, 2, 3, 4, 5] rfl) hz67_4 xf67
                · refine lv_iconst (v := 1) X.1 X.2.1 dX12_laySet_54 (by decide +kernel) ?_
                  refine lv_istore (lv' := [(8, .int 1), (0, .ref a0), (1, .int x1), (2, .long z67_2), (4, .int z67_4), (5, .int f46), (6, .int z47_6), (7, .int z67_7)]) X.1 X.2.1 dX12_laySet_55 hl (by decide) rfl (fun ls hl => ?_)
                  have B69_57 : ∀ (N : Nat) (locs : List Loc) (ls : Array Slot) (z69_2 : Int64) (z69_4 : Int32) (z69_8 : Int32), va_S (fun q : Nat => base ≤ q) s.heap s.heap locs → lv_has ls 11 [(0, .ref a0), (1, .int x1), (2, .long z69_2), (4, .int z69_4), (5, .int f46), (6, .int z47_6), (7, .int z67_7), (8, .int z69_8)] → iv (-2147483648) 13 z69_4 → iv 1 6 z69_8 → z69_2.toBitVec.toNat < 2 ^ sg_pc 12 x1.toBitVec.toNat → (7 - z69_8.toInt).toNat ≤ N → W p l e (headSpec (Cond.code yX12_laySet cX12_laySet 11 none :: sg_tbl) ({ frames := 3, cells := 0, slots := 0, locals := 75 })).room s m #[.ref a0, .int x1] below meth c s.heap locs 0 0 (MQ below (va_Qv (fun (_ : Unit) => True) (fun _ => sgB (KT P) D vwCl base tys ad ks) (fun q : Nat => base ≤ q)) #[.ref a0, .int x1] s 0 0 (fun q : Nat => base ≤ q)) (F0 m 57 ls []) := by
                    intro N; induction N with
                    | zero =>
                      intro locs ls z69_2 z69_4 z69_8 hS hl hz69_4 hz69_8 xf69 hN
                      exact absurd hN (by have := iv_up hz69_8; omega)
                    | succ N ih69 =>
                      intro locs ls z69_2 z69_4 z69_8 hS hl hz69_4 hz69_8 xf69 hN69
                      refine lv_iload X.1 X.2.1 dX12_laySet_57 (lv_at hl 7 rfl) ?_
                      refine lv_aload_n X.1 X.2.1 dX12_laySet_59 rfl (lv_at hl 0 rfl) ?_
                      refine gf_X12_18 X hK hG h0 wl_6_196 dX12_laySet_60 (fun q70 hq70 kq70 => ?_)
                      refine lv_iconst (v := 3) X.1 X.2.1 dX12_laySet_63 (by decide +kernel) ?_
                      refine sg_ialdE X hK hG hq70 (k := 49) rfl (iv_vpin (iv_c 3 (a := 3) (b := 3) (by decide +kernel)) (by decide +kernel)) (n0 := (3 : Int32).toNatClampNeg) rfl dX12_laySet_64 (fun f71 hf71 kf71 => ?_)
                      have of71 := hf71
                      have hf71 : iv 1 5 f71 := sg_r1 hp4 hf71 (iv_c 3 (a := 3) (b := 3) (by decide +kernel)) (by decide +kernel) rfl
                      have B73_142 : ∀ (locs : List Loc) (ls : Array Slot), va_S (fun q : Nat => base ≤ q) s.heap s.heap locs → lv_has ls 11 [(0, .ref a0), (1, .int x1), (2, .long z69_2), (4, .int z69_4), (5, .int f46), (6, .int z47_6), (7, .int z67_7)] → z69_2.toBitVec.toNat < 2 ^ sg_pc 12 x1.toBitVec.toNat → W p l e (headSpec (Cond.code yX12_laySet cX12_laySet 11 none :: sg_tbl) ({ frames := 3, cells := 0, slots := 0, locals := 75 })).room s m #[.ref a0, .int x1] below meth c s.heap locs 0 0 (MQ below (va_Qv (fun (_ : Unit) => True) (fun _ => sgB (KT P) D vwCl base tys ad ks) (fun q : Nat => base ≤ q)) #[.ref a0, .int x1] s 0 0 (fun q : Nat => base ≤ q)) (F0 m 142 ls []) := by
                        intro locs ls hS hl xf73
                        obtain ⟨y74, ey74⟩ : ∃ y : Int32, y = z67_7 + Int32.ofInt 1 := ⟨_, rfl⟩
                        refine lv_iinc (v := y74) (lv' := [(7, .int y74), (0, .ref a0), (1, .int x1), (2, .long z69_2), (4, .int z69_4), (5, .int f46), (6, .int z47_6)]) X.1 X.2.1 dX12_laySet_142 hl (k := 6) rfl ey74.symm (by decide) rfl (fun ls hl => ?_)
                        refine lv_goto (tgt := 48) X.1 X.2.1 dX12_laySet_145 (by decide) ?_
                        exact ih67 _ _ z69_2 z69_4 y74 hS (lv_sub hl [1, 2, 3, 4, 5, 6, 0] rfl) hz69_4 (iv_of (iv_add (a' := 1) (b' := 2) ey74 (iv_lt (b' := 1) (iv_gt_of c68) hz67_7 (iv_c 2 (a := 2) (b := 2) (by decide +kernel)) (by decide +kernel)) (iv_c _ (a := 1) (b := 1) (by decide +kernel)) (by decide +kernel)) (a' := 0) (b' := 2) (by decide +kernel)) xf69 (iv_stepU ey74 (iv_lt (b' := 1) (iv_gt_of c68) hz67_7 (iv_c 2 (a := 2) (b := 2) (by decide +kernel)) (by decide +kernel)) (by decide +kernel) hN67)
                      refine lv_icmp_gt (tgt := 142) X.1 X.2.1 dX12_laySet_65 (by decide) (fun c72 => ?_) (fun c72 => ?_)
                      · exact B73_142 _ _ hS (lv_sub hl [0, 1, 2, 3, 4, 5, 6] rfl) xf69
                      · refine lv_aload_n X.1 X.2.1 dX12_laySet_68 rfl (lv_at hl 0 rfl) ?_
                        refine lv_iload X.1 X.2.1 dX12_laySet_69 (lv_at hl 4 rfl) ?_
                        refine lv_aload_n X.1 X.2.1 dX12_laySet_71 rfl (lv_at hl 0 rfl) ?_
                        refine gg_X12_44 X hK hG h0 wl_6_222 hq dX12_laySet_72 ?_
                        refine lv_iload X.1 X.2.1 dX12_laySet_75 (lv_at hl 5 rfl) ?_
                        refine sg_ialdE X hK hG hqk (k := 60) rfl (iv_vpin (iv_lt (b' := 11) (iv_gt_of c48) hz47_6 hmi (by decide +kernel)) (by decide +kernel)) (n0 := z47_6.toNatClampNeg) rfl dX12_laySet_77 (fun f75 hf75 kf75 => ?_)
                        have hf75 : iv (-2147483648) 2147483647 f75 := by obtain ⟨y, h1, h2⟩ := hf75; cases h1; exact h2
                        refine lv_iload X.1 X.2.1 dX12_laySet_78 (lv_at hl 6 rfl) ?_
                        refine lv_iload X.1 X.2.1 dX12_laySet_80 (lv_at hl 7 rfl) ?_
                        refine ca_X12_cutBits_p X hK hG hC (fun _ h => h) hS hb hp4 a0 h0 f46 f75 z67_7 z69_8 wl_8_121 hl.1 (rest := []) rfl (Nat.le_of_ble_eq_true rfl) ⟨Nat.le_of_ble_eq_true rfl, Nat.le_of_ble_eq_true rfl⟩ ⟨Nat.le_of_ble_eq_true rfl, Nat.le_of_ble_eq_true rfl⟩ dX12_laySet_82 (fun f76 locs hf76 hS => ?_)
                        refine lv_istore (lv' := [(9, .int f76), (0, .ref a0), (1, .int x1), (2, .long z69_2), (4, .int z69_4), (5, .int f46), (6, .int z47_6), (7, .int z67_7), (8, .int z69_8)]) X.1 X.2.1 dX12_laySet_85 hl (by decide) rfl (fun ls hl => ?_)
                        refine lv_iload X.1 X.2.1 dX12_laySet_87 (lv_at hl 0 rfl) ?_
                        refine lv_iconst (v := (-1)) X.1 X.2.1 dX12_laySet_89 (by decide +kernel) ?_
                        refine lv_icmp_ne (tgt := 96) X.1 X.2.1 dX12_laySet_90 (by decide) (fun c77 => ?_) (fun c77 => ?_)
                        · refine lv_iload_n X.1 X.2.1 dX12_laySet_96 rfl (lv_at hl 2 rfl) ?_
                          refine lv_aload_n X.1 X.2.1 dX12_laySet_97 rfl (lv_at hl 1 rfl) ?_
                          refine lv_iload X.1 X.2.1 dX12_laySet_98 (lv_at hl 0 rfl) ?_
                          refine ca_X12_gathered_p X hK hG hC (fun _ h => h) hS hb a0 h0 f76 qr mm F hqk hq hmi hm hF wl_9_67 hl.1 (rest := [.int x1]) rfl (Nat.le_of_ble_eq_true rfl) ⟨Nat.le_of_ble_eq_true rfl, Nat.le_of_ble_eq_true rfl⟩ ⟨Nat.le_of_ble_eq_true rfl, Nat.le_of_ble_eq_true rfl⟩ dX12_laySet_100 (fun f78 locs hf78 hS => ?_)
                          refine lv_iconst (v := (-1)) X.1 X.2.1 dX12_laySet_103 (by decide +kernel) ?_
                          refine lv_ixor X.1 X.2.1 dX12_laySet_104 ?_
                          refine lv_topi (fun f79 ef79 => ?_)
                          refine lv_iand X.1 X.2.1 dX12_laySet_105 ?_
                          refine lv_topi (fun f80 ef80 => ?_)
                          refine lv_istore (lv' := [(10, .int f80), (9, .int f76), (0, .ref a0), (1, .int x1), (2, .long z69_2), (4, .int z69_4), (5, .int f46), (6, .int z47_6), (7, .int z67_7), (8, .int z69_8)]) X.1 X.2.1 dX12_laySet_106 hl (by decide) rfl (fun ls hl => ?_)
                          refine lv_lload_n X.1 X.2.1 dX12_laySet_108 rfl (lv_at hl 4 rfl) ?_
                          refine lv_lconst (v := 1) X.1 X.2.1 dX12_laySet_109 (by decide +kernel) ?_
                          refine lv_aload_n X.1 X.2.1 dX12_laySet_110 rfl (lv_at hl 2 rfl) ?_
                          refine gf_X12_45 X hK hG h0 wl_6_223 dX12_laySet_111 (fun q81 hq81 kq81 => ?_)
                          refine lv_iload X.1 X.2.1 dX12_laySet_114 (lv_at hl 0 rfl) ?_
                          refine sg_ialdE X hK hG hq81 (k := 61) rfl (iv_vpin (iv_and' (b' := 0) ef80 (iv_eqm (a' := 0) (b' := 0) c1 h1 (iv_c 0 (a := 0) (b := 0) (by decide +kernel)) (by decide +kernel)) (by decide +kernel)) (by decide +kernel)) (n0 := f80.toNatClampNeg) rfl dX12_laySet_116 (fun f82 hf82 kf82 => ?_)
                          have of82 := hf82
                          have hf82 : iv 0 12 f82 := sg_sums hf82
                          obtain ⟨g83, eg83⟩ : ∃ y : Int64, y = (1 : Int64) <<< ((f82 : Int32).toInt64 &&& 63) := ⟨_, rfl⟩
                          refine lv_lshl (v := g83) X.1 X.2.1 dX12_laySet_117 eg83.symm ?_
                          refine lv_lor X.1 X.2.1 dX12_laySet_118 ?_
                          refine lv_topl (fun g84 eg84 => ?_)
                          have hFk : F z47_6.toInt.toNat = f75 := ele_fun (hF z47_6.toInt.toNat (by have := ((iv_lt (b' := 11) (iv_gt_of c48) hz47_6 hmi (by decide +kernel))).2; omega)) kf75
                          have hcut : sgHas f76 f75 := hf76 c77
                          have hkm : (z47_6.toInt.toNat : Int) < mm.toInt := by have h1 := Int32.lt_iff_toInt_lt.mp (iv_gt_of c48); have := ((iv_lt (b' := 11) (iv_gt_of c48) hz47_6 hmi (by decide +kernel))).1; omega
                          have hgk : sgHas f78 z47_6 := by have h1 := hf78.2 z47_6.toInt.toNat hkm (by rw [hFk]; exact hcut); rwa [ofNat_clamp ((iv_lt (b' := 11) (iv_gt_of c48) hz47_6 hmi (by decide +kernel))).1 (by have := ((iv_lt (b' := 11) (iv_gt_of c48) hz47_6 hmi (by decide +kernel))).1; omega)] at h1
                          have hlt := left_lt (t := x1) (iv_lt (b' := 11) (iv_gt_of c48) hz47_6 hmi (by decide +kernel)) (by assumption) hgk ef79 ef80
                          have hsl := sum_le of82 (iv_of (iv_and' (b' := 0) ef80 (iv_eqm (a' := 0) (b' := 0) c1 h1 (iv_c 0 (a := 0) (b := 0) (by decide +kernel)) (by decide +kernel)) (by decide +kernel)) (a' := 0) (b' := 4095) (by decide +kernel))
                          have hse : g84.toBitVec.toNat < 2 ^ sg_pc 12 x1.toBitVec.toNat := seen_step xf69 hf82 (by omega) eg83 eg84
                          refine lv_lstore_n (lv' := [(2, .long g84), (10, .int f80), (9, .int f76), (0, .ref a0), (1, .int x1), (4, .int z69_4), (5, .int f46), (6, .int z47_6), (7, .int z67_7), (8, .int z69_8)]) X.1 X.2.1 dX12_laySet_119 rfl hl (by decide) rfl (fun ls hl => ?_)
                          refine lv_iload X.1 X.2.1 dX12_laySet_120 (lv_at hl 5 rfl) ?_
                          refine lv_aload_n X.1 X.2.1 dX12_laySet_122 rfl (lv_at hl 3 rfl) ?_
                          refine gf_X12_46 X hK hG h0 wl_6_224 dX12_laySet_123 (fun q85 hq85 kq85 => ?_)
                          refine lv_iload X.1 X.2.1 dX12_laySet_126 (lv_at hl 1 rfl) ?_
                          refine sg_ialdE X hK hG hq85 (k := 62) rfl (iv_vpin (iv_and' (b' := 0) ef80 (iv_eqm (a' := 0) (b' := 0) c1 h1 (iv_c 0 (a := 0) (b := 0) (by decide +kernel)) (by decide +kernel)) (by decide +kernel)) (by decide +kernel)) (n0 := f80.toNatClampNeg) rfl dX12_laySet_128 (fun f86 hf86 kf86 => ?_)
                          have hf86 : iv (-2147483648) 2147483647 f86 := by obtain ⟨y, h1, h2⟩ := hf86; cases h1; exact h2
                          refine lv_iconst (v := 1) X.1 X.2.1 dX12_laySet_129 (by decide +kernel) ?_
                          refine lv_iadd X.1 X.2.1 dX12_laySet_130 ?_
                          refine lv_topi (fun f87 ef87 => ?_)
                          refine va_mmin X.1 X.2.1 (X.2.2.1.trans hl.1.symm) X.2.2.2.1 (X.2.2.2.2 _ wl_9_71) (X.2.2.2.2 _ wl_3_64) (X.2.2.2.2 _ wl_1_15) (X.2.2.2.2 _ wl_3_65) (Nat.le_of_ble_eq_true rfl) (Nat.le_of_ble_eq_true rfl) (Nat.le_of_ble_eq_true rfl) (Nat.le_of_ble_eq_true rfl) dX12_laySet_131 ?_
                          refine lv_topi (fun f88 ef88 => ?_)
                          refine lv_istore (lv' := [(4, .int f88), (2, .long g84), (10, .int f80), (9, .int f76), (0, .ref a0), (1, .int x1), (5, .int f46), (6, .int z47_6), (7, .int z67_7), (8, .int z69_8)]) X.1 X.2.1 dX12_laySet_134 hl (by decide) rfl (fun ls hl => ?_)
                          obtain ⟨y89, ey89⟩ : ∃ y : Int32, y = z69_8 + Int32.ofInt 1 := ⟨_, rfl⟩
                          refine lv_iinc (v := y89) (lv' := [(8, .int y89), (4, .int f88), (2, .long g84), (10, .int f80), (9, .int f76), (0, .ref a0), (1, .int x1), (5, .int f46), (6, .int z47_6), (7, .int z67_7)]) X.1 X.2.1 dX12_laySet_136 hl (k := 9) rfl ey89.symm (by decide) rfl (fun ls hl => ?_)
                          refine lv_goto (tgt := 57) X.1 X.2.1 dX12_laySet_139 (by decide) ?_
                          exact ih69 _ _ g84 f88 y89 hS (lv_sub hl [5, 6, 2, 1, 7, 8, 9, 0] rfl) (iv_min (a' := (-2147483648)) (b' := 13) ef88 hz69_4 (iv_top f87) (by decide +kernel)) (iv_of (iv_add (a' := 2) (b' := 6) ey89 (iv_le (b' := 5) (iv_ge_of c72) hz69_8 hf71 (by decide +kernel)) (iv_c _ (a := 1) (b := 1) (by decide +kernel)) (by decide +kernel)) (a' := 1) (b' := 6) (by decide +kernel)) hse (iv_stepU ey89 (iv_le (b' := 5) (iv_ge_of c72) hz69_8 hf71 (by decide +kernel)) (by decide +kernel) hN69)
                        · refine lv_goto (tgt := 142) X.1 X.2.1 dX12_laySet_93 (by decide) ?_
                          exact B73_142 _ _ hS (lv_sub hl [1, 2, 3, 4, 5, 6, 7] rfl) xf69
                  exact B69_57 _ _ _ z67_2 z67_4 1 hS (lv_sub hl [1, 2, 3, 4, 5, 6, 7, 0] rfl) hz67_4 (iv_of (iv_c 1 (a := 1) (b := 1) (by decide +kernel)) (a' := 1) (b' := 6) (by decide +kernel)) xf67 (Nat.le_refl _)
            exact B67_48 _ _ _ z47_2 z47_4 0 hS (lv_sub hl [1, 2, 3, 4, 5, 6, 0] rfl) hz47_4 (iv_of (iv_c 0 (a := 0) (b := 0) (by decide +kernel)) (a' := 0) (b' := 2) (by decide +kernel)) xf47 (Nat.le_refl _)
          · have hsq66 : ¬ sgHas x1 z47_6 := sg_hasf hf61.1 hf61.2 c62
            refine lv_goto (tgt := 148) X.1 X.2.1 dX12_laySet_42 (by decide) ?_
            exact B63_148 _ _ z47_2 z47_4 hS (lv_sub hl [0, 1, 2, 3, 4, 5] rfl) hz47_4 xf47
    exact B47_24 _ _ _ 0 0 0 hS (lv_sub hl [4, 5, 3, 2, 1, 0] rfl) (iv_of (iv_c 0 (a := 0) (b := 0) (by decide +kernel)) (a' := (-2147483648)) (b' := 13) (by decide +kernel)) (iv_of (iv_c 0 (a := 0) (b := 0) (by decide +kernel)) (a' := 0) (b' := 12) (by decide +kernel)) hs0 (Nat.le_refl _)

theorem ca_X12_laySet_1   (X : CallFix p m c cc nL s args sg_tbl own) (hK : va_K D vwCl tys s) (hG : sgG (KT P) D vwCl (fun q : Nat => base ≤ q) tys ad ks H) (hC : sgC base s) (hS : va_S (fun q : Nat => base ≤ q) s.heap H locs) (hb : base ≤ s.heap.size) (hp4 : P.2.2.2.2.1 = true) (a0 : Nat) (h0 : isK ad ks 12 a0) (x1 : Int32) (h1 : iv 0 4095 x1) (hl : Cond.methodLink own index yX12_laySet ∈ sg_tbl) (hsize : ls.size = nL) (hst : st0 = [.int x1].reverse ++ .ref a0 :: rest) (hW : (rest.map fun v => v.category).sum ≤ 8) (hR : 4 ≤ R.frames ∧ 105 ≤ R.locals) (hf : cells ≤ R.cells ∧ slots ≤ R.slots) (hdg : decode cc pc = .ok (.invokevirtual index, 3)) (kk : ∀ (H1 : Heap) (locs1 : List Loc), sgG (KT P) D vwCl (fun q : Nat => base ≤ q) tys ad ks H1 → va_S (fun q : Nat => base ≤ q) s.heap H1 locs1 → W p l e R s m args below meth c H1 locs1 cells slots Q (F0 m (pc + 3) ls rest)) : W p l e R s m args below meth c H locs cells slots Q (F0 m pc ls st0) :=
  sg_callVv X hK hG hC hS hb (m_X12_laySet_1 l hp4 a0 h0 x1 h1) h0 (k := 12) (ci := 12) rfl (C := RX12) (T := TX12) (N := 53) rfl wl_9_62 wl_1_13 wl_9_61 wl_0_104 (n := 1) (by decide +kernel) rfl rfl rfl hl hsize hst hW hR hf hdg kk
end
