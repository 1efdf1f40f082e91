abbrev cX12_readLawn : ByteArray := prog_14_method_35_code
def yX12_readLawn : MethodName := ⟨RX12, "readLawn", "()V"⟩
theorem dX12_readLawn_0 : decode cX12_readLawn 0 = .ok (.aload_n 0, 1) := by decide +kernel
theorem dX12_readLawn_1 : decode cX12_readLawn 1 = .ok (.aload_n 0, 1) := by decide +kernel
theorem dX12_readLawn_2 : decode cX12_readLawn 2 = .ok (.getfield 9, 3) := by decide +kernel
theorem dX12_readLawn_5 : decode cX12_readLawn 5 = .ok (.iconst 0, 1) := by decide +kernel
theorem dX12_readLawn_6 : decode cX12_readLawn 6 = .ok (.aload_n 0, 1) := by decide +kernel
theorem dX12_readLawn_7 : decode cX12_readLawn 7 = .ok (.getfield 107, 3) := by decide +kernel
theorem dX12_readLawn_10 : decode cX12_readLawn 10 = .ok (.invokevirtual 205, 3) := by decide +kernel
theorem dX12_readLawn_13 : decode cX12_readLawn 13 = .ok (.aload_n 0, 1) := by decide +kernel
theorem dX12_readLawn_14 : decode cX12_readLawn 14 = .ok (.iconst 0, 1) := by decide +kernel
theorem dX12_readLawn_15 : decode cX12_readLawn 15 = .ok (.putfield 260, 3) := by decide +kernel
theorem dX12_readLawn_18 : decode cX12_readLawn 18 = .ok (.aload_n 0, 1) := by decide +kernel
theorem dX12_readLawn_19 : decode cX12_readLawn 19 = .ok (.iconst 0, 1) := by decide +kernel
theorem dX12_readLawn_20 : decode cX12_readLawn 20 = .ok (.putfield 263, 3) := by decide +kernel
theorem dX12_readLawn_23 : decode cX12_readLawn 23 = .ok (.aload_n 0, 1) := by decide +kernel
theorem dX12_readLawn_24 : decode cX12_readLawn 24 = .ok (.iconst 0, 1) := by decide +kernel
theorem dX12_readLawn_25 : decode cX12_readLawn 25 = .ok (.putfield 243, 3) := by decide +kernel
theorem dX12_readLawn_28 : decode cX12_readLawn 28 = .ok (.aload_n 0, 1) := by decide +kernel
theorem dX12_readLawn_29 : decode cX12_readLawn 29 = .ok (.iconst 0, 1) := by decide +kernel
theorem dX12_readLawn_30 : decode cX12_readLawn 30 = .ok (.putfield 246, 3) := by decide +kernel
theorem dX12_readLawn_33 : decode cX12_readLawn 33 = .ok (.aload_n 0, 1) := by decide +kernel
theorem dX12_readLawn_34 : decode cX12_readLawn 34 = .ok (.iconst 0, 1) := by decide +kernel
theorem dX12_readLawn_35 : decode cX12_readLawn 35 = .ok (.putfield 240, 3) := by decide +kernel
theorem dX12_readLawn_38 : decode cX12_readLawn 38 = .ok (.aload_n 0, 1) := by decide +kernel
theorem dX12_readLawn_39 : decode cX12_readLawn 39 = .ok (.iconst 0, 1) := by decide +kernel
theorem dX12_readLawn_40 : decode cX12_readLawn 40 = .ok (.putfield 257, 3) := by decide +kernel
theorem dX12_readLawn_43 : decode cX12_readLawn 43 = .ok (.iconst 0, 1) := by decide +kernel
theorem dX12_readLawn_44 : decode cX12_readLawn 44 = .ok (.istore_n 1, 1) := by decide +kernel
theorem dX12_readLawn_45 : decode cX12_readLawn 45 = .ok (.iload_n 1, 1) := by decide +kernel
theorem dX12_readLawn_46 : decode cX12_readLawn 46 = .ok (.bipush 7, 2) := by decide +kernel
theorem dX12_readLawn_48 : decode cX12_readLawn 48 = .ok (.if_icmp .ge 21, 3) := by decide +kernel
theorem dX12_readLawn_51 : decode cX12_readLawn 51 = .ok (.aload_n 0, 1) := by decide +kernel
theorem dX12_readLawn_52 : decode cX12_readLawn 52 = .ok (.getfield 40, 3) := by decide +kernel
theorem dX12_readLawn_55 : decode cX12_readLawn 55 = .ok (.iload_n 1, 1) := by decide +kernel
theorem dX12_readLawn_56 : decode cX12_readLawn 56 = .ok (.bipush 115, 2) := by decide +kernel
theorem dX12_readLawn_58 : decode cX12_readLawn 58 = .ok (.iload_n 1, 1) := by decide +kernel
theorem dX12_readLawn_59 : decode cX12_readLawn 59 = .ok (.invokestatic 219, 3) := by decide +kernel
theorem dX12_readLawn_62 : decode cX12_readLawn 62 = .ok (.iastore, 1) := by decide +kernel
theorem dX12_readLawn_63 : decode cX12_readLawn 63 = .ok (.iinc 1 1, 3) := by decide +kernel
theorem dX12_readLawn_66 : decode cX12_readLawn 66 = .ok (.goto (-21), 3) := by decide +kernel
theorem dX12_readLawn_69 : decode cX12_readLawn 69 = .ok (.iconst 1, 1) := by decide +kernel
theorem dX12_readLawn_70 : decode cX12_readLawn 70 = .ok (.istore_n 1, 1) := by decide +kernel
theorem dX12_readLawn_71 : decode cX12_readLawn 71 = .ok (.iload_n 1, 1) := by decide +kernel
theorem dX12_readLawn_72 : decode cX12_readLawn 72 = .ok (.ifCond .eq 55, 3) := by decide +kernel
theorem dX12_readLawn_75 : decode cX12_readLawn 75 = .ok (.aload_n 0, 1) := by decide +kernel
theorem dX12_readLawn_76 : decode cX12_readLawn 76 = .ok (.getfield 126, 3) := by decide +kernel
theorem dX12_readLawn_79 : decode cX12_readLawn 79 = .ok (.iconst (-1), 1) := by decide +kernel
theorem dX12_readLawn_80 : decode cX12_readLawn 80 = .ok (.if_icmp .ne 47, 3) := by decide +kernel
theorem dX12_readLawn_83 : decode cX12_readLawn 83 = .ok (.aload_n 0, 1) := by decide +kernel
theorem dX12_readLawn_84 : decode cX12_readLawn 84 = .ok (.invokevirtual 266, 3) := by decide +kernel
theorem dX12_readLawn_87 : decode cX12_readLawn 87 = .ok (.aload_n 0, 1) := by decide +kernel
theorem dX12_readLawn_88 : decode cX12_readLawn 88 = .ok (.getfield 126, 3) := by decide +kernel
theorem dX12_readLawn_91 : decode cX12_readLawn 91 = .ok (.iconst (-1), 1) := by decide +kernel
theorem dX12_readLawn_92 : decode cX12_readLawn 92 = .ok (.if_icmp .ne 16, 3) := by decide +kernel
theorem dX12_readLawn_95 : decode cX12_readLawn 95 = .ok (.aload_n 0, 1) := by decide +kernel
theorem dX12_readLawn_96 : decode cX12_readLawn 96 = .ok (.invokevirtual 136, 3) := by decide +kernel
theorem dX12_readLawn_99 : decode cX12_readLawn 99 = .ok (.bipush 59, 2) := by decide +kernel
theorem dX12_readLawn_101 : decode cX12_readLawn 101 = .ok (.if_icmp .ne 7, 3) := by decide +kernel
theorem dX12_readLawn_104 : decode cX12_readLawn 104 = .ok (.iconst 1, 1) := by decide +kernel
theorem dX12_readLawn_105 : decode cX12_readLawn 105 = .ok (.goto 4, 3) := by decide +kernel
theorem dX12_readLawn_108 : decode cX12_readLawn 108 = .ok (.iconst 0, 1) := by decide +kernel
theorem dX12_readLawn_109 : decode cX12_readLawn 109 = .ok (.istore_n 1, 1) := by decide +kernel
theorem dX12_readLawn_110 : decode cX12_readLawn 110 = .ok (.iload_n 1, 1) := by decide +kernel
theorem dX12_readLawn_111 : decode cX12_readLawn 111 = .ok (.ifCond .eq (-40), 3) := by decide +kernel
theorem dX12_readLawn_114 : decode cX12_readLawn 114 = .ok (.aload_n 0, 1) := by decide +kernel
theorem dX12_readLawn_115 : decode cX12_readLawn 115 = .ok (.dup, 1) := by decide +kernel
theorem dX12_readLawn_116 : decode cX12_readLawn 116 = .ok (.getfield 117, 3) := by decide +kernel
theorem dX12_readLawn_119 : decode cX12_readLawn 119 = .ok (.iconst 1, 1) := by decide +kernel
theorem dX12_readLawn_120 : decode cX12_readLawn 120 = .ok (.iadd, 1) := by decide +kernel
theorem dX12_readLawn_121 : decode cX12_readLawn 121 = .ok (.putfield 117, 3) := by decide +kernel
theorem dX12_readLawn_124 : decode cX12_readLawn 124 = .ok (.goto (-53), 3) := by decide +kernel
theorem dX12_readLawn_127 : decode cX12_readLawn 127 = .ok (.aload_n 0, 1) := by decide +kernel
theorem dX12_readLawn_128 : decode cX12_readLawn 128 = .ok (.getfield 126, 3) := by decide +kernel
theorem dX12_readLawn_131 : decode cX12_readLawn 131 = .ok (.iconst (-1), 1) := by decide +kernel
theorem dX12_readLawn_132 : decode cX12_readLawn 132 = .ok (.if_icmp .eq 4, 3) := by decide +kernel
theorem dX12_readLawn_135 : decode cX12_readLawn 135 = .ok (.return_, 1) := by decide +kernel
theorem dX12_readLawn_136 : decode cX12_readLawn 136 = .ok (.aload_n 0, 1) := by decide +kernel
theorem dX12_readLawn_137 : decode cX12_readLawn 137 = .ok (.invokevirtual 136, 3) := by decide +kernel
theorem dX12_readLawn_140 : decode cX12_readLawn 140 = .ok (.iconst (-1), 1) := by decide +kernel
theorem dX12_readLawn_141 : decode cX12_readLawn 141 = .ok (.if_icmp .ne 55, 3) := by decide +kernel
theorem dX12_readLawn_144 : decode cX12_readLawn 144 = .ok (.aload_n 0, 1) := by decide +kernel
theorem dX12_readLawn_145 : decode cX12_readLawn 145 = .ok (.getfield 257, 3) := by decide +kernel
theorem dX12_readLawn_148 : decode cX12_readLawn 148 = .ok (.ifCond .ne 48, 3) := by decide +kernel
theorem dX12_readLawn_151 : decode cX12_readLawn 151 = .ok (.aload_n 0, 1) := by decide +kernel
theorem dX12_readLawn_152 : decode cX12_readLawn 152 = .ok (.getfield 260, 3) := by decide +kernel
theorem dX12_readLawn_155 : decode cX12_readLawn 155 = .ok (.aload_n 0, 1) := by decide +kernel
theorem dX12_readLawn_156 : decode cX12_readLawn 156 = .ok (.getfield 263, 3) := by decide +kernel
theorem dX12_readLawn_159 : decode cX12_readLawn 159 = .ok (.ior, 1) := by decide +kernel
theorem dX12_readLawn_160 : decode cX12_readLawn 160 = .ok (.aload_n 0, 1) := by decide +kernel
theorem dX12_readLawn_161 : decode cX12_readLawn 161 = .ok (.getfield 40, 3) := by decide +kernel
theorem dX12_readLawn_164 : decode cX12_readLawn 164 = .ok (.iconst 0, 1) := by decide +kernel
theorem dX12_readLawn_165 : decode cX12_readLawn 165 = .ok (.iaload, 1) := by decide +kernel
theorem dX12_readLawn_166 : decode cX12_readLawn 166 = .ok (.aload_n 0, 1) := by decide +kernel
theorem dX12_readLawn_167 : decode cX12_readLawn 167 = .ok (.getfield 40, 3) := by decide +kernel
theorem dX12_readLawn_170 : decode cX12_readLawn 170 = .ok (.iconst 1, 1) := by decide +kernel
theorem dX12_readLawn_171 : decode cX12_readLawn 171 = .ok (.iaload, 1) := by decide +kernel
theorem dX12_readLawn_172 : decode cX12_readLawn 172 = .ok (.imul, 1) := by decide +kernel
theorem dX12_readLawn_173 : decode cX12_readLawn 173 = .ok (.ishr, 1) := by decide +kernel
theorem dX12_readLawn_174 : decode cX12_readLawn 174 = .ok (.ifCond .ne 22, 3) := by decide +kernel
theorem dX12_readLawn_177 : decode cX12_readLawn 177 = .ok (.aload_n 0, 1) := by decide +kernel
theorem dX12_readLawn_178 : decode cX12_readLawn 178 = .ok (.getfield 40, 3) := by decide +kernel
theorem dX12_readLawn_181 : decode cX12_readLawn 181 = .ok (.iconst 4, 1) := by decide +kernel
theorem dX12_readLawn_182 : decode cX12_readLawn 182 = .ok (.iaload, 1) := by decide +kernel
theorem dX12_readLawn_183 : decode cX12_readLawn 183 = .ok (.aload_n 0, 1) := by decide +kernel
theorem dX12_readLawn_184 : decode cX12_readLawn 184 = .ok (.getfield 40, 3) := by decide +kernel
theorem dX12_readLawn_187 : decode cX12_readLawn 187 = .ok (.iconst 5, 1) := by decide +kernel
theorem dX12_readLawn_188 : decode cX12_readLawn 188 = .ok (.iaload, 1) := by decide +kernel
theorem dX12_readLawn_189 : decode cX12_readLawn 189 = .ok (.if_icmp .gt 7, 3) := by decide +kernel
theorem dX12_readLawn_192 : decode cX12_readLawn 192 = .ok (.iconst 1, 1) := by decide +kernel
theorem dX12_readLawn_193 : decode cX12_readLawn 193 = .ok (.goto 4, 3) := by decide +kernel
theorem dX12_readLawn_196 : decode cX12_readLawn 196 = .ok (.iconst 0, 1) := by decide +kernel
theorem dX12_readLawn_197 : decode cX12_readLawn 197 = .ok (.istore_n 2, 1) := by decide +kernel
theorem dX12_readLawn_198 : decode cX12_readLawn 198 = .ok (.iload_n 2, 1) := by decide +kernel
theorem dX12_readLawn_199 : decode cX12_readLawn 199 = .ok (.ifCond .eq 17, 3) := by decide +kernel
theorem dX12_readLawn_202 : decode cX12_readLawn 202 = .ok (.aload_n 0, 1) := by decide +kernel
theorem dX12_readLawn_203 : decode cX12_readLawn 203 = .ok (.getfield 260, 3) := by decide +kernel
theorem dX12_readLawn_206 : decode cX12_readLawn 206 = .ok (.aload_n 0, 1) := by decide +kernel
theorem dX12_readLawn_207 : decode cX12_readLawn 207 = .ok (.getfield 40, 3) := by decide +kernel
theorem dX12_readLawn_210 : decode cX12_readLawn 210 = .ok (.invokestatic 269, 3) := by decide +kernel
theorem dX12_readLawn_213 : decode cX12_readLawn 213 = .ok (.ifCond .eq 8, 3) := by decide +kernel
theorem dX12_readLawn_216 : decode cX12_readLawn 216 = .ok (.aload_n 0, 1) := by decide +kernel
theorem dX12_readLawn_217 : decode cX12_readLawn 217 = .ok (.invokevirtual 132, 3) := by decide +kernel
theorem dX12_readLawn_220 : decode cX12_readLawn 220 = .ok (.pop, 1) := by decide +kernel
theorem dX12_readLawn_221 : decode cX12_readLawn 221 = .ok (.return_, 1) := by decide +kernel
theorem wl_7_133 : (.methodLink RX12 266 yX12_readClause : Cond) ∈ sg_tbl := tb_7 _ (List.mem_of_getElem? (i := 133) (by decide +kernel)) (by decide +kernel)
theorem wl_7_125 : (.code yX12_readLawn cX12_readLawn 3 none : Cond) ∈ sg_tbl := tb_7 _ (List.mem_of_getElem? (i := 125) (by decide +kernel)) (by decide +kernel)
theorem wl_7_124 : (.instanceMethod yX12_readLawn : Cond) ∈ sg_tbl := tb_7 _ (List.mem_of_getElem? (i := 124) (by decide +kernel)) (by decide +kernel)
theorem wl_0_49 : (.selects RX12 yX12_readLawn yX12_readLawn : Cond) ∈ sg_tbl := tb_0 _ (List.mem_of_getElem? (i := 49) (by decide +kernel)) (by decide +kernel)
section
variable {p : Program} {l : Launch} {e : Env} {R : Room} {s : State} {m : MethodId} {args : Array Value} {below : List Frame} {meth : Method} {c : Code} {H : Heap} {locs : List Loc} {cells slots : Nat} {Q : State → Prop} {cc : ByteArray} {nL pc : Nat} {ls : Array Slot} {rest : List Value} {own : String} {D : va_G} {A : Nat → Prop} {tys : List (ClassId × FieldType)} {ad ks : List Nat} {P : sgPm} {H0 : Heap} {index : Nat} {base : Nat} {st0 : List Value} {a : Nat}
theorem gg_X12_19r  {b : Bool} {d lo hi mr f : Int} (X : CallFix p m c cc nL s args sg_tbl own) (hK : va_K D vwCl tys s) (hG : sgG (KR b d lo hi mr f P) D vwCl A tys ad ks H) (ha : isK ad ks 12 a) (hl : Cond.fieldLink own index "LawnAheadModel" "ruleRead" "[I" ∈ sg_tbl) {v : Value} (hf : fld D H 12 a 19 v) (hdg : decode cc pc = .ok (.getfield index, 3)) (kk : W p l e R s m args below meth c H locs cells slots Q (F0 m (pc + 3) ls (v :: rest))) : W p l e R s m args below meth c H locs cells slots Q (F0 m pc ls (.ref a :: rest)) :=
  sg_getf X hK hG ha (k := 12) (ci := 12) rfl (C := RX12) (T := TX12) (N := 53) rfl inL_X12 19 (by decide) (show 19 < 53 by decide) hl (fun _ h => h) hf hdg kk
theorem gg_X12_25r  {b : Bool} {d lo hi mr f : Int} (X : CallFix p m c cc nL s args sg_tbl own) (hK : va_K D vwCl tys s) (hG : sgG (KR b d lo hi mr f P) D vwCl A tys ad ks H) (ha : isK ad ks 12 a) (hl : Cond.fieldLink own index "LawnAheadModel" "tuftsRead" "I" ∈ sg_tbl) {v : Value} (hf : fld D H 12 a 25 v) (hdg : decode cc pc = .ok (.getfield index, 3)) (kk : W p l e R s m args below meth c H locs cells slots Q (F0 m (pc + 3) ls (v :: rest))) : W p l e R s m args below meth c H locs cells slots Q (F0 m pc ls (.ref a :: rest)) :=
  sg_getf X hK hG ha (k := 12) (ci := 12) rfl (C := RX12) (T := TX12) (N := 53) rfl inL_X12 25 (by decide) (show 25 < 53 by decide) hl (fun _ h => h) hf hdg kk
theorem al_50r  {i : Int32} {b : Bool} {d lo hi mr f : Int} (X : CallFix p m c cc nL s args sg_tbl own) (hK : va_K D vwCl tys s) (hG : sgG (KR b d lo hi mr f P) D vwCl A tys ad ks H) (ha : isK ad ks 50 a) (hin : vp_in i 7) (hdg : decode cc pc = .ok (.iaload, 1)) (kk : ∀ x : Int32, okV ad ks ((sg_rr mr : Nat → sgT) i.toNatClampNeg) (.int x) → W p l e R s m args below meth c H locs cells slots Q (F0 m (pc + 1) ls (.int x :: rest))) : W p l e R s m args below meth c H locs cells slots Q (F0 m pc ls (.int i :: .ref a :: rest)) :=
  sg_iald X hK hG ha (k := 50) rfl hin hdg kk
set_option maxHeartbeats 8000000 in
set_option maxRecDepth 100000 in
theorem m_X12_readLawn (l : Launch) {D : va_G} {base : Nat} {tys : List (ClassId × FieldType)} {ad ks : List Nat} {P : sgPm} (a0 : Nat) (h0 : isK ad ks 12 a0) : Met l yX12_readLawn (Cond.code yX12_readLawn cX12_readLawn 3 none :: sg_tbl) ({ frames := 7, cells := 0, slots := 0, locals := 154 }) (va_Pc [.ref a0] (sgB (KT P) D vwCl base tys ad ks)) (va_Qv (fun (_ : Unit) => True) (fun _ => (fun t : State => sgB (KT P) D vwCl base tys ad ks t ∧ (sgB (KM 7 P) D vwCl base tys ad ks t ∨ ∃ w : Int32, fld D t.heap 12 a0 11 (.int w) ∧ iv 0 241 w))) (fun q : Nat => base ≤ q)) 0 0 (fun q : Nat => base ≤ q) := by
  refine sg_ofW (by decide +kernel) (Nat.le_of_ble_eq_true rfl) (fun p e s m below meth c X hr hlk hb hK hC hG ls hl => ?_)
  have hS : va_S (fun q : Nat => base ≤ q) s.heap s.heap [] := va_S.rf
  have hl : lv_has ls 3 [(0, .ref a0)] := hl
  refine lv_aload_n X.1 X.2.1 dX12_readLawn_0 rfl (lv_at hl 0 rfl) ?_
  refine lv_aload_n X.1 X.2.1 dX12_readLawn_1 rfl (lv_at hl 0 rfl) ?_
  refine gf_X12_1 X hK hG h0 wl_6_179 dX12_readLawn_2 (fun q1 hq1 kq1 => ?_)
  refine lv_iconst (v := 0) X.1 X.2.1 dX12_readLawn_5 (by decide +kernel) ?_
  refine lv_aload_n X.1 X.2.1 dX12_readLawn_6 rfl (lv_at hl 0 rfl) ?_
  refine gf_X12_6 X hK hG h0 wl_6_184 dX12_readLawn_7 (fun f2 hf2 pf2 kf2 => ?_)
  refine ca_X12_starts_t X hK hG hC hS hb a0 h0 q1 hq1 0 (iv_c 0 (a := 0) (b := 0) (by decide +kernel)) f2 hf2 wl_7_126 hl.1 (rest := []) rfl (Nat.le_of_ble_eq_true rfl) ⟨Nat.le_of_ble_eq_true rfl, Nat.le_of_ble_eq_true rfl⟩ ⟨Nat.le_of_ble_eq_true rfl, Nat.le_of_ble_eq_true rfl⟩ dX12_readLawn_10 (fun tg3 H locs htg3 hWg3 hS => ?_)
  have hG := hWg3.2.2.2
  rw [htg3] at hG
  refine lv_aload_n X.1 X.2.1 dX12_readLawn_13 rfl (lv_at hl 0 rfl) ?_
  refine lv_iconst (v := 0) X.1 X.2.1 dX12_readLawn_14 (by decide +kernel) ?_
  refine pf_X12_25r X hK hG hS h0 wl_6_203 ⟨_, rfl, (iv_top _)⟩ dX12_readLawn_15 (fun H locs hG hS ku4 ru4 => ?_)
  refine lv_aload_n X.1 X.2.1 dX12_readLawn_18 rfl (lv_at hl 0 rfl) ?_
  refine lv_iconst (v := 0) X.1 X.2.1 dX12_readLawn_19 (by decide +kernel) ?_
  refine pf_X12_26r X hK hG hS h0 wl_6_204 ⟨_, rfl, (iv_top _)⟩ dX12_readLawn_20 (fun H locs hG hS ku5 ru5 => ?_)
  refine lv_aload_n X.1 X.2.1 dX12_readLawn_23 rfl (lv_at hl 0 rfl) ?_
  refine lv_iconst (v := 0) X.1 X.2.1 dX12_readLawn_24 (by decide +kernel) ?_
  refine pf_X12_27r X hK hG hS h0 wl_6_205 ⟨_, rfl, (iv_top _)⟩ dX12_readLawn_25 (fun H locs hG hS ku6 ru6 => ?_)
  refine lv_aload_n X.1 X.2.1 dX12_readLawn_28 rfl (lv_at hl 0 rfl) ?_
  refine lv_iconst (v := 0) X.1 X.2.1 dX12_readLawn_29 (by decide +kernel) ?_
  refine pf_X12_28r X hK hG hS h0 wl_6_206 ⟨_, rfl, (iv_top _)⟩ dX12_readLawn_30 (fun H locs hG hS ku7 ru7 => ?_)
  refine lv_aload_n X.1 X.2.1 dX12_readLawn_33 rfl (lv_at hl 0 rfl) ?_
  refine lv_iconst (v := 0) X.1 X.2.1 dX12_readLawn_34 (by decide +kernel) ?_
  refine pf_X12_30r X hK hG hS h0 wl_6_208 ⟨_, rfl, (iv_of (iv_c 0 (a := 0) (b := 0) (by decide +kernel)) (a' := 0) (b' := 1) (by decide +kernel))⟩ dX12_readLawn_35 (fun H locs hG hS ku8 ru8 => ?_)
  refine lv_aload_n X.1 X.2.1 dX12_readLawn_38 rfl (lv_at hl 0 rfl) ?_
  refine lv_iconst (v := 0) X.1 X.2.1 dX12_readLawn_39 (by decide +kernel) ?_
  refine pf_X12_31r X hK hG hS h0 wl_6_209 ⟨_, rfl, (iv_of (iv_c 0 (a := 0) (b := 0) (by decide +kernel)) (a' := 0) (b' := 1) (by decide +kernel))⟩ dX12_readLawn_40 (fun H locs hG hS ku9 ru9 => ?_)
  refine lv_iconst (v := 0) X.1 X.2.1 dX12_readLawn_43 (by decide +kernel) ?_
  refine lv_istore_n (lv' := [(1, .int 0), (0, .ref a0)]) X.1 X.2.1 dX12_readLawn_44 rfl hl (by decide) rfl (fun ls hl => ?_)
  have B10_45 : ∀ (N : Nat) (H : Heap) (locs : List Loc) (ls : Array Slot) (z10_1 : Int32) (lo10 : Int), 0 ≤ lo10 → lo10 ≤ 241 → sgG (KR false 0 lo10 241 z10_1.toInt (-1) P) D vwCl (fun q : Nat => base ≤ q) tys ad ks H → va_S (fun q : Nat => base ≤ q) s.heap H locs → lv_has ls 3 [(0, .ref a0), (1, .int z10_1)] → iv 0 7 z10_1 → (8 - z10_1.toInt).toNat ≤ N → W p l e (headSpec (Cond.code yX12_readLawn cX12_readLawn 3 none :: sg_tbl) ({ frames := 7, cells := 0, slots := 0, locals := 154 })).room s m #[.ref a0] below meth c H locs 0 0 (MQ below (va_Qv (fun (_ : Unit) => True) (fun _ => (fun t : State => sgB (KT P) D vwCl base tys ad ks t ∧ (sgB (KM 7 P) D vwCl base tys ad ks t ∨ ∃ w : Int32, fld D t.heap 12 a0 11 (.int w) ∧ iv 0 241 w))) (fun q : Nat => base ≤ q)) #[.ref a0] s 0 0 (fun q : Nat => base ≤ q)) (F0 m 45 ls []) := by
    intro N; induction N with
    | zero =>
      intro H locs ls z10_1 lo10 jl10 jm10 hG hS hl hz10_1 hN
      exact absurd hN (by have := iv_up hz10_1; omega)
    | succ N ih10 =>
      intro H locs ls z10_1 lo10 jl10 jm10 hG hS hl hz10_1 hN10
      refine lv_iload_n X.1 X.2.1 dX12_readLawn_45 rfl (lv_at hl 1 rfl) ?_
      refine lv_bipush (v := 7) X.1 X.2.1 dX12_readLawn_46 (by decide +kernel) ?_
      refine lv_icmp_ge (tgt := 69) X.1 X.2.1 dX12_readLawn_48 (by decide) (fun c11 => ?_) (fun c11 => ?_)
      · have bq12 : 7 ≤ z10_1.toInt ∧ z10_1.toInt ≤ 7 := (iv_ler (c' := 7) c11 (iv_c 7 (a := 7) (b := 7) (by decide +kernel)) hz10_1 (by decide +kernel))
        have cq13 : (7 : Int32).toInt = 7 := by decide +kernel
        have rr14 : (7 : Int32).toInt ≤ (z10_1 : Int32).toInt := Int32.le_iff_toInt_le.mp c11
        rw [show z10_1.toInt = (7 : Int) from by omega] at hG
        refine lv_iconst (v := 1) X.1 X.2.1 dX12_readLawn_69 (by decide +kernel) ?_
        refine lv_istore_n (lv' := [(1, .int 1), (0, .ref a0)]) X.1 X.2.1 dX12_readLawn_70 rfl hl (by decide) rfl (fun ls hl => ?_)
        refine lv_iload_n X.1 X.2.1 dX12_readLawn_71 rfl (lv_at hl 0 rfl) ?_
        refine lv_if_eq (tgt := 127) X.1 X.2.1 dX12_readLawn_72 (by decide) (fun c15 => ?_) (fun c15 => ?_)
        · exact ((iv_no (a := 1) (b := 0) (iv_eqm c15 (iv_c 1 (a := 1) (b := 1) (by decide +kernel)) (iv_c 0 (a := 0) (b := 0) (by decide +kernel)) (by decide +kernel)) (by decide +kernel))).elim
        · refine lv_aload_n X.1 X.2.1 dX12_readLawn_75 rfl (lv_at hl 1 rfl) ?_
          refine gf_X12_11r X hK hG h0 wl_6_189 dX12_readLawn_76 (fun f16 hf16 kf16 => ?_)
          have ⟨laf16, uaf16⟩ : (-1) ≤ f16.toInt ∧ f16.toInt ≤ 241 := hf16
          have hf16 : iv (-1) 241 f16 := ⟨by omega, by omega⟩
          refine lv_iconst (v := (-1)) X.1 X.2.1 dX12_readLawn_79 (by decide +kernel) ?_
          refine lv_icmp_ne (tgt := 127) X.1 X.2.1 dX12_readLawn_80 (by decide) (fun c17 => ?_) (fun c17 => ?_)
          · refine lv_aload_n X.1 X.2.1 dX12_readLawn_127 rfl (lv_at hl 1 rfl) ?_
            refine gg_X12_11r X hK hG h0 wl_6_189 kf16 dX12_readLawn_128 ?_
            refine lv_iconst (v := (-1)) X.1 X.2.1 dX12_readLawn_131 (by decide +kernel) ?_
            refine lv_icmp_eq (tgt := 136) X.1 X.2.1 dX12_readLawn_132 (by decide) (fun c18 => ?_) (fun c18 => ?_)
            · exact ((iv_no (a := 0) (b := (-1)) (iv_eqm c18 (iv_ne_lo (a' := 0) c17 hf16 (by decide +kernel)) (iv_c (-1) (a := (-1)) (b := (-1)) (by decide +kernel)) (by decide +kernel)) (by decide +kernel))).elim
            · have hGm := sgr_toKM hG (by omega) (by omega)
              have hG := sgr_toKT hG (by omega) (by omega) (by decide)
              exact sg_vret2 X hr hlk hS (fun t ht hW => ⟨sg_post hb hK hC hG hS ht hW, Or.inl (sg_post hb hK hC hGm hS ht hW)⟩) dX12_readLawn_135
          · have B19_83 : ∀ (N : Nat) (H : Heap) (locs : List Loc) (ls : Array Slot) (lo19 : Int), lo10 ≤ lo19 → lo19 ≤ 241 → sgG (KR false 0 lo19 241 7 (-1) P) D vwCl (fun q : Nat => base ≤ q) tys ad ks H → va_S (fun q : Nat => base ≤ q) s.heap H locs → lv_has ls 3 [(0, .ref a0)] → (242 - lo19).toNat ≤ N → W p l e (headSpec (Cond.code yX12_readLawn cX12_readLawn 3 none :: sg_tbl) ({ frames := 7, cells := 0, slots := 0, locals := 154 })).room s m #[.ref a0] below meth c H locs 0 0 (MQ below (va_Qv (fun (_ : Unit) => True) (fun _ => (fun t : State => sgB (KT P) D vwCl base tys ad ks t ∧ (sgB (KM 7 P) D vwCl base tys ad ks t ∨ ∃ w : Int32, fld D t.heap 12 a0 11 (.int w) ∧ iv 0 241 w))) (fun q : Nat => base ≤ q)) #[.ref a0] s 0 0 (fun q : Nat => base ≤ q)) (F0 m 83 ls []) := by
              intro N; induction N with
              | zero =>
                intro H locs ls lo19 jl19 jm19 hG hS hl hN
                exact absurd hN (by have := jm19; omega)
              | succ N ih19 =>
                intro H locs ls lo19 jl19 jm19 hG hS hl hN19
                refine lv_aload_n X.1 X.2.1 dX12_readLawn_83 rfl (lv_at hl 0 rfl) ?_
                refine ca_X12_readClause X hK hG hC hS hb a0 h0 ⟨by omega, by omega⟩ wl_7_133 hl.1 (rest := []) rfl (Nat.le_of_ble_eq_true rfl) ⟨Nat.le_of_ble_eq_true rfl, Nat.le_of_ble_eq_true rfl⟩ ⟨Nat.le_of_ble_eq_true rfl, Nat.le_of_ble_eq_true rfl⟩ dX12_readLawn_84 (fun tg20 H locs htg20 hWg20 hS => ?_)
                rcases hWg20 with hBg20 | hBg20
                · have hG := hBg20.2.2.2
                  rw [htg20] at hG
                  refine lv_aload_n X.1 X.2.1 dX12_readLawn_87 rfl (lv_at hl 0 rfl) ?_
                  refine gf_X12_11r X hK hG h0 wl_6_189 dX12_readLawn_88 (fun f21 hf21 kf21 => ?_)
                  have ⟨laf21, uaf21⟩ : (-1) ≤ f21.toInt ∧ f21.toInt ≤ 241 := hf21
                  have hf21 : iv (-1) 241 f21 := ⟨by omega, by omega⟩
                  refine lv_iconst (v := (-1)) X.1 X.2.1 dX12_readLawn_91 (by decide +kernel) ?_
                  refine lv_icmp_ne (tgt := 108) X.1 X.2.1 dX12_readLawn_92 (by decide) (fun c22 => ?_) (fun c22 => ?_)
                  · refine lv_iconst (v := 0) X.1 X.2.1 dX12_readLawn_108 (by decide +kernel) ?_
                    refine lv_istore_n (lv' := [(1, .int 0), (0, .ref a0)]) X.1 X.2.1 dX12_readLawn_109 rfl hl (by decide) rfl (fun ls hl => ?_)
                    refine lv_iload_n X.1 X.2.1 dX12_readLawn_110 rfl (lv_at hl 0 rfl) ?_
                    refine lv_if_eq (tgt := 71) X.1 X.2.1 dX12_readLawn_111 (by decide) (fun c23 => ?_) (fun c23 => ?_)
                    · refine lv_iload_n X.1 X.2.1 dX12_readLawn_71 rfl (lv_at hl 0 rfl) ?_
                      refine lv_if_eq (tgt := 127) X.1 X.2.1 dX12_readLawn_72 (by decide) (fun c24 => ?_) (fun c24 => ?_)
                      · refine lv_aload_n X.1 X.2.1 dX12_readLawn_127 rfl (lv_at hl 1 rfl) ?_
                        refine gg_X12_11r X hK hG h0 wl_6_189 kf21 dX12_readLawn_128 ?_
                        refine lv_iconst (v := (-1)) X.1 X.2.1 dX12_readLawn_131 (by decide +kernel) ?_
                        refine lv_icmp_eq (tgt := 136) X.1 X.2.1 dX12_readLawn_132 (by decide) (fun c25 => ?_) (fun c25 => ?_)
                        · exact ((iv_no (a := 0) (b := (-1)) (iv_eqm c25 (iv_ne_lo (a' := 0) c22 hf21 (by decide +kernel)) (iv_c (-1) (a := (-1)) (b := (-1)) (by decide +kernel)) (by decide +kernel)) (by decide +kernel))).elim
                        · have hGm := sgr_toKM hG (by omega) (by omega)
                          have hG := sgr_toKT hG (by omega) (by omega) (by decide)
                          exact sg_vret2 X hr hlk hS (fun t ht hW => ⟨sg_post hb hK hC hG hS ht hW, Or.inl (sg_post hb hK hC hGm hS ht hW)⟩) dX12_readLawn_135
                      · exact ((c24 (iv_one (iv_c 0 (a := 0) (b := 0) (by decide +kernel)) (iv_c 0 (a := 0) (b := 0) (by decide +kernel)) (by decide +kernel)))).elim
                    · exact ((c23 (iv_one (iv_c 0 (a := 0) (b := 0) (by decide +kernel)) (iv_c 0 (a := 0) (b := 0) (by decide +kernel)) (by decide +kernel)))).elim
                  · refine lv_aload_n X.1 X.2.1 dX12_readLawn_95 rfl (lv_at hl 0 rfl) ?_
                    refine ca_X12_look X hK hG hC hS hb a0 h0 ⟨by omega, by omega, by omega, by omega, by omega⟩ ⟨by omega, by omega, by omega⟩ wl_7_137 hl.1 (rest := []) rfl (Nat.le_of_ble_eq_true rfl) ⟨Nat.le_of_ble_eq_true rfl, Nat.le_of_ble_eq_true rfl⟩ ⟨Nat.le_of_ble_eq_true rfl, Nat.le_of_ble_eq_true rfl⟩ dX12_readLawn_96 (fun f26 tf26 H locs htf26 hf26 hWf26 hS => ?_)
                    obtain ⟨hBf26, v27, kv27, hv27, lv27⟩ := hWf26
                    have hG := hBf26.2.2.2
                    rw [htf26] at hG kv27
                    have ⟨lav27, uav27⟩ : lo19 ≤ v27.toInt ∧ v27.toInt ≤ 241 := hv27
                    have hv27 : iv 0 241 v27 := ⟨by omega, by omega⟩
                    refine lv_bipush (v := 59) X.1 X.2.1 dX12_readLawn_99 (by decide +kernel) ?_
                    refine lv_icmp_ne (tgt := 108) X.1 X.2.1 dX12_readLawn_101 (by decide) (fun c28 => ?_) (fun c28 => ?_)
                    · refine lv_iconst (v := 0) X.1 X.2.1 dX12_readLawn_108 (by decide +kernel) ?_
                      refine lv_istore_n (lv' := [(1, .int 0), (0, .ref a0)]) X.1 X.2.1 dX12_readLawn_109 rfl hl (by decide) rfl (fun ls hl => ?_)
                      refine lv_iload_n X.1 X.2.1 dX12_readLawn_110 rfl (lv_at hl 0 rfl) ?_
                      refine lv_if_eq (tgt := 71) X.1 X.2.1 dX12_readLawn_111 (by decide) (fun c29 => ?_) (fun c29 => ?_)
                      · refine lv_iload_n X.1 X.2.1 dX12_readLawn_71 rfl (lv_at hl 0 rfl) ?_
                        refine lv_if_eq (tgt := 127) X.1 X.2.1 dX12_readLawn_72 (by decide) (fun c30 => ?_) (fun c30 => ?_)
                        · refine lv_aload_n X.1 X.2.1 dX12_readLawn_127 rfl (lv_at hl 1 rfl) ?_
                          refine gf_X12_11r X hK hG h0 wl_6_189 dX12_readLawn_128 (fun f31 hf31 kf31 => ?_)
                          have ⟨laf31, uaf31⟩ : (-1) ≤ f31.toInt ∧ f31.toInt ≤ 241 := hf31
                          have hf31 : iv (-1) 241 f31 := ⟨by omega, by omega⟩
                          refine lv_iconst (v := (-1)) X.1 X.2.1 dX12_readLawn_131 (by decide +kernel) ?_
                          refine lv_icmp_eq (tgt := 136) X.1 X.2.1 dX12_readLawn_132 (by decide) (fun c32 => ?_) (fun c32 => ?_)
                          · refine lv_aload_n X.1 X.2.1 dX12_readLawn_136 rfl (lv_at hl 1 rfl) ?_
                            refine ca_X12_look X hK hG hC hS hb a0 h0 ⟨by omega, by omega, by omega, by omega, by omega⟩ ⟨by omega, by omega, by omega⟩ wl_7_137 hl.1 (rest := []) rfl (Nat.le_of_ble_eq_true rfl) ⟨Nat.le_of_ble_eq_true rfl, Nat.le_of_ble_eq_true rfl⟩ ⟨Nat.le_of_ble_eq_true rfl, Nat.le_of_ble_eq_true rfl⟩ dX12_readLawn_137 (fun f33 tf33 H locs htf33 hf33 hWf33 hS => ?_)
                            obtain ⟨hBf33, v34, kv34, hv34, lv34⟩ := hWf33
                            have hG := hBf33.2.2.2
                            rw [htf33] at hG kv34
                            have ⟨lav34, uav34⟩ : lo19 ≤ v34.toInt ∧ v34.toInt ≤ 241 := hv34
                            have hv34 : iv 0 241 v34 := ⟨by omega, by omega⟩
                            refine lv_iconst (v := (-1)) X.1 X.2.1 dX12_readLawn_140 (by decide +kernel) ?_
                            refine lv_icmp_ne (tgt := 196) X.1 X.2.1 dX12_readLawn_141 (by decide) (fun c35 => ?_) (fun c35 => ?_)
                            · refine lv_iconst (v := 0) X.1 X.2.1 dX12_readLawn_196 (by decide +kernel) ?_
                              refine lv_istore_n (lv' := [(2, .int 0), (1, .int 0), (0, .ref a0)]) X.1 X.2.1 dX12_readLawn_197 rfl hl (by decide) rfl (fun ls hl => ?_)
                              refine lv_iload_n X.1 X.2.1 dX12_readLawn_198 rfl (lv_at hl 0 rfl) ?_
                              refine lv_if_eq (tgt := 216) X.1 X.2.1 dX12_readLawn_199 (by decide) (fun c36 => ?_) (fun c36 => ?_)
                              · refine lv_aload_n X.1 X.2.1 dX12_readLawn_216 rfl (lv_at hl 2 rfl) ?_
                                refine ca_X12_fails X hK hG hC hS hb a0 h0 ⟨by omega, by omega, by omega, by omega, by omega⟩ wl_7_141 hl.1 (rest := []) rfl (Nat.le_of_ble_eq_true rfl) ⟨Nat.le_of_ble_eq_true rfl, Nat.le_of_ble_eq_true rfl⟩ ⟨Nat.le_of_ble_eq_true rfl, Nat.le_of_ble_eq_true rfl⟩ dX12_readLawn_217 (fun f37 H locs hf37 hG hS => ?_)
                                refine lv_pop X.1 X.2.1 dX12_readLawn_220 rfl ?_
                                have hGm := sgr_toKM hG (by omega) (by omega)
                                have hG := sgr_toKT hG (by omega) (by omega) (by decide)
                                exact sg_vret2 X hr hlk hS (fun t ht hW => ⟨sg_post hb hK hC hG hS ht hW, Or.inl (sg_post hb hK hC hGm hS ht hW)⟩) dX12_readLawn_221
                              · exact ((c36 (iv_one (iv_c 0 (a := 0) (b := 0) (by decide +kernel)) (iv_c 0 (a := 0) (b := 0) (by decide +kernel)) (by decide +kernel)))).elim
                            · refine lv_aload_n X.1 X.2.1 dX12_readLawn_144 rfl (lv_at hl 1 rfl) ?_
                              refine gf_X12_31r X hK hG h0 wl_6_209 dX12_readLawn_145 (fun f38 hf38 kf38 => ?_)
                              refine lv_if_ne (tgt := 196) X.1 X.2.1 dX12_readLawn_148 (by decide) (fun c39 => ?_) (fun c39 => ?_)
                              · refine lv_iconst (v := 0) X.1 X.2.1 dX12_readLawn_196 (by decide +kernel) ?_
                                refine lv_istore_n (lv' := [(2, .int 0), (1, .int 0), (0, .ref a0)]) X.1 X.2.1 dX12_readLawn_197 rfl hl (by decide) rfl (fun ls hl => ?_)
                                refine lv_iload_n X.1 X.2.1 dX12_readLawn_198 rfl (lv_at hl 0 rfl) ?_
                                refine lv_if_eq (tgt := 216) X.1 X.2.1 dX12_readLawn_199 (by decide) (fun c40 => ?_) (fun c40 => ?_)
                                · refine lv_aload_n X.1 X.2.1 dX12_readLawn_216 rfl (lv_at hl 2 rfl) ?_
                                  refine ca_X12_fails X hK hG hC hS hb a0 h0 ⟨by omega, by omega, by omega, by omega, by omega⟩ wl_7_141 hl.1 (rest := []) rfl (Nat.le_of_ble_eq_true rfl) ⟨Nat.le_of_ble_eq_true rfl, Nat.le_of_ble_eq_true rfl⟩ ⟨Nat.le_of_ble_eq_true rfl, Nat.le_of_ble_eq_true rfl⟩ dX12_readLawn_217 (fun f41 H locs hf41 hG hS => ?_)
                                  refine lv_pop X.1 X.2.1 dX12_readLawn_220 rfl ?_
                                  have hGm := sgr_toKM hG (by omega) (by omega)
                                  have hG := sgr_toKT hG (by omega) (by omega) (by decide)
                                  exact sg_vret2 X hr hlk hS (fun t ht hW => ⟨sg_post hb hK hC hG hS ht hW, Or.inl (sg_post hb hK hC hGm hS ht hW)⟩) dX12_readLawn_221
                                · exact ((c40 (iv_one (iv_c 0 (a := 0) (b := 0) (by decide +kernel)) (iv_c 0 (a := 0) (b := 0) (by decide +kernel)) (by decide +kernel)))).elim
                              · refine lv_aload_n X.1 X.2.1 dX12_readLawn_151 rfl (lv_at hl 1 rfl) ?_
                                refine gf_X12_25r X hK hG h0 wl_6_203 dX12_readLawn_152 (fun f42 hf42 kf42 => ?_)
                                refine lv_aload_n X.1 X.2.1 dX12_readLawn_155 rfl (lv_at hl 1 rfl) ?_
                                refine gf_X12_26r X hK hG h0 wl_6_204 dX12_readLawn_156 (fun f43 hf43 kf43 => ?_)
                                refine lv_ior X.1 X.2.1 dX12_readLawn_159 ?_
                                refine lv_topi (fun f44 ef44 => ?_)
                                refine lv_aload_n X.1 X.2.1 dX12_readLawn_160 rfl (lv_at hl 1 rfl) ?_
                                refine gf_X12_19r X hK hG h0 wl_6_197 dX12_readLawn_161 (fun q45 hq45 kq45 => ?_)
                                refine lv_iconst (v := 0) X.1 X.2.1 dX12_readLawn_164 (by decide +kernel) ?_
                                refine al_50r X hK hG hq45 (iv_vpin (iv_c 0 (a := 0) (b := 0) (by decide +kernel)) (by decide +kernel)) dX12_readLawn_165 (fun f46 hf46 => ?_)
                                have of46 := hf46
                                have hf46 : iv 1 6 f46 := sg_rr7 hf46 (iv_c 0 (a := 0) (b := 0) (by decide +kernel)) (by decide +kernel) rfl
                                refine lv_aload_n X.1 X.2.1 dX12_readLawn_166 rfl (lv_at hl 1 rfl) ?_
                                refine gg_X12_19r X hK hG h0 wl_6_197 kq45 dX12_readLawn_167 ?_
                                refine lv_iconst (v := 1) X.1 X.2.1 dX12_readLawn_170 (by decide +kernel) ?_
                                refine al_50r X hK hG hq45 (iv_vpin (iv_c 1 (a := 1) (b := 1) (by decide +kernel)) (by decide +kernel)) dX12_readLawn_171 (fun f47 hf47 => ?_)
                                have of47 := hf47
                                have hf47 : iv 1 5 f47 := sg_rr7 hf47 (iv_c 1 (a := 1) (b := 1) (by decide +kernel)) (by decide +kernel) rfl
                                refine lv_imul X.1 X.2.1 dX12_readLawn_172 ?_
                                refine lv_topi (fun f48 ef48 => ?_)
                                refine lv_ishr X.1 X.2.1 dX12_readLawn_173 ?_
                                refine lv_topi (fun f49 ef49 => ?_)
                                refine lv_if_ne (tgt := 196) X.1 X.2.1 dX12_readLawn_174 (by decide) (fun c50 => ?_) (fun c50 => ?_)
                                · refine lv_iconst (v := 0) X.1 X.2.1 dX12_readLawn_196 (by decide +kernel) ?_
                                  refine lv_istore_n (lv' := [(2, .int 0), (1, .int 0), (0, .ref a0)]) X.1 X.2.1 dX12_readLawn_197 rfl hl (by decide) rfl (fun ls hl => ?_)
                                  refine lv_iload_n X.1 X.2.1 dX12_readLawn_198 rfl (lv_at hl 0 rfl) ?_
                                  refine lv_if_eq (tgt := 216) X.1 X.2.1 dX12_readLawn_199 (by decide) (fun c51 => ?_) (fun c51 => ?_)
                                  · refine lv_aload_n X.1 X.2.1 dX12_readLawn_216 rfl (lv_at hl 2 rfl) ?_
                                    refine ca_X12_fails X hK hG hC hS hb a0 h0 ⟨by omega, by omega, by omega, by omega, by omega⟩ wl_7_141 hl.1 (rest := []) rfl (Nat.le_of_ble_eq_true rfl) ⟨Nat.le_of_ble_eq_true rfl, Nat.le_of_ble_eq_true rfl⟩ ⟨Nat.le_of_ble_eq_true rfl, Nat.le_of_ble_eq_true rfl⟩ dX12_readLawn_217 (fun f52 H locs hf52 hG hS => ?_)
                                    refine lv_pop X.1 X.2.1 dX12_readLawn_220 rfl ?_
                                    have hGm := sgr_toKM hG (by omega) (by omega)
                                    have hG := sgr_toKT hG (by omega) (by omega) (by decide)
                                    exact sg_vret2 X hr hlk hS (fun t ht hW => ⟨sg_post hb hK hC hG hS ht hW, Or.inl (sg_post hb hK hC hGm hS ht hW)⟩) dX12_readLawn_221
                                  · exact ((c51 (iv_one (iv_c 0 (a := 0) (b := 0) (by decide +kernel)) (iv_c 0 (a := 0) (b := 0) (by decide +kernel)) (by decide +kernel)))).elim
                                · refine lv_aload_n X.1 X.2.1 dX12_readLawn_177 rfl (lv_at hl 1 rfl) ?_
                                  refine gg_X12_19r X hK hG h0 wl_6_197 kq45 dX12_readLawn_178 ?_
                                  refine lv_iconst (v := 4) X.1 X.2.1 dX12_readLawn_181 (by decide +kernel) ?_
                                  refine al_50r X hK hG hq45 (iv_vpin (iv_c 4 (a := 4) (b := 4) (by decide +kernel)) (by decide +kernel)) dX12_readLawn_182 (fun f53 hf53 => ?_)
                                  have of53 := hf53
                                  have hf53 : iv 0 8 f53 := sg_rr7 hf53 (iv_c 4 (a := 4) (b := 4) (by decide +kernel)) (by decide +kernel) rfl
                                  refine lv_aload_n X.1 X.2.1 dX12_readLawn_183 rfl (lv_at hl 1 rfl) ?_
                                  refine gg_X12_19r X hK hG h0 wl_6_197 kq45 dX12_readLawn_184 ?_
                                  refine lv_iconst (v := 5) X.1 X.2.1 dX12_readLawn_187 (by decide +kernel) ?_
                                  refine al_50r X hK hG hq45 (iv_vpin (iv_c 5 (a := 5) (b := 5) (by decide +kernel)) (by decide +kernel)) dX12_readLawn_188 (fun f54 hf54 => ?_)
                                  have of54 := hf54
                                  have hf54 : iv 0 8 f54 := sg_rr7 hf54 (iv_c 5 (a := 5) (b := 5) (by decide +kernel)) (by decide +kernel) rfl
                                  refine lv_icmp_gt (tgt := 196) X.1 X.2.1 dX12_readLawn_189 (by decide) (fun c55 => ?_) (fun c55 => ?_)
                                  · refine lv_iconst (v := 0) X.1 X.2.1 dX12_readLawn_196 (by decide +kernel) ?_
                                    refine lv_istore_n (lv' := [(2, .int 0), (1, .int 0), (0, .ref a0)]) X.1 X.2.1 dX12_readLawn_197 rfl hl (by decide) rfl (fun ls hl => ?_)
                                    refine lv_iload_n X.1 X.2.1 dX12_readLawn_198 rfl (lv_at hl 0 rfl) ?_
                                    refine lv_if_eq (tgt := 216) X.1 X.2.1 dX12_readLawn_199 (by decide) (fun c56 => ?_) (fun c56 => ?_)
                                    · refine lv_aload_n X.1 X.2.1 dX12_readLawn_216 rfl (lv_at hl 2 rfl) ?_
                                      refine ca_X12_fails X hK hG hC hS hb a0 h0 ⟨by omega, by omega, by omega, by omega, by omega⟩ wl_7_141 hl.1 (rest := []) rfl (Nat.le_of_ble_eq_true rfl) ⟨Nat.le_of_ble_eq_true rfl, Nat.le_of_ble_eq_true rfl⟩ ⟨Nat.le_of_ble_eq_true rfl, Nat.le_of_ble_eq_true rfl⟩ dX12_readLawn_217 (fun f57 H locs hf57 hG hS => ?_)
                                      refine lv_pop X.1 X.2.1 dX12_readLawn_220 rfl ?_
                                      have hGm := sgr_toKM hG (by omega) (by omega)
                                      have hG := sgr_toKT hG (by omega) (by omega) (by decide)
                                      exact sg_vret2 X hr hlk hS (fun t ht hW => ⟨sg_post hb hK hC hG hS ht hW, Or.inl (sg_post hb hK hC hGm hS ht hW)⟩) dX12_readLawn_221
                                    · exact ((c56 (iv_one (iv_c 0 (a := 0) (b := 0) (by decide +kernel)) (iv_c 0 (a := 0) (b := 0) (by decide +kernel)) (by decide +kernel)))).elim
                                  · refine lv_iconst (v := 1) X.1 X.2.1 dX12_readLawn_192 (by decide +kernel) ?_
                                    refine lv_goto (tgt := 197) X.1 X.2.1 dX12_readLawn_193 (by decide) ?_
                                    refine lv_istore_n (lv' := [(2, .int 1), (1, .int 0), (0, .ref a0)]) X.1 X.2.1 dX12_readLawn_197 rfl hl (by decide) rfl (fun ls hl => ?_)
                                    refine lv_iload_n X.1 X.2.1 dX12_readLawn_198 rfl (lv_at hl 0 rfl) ?_
                                    refine lv_if_eq (tgt := 216) X.1 X.2.1 dX12_readLawn_199 (by decide) (fun c58 => ?_) (fun c58 => ?_)
                                    · exact ((iv_no (a := 1) (b := 0) (iv_eqm c58 (iv_c 1 (a := 1) (b := 1) (by decide +kernel)) (iv_c 0 (a := 0) (b := 0) (by decide +kernel)) (by decide +kernel)) (by decide +kernel))).elim
                                    · refine lv_aload_n X.1 X.2.1 dX12_readLawn_202 rfl (lv_at hl 2 rfl) ?_
                                      refine gg_X12_25r X hK hG h0 wl_6_203 kf42 dX12_readLawn_203 ?_
                                      refine lv_aload_n X.1 X.2.1 dX12_readLawn_206 rfl (lv_at hl 2 rfl) ?_
                                      refine gg_X12_19r X hK hG h0 wl_6_197 kq45 dX12_readLawn_207 ?_
                                      refine ca_X12_hasLine_r X hK (sgr_toKM hG (by omega) (by omega)) hC (fun _ h => h) hS hb f42 q45 hq45 wl_7_196 hl.1 (rest := []) rfl (Nat.le_of_ble_eq_true rfl) ⟨Nat.le_of_ble_eq_true rfl, Nat.le_of_ble_eq_true rfl⟩ ⟨Nat.le_of_ble_eq_true rfl, Nat.le_of_ble_eq_true rfl⟩ dX12_readLawn_210 (fun f59 locs hf59 hS => ?_)
                                      refine lv_if_eq (tgt := 221) X.1 X.2.1 dX12_readLawn_213 (by decide) (fun c60 => ?_) (fun c60 => ?_)
                                      · have hGm := sgr_toKM hG (by omega) (by omega)
                                        have hG := sgr_toKT hG (by omega) (by omega) (by decide)
                                        exact sg_vret2 X hr hlk hS (fun t ht hW => ⟨sg_post hb hK hC hG hS ht hW, Or.inl (sg_post hb hK hC hGm hS ht hW)⟩) dX12_readLawn_221
                                      · refine lv_aload_n X.1 X.2.1 dX12_readLawn_216 rfl (lv_at hl 2 rfl) ?_
                                        refine ca_X12_fails X hK hG hC hS hb a0 h0 ⟨by omega, by omega, by omega, by omega, by omega⟩ wl_7_141 hl.1 (rest := []) rfl (Nat.le_of_ble_eq_true rfl) ⟨Nat.le_of_ble_eq_true rfl, Nat.le_of_ble_eq_true rfl⟩ ⟨Nat.le_of_ble_eq_true rfl, Nat.le_of_ble_eq_true rfl⟩ dX12_readLawn_217 (fun f61 H locs hf61 hG hS => ?_)
                                        refine lv_pop X.1 X.2.1 dX12_readLawn_220 rfl ?_
                                        have hGm := sgr_toKM hG (by omega) (by omega)
                                        have hG := sgr_toKT hG (by omega) (by omega) (by decide)
                                        exact sg_vret2 X hr hlk hS (fun t ht hW => ⟨sg_post hb hK hC hG hS ht hW, Or.inl (sg_post hb hK hC hGm hS ht hW)⟩) dX12_readLawn_221
                          · have hGm := sgr_toKM hG (by omega) (by omega)
                            have hG := sgr_toKT hG (by omega) (by omega) (by decide)
                            exact sg_vret2 X hr hlk hS (fun t ht hW => ⟨sg_post hb hK hC hG hS ht hW, Or.inl (sg_post hb hK hC hGm hS ht hW)⟩) dX12_readLawn_135
                        · exact ((c30 (iv_one (iv_c 0 (a := 0) (b := 0) (by decide +kernel)) (iv_c 0 (a := 0) (b := 0) (by decide +kernel)) (by decide +kernel)))).elim
                      · exact ((c29 (iv_one (iv_c 0 (a := 0) (b := 0) (by decide +kernel)) (iv_c 0 (a := 0) (b := 0) (by decide +kernel)) (by decide +kernel)))).elim
                    · refine lv_iconst (v := 1) X.1 X.2.1 dX12_readLawn_104 (by decide +kernel) ?_
                      refine lv_goto (tgt := 109) X.1 X.2.1 dX12_readLawn_105 (by decide) ?_
                      refine lv_istore_n (lv' := [(1, .int 1), (0, .ref a0)]) X.1 X.2.1 dX12_readLawn_109 rfl hl (by decide) rfl (fun ls hl => ?_)
                      refine lv_iload_n X.1 X.2.1 dX12_readLawn_110 rfl (lv_at hl 0 rfl) ?_
                      refine lv_if_eq (tgt := 71) X.1 X.2.1 dX12_readLawn_111 (by decide) (fun c62 => ?_) (fun c62 => ?_)
                      · exact ((iv_no (a := 1) (b := 0) (iv_eqm c62 (iv_c 1 (a := 1) (b := 1) (by decide +kernel)) (iv_c 0 (a := 0) (b := 0) (by decide +kernel)) (by decide +kernel)) (by decide +kernel))).elim
                      · refine lv_aload_n X.1 X.2.1 dX12_readLawn_114 rfl (lv_at hl 1 rfl) ?_
                        refine lv_dup X.1 X.2.1 dX12_readLawn_115 rfl ?_
                        refine gg_X12_10r X hK hG h0 wl_6_188 kv27 dX12_readLawn_116 ?_
                        refine lv_iconst (v := 1) X.1 X.2.1 dX12_readLawn_119 (by decide +kernel) ?_
                        refine lv_iadd X.1 X.2.1 dX12_readLawn_120 ?_
                        refine lv_topi (fun f63 ef63 => ?_)
                        have sf63 : f63.toInt = v27.toInt + 1 := sg_inc (k := 1) ef63 (sg_lk (iv_eqm (a' := 59) (b' := 59) c28 hf26 (iv_c 59 (a := 59) (b := 59) (by decide +kernel)) (by decide +kernel)) lv27 hv27) (by decide +kernel)
                        have uf63 : f63.toInt ≤ 241 := Int.le_trans ((iv_add (a' := 1) (b' := 240) ef63 (sg_lk (iv_eqm (a' := 59) (b' := 59) c28 hf26 (iv_c 59 (a := 59) (b := 59) (by decide +kernel)) (by decide +kernel)) lv27 hv27) (iv_c 1 (a := 1) (b := 1) (by decide +kernel)) (by decide +kernel))).2 (by omega)
                        refine pf_X12_10R (lo2 := f63.toInt) (hi2 := 241) X hK hG hS h0 wl_6_188 ⟨_, rfl, Int.le_refl _, uf63⟩ dX12_readLawn_121 (fun H locs hG hS => ?_)
                        refine lv_goto (tgt := 71) X.1 X.2.1 dX12_readLawn_124 (by decide) ?_
                        refine lv_iload_n X.1 X.2.1 dX12_readLawn_71 rfl (lv_at hl 0 rfl) ?_
                        refine lv_if_eq (tgt := 127) X.1 X.2.1 dX12_readLawn_72 (by decide) (fun c64 => ?_) (fun c64 => ?_)
                        · exact ((iv_no (a := 1) (b := 0) (iv_eqm c64 (iv_c 1 (a := 1) (b := 1) (by decide +kernel)) (iv_c 0 (a := 0) (b := 0) (by decide +kernel)) (by decide +kernel)) (by decide +kernel))).elim
                        · refine lv_aload_n X.1 X.2.1 dX12_readLawn_75 rfl (lv_at hl 1 rfl) ?_
                          refine gf_X12_11r X hK hG h0 wl_6_189 dX12_readLawn_76 (fun f65 hf65 kf65 => ?_)
                          have ⟨laf65, uaf65⟩ : (-1) ≤ f65.toInt ∧ f65.toInt ≤ 241 := hf65
                          have hf65 : iv (-1) 241 f65 := ⟨by omega, by omega⟩
                          refine lv_iconst (v := (-1)) X.1 X.2.1 dX12_readLawn_79 (by decide +kernel) ?_
                          refine lv_icmp_ne (tgt := 127) X.1 X.2.1 dX12_readLawn_80 (by decide) (fun c66 => ?_) (fun c66 => ?_)
                          · refine lv_aload_n X.1 X.2.1 dX12_readLawn_127 rfl (lv_at hl 1 rfl) ?_
                            refine gg_X12_11r X hK hG h0 wl_6_189 kf65 dX12_readLawn_128 ?_
                            refine lv_iconst (v := (-1)) X.1 X.2.1 dX12_readLawn_131 (by decide +kernel) ?_
                            refine lv_icmp_eq (tgt := 136) X.1 X.2.1 dX12_readLawn_132 (by decide) (fun c67 => ?_) (fun c67 => ?_)
                            · exact ((iv_no (a := 0) (b := (-1)) (iv_eqm c67 (iv_ne_lo (a' := 0) c66 hf65 (by decide +kernel)) (iv_c (-1) (a := (-1)) (b := (-1)) (by decide +kernel)) (by decide +kernel)) (by decide +kernel))).elim
                            · have hGm := sgr_toKM hG (by omega) (by omega)
                              have hG := sgr_toKT hG (by omega) (by omega) (by decide)
                              exact sg_vret2 X hr hlk hS (fun t ht hW => ⟨sg_post hb hK hC hG hS ht hW, Or.inl (sg_post hb hK hC hGm hS ht hW)⟩) dX12_readLawn_135
                          · exact ih19 H _ _ f63.toInt (by omega) (by omega) hG hS (lv_sub hl [1] rfl) (by omega)
                · have hG := hBg20.2.2.2
                  rw [htg20] at hG
                  refine lv_aload_n X.1 X.2.1 dX12_readLawn_87 rfl (lv_at hl 0 rfl) ?_
                  refine gf_X12_11r X hK hG h0 wl_6_189 dX12_readLawn_88 (fun f68 hf68 kf68 => ?_)
                  have ⟨laf68, uaf68⟩ : 0 ≤ f68.toInt ∧ f68.toInt ≤ 241 := hf68
                  have hf68 : iv 0 241 f68 := ⟨by omega, by omega⟩
                  refine lv_iconst (v := (-1)) X.1 X.2.1 dX12_readLawn_91 (by decide +kernel) ?_
                  refine lv_icmp_ne (tgt := 108) X.1 X.2.1 dX12_readLawn_92 (by decide) (fun c69 => ?_) (fun c69 => ?_)
                  · refine lv_iconst (v := 0) X.1 X.2.1 dX12_readLawn_108 (by decide +kernel) ?_
                    refine lv_istore_n (lv' := [(1, .int 0), (0, .ref a0)]) X.1 X.2.1 dX12_readLawn_109 rfl hl (by decide) rfl (fun ls hl => ?_)
                    refine lv_iload_n X.1 X.2.1 dX12_readLawn_110 rfl (lv_at hl 0 rfl) ?_
                    refine lv_if_eq (tgt := 71) X.1 X.2.1 dX12_readLawn_111 (by decide) (fun c70 => ?_) (fun c70 => ?_)
                    · refine lv_iload_n X.1 X.2.1 dX12_readLawn_71 rfl (lv_at hl 0 rfl) ?_
                      refine lv_if_eq (tgt := 127) X.1 X.2.1 dX12_readLawn_72 (by decide) (fun c71 => ?_) (fun c71 => ?_)
                      · refine lv_aload_n X.1 X.2.1 dX12_readLawn_127 rfl (lv_at hl 1 rfl) ?_
                        refine gg_X12_11r X hK hG h0 wl_6_189 kf68 dX12_readLawn_128 ?_
                        refine lv_iconst (v := (-1)) X.1 X.2.1 dX12_readLawn_131 (by decide +kernel) ?_
                        refine lv_icmp_eq (tgt := 136) X.1 X.2.1 dX12_readLawn_132 (by decide) (fun c72 => ?_) (fun c72 => ?_)
                        · exact ((iv_no (a := 0) (b := (-1)) (iv_eqm c72 hf68 (iv_c (-1) (a := (-1)) (b := (-1)) (by decide +kernel)) (by decide +kernel)) (by decide +kernel))).elim
                        · have hG := sgr_toKT hG (by omega) (by omega) (by omega)
                          exact sg_vret2 X hr hlk hS (fun t ht hW => ⟨sg_post hb hK hC hG hS ht hW, Or.inr ⟨f68, by rw [ht]; exact kf68, hf68⟩⟩) dX12_readLawn_135
                      · exact ((c71 (iv_one (iv_c 0 (a := 0) (b := 0) (by decide +kernel)) (iv_c 0 (a := 0) (b := 0) (by decide +kernel)) (by decide +kernel)))).elim
                    · exact ((c70 (iv_one (iv_c 0 (a := 0) (b := 0) (by decide +kernel)) (iv_c 0 (a := 0) (b := 0) (by decide +kernel)) (by decide +kernel)))).elim
                  · exact ((iv_no (a := 0) (b := (-1)) (iv_eqm c69 hf68 (iv_c (-1) (a := (-1)) (b := (-1)) (by decide +kernel)) (by decide +kernel)) (by decide +kernel))).elim
            exact B19_83 _ H _ _ lo10 (by omega) (by omega) hG hS (lv_sub hl [1] rfl) (Nat.le_refl _)
      · by_cases k73 : z10_1.toInt = 0
        · have hk73 : iv 0 0 z10_1 := ⟨by omega, by omega⟩
          refine lv_aload_n X.1 X.2.1 dX12_readLawn_51 rfl (lv_at hl 0 rfl) ?_
          refine gf_X12_19r X hK hG h0 wl_6_197 dX12_readLawn_52 (fun q74 hq74 kq74 => ?_)
          refine lv_iload_n X.1 X.2.1 dX12_readLawn_55 rfl (lv_at hl 1 rfl) ?_
          refine lv_bipush (v := 115) X.1 X.2.1 dX12_readLawn_56 (by decide +kernel) ?_
          refine lv_iload_n X.1 X.2.1 dX12_readLawn_58 rfl (lv_at hl 1 rfl) ?_
          refine ca_X12_usual_k0 X hK (sgr_toKT hG (by omega) (by omega) (by omega)) hC (fun _ h => h) hS hb 115 (iv_c 115 (a := 115) (b := 115) (by decide +kernel)) z10_1 hk73 wl_7_130 hl.1 (rest := [.int z10_1, .ref q74]) rfl (Nat.le_of_ble_eq_true rfl) ⟨Nat.le_of_ble_eq_true rfl, Nat.le_of_ble_eq_true rfl⟩ ⟨Nat.le_of_ble_eq_true rfl, Nat.le_of_ble_eq_true rfl⟩ dX12_readLawn_59 (fun f75 locs hf75 hS => ?_)
          refine as_50m X hK hG hS hq74 (iv_vpin hk73 (by decide +kernel)) (show z10_1.toInt = z10_1.toInt from rfl) (sg_rr_at hk73 (by decide +kernel) rfl rfl (iv_of hf75 (a' := 1) (b' := 6) (by decide +kernel))) dX12_readLawn_62 (fun H locs hG hS => ?_)
          obtain ⟨y77, ey77⟩ : ∃ y : Int32, y = z10_1 + Int32.ofInt 1 := ⟨_, rfl⟩
          refine lv_iinc (v := y77) (lv' := [(1, .int y77), (0, .ref a0)]) X.1 X.2.1 dX12_readLawn_63 hl (k := 1) rfl ey77.symm (by decide) rfl (fun ls hl => ?_)
          refine lv_goto (tgt := 45) X.1 X.2.1 dX12_readLawn_66 (by decide) ?_
          have bq78 : 0 ≤ z10_1.toInt ∧ z10_1.toInt ≤ 0 := hk73
          have xy77 : y77.toInt = z10_1.toInt + 1 := sg_inc (k := 1) ey77 hk73 (by decide +kernel)
          have hG := sg_cast hG (show (KR false 0 lo10 241 (z10_1.toInt + 1) (-1) P) = (KR false 0 lo10 241 (y77 : Int32).toInt (-1) P) from by rw [show (y77 : Int32).toInt = (z10_1.toInt + 1) from by omega])
          exact ih10 H _ _ y77 lo10 (by omega) (by omega) hG hS (lv_sub hl [1, 0] rfl) (iv_of (iv_add (a' := 1) (b' := 1) ey77 hk73 (iv_c _ (a := 1) (b := 1) (by decide +kernel)) (by decide +kernel)) (a' := 0) (b' := 7) (by decide +kernel)) (iv_stepU ey77 hk73 (by decide +kernel) hN10)
        by_cases k79 : z10_1.toInt = 1
        · have hk79 : iv 1 1 z10_1 := ⟨by omega, by omega⟩
          refine lv_aload_n X.1 X.2.1 dX12_readLawn_51 rfl (lv_at hl 0 rfl) ?_
          refine gf_X12_19r X hK hG h0 wl_6_197 dX12_readLawn_52 (fun q80 hq80 kq80 => ?_)
          refine lv_iload_n X.1 X.2.1 dX12_readLawn_55 rfl (lv_at hl 1 rfl) ?_
          refine lv_bipush (v := 115) X.1 X.2.1 dX12_readLawn_56 (by decide +kernel) ?_
          refine lv_iload_n X.1 X.2.1 dX12_readLawn_58 rfl (lv_at hl 1 rfl) ?_
          refine ca_X12_usual_k1 X hK (sgr_toKT hG (by omega) (by omega) (by omega)) hC (fun _ h => h) hS hb 115 (iv_c 115 (a := 115) (b := 115) (by decide +kernel)) z10_1 hk79 wl_7_130 hl.1 (rest := [.int z10_1, .ref q80]) rfl (Nat.le_of_ble_eq_true rfl) ⟨Nat.le_of_ble_eq_true rfl, Nat.le_of_ble_eq_true rfl⟩ ⟨Nat.le_of_ble_eq_true rfl, Nat.le_of_ble_eq_true rfl⟩ dX12_readLawn_59 (fun f81 locs hf81 hS => ?_)
          refine as_50m X hK hG hS hq80 (iv_vpin hk79 (by decide +kernel)) (show z10_1.toInt = z10_1.toInt from rfl) (sg_rr_at hk79 (by decide +kernel) rfl rfl (iv_of hf81 (a' := 1) (b' := 5) (by decide +kernel))) dX12_readLawn_62 (fun H locs hG hS => ?_)
          obtain ⟨y83, ey83⟩ : ∃ y : Int32, y = z10_1 + Int32.ofInt 1 := ⟨_, rfl⟩
          refine lv_iinc (v := y83) (lv' := [(1, .int y83), (0, .ref a0)]) X.1 X.2.1 dX12_readLawn_63 hl (k := 1) rfl ey83.symm (by decide) rfl (fun ls hl => ?_)
          refine lv_goto (tgt := 45) X.1 X.2.1 dX12_readLawn_66 (by decide) ?_
          have bq84 : 1 ≤ z10_1.toInt ∧ z10_1.toInt ≤ 1 := hk79
          have xy83 : y83.toInt = z10_1.toInt + 1 := sg_inc (k := 1) ey83 hk79 (by decide +kernel)
          have hG := sg_cast hG (show (KR false 0 lo10 241 (z10_1.toInt + 1) (-1) P) = (KR false 0 lo10 241 (y83 : Int32).toInt (-1) P) from by rw [show (y83 : Int32).toInt = (z10_1.toInt + 1) from by omega])
          exact ih10 H _ _ y83 lo10 (by omega) (by omega) hG hS (lv_sub hl [1, 0] rfl) (iv_of (iv_add (a' := 2) (b' := 2) ey83 hk79 (iv_c _ (a := 1) (b := 1) (by decide +kernel)) (by decide +kernel)) (a' := 0) (b' := 7) (by decide +kernel)) (iv_stepU ey83 hk79 (by decide +kernel) hN10)
        by_cases k85 : z10_1.toInt = 2
        · have hk85 : iv 2 2 z10_1 := ⟨by omega, by omega⟩
          refine lv_aload_n X.1 X.2.1 dX12_readLawn_51 rfl (lv_at hl 0 rfl) ?_
          refine gf_X12_19r X hK hG h0 wl_6_197 dX12_readLawn_52 (fun q86 hq86 kq86 => ?_)
          refine lv_iload_n X.1 X.2.1 dX12_readLawn_55 rfl (lv_at hl 1 rfl) ?_
          refine lv_bipush (v := 115) X.1 X.2.1 dX12_readLawn_56 (by decide +kernel) ?_
          refine lv_iload_n X.1 X.2.1 dX12_readLawn_58 rfl (lv_at hl 1 rfl) ?_
          refine ca_X12_usual_k2 X hK (sgr_toKT hG (by omega) (by omega) (by omega)) hC (fun _ h => h) hS hb 115 (iv_c 115 (a := 115) (b := 115) (by decide +kernel)) z10_1 hk85 wl_7_130 hl.1 (rest := [.int z10_1, .ref q86]) rfl (Nat.le_of_ble_eq_true rfl) ⟨Nat.le_of_ble_eq_true rfl, Nat.le_of_ble_eq_true rfl⟩ ⟨Nat.le_of_ble_eq_true rfl, Nat.le_of_ble_eq_true rfl⟩ dX12_readLawn_59 (fun f87 locs hf87 hS => ?_)
          refine as_50m X hK hG hS hq86 (iv_vpin hk85 (by decide +kernel)) (show z10_1.toInt = z10_1.toInt from rfl) (sg_rr_at hk85 (by decide +kernel) rfl rfl (iv_of hf87 (a' := 2) (b' := 5) (by decide +kernel))) dX12_readLawn_62 (fun H locs hG hS => ?_)
          obtain ⟨y89, ey89⟩ : ∃ y : Int32, y = z10_1 + Int32.ofInt 1 := ⟨_, rfl⟩
          refine lv_iinc (v := y89) (lv' := [(1, .int y89), (0, .ref a0)]) X.1 X.2.1 dX12_readLawn_63 hl (k := 1) rfl ey89.symm (by decide) rfl (fun ls hl => ?_)
          refine lv_goto (tgt := 45) X.1 X.2.1 dX12_readLawn_66 (by decide) ?_
          have bq90 : 2 ≤ z10_1.toInt ∧ z10_1.toInt ≤ 2 := hk85
          have xy89 : y89.toInt = z10_1.toInt + 1 := sg_inc (k := 1) ey89 hk85 (by decide +kernel)
          have hG := sg_cast hG (show (KR false 0 lo10 241 (z10_1.toInt + 1) (-1) P) = (KR false 0 lo10 241 (y89 : Int32).toInt (-1) P) from by rw [show (y89 : Int32).toInt = (z10_1.toInt + 1) from by omega])
          exact ih10 H _ _ y89 lo10 (by omega) (by omega) hG hS (lv_sub hl [1, 0] rfl) (iv_of (iv_add (a' := 3) (b' := 3) ey89 hk85 (iv_c _ (a := 1) (b := 1) (by decide +kernel)) (by decide +kernel)) (a' := 0) (b' := 7) (by decide +kernel)) (iv_stepU ey89 hk85 (by decide +kernel) hN10)
        by_cases k91 : z10_1.toInt = 3
        · have hk91 : iv 3 3 z10_1 := ⟨by omega, by omega⟩
          refine lv_aload_n X.1 X.2.1 dX12_readLawn_51 rfl (lv_at hl 0 rfl) ?_
          refine gf_X12_19r X hK hG h0 wl_6_197 dX12_readLawn_52 (fun q92 hq92 kq92 => ?_)
          refine lv_iload_n X.1 X.2.1 dX12_readLawn_55 rfl (lv_at hl 1 rfl) ?_
          refine lv_bipush (v := 115) X.1 X.2.1 dX12_readLawn_56 (by decide +kernel) ?_
          refine lv_iload_n X.1 X.2.1 dX12_readLawn_58 rfl (lv_at hl 1 rfl) ?_
          refine ca_X12_usual_k3 X hK (sgr_toKT hG (by omega) (by omega) (by omega)) hC (fun _ h => h) hS hb 115 (iv_c 115 (a := 115) (b := 115) (by decide +kernel)) z10_1 hk91 wl_7_130 hl.1 (rest := [.int z10_1, .ref q92]) rfl (Nat.le_of_ble_eq_true rfl) ⟨Nat.le_of_ble_eq_true rfl, Nat.le_of_ble_eq_true rfl⟩ ⟨Nat.le_of_ble_eq_true rfl, Nat.le_of_ble_eq_true rfl⟩ dX12_readLawn_59 (fun f93 locs hf93 hS => ?_)
          refine as_50m X hK hG hS hq92 (iv_vpin hk91 (by decide +kernel)) (show z10_1.toInt = z10_1.toInt from rfl) (sg_rr_at hk91 (by decide +kernel) rfl rfl (iv_of hf93 (a' := 1) (b' := 5) (by decide +kernel))) dX12_readLawn_62 (fun H locs hG hS => ?_)
          obtain ⟨y95, ey95⟩ : ∃ y : Int32, y = z10_1 + Int32.ofInt 1 := ⟨_, rfl⟩
          refine lv_iinc (v := y95) (lv' := [(1, .int y95), (0, .ref a0)]) X.1 X.2.1 dX12_readLawn_63 hl (k := 1) rfl ey95.symm (by decide) rfl (fun ls hl => ?_)
          refine lv_goto (tgt := 45) X.1 X.2.1 dX12_readLawn_66 (by decide) ?_
          have bq96 : 3 ≤ z10_1.toInt ∧ z10_1.toInt ≤ 3 := hk91
          have xy95 : y95.toInt = z10_1.toInt + 1 := sg_inc (k := 1) ey95 hk91 (by decide +kernel)
          have hG := sg_cast hG (show (KR false 0 lo10 241 (z10_1.toInt + 1) (-1) P) = (KR false 0 lo10 241 (y95 : Int32).toInt (-1) P) from by rw [show (y95 : Int32).toInt = (z10_1.toInt + 1) from by omega])
          exact ih10 H _ _ y95 lo10 (by omega) (by omega) hG hS (lv_sub hl [1, 0] rfl) (iv_of (iv_add (a' := 4) (b' := 4) ey95 hk91 (iv_c _ (a := 1) (b := 1) (by decide +kernel)) (by decide +kernel)) (a' := 0) (b' := 7) (by decide +kernel)) (iv_stepU ey95 hk91 (by decide +kernel) hN10)
        by_cases k97 : z10_1.toInt = 4
        · have hk97 : iv 4 4 z10_1 := ⟨by omega, by omega⟩
          refine lv_aload_n X.1 X.2.1 dX12_readLawn_51 rfl (lv_at hl 0 rfl) ?_
          refine gf_X12_19r X hK hG h0 wl_6_197 dX12_readLawn_52 (fun q98 hq98 kq98 => ?_)
          refine lv_iload_n X.1 X.2.1 dX12_readLawn_55 rfl (lv_at hl 1 rfl) ?_
          refine lv_bipush (v := 115) X.1 X.2.1 dX12_readLawn_56 (by decide +kernel) ?_
          refine lv_iload_n X.1 X.2.1 dX12_readLawn_58 rfl (lv_at hl 1 rfl) ?_
          refine ca_X12_usual_k4 X hK (sgr_toKT hG (by omega) (by omega) (by omega)) hC (fun _ h => h) hS hb 115 (iv_c 115 (a := 115) (b := 115) (by decide +kernel)) z10_1 hk97 wl_7_130 hl.1 (rest := [.int z10_1, .ref q98]) rfl (Nat.le_of_ble_eq_true rfl) ⟨Nat.le_of_ble_eq_true rfl, Nat.le_of_ble_eq_true rfl⟩ ⟨Nat.le_of_ble_eq_true rfl, Nat.le_of_ble_eq_true rfl⟩ dX12_readLawn_59 (fun f99 locs hf99 hS => ?_)
          refine as_50m X hK hG hS hq98 (iv_vpin hk97 (by decide +kernel)) (show z10_1.toInt = z10_1.toInt from rfl) (sg_rr_at hk97 (by decide +kernel) rfl rfl (iv_of hf99 (a' := 0) (b' := 8) (by decide +kernel))) dX12_readLawn_62 (fun H locs hG hS => ?_)
          obtain ⟨y101, ey101⟩ : ∃ y : Int32, y = z10_1 + Int32.ofInt 1 := ⟨_, rfl⟩
          refine lv_iinc (v := y101) (lv' := [(1, .int y101), (0, .ref a0)]) X.1 X.2.1 dX12_readLawn_63 hl (k := 1) rfl ey101.symm (by decide) rfl (fun ls hl => ?_)
          refine lv_goto (tgt := 45) X.1 X.2.1 dX12_readLawn_66 (by decide) ?_
          have bq102 : 4 ≤ z10_1.toInt ∧ z10_1.toInt ≤ 4 := hk97
          have xy101 : y101.toInt = z10_1.toInt + 1 := sg_inc (k := 1) ey101 hk97 (by decide +kernel)
          have hG := sg_cast hG (show (KR false 0 lo10 241 (z10_1.toInt + 1) (-1) P) = (KR false 0 lo10 241 (y101 : Int32).toInt (-1) P) from by rw [show (y101 : Int32).toInt = (z10_1.toInt + 1) from by omega])
          exact ih10 H _ _ y101 lo10 (by omega) (by omega) hG hS (lv_sub hl [1, 0] rfl) (iv_of (iv_add (a' := 5) (b' := 5) ey101 hk97 (iv_c _ (a := 1) (b := 1) (by decide +kernel)) (by decide +kernel)) (a' := 0) (b' := 7) (by decide +kernel)) (iv_stepU ey101 hk97 (by decide +kernel) hN10)
        by_cases k103 : z10_1.toInt = 5
        · have hk103 : iv 5 5 z10_1 := ⟨by omega, by omega⟩
          refine lv_aload_n X.1 X.2.1 dX12_readLawn_51 rfl (lv_at hl 0 rfl) ?_
          refine gf_X12_19r X hK hG h0 wl_6_197 dX12_readLawn_52 (fun q104 hq104 kq104 => ?_)
          refine lv_iload_n X.1 X.2.1 dX12_readLawn_55 rfl (lv_at hl 1 rfl) ?_
          refine lv_bipush (v := 115) X.1 X.2.1 dX12_readLawn_56 (by decide +kernel) ?_
          refine lv_iload_n X.1 X.2.1 dX12_readLawn_58 rfl (lv_at hl 1 rfl) ?_
          refine ca_X12_usual_k5 X hK (sgr_toKT hG (by omega) (by omega) (by omega)) hC (fun _ h => h) hS hb 115 (iv_c 115 (a := 115) (b := 115) (by decide +kernel)) z10_1 hk103 wl_7_130 hl.1 (rest := [.int z10_1, .ref q104]) rfl (Nat.le_of_ble_eq_true rfl) ⟨Nat.le_of_ble_eq_true rfl, Nat.le_of_ble_eq_true rfl⟩ ⟨Nat.le_of_ble_eq_true rfl, Nat.le_of_ble_eq_true rfl⟩ dX12_readLawn_59 (fun f105 locs hf105 hS => ?_)
          refine as_50m X hK hG hS hq104 (iv_vpin hk103 (by decide +kernel)) (show z10_1.toInt = z10_1.toInt from rfl) (sg_rr_at hk103 (by decide +kernel) rfl rfl (iv_of hf105 (a' := 0) (b' := 8) (by decide +kernel))) dX12_readLawn_62 (fun H locs hG hS => ?_)
          obtain ⟨y107, ey107⟩ : ∃ y : Int32, y = z10_1 + Int32.ofInt 1 := ⟨_, rfl⟩
          refine lv_iinc (v := y107) (lv' := [(1, .int y107), (0, .ref a0)]) X.1 X.2.1 dX12_readLawn_63 hl (k := 1) rfl ey107.symm (by decide) rfl (fun ls hl => ?_)
          refine lv_goto (tgt := 45) X.1 X.2.1 dX12_readLawn_66 (by decide) ?_
          have bq108 : 5 ≤ z10_1.toInt ∧ z10_1.toInt ≤ 5 := hk103
          have xy107 : y107.toInt = z10_1.toInt + 1 := sg_inc (k := 1) ey107 hk103 (by decide +kernel)
          have hG := sg_cast hG (show (KR false 0 lo10 241 (z10_1.toInt + 1) (-1) P) = (KR false 0 lo10 241 (y107 : Int32).toInt (-1) P) from by rw [show (y107 : Int32).toInt = (z10_1.toInt + 1) from by omega])
          exact ih10 H _ _ y107 lo10 (by omega) (by omega) hG hS (lv_sub hl [1, 0] rfl) (iv_of (iv_add (a' := 6) (b' := 6) ey107 hk103 (iv_c _ (a := 1) (b := 1) (by decide +kernel)) (by decide +kernel)) (a' := 0) (b' := 7) (by decide +kernel)) (iv_stepU ey107 hk103 (by decide +kernel) hN10)
        by_cases k109 : z10_1.toInt = 6
        · have hk109 : iv 6 6 z10_1 := ⟨by omega, by omega⟩
          refine lv_aload_n X.1 X.2.1 dX12_readLawn_51 rfl (lv_at hl 0 rfl) ?_
          refine gf_X12_19r X hK hG h0 wl_6_197 dX12_readLawn_52 (fun q110 hq110 kq110 => ?_)
          refine lv_iload_n X.1 X.2.1 dX12_readLawn_55 rfl (lv_at hl 1 rfl) ?_
          refine lv_bipush (v := 115) X.1 X.2.1 dX12_readLawn_56 (by decide +kernel) ?_
          refine lv_iload_n X.1 X.2.1 dX12_readLawn_58 rfl (lv_at hl 1 rfl) ?_
          refine ca_X12_usual_k6 X hK (sgr_toKT hG (by omega) (by omega) (by omega)) hC (fun _ h => h) hS hb 115 (iv_c 115 (a := 115) (b := 115) (by decide +kernel)) z10_1 hk109 wl_7_130 hl.1 (rest := [.int z10_1, .ref q110]) rfl (Nat.le_of_ble_eq_true rfl) ⟨Nat.le_of_ble_eq_true rfl, Nat.le_of_ble_eq_true rfl⟩ ⟨Nat.le_of_ble_eq_true rfl, Nat.le_of_ble_eq_true rfl⟩ dX12_readLawn_59 (fun f111 locs hf111 hS => ?_)
          refine as_50m X hK hG hS hq110 (iv_vpin hk109 (by decide +kernel)) (show z10_1.toInt = z10_1.toInt from rfl) (sg_rr_at hk109 (by decide +kernel) rfl rfl (iv_of hf111 (a' := 0) (b' := 1) (by decide +kernel))) dX12_readLawn_62 (fun H locs hG hS => ?_)
          obtain ⟨y113, ey113⟩ : ∃ y : Int32, y = z10_1 + Int32.ofInt 1 := ⟨_, rfl⟩
          refine lv_iinc (v := y113) (lv' := [(1, .int y113), (0, .ref a0)]) X.1 X.2.1 dX12_readLawn_63 hl (k := 1) rfl ey113.symm (by decide) rfl (fun ls hl => ?_)
          refine lv_goto (tgt := 45) X.1 X.2.1 dX12_readLawn_66 (by decide) ?_
          have bq114 : 6 ≤ z10_1.toInt ∧ z10_1.toInt ≤ 6 := hk109
          have xy113 : y113.toInt = z10_1.toInt + 1 := sg_inc (k := 1) ey113 hk109 (by decide +kernel)
          have hG := sg_cast hG (show (KR false 0 lo10 241 (z10_1.toInt + 1) (-1) P) = (KR false 0 lo10 241 (y113 : Int32).toInt (-1) P) from by rw [show (y113 : Int32).toInt = (z10_1.toInt + 1) from by omega])
          exact ih10 H _ _ y113 lo10 (by omega) (by omega) hG hS (lv_sub hl [1, 0] rfl) (iv_of (iv_add (a' := 7) (b' := 7) ey113 hk109 (iv_c _ (a := 1) (b := 1) (by decide +kernel)) (by decide +kernel)) (a' := 0) (b' := 7) (by decide +kernel)) (iv_stepU ey113 hk109 (by decide +kernel) hN10)
        exact absurd (iv_lt (b' := 6) (iv_gt_of c11) hz10_1 (iv_c 7 (a := 7) (b := 7) (by decide +kernel)) (by decide +kernel)) (fun hh => by have := hh.1; have := hh.2; omega)
  have cq115 : (0 : Int32).toInt = 0 := by decide +kernel
  have hG := sg_cast hG (show (KR false 0 0 241 0 (-1) P) = (KR false 0 0 241 (0 : Int32).toInt (-1) P) from by rw [show (0 : Int32).toInt = 0 from by omega])
  exact B10_45 _ H _ _ 0 0 (by omega) (by omega) hG hS (lv_sub hl [1, 0] rfl) (iv_of (iv_c 0 (a := 0) (b := 0) (by decide +kernel)) (a' := 0) (b' := 7) (by decide +kernel)) (Nat.le_refl _)

theorem ca_X12_readLawn   (X : CallFix p m c cc nL s args sg_tbl own) (hK : va_K D vwCl tys s) (hG : sgG (KT P) D vwCl (fun q : Nat => base ≤ q) tys ad ks H) (hC : sgC base s) (hS : va_S (fun q : Nat => base ≤ q) s.heap H locs) (hb : base ≤ s.heap.size) (a0 : Nat) (h0 : isK ad ks 12 a0) (hl : Cond.methodLink own index yX12_readLawn ∈ sg_tbl) (hsize : ls.size = nL) (hst : st0 = [].reverse ++ .ref a0 :: rest) (hW : (rest.map fun v => v.category).sum ≤ 8) (hR : 8 ≤ R.frames ∧ 176 ≤ R.locals) (hf : cells ≤ R.cells ∧ slots ≤ R.slots) (hdg : decode cc pc = .ok (.invokevirtual index, 3)) (kk : ∀ (t : State) (H1 : Heap) (locs1 : List Loc), t.heap = H1 → ((fun t : State => sgB (KT P) D vwCl base tys ad ks t ∧ (sgB (KM 7 P) D vwCl base tys ad ks t ∨ ∃ w : Int32, fld D t.heap 12 a0 11 (.int w) ∧ iv 0 241 w)) t) → va_S (fun q : Nat => base ≤ q) s.heap H1 locs1 → W p l e R s m args below meth c H1 locs1 cells slots Q (F0 m (pc + 3) ls rest)) : W p l e R s m args below meth c H locs cells slots Q (F0 m pc ls st0) :=
  sg_callV2v X hK hG hC hS hb (m_X12_readLawn l a0 h0) h0 (k := 12) (ci := 12) rfl (C := RX12) (T := TX12) (N := 53) rfl wl_7_125 wl_1_13 wl_7_124 wl_0_49 (n := 0) (by decide +kernel) rfl rfl rfl hl hsize hst hW hR hf hdg kk
end
