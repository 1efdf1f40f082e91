
section
variable {p : Program} {l : Launch} {e : Env} {R : Room} {s : State} {m : MethodId} {args : Array Value} {below : List Frame} {meth : Method} {c : Code} {H : Heap} {locs : List Loc} {cells slots : Nat} {Q : State → Prop} {cc : ByteArray} {nL pc : Nat} {ls : Array Slot} {rest : List Value} {own : String} {D : va_G} {A : Nat → Prop} {tys : List (ClassId × FieldType)} {ad ks : List Nat} {P : sgPm} {H0 : Heap} {index : Nat} {base : Nat} {st0 : List Value} {a : Nat}

set_option maxHeartbeats 8000000 in
set_option maxRecDepth 100000 in
theorem m_X12_fails_v (l : Launch) {D : va_G} {base : Nat} {tys : List (ClassId × FieldType)} {ad ks : List Nat} {P : sgPm}{b : Bool} {d : Int} {lo mr f : Int}  (a0 : Nat) (h0 : isK ad ks 12 a0) (hlo : 0 ≤ lo ∧ lo ≤ 241 ∧ -1 ≤ f ∧ f ≤ 0 ∧ 0 ≤ mr) : Met l yX12_fails (Cond.code yX12_fails cX12_fails 1 (some .boolean) :: sg_tbl) ({ frames := 0, cells := 0, slots := 0, locals := 0 }) (va_Pc [.ref a0] (sgB (KR b d lo 241 mr f P) D vwCl base tys ad ks)) (va_Qi (fun r (u : Int32) => u = r ∧ (fun r : Int32 => iv 0 0 r) r) (fun u t => sgB (KR b d lo 241 mr f P) D vwCl base tys ad ks t ∧ ∃ w : Int32, fld D t.heap 12 a0 11 (.int w) ∧ iv 0 241 w) (fun q : Nat => base ≤ q)) 0 0 (fun q : Nat => base ≤ q) := by
  refine sg_ofW (by decide +kernel) (Nat.le_of_ble_eq_true rfl) (fun p e s m below meth c X hr hlk hb hK hC hG ls hl => ?_)
  have hS : va_S (fun q : Nat => base ≤ q) s.heap s.heap [] := va_S.rf
  have hl : lv_has ls 1 [(0, .ref a0)] := hl
  refine lv_aload_n X.1 X.2.1 dX12_fails_0 rfl (lv_at hl 0 rfl) ?_
  refine gf_X12_11r X hK hG h0 wl_6_189 dX12_fails_1 (fun f1 hf1 kf1 => ?_)
  have ⟨laf1, uaf1⟩ : f ≤ f1.toInt ∧ f1.toInt ≤ 241 := hf1
  have hf1 : iv (-1) 241 f1 := ⟨by omega, by omega⟩
  refine lv_iconst (v := (-1)) X.1 X.2.1 dX12_fails_4 (by decide +kernel) ?_
  refine lv_icmp_ne (tgt := 16) X.1 X.2.1 dX12_fails_5 (by decide) (fun c2 => ?_) (fun c2 => ?_)
  · refine lv_iconst (v := 0) X.1 X.2.1 dX12_fails_16 (by decide +kernel) ?_
    exact sg_zret2 X hr (sg_zn (iv_of (iv_c 0 (a := 0) (b := 0) (by decide +kernel)) (a' := 0) (b' := 1) (by decide +kernel))) hlk hS (iv_c 0 (a := 0) (b := 0) (by decide +kernel)) (fun t ht hW => ⟨sg_post hb hK hC hG hS ht hW, f1, by rw [ht]; exact kf1, (iv_ne_lo (a' := 0) c2 hf1 (by decide +kernel))⟩) dX12_fails_17
  · refine lv_aload_n X.1 X.2.1 dX12_fails_8 rfl (lv_at hl 0 rfl) ?_
    refine lv_aload_n X.1 X.2.1 dX12_fails_9 rfl (lv_at hl 0 rfl) ?_
    refine gf_X12_10r X hK hG h0 wl_6_188 dX12_fails_10 (fun f3 hf3 kf3 => ?_)
    have ⟨laf3, uaf3⟩ : lo ≤ f3.toInt ∧ f3.toInt ≤ 241 := hf3
    have hf3 : iv 0 241 f3 := ⟨by omega, by omega⟩
    refine pf_X12_11r X hK hG hS h0 wl_6_189 ⟨_, rfl, Int.le_trans (by omega) (hf3).1, (hf3).2⟩ dX12_fails_13 (fun H locs hG hS ku4 ru4 => ?_)
    refine lv_iconst (v := 0) X.1 X.2.1 dX12_fails_16 (by decide +kernel) ?_
    exact sg_zret2 X hr (sg_zn (iv_of (iv_c 0 (a := 0) (b := 0) (by decide +kernel)) (a' := 0) (b' := 1) (by decide +kernel))) hlk hS (iv_c 0 (a := 0) (b := 0) (by decide +kernel)) (fun t ht hW => ⟨sg_post hb hK hC hG hS ht hW, f3, by rw [ht]; exact ku4, hf3⟩) dX12_fails_17

theorem ca_X12_fails_v  {b : Bool} {d : Int} {lo mr f : Int}  (X : CallFix p m c cc nL s args sg_tbl own) (hK : va_K D vwCl tys s) (hG : sgG (KR b d lo 241 mr f P) D vwCl (fun q : Nat => base ≤ q) tys ad ks H) (hC : sgC base s) (hS : va_S (fun q : Nat => base ≤ q) s.heap H locs) (hb : base ≤ s.heap.size) (a0 : Nat) (h0 : isK ad ks 12 a0) (hlo : 0 ≤ lo ∧ lo ≤ 241 ∧ -1 ≤ f ∧ f ≤ 0 ∧ 0 ≤ mr) (hl : Cond.methodLink own index yX12_fails ∈ sg_tbl) (hsize : ls.size = nL) (hst : st0 = [].reverse ++ .ref a0 :: rest) (hW : (rest.map fun v => v.category).sum ≤ 8) (hR : 1 ≤ R.frames ∧ 20 ≤ R.locals) (hf : cells ≤ R.cells ∧ slots ≤ R.slots) (hdg : decode cc pc = .ok (.invokevirtual index, 3)) (kk : ∀ (r : Int32) (t : State) (H1 : Heap) (locs1 : List Loc), t.heap = H1 → (fun r : Int32 => iv 0 0 r) r → (sgB (KR b d lo 241 mr f P) D vwCl base tys ad ks t ∧ ∃ w : Int32, fld D t.heap 12 a0 11 (.int w) ∧ iv 0 241 w) → va_S (fun q : Nat => base ≤ q) s.heap H1 locs1 → W p l e R s m args below meth c H1 locs1 cells slots Q (F0 m (pc + 3) ls (.int r :: rest))) : W p l e R s m args below meth c H locs cells slots Q (F0 m pc ls st0) :=
  sg_callV2i X hK hG hC hS hb (m_X12_fails_v l a0 h0 hlo) h0 (k := 12) (ci := 12) rfl (C := RX12) (T := TX12) (N := 53) rfl wl_7_144 wl_1_13 wl_7_143 wl_0_53 (n := 0) (by decide +kernel) rfl rfl rfl hl hsize hst hW hR hf hdg kk
end
