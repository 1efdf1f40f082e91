
section
variable {p : Program} {l : Launch} {e : Env} {R : Room} {s : State} {m : MethodId} {args : Array Value} {below : List Frame} {meth : Method} {c : Code} {H : Heap} {locs : List Loc} {cells slots : Nat} {Q : State → Prop} {cc : ByteArray} {nL pc : Nat} {ls : Array Slot} {rest : List Value} {own : String} {D : va_G} {A : Nat → Prop} {tys : List (ClassId × FieldType)} {ad ks : List Nat} {P : sgPm} {H0 : Heap} {index : Nat} {base : Nat} {st0 : List Value} {a : Nat}

theorem m_X12_text_e (l : Launch) {D : va_G} {base : Nat} {tys : List (ClassId × FieldType)} {ad ks : List Nat} {P : sgPm} (hp10 : sgPin P = none) (a0 : Nat) (h0 : isK ad ks 12 a0) (x1 : Int32) (hl0 : 0 ≤ sgL2 P ∧ sgL2 P ≤ 240) (hby : sgBy2 P) : Met l yX12_text (Cond.code yX12_text cX12_text 4 (some .int) :: sg_tbl) ({ frames := 33, cells := 0, slots := 0, locals := 767 }) (va_Pc [.ref a0, .int x1] (sgB (KT P) D vwCl base tys ad ks)) (va_Qi (fun r (u : Int32) => u = r ∧ (fun r : Int32 => True) r) (fun u t => ∃ P1 : sgPm, sgKeep P P1 ∧ sgPin P1 = none ∧ sgSd2 P P1 ∧ sgGm P1 = sgGm P ∧ sgTy2 x1.toInt P P1 u.toInt ∧ sgB (KT P1) D vwCl base tys ad ks t) (fun q : Nat => base ≤ q)) 0 0 (fun q : Nat => base ≤ q) := by
  by_cases e0 : x1 = 0
  · have hx : iv 0 0 x1 := by rw [e0]; exact iv_c 0 (a := 0) (b := 0) (by decide +kernel)
    refine sg_monoP (m_X12_text_e0 l hp10 a0 h0 x1 hx hl0 hby) (fun args s o t h => sg_qi h (fun u hW => ?_))
    obtain ⟨P1, g1, g2, g4, g6, g5, hB⟩ := hW
    exact ⟨P1, g1, g2, g4, g6, sgTy2_0 hx g5, hB⟩
  by_cases e1 : x1 = 1
  · have hx : iv 1 1 x1 := by rw [e1]; exact iv_c 1 (a := 1) (b := 1) (by decide +kernel)
    refine sg_monoP (m_X12_text_e1 l hp10 a0 h0 x1 hx hl0 hby) (fun args s o t h => sg_qi h (fun u hW => ?_))
    obtain ⟨P1, g1, g2, g4, g6, g5, hB⟩ := hW
    exact ⟨P1, g1, g2, g4, g6, sgTy2_1 hx g5, hB⟩
  by_cases e2 : x1 = 2
  · have hx : iv 2 2 x1 := by rw [e2]; exact iv_c 2 (a := 2) (b := 2) (by decide +kernel)
    refine sg_monoP (m_X12_text_e2 l hp10 a0 h0 x1 hx hl0 hby) (fun args s o t h => sg_qi h (fun u hW => ?_))
    obtain ⟨P1, g1, g2, g4, g6, g5, hB⟩ := hW
    exact ⟨P1, g1, g2, g4, g6, sgTy2_2 hx g5, hB⟩
  have hso := sg_so e0 e1 e2
  refine sg_monoP (m_X12_text_en l hp10 a0 h0 x1 hso) (fun args s o t h => sg_qi h (fun u hW => ?_))
  obtain ⟨P1, g1, g2, g4, g6, g5, hB⟩ := hW
  exact ⟨P1, g1, g2, g4, g6, Or.inr (Or.inr (Or.inr ⟨sgTk2_n hso, g5⟩)), hB⟩

theorem ca_X12_text_e   (X : CallFix p m c cc nL s args sg_tbl own) (hK : va_K D vwCl tys s) (hG : sgG (KT P) D vwCl (fun q : Nat => base ≤ q) tys ad ks H) (hC : sgC base s) (hS : va_S (fun q : Nat => base ≤ q) s.heap H locs) (hb : base ≤ s.heap.size) (hp10 : sgPin P = none) (a0 : Nat) (h0 : isK ad ks 12 a0) (x1 : Int32) (hl0 : 0 ≤ sgL2 P ∧ sgL2 P ≤ 240) (hby : sgBy2 P) (hl : Cond.methodLink own index yX12_text ∈ sg_tbl) (hsize : ls.size = nL) (hst : st0 = [.int x1].reverse ++ .ref a0 :: rest) (hW : (rest.map fun v => v.category).sum ≤ 8) (hR : 34 ≤ R.frames ∧ 790 ≤ R.locals) (hf : cells ≤ R.cells ∧ slots ≤ R.slots) (hdg : decode cc pc = .ok (.invokevirtual index, 3)) (kk : ∀ (r : Int32) (t : State) (H1 : Heap) (locs1 : List Loc), t.heap = H1 → (fun r : Int32 => True) r → (∃ P1 : sgPm, sgKeep P P1 ∧ sgPin P1 = none ∧ sgSd2 P P1 ∧ sgGm P1 = sgGm P ∧ sgTy2 x1.toInt P P1 r.toInt ∧ sgB (KT P1) D vwCl base tys ad ks t) → va_S (fun q : Nat => base ≤ q) s.heap H1 locs1 → W p l e R s m args below meth c H1 locs1 cells slots Q (F0 m (pc + 3) ls (.int r :: rest))) : W p l e R s m args below meth c H locs cells slots Q (F0 m pc ls st0) :=
  sg_callV2i X hK hG hC hS hb (m_X12_text_e l hp10 a0 h0 x1 hl0 hby) h0 (k := 12) (ci := 12) rfl (C := RX12) (T := TX12) (N := 53) rfl wl_8_44 wl_1_13 wl_8_42 wl_8_43 (n := 1) (by decide +kernel) rfl rfl rfl hl hsize hst hW hR hf hdg kk
end
