/-- what was told, told anew -/
def sgSt (P : sgPm) (t1 : Nat → Int) (l1 : Int) (t2 : Nat → Int) (l2 : Int) : sgPm := (P.1, P.2.1, P.2.2.1, P.2.2.2.1, P.2.2.2.2.1, P.2.2.2.2.2.1, P.2.2.2.2.2.2.1, P.2.2.2.2.2.2.2.1, P.2.2.2.2.2.2.2.2.1, P.2.2.2.2.2.2.2.2.2.1, P.2.2.2.2.2.2.2.2.2.2.1, P.2.2.2.2.2.2.2.2.2.2.2.1, P.2.2.2.2.2.2.2.2.2.2.2.2.1, P.2.2.2.2.2.2.2.2.2.2.2.2.2.1, P.2.2.2.2.2.2.2.2.2.2.2.2.2.2.1, P.2.2.2.2.2.2.2.2.2.2.2.2.2.2.2.1, P.2.2.2.2.2.2.2.2.2.2.2.2.2.2.2.2.1, t1, l1, t2, l2, sgGm P)
def sgUp (f : Nat → Int) (n : Nat) (v : Int) : Nat → Int := fun j => if j = n then v else f j
theorem stS_10 {P : sgPm} {t1 t2 : Nat → Int} {l1 l2 : Int} {l1' : Int} : sgS10 (sgSt P t1 l1' t2 l2) (sgSt P t1 l1 t2 l2) := by
  simp only [sgS10, sgSt, and_self]
theorem stR_10 {P : sgPm} {t1 t2 : Nat → Int} {l1 l2 : Int} : sgS10 (sgSt P t1 l1 t2 l2) (sgSt P t1 l1 t2 l2) := by
  simp only [sgS10, sgSt, and_self]
theorem stS_12 {P : sgPm} {t1 t2 : Nat → Int} {l1 l2 : Int} {l2' : Int} : sgS12 (sgSt P t1 l1 t2 l2') (sgSt P t1 l1 t2 l2) := by
  simp only [sgS12, sgSt, and_self]
theorem stR_12 {P : sgPm} {t1 t2 : Nat → Int} {l1 l2 : Int} : sgS12 (sgSt P t1 l1 t2 l2) (sgSt P t1 l1 t2 l2) := by
  simp only [sgS12, sgSt, and_self]
theorem stS_42 {P : sgPm} {t1 t2 : Nat → Int} {l1 l2 : Int} {t1' : Nat → Int} : sgS42 (sgSt P t1' l1 t2 l2) (sgSt P t1 l1 t2 l2) := by
  simp only [sgS42, sgSt, and_self]
theorem stR_42 {P : sgPm} {t1 t2 : Nat → Int} {l1 l2 : Int} : sgS42 (sgSt P t1 l1 t2 l2) (sgSt P t1 l1 t2 l2) := by
  simp only [sgS42, sgSt, and_self]
theorem stS_45 {P : sgPm} {t1 t2 : Nat → Int} {l1 l2 : Int} {t2' : Nat → Int} : sgS45 (sgSt P t1 l1 t2' l2) (sgSt P t1 l1 t2 l2) := by
  simp only [sgS45, sgSt, and_self]
theorem stR_45 {P : sgPm} {t1 t2 : Nat → Int} {l1 l2 : Int} : sgS45 (sgSt P t1 l1 t2 l2) (sgSt P t1 l1 t2 l2) := by
  simp only [sgS45, sgSt, and_self]
section SGP
variable {p : Program} {l : Launch} {e : Env} {R : Room} {s : State} {m : MethodId} {args : Array Value} {below : List Frame} {meth : Method} {c : Code} {H : Heap} {locs : List Loc} {cells slots : Nat} {Q : State → Prop} {cc : ByteArray} {nL pc : Nat} {ls : Array Slot} {rest : List Value} {own : String} {D : va_G} {A : Nat → Prop} {tys : List (ClassId × FieldType)} {ad ks : List Nat} {P : sgPm} {H0 : Heap} {index : Nat} {a : Nat} {t1 t2 : Nat → Int} {l1 l2 : Int}
theorem pf_X10_1g {x : Int32} {B1 B2 : sgPm} (hb : sgS10 B2 B1) (hb0 : sgS10 B1 B1) (hx : sgL1 B2 = x.toInt) (X : CallFix p m c cc nL s args sg_tbl own) (hK : va_K D vwCl tys s) (hG : sgG (KT (B1)) D vwCl A tys ad ks H) (hS : va_S A H0 H locs) (ha : isK ad ks 10 a) (hl : Cond.fieldLink own index "LawnAhead$Tape" "length" "I" ∈ sg_tbl) (hv : iv 0 240 x) (hdg : decode cc pc = .ok (.putfield index, 3))
    (kk : ∀ (H1 : Heap) (locs1 : List Loc), sgG (KT (B2)) D vwCl A tys ad ks H1 → va_S A H0 H1 locs1 → W p l e R s m args below meth c H1 locs1 cells slots Q (F0 m (pc + 3) ls rest)) : W p l e R s m args below meth c H locs cells slots Q (F0 m pc ls (.int x :: .ref a :: rest)) := by
  have hb2 := hb
  obtain ⟨b0, b1, b2, b3, b4, b5, b6, b7, b8, b9, b10, b11, b12, b13, b14, b15, b16, b17, b19, b20, b21⟩ := hb2
  exact sg_put1 (kt' := KT B2) X hK hG hS ha (k := 10) (by decide) (ci := 10) (fts := [.inr (.inl (false, 42)), .inl (sgC240 (sgL1 B1), sgC240 (sgL1 B1)), .inl (0, 240), .inl ((-2147483648), 2147483647)]) (fts' := [.inr (.inl (false, 42)), .inl (sgC240 (sgL1 B2), sgC240 (sgL1 B2)), .inl (0, 240), .inl ((-2147483648), 2147483647)]) rfl rfl (C := RX10) (T := TX10) (N := 4) rfl inL_X10 tyX10 tyX10_ok nmX10 1 (by decide) rfl (t' := .inl (sgC240 (sgL1 B2), sgC240 (sgL1 B2))) rfl (fun i hi => by match i, hi with
    | 0, hi => rfl
    | 1, hi => exact absurd rfl hi
    | 2, hi => rfl
    | 3, hi => rfl
    | i + 4, hi => rfl) (KT_but10 (B := B1) hb hb0) hl (fun _ h => h) rfl (ty := .int) rfl rfl rfl ⟨_, rfl, by rw [hx]; exact sgC240_of hv⟩ hdg kk
theorem pf_X10_1q {x : Int32} (X : CallFix p m c cc nL s args sg_tbl own) (hK : va_K D vwCl tys s) (hG : sgG (KT (sgSt P t1 l1 t2 l2)) D vwCl A tys ad ks H) (hS : va_S A H0 H locs) (ha : isK ad ks 10 a) (hl : Cond.fieldLink own index "LawnAhead$Tape" "length" "I" ∈ sg_tbl) (hv : iv 0 240 x) (hdg : decode cc pc = .ok (.putfield index, 3))
    (kk : ∀ (H1 : Heap) (locs1 : List Loc), sgG (KT (sgSt P t1 x.toInt t2 l2)) D vwCl A tys ad ks H1 → va_S A H0 H1 locs1 → W p l e R s m args below meth c H1 locs1 cells slots Q (F0 m (pc + 3) ls rest)) : W p l e R s m args below meth c H locs cells slots Q (F0 m pc ls (.int x :: .ref a :: rest)) :=
  pf_X10_1g (B1 := sgSt P t1 l1 t2 l2) (B2 := sgSt P t1 x.toInt t2 l2) stS_10 stR_10 (by simp only [sgL1, sgTp, sgSt]) X hK hG hS ha hl hv hdg kk
theorem pf_X12_6g {x : Int32} {B1 B2 : sgPm} (hb : sgS12 B2 B1) (hb0 : sgS12 B1 B1) (hx : sgL2 B2 = x.toInt) (X : CallFix p m c cc nL s args sg_tbl own) (hK : va_K D vwCl tys s) (hG : sgG (KT (B1)) D vwCl A tys ad ks H) (hS : va_S A H0 H locs) (ha : isK ad ks 12 a) (hl : Cond.fieldLink own index "LawnAheadModel" "length" "I" ∈ sg_tbl) (hv : iv 0 240 x) (hdg : decode cc pc = .ok (.putfield index, 3))
    (kk : ∀ (H1 : Heap) (locs1 : List Loc), sgG (KT (B2)) D vwCl A tys ad ks H1 → va_S A H0 H1 locs1 → W p l e R s m args below meth c H1 locs1 cells slots Q (F0 m (pc + 3) ls rest)) : W p l e R s m args below meth c H locs cells slots Q (F0 m pc ls (.int x :: .ref a :: rest)) := by
  have hb2 := hb
  obtain ⟨b0, b1, b2, b3, b4, b5, b6, b7, b8, b9, b10, b11, b12, b13, b14, b15, b16, b17, b18, b19, b21⟩ := hb2
  exact sg_put1 (kt' := KT B2) X hK hG hS ha (k := 12) (by decide) (ci := 12) (fts := [.inl ((-2147483648), 2147483647), .inr (.inl (false, 45)), .inr (.inl (false, 46)), .inr (.inl (false, 47)), .inr (.inl (false, 48)), .inr (.inr true), .inl (sgC240 (sgL2 B1), sgC240 (sgL2 B1)), .inl ((B1.2.2.2.2.2.2.2.2.1.val : Int), (B1.2.2.2.2.2.2.2.2.1.val : Int)), .inl ((-2147483648), 2147483647), .inl (0, 240), .inl ((-2147483648), 2147483647), .inl ((-1), 241), .inl (0, 6), .inl ((-2147483648), 2147483647), .inl ((-2147483648), 2147483647), .inr (.inr true), .inr (.inr true), .inl (0, 1), .inr (.inl (false, 49)), .inr (.inl (false, 50)), .inr (.inl (false, 51)), .inr (.inl (false, 52)), .inr (.inl (false, 53)), .inl (sgC1 B1, sgC1 B1), .inl ((-2147483648), 2147483647), .inl ((-2147483648), 2147483647), .inl ((-2147483648), 2147483647), .inl ((-2147483648), 2147483647), .inl ((-2147483648), 2147483647), .inl ((B1.2.2.2.2.2.2.2.2.2.1.val : Int), (B1.2.2.2.2.2.2.2.2.2.1.val : Int)), .inl (0, 1), .inl (0, 1), .inr (.inl (false, 54)), .inr (.inl (false, 55)), .inl ((-1), 3), .inl (B1.2.2.2.2.2.1, B1.2.2.2.2.2.1), .inr (.inl (false, 56)), .inr (.inl (false, 57)), .inr (.inl (false, 58)), .inl (0, 40), .inr (.inr false), .inr (.inl (false, 59)), .inl ((-2147483648), 2147483647), .inl ((-2147483648), 2147483647), .inr (.inl (false, 60)), .inr (.inl (false, 61)), .inr (.inl (false, 62)), .inl (0, 12), .inr (.inl (false, 63)), .inr (.inl (false, 64)), .inl (0, 12), .inr (.inl (false, 65)), .inl (0, 1)]) (fts' := [.inl ((-2147483648), 2147483647), .inr (.inl (false, 45)), .inr (.inl (false, 46)), .inr (.inl (false, 47)), .inr (.inl (false, 48)), .inr (.inr true), .inl (sgC240 (sgL2 B2), sgC240 (sgL2 B2)), .inl ((B2.2.2.2.2.2.2.2.2.1.val : Int), (B2.2.2.2.2.2.2.2.2.1.val : Int)), .inl ((-2147483648), 2147483647), .inl (0, 240), .inl ((-2147483648), 2147483647), .inl ((-1), 241), .inl (0, 6), .inl ((-2147483648), 2147483647), .inl ((-2147483648), 2147483647), .inr (.inr true), .inr (.inr true), .inl (0, 1), .inr (.inl (false, 49)), .inr (.inl (false, 50)), .inr (.inl (false, 51)), .inr (.inl (false, 52)), .inr (.inl (false, 53)), .inl (sgC1 B2, sgC1 B2), .inl ((-2147483648), 2147483647), .inl ((-2147483648), 2147483647), .inl ((-2147483648), 2147483647), .inl ((-2147483648), 2147483647), .inl ((-2147483648), 2147483647), .inl ((B2.2.2.2.2.2.2.2.2.2.1.val : Int), (B2.2.2.2.2.2.2.2.2.2.1.val : Int)), .inl (0, 1), .inl (0, 1), .inr (.inl (false, 54)), .inr (.inl (false, 55)), .inl ((-1), 3), .inl (B2.2.2.2.2.2.1, B2.2.2.2.2.2.1), .inr (.inl (false, 56)), .inr (.inl (false, 57)), .inr (.inl (false, 58)), .inl (0, 40), .inr (.inr false), .inr (.inl (false, 59)), .inl ((-2147483648), 2147483647), .inl ((-2147483648), 2147483647), .inr (.inl (false, 60)), .inr (.inl (false, 61)), .inr (.inl (false, 62)), .inl (0, 12), .inr (.inl (false, 63)), .inr (.inl (false, 64)), .inl (0, 12), .inr (.inl (false, 65)), .inl (0, 1)]) rfl rfl (C := RX12) (T := TX12) (N := 53) rfl inL_X12 tyX12 tyX12_ok nmX12 6 (by decide) rfl (t' := .inl (sgC240 (sgL2 B2), sgC240 (sgL2 B2))) rfl (fun i hi => by match i, hi with
    | 0, hi => rfl
    | 1, hi => rfl
    | 2, hi => rfl
    | 3, hi => rfl
    | 4, hi => rfl
    | 5, hi => rfl
    | 6, hi => exact absurd rfl hi
    | 7, hi => simp only [List.getElem?_cons_succ, List.getElem?_cons_zero, sgC1, b0, b1, b2, b3, b4, b5, b6, b7, b8, b9, b10, b11, b12, b13, b14, b15, b16, b17, b18, b19, b21]
    | 8, hi => rfl
    | 9, hi => rfl
    | 10, hi => rfl
    | 11, hi => rfl
    | 12, hi => rfl
    | 13, hi => rfl
    | 14, hi => rfl
    | 15, hi => rfl
    | 16, hi => rfl
    | 17, hi => rfl
    | 18, hi => rfl
    | 19, hi => rfl
    | 20, hi => rfl
    | 21, hi => rfl
    | 22, hi => rfl
    | 23, hi => simp only [List.getElem?_cons_succ, List.getElem?_cons_zero, sgC1, b0, b1, b2, b3, b4, b5, b6, b7, b8, b9, b10, b11, b12, b13, b14, b15, b16, b17, b18, b19, b21]
    | 24, hi => rfl
    | 25, hi => rfl
    | 26, hi => rfl
    | 27, hi => rfl
    | 28, hi => rfl
    | 29, hi => simp only [List.getElem?_cons_succ, List.getElem?_cons_zero, sgC1, b0, b1, b2, b3, b4, b5, b6, b7, b8, b9, b10, b11, b12, b13, b14, b15, b16, b17, b18, b19, b21]
    | 30, hi => rfl
    | 31, hi => rfl
    | 32, hi => rfl
    | 33, hi => rfl
    | 34, hi => rfl
    | 35, hi => simp only [List.getElem?_cons_succ, List.getElem?_cons_zero, sgC1, b0, b1, b2, b3, b4, b5, b6, b7, b8, b9, b10, b11, b12, b13, b14, b15, b16, b17, b18, b19, b21]
    | 36, hi => rfl
    | 37, hi => rfl
    | 38, hi => rfl
    | 39, hi => rfl
    | 40, hi => rfl
    | 41, hi => rfl
    | 42, hi => rfl
    | 43, hi => rfl
    | 44, hi => rfl
    | 45, hi => rfl
    | 46, hi => rfl
    | 47, hi => rfl
    | 48, hi => rfl
    | 49, hi => rfl
    | 50, hi => rfl
    | 51, hi => rfl
    | 52, hi => rfl
    | i + 53, hi => rfl) (KT_but12 (B := B1) hb hb0) hl (fun _ h => h) rfl (ty := .int) rfl rfl rfl ⟨_, rfl, by rw [hx]; exact sgC240_of hv⟩ hdg kk
theorem pf_X12_6q {x : Int32} (X : CallFix p m c cc nL s args sg_tbl own) (hK : va_K D vwCl tys s) (hG : sgG (KT (sgSt P t1 l1 t2 l2)) D vwCl A tys ad ks H) (hS : va_S A H0 H locs) (ha : isK ad ks 12 a) (hl : Cond.fieldLink own index "LawnAheadModel" "length" "I" ∈ sg_tbl) (hv : iv 0 240 x) (hdg : decode cc pc = .ok (.putfield index, 3))
    (kk : ∀ (H1 : Heap) (locs1 : List Loc), sgG (KT (sgSt P t1 l1 t2 x.toInt)) D vwCl A tys ad ks H1 → va_S A H0 H1 locs1 → W p l e R s m args below meth c H1 locs1 cells slots Q (F0 m (pc + 3) ls rest)) : W p l e R s m args below meth c H locs cells slots Q (F0 m pc ls (.int x :: .ref a :: rest)) :=
  pf_X12_6g (B1 := sgSt P t1 l1 t2 l2) (B2 := sgSt P t1 l1 t2 x.toInt) stS_12 stR_12 (by simp only [sgL2, sgTp, sgSt]) X hK hG hS ha hl hv hdg kk
theorem sg_bast1 {kt kt' : List sgK} {cl : List vw_C} (X : CallFix p m c cc nL s args sg_tbl own) (hK : va_K D cl tys s) (hG : sgG kt D cl A tys ad ks H) (hS : va_S A H0 H locs) {k : Nat} (ha : isK ad ks k a) (hu : k ∈ [2, 8, 10, 11, 12, 16, 42, 45, 49, 50, 51, 52, 53, 54]) {n : Nat} {el el' : Nat → sgT} (hk : kt[k]? = some (.inr (n, .byte, el))) (hk' : kt'[k]? = some (.inr (n, .byte, el'))) (hsk : ∀ i : Nat, i ≠ k → kt'[i]? = kt[i]?) {i x : Int32} (hin : vp_in i n) (hv : okV ad ks (el' i.toNatClampNeg) (.int (vp_nar .byte x))) (hsm : ∀ (j : Nat) (v : Int32), j < n → j ≠ i.toNatClampNeg → okV ad ks (el j) (.int v) → okV ad ks (el' j) (.int v)) (hdg : decode cc pc = .ok (.bastore, 1))
    (kk : ∀ (H1 : Heap) (locs1 : List Loc), sgG kt' D cl A tys ad ks H1 → va_S A H0 H1 locs1 → W p l e R s m args below meth c H1 locs1 cells slots Q (F0 m (pc + 1) ls rest)) (hgo : gof kt k a i.toNatClampNeg (.int (vp_nar .byte x)) := by exact gof_no rfl) : W p l e R s m args below meth c H locs cells slots Q (F0 m pc ls (.int x :: .int i :: .ref a :: rest)) := by
  obtain ⟨hx, hb, -, hown, hts⟩ := X
  obtain ⟨ws, hP, hD, hT, hU⟩ := hG
  obtain ⟨q0, t0, cA, z, hw, hkq, ht0, hok, hmem, hz⟩ := sg_arr hK hT ha hk
  have hlt : i.toNatClampNeg < n := Nat.not_le.mp fun q => hin (Or.inr q)
  match z, hw, hok, hz with
  | .inl f, hw, hok, hz =>
    refine va_bast hx hb hK hP hD hS q0 t0 hw ht0 hin hdg fun H1 locs1 hP1 hD1 hS1 => ?_
    refine kk H1 locs1 ⟨_, hP1, hD1, ⟨?_, hT.2.1, fun i2 q2 k2 hq hk2 => ?_⟩, hU.1, (hU.2.setA hw hkq hgo).kt (hsk 67 (by rintro rfl; revert hu; decide))⟩ hS1
    · have hl := (List.getElem?_eq_some_iff.mp hw).1
      rw [← hT.1]
      apply List.ext_getElem?
      intro i3
      rw [List.getElem?_map, List.getElem?_map]
      by_cases hi : i3 = q0
      · subst hi
        rw [List.getElem?_set_self hl, hw]
        rfl
      · rw [List.getElem?_set_ne (Ne.symm hi)]
    · have hl := (List.getElem?_eq_some_iff.mp hw).1
      by_cases hi : i2 = q0
      · subst hi
        rw [List.getElem?_set_self hl] at hq
        cases hq
        rw [hkq] at hk2
        cases hk2
        refine ⟨_, hk', rfl, hmem, fun j hj => ?_, hz⟩
        show okV ad ks (el' j) (.int (upd f i.toNatClampNeg (vp_nar .byte x) j))
        by_cases hji : j = i.toNatClampNeg
        · subst hji
          rw [show upd f i.toNatClampNeg (vp_nar .byte x) i.toNatClampNeg = vp_nar .byte x by simp [upd]]
          exact hv
        · rw [show upd f i.toNatClampNeg (vp_nar .byte x) j = f j by simp [upd, hji]]
          exact hsm j _ hj hji (hok j hj)
      · rw [List.getElem?_set_ne (Ne.symm hi)] at hq
        have hne : k2 ≠ k := by
          rintro rfl
          exact hi (hU.1 _ hu i2 q0 hk2 hkq)
        obtain ⟨K2, g1, g2⟩ := hT.2.2 i2 q2 k2 hq hk2
        exact ⟨K2, (hsk k2 hne).trans g1, g2⟩
  | .inr (.inl f), hw, hok, hz => cases hz
  | .inr (.inr (.inl f)), hw, hok, hz => exact hok.elim
  | .inr (.inr (.inr (.inl f))), hw, hok, hz => exact hok.elim
  | .inr (.inr (.inr (.inr f))), hw, hok, hz => obtain ⟨C, hz⟩ := hz; cases hz
theorem as_42q {i x : Int32} (X : CallFix p m c cc nL s args sg_tbl own) (hK : va_K D vwCl tys s) (hG : sgG (KT (sgSt P t1 l1 t2 l2)) D vwCl A tys ad ks H) (hS : va_S A H0 H locs) (ha : isK ad ks 42 a) (hin : vp_in i 240) (hdg : decode cc pc = .ok (.iastore, 1))
    (kk : ∀ (H1 : Heap) (locs1 : List Loc), sgG (KT (sgSt P (sgUp t1 i.toNatClampNeg x.toInt) l1 t2 l2)) D vwCl A tys ad ks H1 → va_S A H0 H1 locs1 → W p l e R s m args below meth c H1 locs1 cells slots Q (F0 m (pc + 1) ls rest)) : W p l e R s m args below meth c H locs cells slots Q (F0 m pc ls (.int x :: .int i :: .ref a :: rest)) :=
  sg_iast1 (kt' := KT (sgSt P (sgUp t1 i.toNatClampNeg x.toInt) l1 t2 l2)) X hK hG hS (k := 42) ha (by decide) (n := 240) (el := sg_tp t1) (el' := sg_tp (sgUp t1 i.toNatClampNeg x.toInt)) rfl rfl (KT_but42 (B := sgSt P t1 l1 t2 l2) stS_42 stR_42) hin (by unfold sg_tp sgUp; rw [if_pos rfl]; exact ⟨_, rfl, Int.le_refl _, Int.le_refl _⟩) (fun j v _ hj h => by unfold sg_tp sgUp; rw [if_neg hj]; exact h) hdg kk
theorem as_45q {i x : Int32} (X : CallFix p m c cc nL s args sg_tbl own) (hK : va_K D vwCl tys s) (hG : sgG (KT (sgSt P t1 l1 t2 l2)) D vwCl A tys ad ks H) (hS : va_S A H0 H locs) (ha : isK ad ks 45 a) (hin : vp_in i 240) (hdg : decode cc pc = .ok (.bastore, 1))
    (kk : ∀ (H1 : Heap) (locs1 : List Loc), sgG (KT (sgSt P t1 l1 (sgUp t2 i.toNatClampNeg (vp_nar .byte x).toInt) l2)) D vwCl A tys ad ks H1 → va_S A H0 H1 locs1 → W p l e R s m args below meth c H1 locs1 cells slots Q (F0 m (pc + 1) ls rest)) : W p l e R s m args below meth c H locs cells slots Q (F0 m pc ls (.int x :: .int i :: .ref a :: rest)) :=
  sg_bast1 (kt' := KT (sgSt P t1 l1 (sgUp t2 i.toNatClampNeg (vp_nar .byte x).toInt) l2)) X hK hG hS (k := 45) ha (by decide) (n := 240) (el := sg_tp t2) (el' := sg_tp (sgUp t2 i.toNatClampNeg (vp_nar .byte x).toInt)) rfl rfl (KT_but45 (B := sgSt P t1 l1 t2 l2) stS_45 stR_45) hin (by unfold sg_tp sgUp; rw [if_pos rfl]; exact ⟨_, rfl, Int.le_refl _, Int.le_refl _⟩) (fun j v _ hj h => by unfold sg_tp sgUp; rw [if_neg hj]; exact h) hdg kk
end SGP
theorem stP (P : sgPm) : sgSt P (sgT1 P) (sgL1 P) (sgT2 P) (sgL2 P) = P := rfl
theorem sg_st {P : sgPm} {D : va_G} {A : Nat → Prop} {tys : List (ClassId × FieldType)} {ad ks : List Nat} {H : Heap} (hG : sgG (KT P) D vwCl A tys ad ks H) : sgG (KT (sgSt P (sgT1 P) (sgL1 P) (sgT2 P) (sgL2 P))) D vwCl A tys ad ks H := hG
/-- the answer of end: by the number and how many bytes there are -/
def sgEn (v : Int32) (n : Int) (r : Int32) : Prop := (r = 0 ∧ (v.toInt < 0 ∨ n < v.toInt)) ∨ (r = 1 ∧ 0 ≤ v.toInt ∧ v.toInt ≤ n)
theorem sgEn.fun {v : Int32} {n : Int} {r r' : Int32} (h : sgEn v n r) (h' : sgEn v n r') : r = r' := by
  rcases h with ⟨rfl, h1⟩ | ⟨rfl, h1⟩ <;> rcases h' with ⟨rfl, h2⟩ | ⟨rfl, h2⟩
  · rfl
  · omega
  · omega
  · rfl
theorem sg_enA {v : Int32} {n : Int} (h : v < 0) : v.toInt < 0 ∨ n < v.toInt := Or.inl (by have h1 := Int32.lt_iff_toInt_lt.mp h; have h2 : (0 : Int32).toInt = 0 := (by decide +kernel); omega)
theorem sg_enB {v f : Int32} {n : Int} (h : f < v) (hf : iv n n f) : v.toInt < 0 ∨ n < v.toInt := Or.inr (by have h1 := Int32.lt_iff_toInt_lt.mp h; have := hf.1; omega)
theorem sg_enN {v f : Int32} {n : Int} (h0 : 0 ≤ v) (h : v ≤ f) (hf : iv n n f) : 0 ≤ v.toInt ∧ v.toInt ≤ n := by
  have h1 := Int32.le_iff_toInt_le.mp h0
  have h2 : (0 : Int32).toInt = 0 := by decide +kernel
  have h3 := Int32.le_iff_toInt_le.mp h
  have := hf.2
  exact ⟨by omega, by omega⟩
theorem sg_b255 {i : Nat} (h : ¬ i < 8) : (255#32).getLsbD i = false := by
  rw [BitVec.getLsbD_ofNat]
  have : Nat.testBit 255 i = false := Nat.testBit_lt_two_pow (Nat.lt_of_lt_of_le (by decide : 255 < 2 ^ 8) (Nat.pow_le_pow_right (by decide) (by omega)))
  rw [this, Bool.and_false]
theorem sg_usq (x k : Int32) (hk : k = 24 ∨ k = 16 ∨ k = 8 ∨ k = 0) : (x.toUInt32 >>> (k.toUInt32 &&& Int32.toUInt32 31)).toInt32 &&& 255 = (x >>> (k &&& 31)) &&& 255 := by
  apply Int32.toBitVec_inj.mp
  rcases hk with rfl | rfl | rfl | rfl
  all_goals
    simp only [Int32.toBitVec_and, Int32.toBitVec_shiftRight]
    apply BitVec.eq_of_getLsbD_eq
    intro i hi
    simp [BitVec.getLsbD_sshiftRight]
  all_goals
    by_cases h8 : i < 8
    · simp [show ¬ 32 ≤ i by omega, show 24 + i < 32 by omega, show 16 + i < 32 by omega, show 8 + i < 32 by omega]
    · rw [sg_b255 h8]
      simp
theorem sg_nbpU {v k k0 f g : Int32} (e1 : f = (v.toUInt32 >>> (k.toUInt32 &&& Int32.toUInt32 31)).toInt32) (e2 : g = f &&& 255) (hk : k = k0) (h0 : k0 = 24 ∨ k0 = 16 ∨ k0 = 8 ∨ k0 = 0) (c : g = 0) : sg_nb1 v k0 = 0 := by
  subst hk
  unfold sg_nb1
  rw [← sg_usq v k h0, ← e1, ← e2, if_pos c]
theorem sg_nbqU {v k k0 f g : Int32} (e1 : f = (v.toUInt32 >>> (k.toUInt32 &&& Int32.toUInt32 31)).toInt32) (e2 : g = f &&& 255) (hk : k = k0) (h0 : k0 = 24 ∨ k0 = 16 ∨ k0 = 8 ∨ k0 = 0) (c : ¬ g = 0) : sg_nb1 v k0 = 1 := by
  subst hk
  unfold sg_nb1
  rw [← sg_usq v k h0, ← e1, ← e2, if_neg c]
/-- the byte of v behind k bits, and what a byte told adds -/
def sgB1 (v k : Int32) : Int := ((v >>> (k &&& 31)) &&& 255).toInt
def sgA1 (v k : Int32) (q : (Nat → Int) × Int) : (Nat → Int) × Int := if (v >>> (k &&& 31)) &&& 255 = 0 then q else (sgUp q.1 q.2.toNat (sgB1 v k), q.2 + 1)
def sgAp (v : Int32) (q : (Nat → Int) × Int) : (Nat → Int) × Int := sgA1 v 0 (sgA1 v 8 (sgA1 v 16 (sgA1 v 24 q)))
theorem sgA1_0 {v k k0 f g : Int32} {q : (Nat → Int) × Int} (e1 : f = (v.toUInt32 >>> (k.toUInt32 &&& Int32.toUInt32 31)).toInt32) (e2 : g = f &&& 255) (hk : k = k0) (h0 : k0 = 24 ∨ k0 = 16 ∨ k0 = 8 ∨ k0 = 0) (c : g = 0) : sgA1 v k0 q = q := by
  subst hk
  unfold sgA1
  rw [← sg_usq v k h0, ← e1, ← e2, if_pos c]
theorem sgA1_1 {v k k0 f g : Int32} {t : Nat → Int} {l : Int} (e1 : f = (v.toUInt32 >>> (k.toUInt32 &&& Int32.toUInt32 31)).toInt32) (e2 : g = f &&& 255) (hk : k = k0) (h0 : k0 = 24 ∨ k0 = 16 ∨ k0 = 8 ∨ k0 = 0) (c : ¬ g = 0) : sgA1 v k0 (t, l) = (sgUp t l.toNat (sgB1 v k0), l + 1) := by
  subst hk
  unfold sgA1
  rw [← sg_usq v k h0, ← e1, ← e2, if_neg c]
theorem sgB1_of {v k k0 f g : Int32} (e1 : f = (v.toUInt32 >>> (k.toUInt32 &&& Int32.toUInt32 31)).toInt32) (e2 : g = f &&& 255) (hk : k = k0) (h0 : k0 = 24 ∨ k0 = 16 ∨ k0 = 8 ∨ k0 = 0) : g.toInt = sgB1 v k0 := by
  subst hk
  unfold sgB1
  rw [← sg_usq v k h0, ← e1, ← e2]
theorem sgC240_eq {l : Int} {x : Int32} (h : iv (sgC240 l) (sgC240 l) x) (h0 : 0 ≤ l) (h1 : l ≤ 240) : x.toInt = l := by
  obtain ⟨a, b⟩ := h
  unfold sgC240 at a b
  omega
theorem sgC240_ix {l : Int} {x : Int32} (h : iv (sgC240 l) (sgC240 l) x) (h0 : 0 ≤ l) (h1 : l ≤ 240) : x.toNatClampNeg = l.toNat := by
  show x.toInt.toNat = l.toNat
  rw [sgC240_eq h h0 h1]
theorem sgA1_len (v k : Int32) (q : (Nat → Int) × Int) : (sgA1 v k q).2 = q.2 + sg_nb1 v k := by
  unfold sgA1 sg_nb1
  split
  · exact (Int.add_zero _).symm
  · rfl
/-- a number told: as many bytes more -/
theorem sgAp_len (v : Int32) (q : (Nat → Int) × Int) : (sgAp v q).2 = q.2 + sg_nb v := by
  unfold sgAp sg_nb
  rw [sgA1_len, sgA1_len, sgA1_len, sgA1_len]
  omega
/-- the bytes that were told stay -/
theorem sgA1_old (v k : Int32) (q : (Nat → Int) × Int) {j : Nat} (h0 : 0 ≤ q.2) (hj : (j : Int) < q.2) : (sgA1 v k q).1 j = q.1 j := by
  unfold sgA1
  split
  · rfl
  · show (if j = q.2.toNat then _ else _) = _
    rw [if_neg (by omega)]
/-- what is told are bytes 1 to 255 -/
theorem sgA1_byte (v k : Int32) (q : (Nat → Int) × Int) (h0 : 0 ≤ q.2) (hq : ∀ j : Nat, (j : Int) < q.2 → 1 ≤ q.1 j ∧ q.1 j ≤ 255) (hb : sgB1 v k ≠ 0 → 1 ≤ sgB1 v k ∧ sgB1 v k ≤ 255) : ∀ j : Nat, (j : Int) < (sgA1 v k q).2 → 1 ≤ (sgA1 v k q).1 j ∧ (sgA1 v k q).1 j ≤ 255 := by
  intro j hj
  unfold sgA1 at hj ⊢
  split at hj
  · rename_i c
    rw [if_pos c]
    exact hq j hj
  · rename_i c
    rw [if_neg c]
    show 1 ≤ (if j = q.2.toNat then _ else _) ∧ (if j = q.2.toNat then _ else _) ≤ _
    by_cases e : j = q.2.toNat
    · rw [if_pos e]
      refine hb fun z => c ?_
      apply Int32.toInt_inj.mp
      exact z
    · rw [if_neg e]
      refine hq j ?_
      have : (j : Int) < q.2 + 1 := hj
      omega
theorem sgB1_le (v k : Int32) : 0 ≤ sgB1 v k ∧ sgB1 v k ≤ 255 := by
  unfold sgB1
  have h : ((v >>> (k &&& 31)) &&& 255).toBitVec.toNat ≤ 255 := by
    rw [Int32.toBitVec_and, BitVec.toNat_and]
    exact Nat.and_le_right
  have h2 : ((v >>> (k &&& 31)) &&& 255).toInt = (((v >>> (k &&& 31)) &&& 255).toBitVec.toNat : Int) := by
    rw [← Int32.toInt_toBitVec, BitVec.toInt_eq_toNat_of_lt (by omega)]
  omega
