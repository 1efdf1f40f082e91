def sgPlSet (P : sgPm) (f : Nat → Nat) : sgPm := (P.1, P.2.1, P.2.2.1, P.2.2.2.1, P.2.2.2.2.1, P.2.2.2.2.2.1, P.2.2.2.2.2.2.1, P.2.2.2.2.2.2.2.1, P.2.2.2.2.2.2.2.2.1, P.2.2.2.2.2.2.2.2.2.1, P.2.2.2.2.2.2.2.2.2.2.1, f, P.2.2.2.2.2.2.2.2.2.2.2.2)
def sgPlTop (P : sgPm) : sgPm := sgPlSet P (fun _ => 8256)
theorem sg_plTop {P : sgPm} {D : va_G} {A : Nat → Prop} {tys : List (ClassId × FieldType)} {ad ks : List Nat} {H : Heap} (hG : sgG (KT P) D vwCl A tys ad ks H) : sgG (KT (sgPlTop P)) D vwCl A tys ad ks H := by
  refine sg_kinds hG rfl fun k K e hk he => ?_
  by_cases h1 : k = 16
  · subst h1
    cases hk
    refine ⟨KK16 (sgPlTop P), rfl, okE_arr (fun j v hv => ?_) he⟩
    obtain ⟨x, rfl, h2, h3⟩ := hv
    dsimp only at h2 h3
    refine ⟨x, rfl, h2, ?_⟩
    show x.toInt ≤ ((min 8256 8256 : Nat) : Int)
    omega
  · refine ⟨K, ?_, he⟩
    rw [← hk]
    match k, h1 with
    | 0, h => rfl
    | 1, h => rfl
    | 2, h => rfl
    | 3, h => rfl
    | 4, h => rfl
    | 5, h => rfl
    | 6, h => rfl
    | 7, h => rfl
    | 8, h => rfl
    | 9, h => rfl
    | 10, h => rfl
    | 11, h => rfl
    | 12, h => rfl
    | 13, h => rfl
    | 14, h => rfl
    | 15, h => rfl
    | 16, h => exact absurd rfl h
    | 17, h => rfl
    | 18, h => rfl
    | 19, h => rfl
    | 20, h => rfl
    | 21, h => rfl
    | 22, h => rfl
    | 23, h => rfl
    | 24, h => rfl
    | 25, h => rfl
    | 26, h => rfl
    | 27, h => rfl
    | 28, h => rfl
    | 29, h => rfl
    | 30, h => rfl
    | 31, h => rfl
    | 32, h => rfl
    | 33, h => rfl
    | 34, h => rfl
    | 35, h => rfl
    | 36, h => rfl
    | 37, h => rfl
    | 38, h => rfl
    | 39, h => rfl
    | 40, h => rfl
    | 41, h => rfl
    | 42, h => rfl
    | 43, h => rfl
    | 44, h => rfl
    | 45, h => rfl
    | 46, h => rfl
    | 47, h => rfl
    | 48, h => rfl
    | 49, h => rfl
    | 50, h => rfl
    | 51, h => rfl
    | 52, h => rfl
    | 53, h => rfl
    | 54, h => rfl
    | 55, h => rfl
    | 56, h => rfl
    | 57, h => rfl
    | 58, h => rfl
    | 59, h => rfl
    | 60, h => rfl
    | 61, h => rfl
    | 62, h => rfl
    | 63, h => rfl
    | 64, h => rfl
    | 65, h => rfl
    | 66, h => rfl
    | 67, h => rfl
    | i + 68, h => rfl
theorem sg_plu {f : Nat → Nat} {ad ks : List Nat} {j : Nat} {x : Int32} (h : okV ad ks (sg_plc f j) (.int x)) : x.toInt ≤ ((min (f j) 8256 : Nat) : Int) := by
  obtain ⟨y, h1, h2, h3⟩ := h
  cases h1
  exact h3
theorem sg_plok {p s : Int32} {i : Nat} (h : p.toInt + s.toInt ≤ 8256) (h0 : 0 ≤ p.toInt) : s.toInt + ((min ((fun j => if j = i then p.toInt.toNat else 8256) i) 8256 : Nat) : Int) ≤ 8256 := by
  show s.toInt + ((min (if i = i then p.toInt.toNat else 8256) 8256 : Nat) : Int) ≤ 8256
  rw [if_pos rfl]
  omega
theorem sg_sub {f g x t : Int32} (e : f = t &&& g) (c : f = g) (ex : x = t ^^^ g) {b : Int} (hs : iv 0 b t) : 0 ≤ x.toInt ∧ x.toInt ≤ t.toInt := by
  have hn := iv_nn hs (Int.le_refl _)
  have hl := iv_lt31 hs (Int.le_refl _)
  have e1 : g.toBitVec.toNat = t.toBitVec.toNat &&& g.toBitVec.toNat := by
    have h1 : f.toBitVec.toNat = t.toBitVec.toNat &&& g.toBitVec.toNat := by rw [e]; exact BitVec.toNat_and ..
    rw [c] at h1
    exact h1
  have e2 : x.toBitVec.toNat = t.toBitVec.toNat ^^^ g.toBitVec.toNat := by rw [ex]; exact BitVec.toNat_xor ..
  have e3 : t.toBitVec.toNat ^^^ (t.toBitVec.toNat &&& g.toBitVec.toNat) = t.toBitVec.toNat &&& (t.toBitVec.toNat ^^^ g.toBitVec.toNat) := by
    apply Nat.eq_of_testBit_eq
    intro i
    rw [Nat.testBit_xor, Nat.testBit_and, Nat.testBit_and, Nat.testBit_xor]
    cases t.toBitVec.toNat.testBit i <;> cases g.toBitVec.toNat.testBit i <;> rfl
  rw [← e1] at e3
  have l : t.toBitVec.toNat &&& (t.toBitVec.toNat ^^^ g.toBitVec.toNat) ≤ t.toBitVec.toNat := Nat.and_le_left
  have e4 := iv_ofNat e2 (by omega)
  omega
theorem sg_popb {x r : Int32} (h : r.toInt = (sg_pc 32 x.toBitVec.toNat : Int)) (hp : sg_pc 32 x.toBitVec.toNat ≤ 12) (hr : iv 0 63 r) : iv 0 12 r := ⟨hr.1, by omega⟩
theorem sg_pop12 {x r : Int32} (h : r.toInt = (sg_pc 32 x.toBitVec.toNat : Int)) (hr : r ≤ 12) : sg_pc 32 x.toBitVec.toNat ≤ 12 := by
  have h1 := Int32.le_iff_toInt_le.mp hr
  have h2 : (12 : Int32).toInt = 12 := by decide +kernel
  omega
section
variable {p : Program} {l : Launch} {e : Env} {R : Room} {s : State} {m : MethodId} {args : Array Value} {below : List Frame} {meth : Method} {c : Code} {H : Heap} {locs : List Loc} {cells slots : Nat} {Q : State → Prop} {cc : ByteArray} {nL pc : Nat} {ls : Array Slot} {rest : List Value} {own : String} {D : va_G} {A : Nat → Prop} {tys : List (ClassId × FieldType)} {ad ks : List Nat} {P : sgPm} {H0 : Heap} {index : Nat} {base : Nat} {st0 : List Value} {a : Nat}
theorem sg_iast1 {kt kt' : List sgK} {cl : List vw_C} (X : CallFix p m c cc nL s args sg_tbl own) (hK : va_K D cl tys s) (hG : sgG kt D cl A tys ad ks H) (hS : va_S A H0 H locs) {k : Nat} (ha : isK ad ks k a) (hu : k ∈ [2, 8, 10, 11, 12, 16, 42, 45, 49, 50, 51, 52, 53, 54]) {n : Nat} {el el' : Nat → sgT} (hk : kt[k]? = some (.inr (n, .int, el))) (hk' : kt'[k]? = some (.inr (n, .int, el'))) (hsk : ∀ i : Nat, i ≠ k → kt'[i]? = kt[i]?) {i x : Int32} (hin : vp_in i n) (hv : okV ad ks (el' i.toNatClampNeg) (.int x)) (hsm : ∀ (j : Nat) (v : Int32), j < n → j ≠ i.toNatClampNeg → okV ad ks (el j) (.int v) → okV ad ks (el' j) (.int v)) (hdg : decode cc pc = .ok (.iastore, 1))
    (kk : ∀ (H1 : Heap) (locs1 : List Loc), sgG kt' D cl A tys ad ks H1 → va_S A H0 H1 locs1 → W p l e R s m args below meth c H1 locs1 cells slots Q (F0 m (pc + 1) ls rest)) (hgo : gof kt k a i.toNatClampNeg (.int x) := by exact gof_no rfl) : W p l e R s m args below meth c H locs cells slots Q (F0 m pc ls (.int x :: .int i :: .ref a :: rest)) := by
  obtain ⟨hx, hb, -, hown, hts⟩ := X
  obtain ⟨ws, hP, hD, hT, hU⟩ := hG
  obtain ⟨q0, t0, cA, z, hw, hkq, ht0, hok, hmem, hz⟩ := sg_arr hK hT ha hk
  have hlt : i.toNatClampNeg < n := Nat.not_le.mp fun q => hin (Or.inr q)
  match z, hw, hok, hz with
  | .inl f, hw, hok, hz =>
    refine va_iast hx hb hK hP hD hS q0 t0 hw ht0 hin hdg fun H1 locs1 hP1 hD1 hS1 => ?_
    refine kk H1 locs1 ⟨_, hP1, hD1, ⟨?_, hT.2.1, fun i2 q2 k2 hq hk2 => ?_⟩, hU.1, (hU.2.setA hw hkq hgo).kt (hsk 67 (by rintro rfl; revert hu; decide))⟩ hS1
    · have hl := (List.getElem?_eq_some_iff.mp hw).1
      rw [← hT.1]
      apply List.ext_getElem?
      intro i3
      rw [List.getElem?_map, List.getElem?_map]
      by_cases hi : i3 = q0
      · subst hi
        rw [List.getElem?_set_self hl, hw]
        rfl
      · rw [List.getElem?_set_ne (Ne.symm hi)]
    · have hl := (List.getElem?_eq_some_iff.mp hw).1
      by_cases hi : i2 = q0
      · subst hi
        rw [List.getElem?_set_self hl] at hq
        cases hq
        rw [hkq] at hk2
        cases hk2
        refine ⟨_, hk', rfl, hmem, fun j hj => ?_, hz⟩
        show okV ad ks (el' j) (.int (upd f i.toNatClampNeg x j))
        by_cases hji : j = i.toNatClampNeg
        · subst hji
          rw [show upd f i.toNatClampNeg x i.toNatClampNeg = x by simp [upd]]
          exact hv
        · rw [show upd f i.toNatClampNeg x j = f j by simp [upd, hji]]
          exact hsm j _ hj hji (hok j hj)
      · rw [List.getElem?_set_ne (Ne.symm hi)] at hq
        have hne : k2 ≠ k := by
          rintro rfl
          exact hi (hU.1 _ hu i2 q0 hk2 hkq)
        obtain ⟨K2, g1, g2⟩ := hT.2.2 i2 q2 k2 hq hk2
        exact ⟨K2, (hsk k2 hne).trans g1, g2⟩
  | .inr (.inl f), hw, hok, hz => cases hz
  | .inr (.inr (.inl f)), hw, hok, hz => exact hok.elim
  | .inr (.inr (.inr (.inl f))), hw, hok, hz => exact hok.elim
  | .inr (.inr (.inr (.inr f))), hw, hok, hz => obtain ⟨C, hz⟩ := hz; cases hz
theorem sg_plv {ad ks : List Nat} {f : Nat → Nat} {j : Nat} {x : Int32} (h : okV ad ks (sg_plc f j) (.int x)) : 0 ≤ x.toInt ∧ x.toInt ≤ ((min (f j) 8256 : Nat) : Int) := by
  obtain ⟨y, h1, h2, h3⟩ := h
  cases h1
  exact ⟨h2, h3⟩
theorem sg_plm {ad ks : List Nat} {f : Nat → Nat} {j : Nat} {x : Int32} (h : 0 ≤ x.toInt) (h2 : x.toInt ≤ ((min (f j) 8256 : Nat) : Int)) : okV ad ks (sg_plc f j) (.int x) := ⟨x, rfl, h, h2⟩
theorem sg_plTop2 {P : sgPm} {f : Nat → Nat} {D : va_G} {A : Nat → Prop} {tys : List (ClassId × FieldType)} {ad ks : List Nat} {H : Heap} (hG : sgG (KT (sgPlSet P f)) D vwCl A tys ad ks H) : sgG (KT (sgPlTop P)) D vwCl A tys ad ks H := by
  have e : sgPlTop (sgPlSet P f) = sgPlTop P := rfl
  rw [← e]
  exact sg_plTop hG
theorem plS_same {P : sgPm} {f : Nat → Nat} : sgS16 (sgPlSet P f) P := ⟨rfl, rfl, rfl, rfl, rfl, rfl, rfl, rfl, rfl, rfl, rfl, rfl, rfl, rfl, rfl, rfl, rfl, rfl, rfl, rfl, rfl⟩
theorem as_16q {f g : Nat → Nat} (X : CallFix p m c cc nL s args sg_tbl own) (hK : va_K D vwCl tys s) (hG : sgG (KT (sgPlSet P g)) D vwCl A tys ad ks H) (hS : va_S A H0 H locs) (ha : isK ad ks 16 a) {i x : Int32} (hin : vp_in i 30) (hx : iv 0 8256 x) (hf : f i.toNatClampNeg = x.toInt.toNat) (hf2 : ∀ j : Nat, j ≠ i.toNatClampNeg → f j = 8256) (hg : ∀ j : Nat, g j = 8256) (hdg : decode cc pc = .ok (.iastore, 1))
    (kk : ∀ (H1 : Heap) (locs1 : List Loc), sgG (KT (sgPlSet P f)) D vwCl A tys ad ks H1 → va_S A H0 H1 locs1 → W p l e R s m args below meth c H1 locs1 cells slots Q (F0 m (pc + 1) ls rest)) : W p l e R s m args below meth c H locs cells slots Q (F0 m pc ls (.int x :: .int i :: .ref a :: rest)) := by
  refine sg_iast1 (kt' := KT (sgPlSet P f)) X hK hG hS (k := 16) ha (by decide) (n := 30) (el := sg_plc g) (el' := sg_plc f) rfl rfl (KT_but16 (B := P) plS_same plS_same) hin (sg_plm hx.1 ?_) ?_ hdg kk
  · rw [hf]
    have := hx.2
    have := hx.1
    omega
  · intro j v _ hj hv
    obtain ⟨h2, h3⟩ := sg_plv hv
    refine sg_plm h2 ?_
    rw [hf2 j hj]
    rw [hg j] at h3
    exact h3
theorem as_16p (X : CallFix p m c cc nL s args sg_tbl own) (hK : va_K D vwCl tys s) (hG : sgG (KT (sgPlTop P)) D vwCl A tys ad ks H) (hS : va_S A H0 H locs) (ha : isK ad ks 16 a) {i x : Int32} (hin : vp_in i 30) (hx : iv 0 8256 x) (hdg : decode cc pc = .ok (.iastore, 1))
    (kk : ∀ (H1 : Heap) (locs1 : List Loc), sgG (KT (sgPlSet P (fun j => if j = i.toNatClampNeg then x.toInt.toNat else 8256))) D vwCl A tys ad ks H1 → va_S A H0 H1 locs1 → W p l e R s m args below meth c H1 locs1 cells slots Q (F0 m (pc + 1) ls rest)) : W p l e R s m args below meth c H locs cells slots Q (F0 m pc ls (.int x :: .int i :: .ref a :: rest)) := as_16q (g := fun _ => 8256) (f := (fun j => if j = i.toNatClampNeg then x.toInt.toNat else 8256)) X hK hG hS ha hin hx (if_pos rfl) (fun j hj => if_neg hj) (fun _ => rfl) hdg kk
end
