theorem sg_fldE {kt : List sgK} {D : va_G} {cl : List vw_C} {A : Nat → Prop} {tys : List (ClassId × FieldType)} {ad ks : List Nat} {H : Heap} (hG : sgG kt D cl A tys ad ks H) {k a ci j : Nat} {fts : List sgT} {t : sgT} {r : vw_C} (ha : isK ad ks k a) (hk : kt[k]? = some (.inl (ci, fts))) (hc : cl[ci]? = some r) (hj : j < r.2.2) (ht : fts[j]? = some t) : ∃ v : Value, okV ad ks t v ∧ fld D H ci a j v := by
  obtain ⟨ws, hP, hD, hT, hU⟩ := hG
  obtain ⟨q0, en, K, hw, -, hK', hE⟩ := ha.in hT
  rw [hk] at hK'
  cases hK'
  cases en with
  | inl z => exact hE.elim
  | inr q =>
    obtain ⟨ci', fs⟩ := q
    obtain ⟨h1, h2, h3⟩ := hE
    dsimp only at h1 h2 h3
    subst h1
    have hlt : j < fts.length := (List.getElem?_eq_some_iff.mp ht).1
    have hjf : j < fs.length := by omega
    have hv : fs[j]? = some fs[j] := List.getElem?_eq_getElem hjf
    have h9 := fld_of (hP q0 _ hw) hc hj
    rw [List.getD_eq_getElem?_getD, hv] at h9
    exact ⟨fs[j], h3 j t _ ht hv, h9⟩
theorem fw_ka {a1 a2 w : Int} {D : va_G} {A : Nat → Prop} {tys : List (ClassId × FieldType)} {ad ks : List Nat} {H : Heap} {P : sgPm} (hG : sgG (KA a1 a2 w w P) D vwCl A tys ad ks H) : ∀ q : Nat, isK ad ks 10 q → ∃ x : Int32, x.toInt = w ∧ fld D H 10 q 3 (.int x) := by
  intro q hq
  obtain ⟨v, ⟨x, rfl, hx⟩, hf⟩ := sg_fldE hG hq (k := 10) (ci := 10) (j := 3) (t := .inl (w, w)) (r := (RX10, TX10, 4)) rfl rfl (by decide) rfl
  exact ⟨x, vq_iv hx, hf⟩
theorem fw_kg {w : Int} {z : sgZg} {D : va_G} {A A2 : Nat → Prop} {tys : List (ClassId × FieldType)} {ad ks ad2 ks2 : List Nat} {H : Heap} {P : sgPm} {a1 : Nat} (hG : sgG (KT P) D vwCl A tys ad ks H) (h1 : isK ad ks 10 a1) (hG2 : sgG (KG 0 240 w w z P) D vwCl A2 tys ad2 ks2 H) (h2 : isK ad2 ks2 10 a1) : ∀ q : Nat, isK ad ks 10 q → ∃ x : Int32, x.toInt = w ∧ fld D H 10 q 3 (.int x) := by
  intro q hq
  obtain ⟨ws, hP, hD, hT, hU⟩ := hG
  obtain ⟨i, hi1, hi2⟩ := hq
  obtain ⟨j, hj1, hj2⟩ := h1
  have hij := hU 10 (by decide) i j hi2 hj2
  subst hij
  have hqa : q = a1 := Option.some.inj (hi1.symm.trans hj1)
  subst hqa
  obtain ⟨v, ⟨x, rfl, hx⟩, hf⟩ := sg_fldE hG2 h2 (k := 10) (ci := 10) (j := 3) (t := .inl (w, w)) (r := (RX10, TX10, 4)) rfl rfl (by decide) rfl
  exact ⟨x, vq_iv hx, hf⟩
/-- what fault answers, of a reader's outcome -/
def vFt (r : Rs) (w : Int) : Prop := (r.1 = true ∧ w = -1) ∨ (r.1 = false ∧ r.2 = w)
theorem vFt_fun {r : Rs} {w w' : Int} (h : vFt r w) (h' : vFt r w') : w = w' := by
  rcases h with ⟨c, e⟩ | ⟨c, e⟩
  · rcases h' with ⟨-, e'⟩ | ⟨c', -⟩
    · exact e.trans e'.symm
    · rw [c] at c'
      cases c'
  · rcases h' with ⟨c', -⟩ | ⟨-, e'⟩
    · rw [c] at c'
      cases c'
    · exact e.symm.trans e'
/-- what fault answers, by its sort: the class, the reference -/
def sgFt1 (x : Int) (P : sgPm) (w : Int) : Prop := (x = 0 ∧ lnFt1 (sgT1 P) (sgL1 P) w) ∨ (x = 1 ∧ vFt (vLaw (sgT1 P) (sgL1 P)) w) ∨ (x = 2 ∧ vFt (vGame (sgT1 P) (sgL1 P)) w) ∨ ((x < 0 ∨ 2 < x) ∧ w = -2)
def sgFt2 (x : Int) (P : sgPm) (w : Int) : Prop := (x = 0 ∧ lnFt2 (sgU2 P) (sgL2 P) w) ∨ (x = 1 ∧ vFt (vLawM (sgU2 P) (sgL2 P)) w) ∨ (x = 2 ∧ vFt (vGame (sgU2 P) (sgL2 P)) w) ∨ ((x < 0 ∨ 2 < x) ∧ w = -2)
theorem lnFt2_cf {b b2 : Nat → Int} {n w : Int} (hc : vC b n = vC b2 n) : lnFt2 b n w ↔ lnFt2 b2 n w := by
  unfold lnFt2
  rw [lnTk2_cf hc, hc, vX_cf hc, vLnM_cf hc]
theorem sgFt_fun {P : sgPm} {x w w' : Int} (hi : sgInv P) (h : sgFt1 x P w) (h' : sgFt2 x P w') : w = w' := by
  have hl := sgInv_l1 hi
  have hb := sgInv_b1 hi
  obtain ⟨hs, hL, -, -⟩ := hi
  obtain ⟨e1, e2⟩ := sg_same_c hs
  have hc : vC (sgT1 P) (sgL1 P) = vC (sgU2 P) (sgL1 P) := by
    rw [e2, e1]
  have a1 : vLaw (sgT1 P) (sgL1 P) = vLawM (sgU2 P) (sgL2 P) := by
    rw [← e1]
    exact (vLaw_eq hl.1 hL).trans (vLawM_cf hc)
  have a2 : vGame (sgT1 P) (sgL1 P) = vGame (sgU2 P) (sgL2 P) := by
    rw [← e1]
    exact vGame_cf hc
  unfold sgFt2 at h'
  rw [← a1, ← a2, ← e1] at h'
  rcases h with ⟨c, h⟩ | ⟨c, h⟩ | ⟨c, h⟩ | ⟨c, h⟩
  · rcases h' with ⟨c', h'⟩ | ⟨c', h'⟩ | ⟨c', h'⟩ | ⟨c', h'⟩
    · exact lnFt_fun hl.1 hb h ((lnFt2_cf hc).mpr h')
    · omega
    · omega
    · omega
  · rcases h' with ⟨c', h'⟩ | ⟨c', h'⟩ | ⟨c', h'⟩ | ⟨c', h'⟩
    · omega
    · exact vFt_fun h h'
    · omega
    · omega
  · rcases h' with ⟨c', h'⟩ | ⟨c', h'⟩ | ⟨c', h'⟩ | ⟨c', h'⟩
    · omega
    · omega
    · exact vFt_fun h h'
    · omega
  · rcases h' with ⟨c', h'⟩ | ⟨c', h'⟩ | ⟨c', h'⟩ | ⟨c', h'⟩
    · omega
    · omega
    · omega
    · exact h.trans h'.symm
