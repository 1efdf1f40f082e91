theorem vNd_in {b : Nat → Int} {n lo hi : Int} : ∀ {k : Nat} {s : Bool} {v a a1 w : Int}, vNd b n lo hi k s v a = (true, a1, w) → lo ≤ w ∧ w ≤ hi := by
  intro k
  induction k with
  | zero =>
    intro s v a a1 w h
    unfold vNd at h
    split at h
    · cases h
    · split at h
      · cases h
      · split at h
        · cases h
        · cases h
          omega
  | succ k ih =>
    intro s v a a1 w h
    unfold vNd at h
    split at h
    · exact ih h
    · split at h
      · cases h
      · split at h
        · cases h
        · cases h
          omega
/-- the rules lie in their bounds -/
def ruOk (f : Nat → Int) : Prop := ∀ i : Nat, i < 7 → vLst i ≤ f i ∧ f i ≤ vMst i
theorem ruOk_us : ruOk vUsu := by
  intro i hi
  match i, hi with
  | 0, _ => decide
  | 1, _ => decide
  | 2, _ => decide
  | 3, _ => decide
  | 4, _ => decide
  | 5, _ => decide
  | 6, _ => decide
  | i + 7, hi => exact absurd hi (by omega)
theorem ruOk_up {f : Nat → Int} {k : Nat} {v : Int} (h : ruOk f) (hv : vLst k ≤ v ∧ v ≤ vMst k) : ruOk (fnUp f k v) := by
  intro i hi
  unfold fnUp
  by_cases e : i = k
  · rw [if_pos e, e]
    exact hv
  · rw [if_neg e]
    exact h i hi
theorem vRuM_in {b : Nat → Int} {n : Int} (t : Int32) (f : Nat → Int) (a : Int) (hf : ruOk f) : ruOk (vRuM b n t f a).2.2 := by
  unfold vRuM
  split
  · exact hf
  · split
    · exact hf
    · split
      · rename_i g
        refine vRuM_in _ _ _ (ruOk_up hf ?_)
        exact vNd_in (k := 2) (s := false) (v := 0) (a := vX b n (a + 1)) (a1 := (vNd b n (vLst (vRul (vC b n a)).toNat) (vMst (vRul (vC b n a)).toNat) 2 false 0 (vX b n (a + 1))).2.1) (by rw [← g.1])
      · exact hf
termination_by (n - a).toNat
decreasing_by
  rename_i g
  have := g.2
  omega
theorem lwPut_1 {t : Bool} {v : Int} {q : sgLwn} : (lwPut t v q).1 = q.1 := by
  cases t <;> rfl
theorem vLcM_in {b : Nat → Int} {n a : Int} {q : sgLwn} (hq : ruOk q.1) : ruOk (vLcM b n q a).2.2.1 := by
  unfold vLcM
  split
  · exact vRuM_in _ _ _ ruOk_us
  · split
    · show ruOk (lwPut _ _ q).1
      rw [lwPut_1]
      exact hq
    · exact hq
theorem vLnM_in {b : Nat → Int} {n : Int} (q : sgLwn) (a : Int) (hq : ruOk q.1) : ruOk (vLnM b n q a).2.2.1 := by
  unfold vLnM
  split
  · exact vLnM_in _ _ (vLcM_in hq)
  · exact vLcM_in hq
termination_by (n - a).toNat
decreasing_by
  rename_i h
  have h1 := h.2.2
  have h2 := (vX_ge b n ((vLcM b n q a).2.1 + 1)).1
  omega
theorem ruOk_w {f : Nat → Int} (h : ruOk f) : (1 ≤ f 0 ∧ f 0 ≤ 6) ∧ (1 ≤ f 1 ∧ f 1 ≤ 5) ∧ (2 ≤ f 2 ∧ f 2 ≤ 5) := ⟨h 0 (by decide), h 1 (by decide), h 2 (by decide)⟩
/-- the start: nothing is told yet -/
theorem zq_start {o : sgO} : ((zUp (zUp (zUp (zUp (zUp (zUp sgZ0.1 25 0) 26 0) 27 0) 28 0) 30 0) 31 0, zUp (zUp (zUp (zUp (zUp (zUp (zUp sgZ0.2.1 0 5) 1 4) 2 3) 3 2) 4 0) 5 8) 6 0, o) : sgZt) = zQ lw0 o := by
  refine Prod.ext ?_ (Prod.ext ?_ rfl)
  · funext j
    by_cases h1 : j = 25
    · subst h1
      simp [zUp, zQ, lw0]
    by_cases h2 : j = 26
    · subst h2
      simp [zUp, zQ, lw0]
    by_cases h3 : j = 27
    · subst h3
      simp [zUp, zQ, lw0]
    by_cases h4 : j = 28
    · subst h4
      simp [zUp, zQ, lw0]
    by_cases h5 : j = 30
    · subst h5
      simp [zUp, zQ, lw0]
    by_cases h6 : j = 31
    · subst h6
      simp [zUp, zQ, lw0]
    simp [zUp, zQ, lw0, sgZ0, h1, h2, h3, h4, h5, h6]
  · funext i
    match i with
    | 0 => rfl
    | 1 => rfl
    | 2 => rfl
    | 3 => rfl
    | 4 => rfl
    | 5 => rfl
    | 6 => rfl
    | i + 7 =>
      simp [zUp, zQ, sgZ0]
      intro h
      omega
