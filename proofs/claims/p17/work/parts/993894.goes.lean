theorem vRuM_ge {b : Nat → Int} {n : Int} (t : Int32) (f : Nat → Int) (a : Int) (h : (vRuM b n t f a).1 = true) : a ≤ (vRuM b n t f a).2.1 := by
  by_cases c1 : vRul (vC b n a) < 0
  · rw [vRuM_no c1]
    exact Int.le_refl _
  · cases c2 : lwHas t (vRul (vC b n a)) with
    | true =>
      rw [vRuM_dup c1 c2] at h
      cases h
    | false =>
      have hlt := (vC_lt (b := b) (n := n) (a := a) (vRul_ne c1)).2
      have hx := (vX_ge b n (a + 1)).1
      cases hn : vNd b n (vLst (vRul (vC b n a)).toNat) (vMst (vRul (vC b n a)).toNat) 2 false 0 (vX b n (a + 1)) with
      | mk ok r =>
        obtain ⟨y, v⟩ := r
        cases ok with
        | false =>
          rw [vRuM_bad2 c1 c2 hn] at h
          cases h
        | true =>
          have hy := (vNd_ge hn).1
          have hay : a < y := by omega
          rw [vRuM_step2 c1 c2 hn hay hlt] at h ⊢
          have h2 := vRuM_ge _ _ _ h
          omega
termination_by (n - a).toNat
decreasing_by omega
theorem vSpM_ge {b : Nat → Int} {n a : Int} (h : (vSpM b n a).1 = true) : a ≤ (vSpM b n a).2.1 := by
  unfold vSpM at h ⊢
  split
  · rename_i g1
    rw [if_pos g1] at h
    split
    · rename_i g2
      rw [if_pos g2] at h
      split
      · rename_i g3
        rw [if_pos g3] at h
        cases h
      · have hx := (vX_ge b n (a + 1)).1
        have := (vNd_ge (b := b) (n := n) (lo := 0) (hi := 29) (k := 2) (s := false) (v := 0) (a := vX b n (a + 1)) (a1 := (vNd b n 0 29 2 false 0 (vX b n (a + 1))).2.1) (w := (vNd b n 0 29 2 false 0 (vX b n (a + 1))).2.2) (by rw [← g2])).1
        omega
    · rename_i g2
      rw [if_neg g2] at h
      cases h
  · exact Int.le_refl _
theorem vLcM_ge {b : Nat → Int} {n a a1 : Int} {q q1 : sgLwn} (h : vLcM b n q a = (true, a1, q1)) : a < a1 := by
  have hx := (vX_ge b n (a + 1)).1
  unfold vLcM at h
  split at h
  · have h1 : (vRuM b n 0 vUsu (vX b n (a + 1))).1 = true := congrArg (fun z => z.1) h
    have h2 : (vRuM b n 0 vUsu (vX b n (a + 1))).2.1 = a1 := congrArg (fun z => z.2.1) h
    have := vRuM_ge _ _ _ h1
    omega
  · split at h
    · have h1 : (vSpM b n (vX b n (a + 1))).1 = true := congrArg (fun z => z.1) h
      have h2 : (vSpM b n (vX b n (a + 1))).2.1 = a1 := congrArg (fun z => z.2.1) h
      have := vSpM_ge h1
      omega
    · cases h
