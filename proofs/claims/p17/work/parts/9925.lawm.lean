theorem vD_ge {b : Nat → Int} {n c a a1 : Int} (h : vD b n c a = (true, a1)) : a + 1 ≤ a1 := by
  unfold vD at h
  split at h
  · cases h
    exact (vX_ge b n (a + 1)).1
  · cases h
theorem vCon_ge {b : Nat → Int} {n : Int} {k : Nat} {a a1 : Int} (h : vCon b n k a = (true, a1)) : a < a1 := by
  obtain ⟨h1, h2⟩ := vB_ok h
  have h3 := vUn_ge k a (vUn b n k a).2 (by rw [← h1])
  have h4 := vL_ge _ h2
  omega
theorem vCo_ge {b : Nat → Int} {n a a1 : Int} (h : vCo b n a = (true, a1)) : a + 1 ≤ a1 := by
  obtain ⟨h1, h2⟩ := vB_ok h
  have h3 := vCon_ge (k := 6) (a := a) (a1 := (vCon b n 6 a).2) (by rw [← h1])
  obtain ⟨h4, h5⟩ := vB_ok h2
  have h6 := vD_ge (a := (vCon b n 6 a).2) (a1 := (vD b n 63 (vCon b n 6 a).2).2) (by rw [← h4])
  have h7 := vSum_ge h5
  omega
theorem vCl_ge {b : Nat → Int} {n a a1 : Int} (h : vCl b n a = (true, a1)) : a + 3 ≤ a1 := by
  obtain ⟨h1, h2⟩ := vB_ok h
  have g1 := vD_ge (a := a) (a1 := (vD b n 121 a).2) (by rw [← h1])
  obtain ⟨h3, h4⟩ := vB_ok h2
  have g2 := vD_ge (a := (vD b n 121 a).2) (a1 := (vD b n 58 (vD b n 121 a).2).2) (by rw [← h3])
  generalize (vD b n 58 (vD b n 121 a).2).2 = y at *
  split at h4
  · have := vCo_ge h4
    omega
  · split at h4
    · have := vCo_ge h4
      omega
    · obtain ⟨h5, h6⟩ := vB_ok h4
      have g3 := vSum_ge (k := 6) (a := y) (a1 := (vSum b n 6 y).2) (by rw [← h5])
      generalize (vSum b n 6 y).2 = z at *
      split at h6
      · cases h6
        omega
      · obtain ⟨h7, h8⟩ := vB_ok h6
        have g4 := vCmp_ge (k := 6) (a := z) (a1 := (vCmp b n 6 z).2) (by rw [← h7])
        obtain ⟨h9, h10⟩ := vB_ok h8
        have g5 := vL_ge _ (a1 := (vL (vUn b n 6) opC b n (vCmp b n 6 z).2).2) (by rw [← h9])
        obtain ⟨h11, h12⟩ := vB_ok h10
        have g6 := vD_ge (a1 := (vD b n 63 (vL (vUn b n 6) opC b n (vCmp b n 6 z).2).2).2) (by rw [← h11])
        have g7 := vSum_ge h12
        omega
theorem vM_L {f : Int → Rs} {op : Int → Bool} {b : Nat → Int} {n : Int} (hp : ∀ a a1, f a = (true, a1) → a + 3 ≤ a1) (h0 : op 0 = false) : ∀ (k : Nat) (a : Int), a ≤ n → n - a < 4 * (k : Int) → vM f op b n k a = vB (f a) (vL f op b n) := by
  intro k
  induction k with
  | zero => exact fun a h1 h2 => by omega
  | succ k ih =>
    intro a h1 h2
    show vB (f a) _ = _
    cases hf : f a with
    | mk r w =>
      cases r with
      | false => rfl
      | true =>
        rw [vB_t, vB_t]
        have h3 := hp a w hf
        cases ho : op (vC b n w) with
        | false => rw [vL_stop ho]; rfl
        | true =>
          have hn := vC_lt (b := b) (n := n) (a := w) (fun q => by rw [q, h0] at ho; cases ho)
          have hx := vX_ge b n (w + 1)
          have h4 := ih (vX b n (w + 1)) (hx.2.1 (by omega)) (by have := hx.1; omega)
          show vM f op b n k (vX b n (w + 1)) = _
          rw [h4]
          cases hg : f (vX b n (w + 1)) with
          | mk r2 w2 =>
            cases r2 with
            | false => rw [vL_bad ho hg]; rfl
            | true =>
              have h5 := hp _ _ hg
              rw [vL_step ho hg (by have := hx.1; omega) hn.2]
              rfl
/-- the law's reader: the class's is the reference's -/
theorem vLaw_eq {b : Nat → Int} {n : Int} (h0 : 0 ≤ n) (h : n ≤ 240) : vLaw b n = vLawM b n := by
  unfold vLaw vLawM
  have hx := vX_ge b n 0
  rw [vM_L (fun a a1 q => vCl_ge q) rfl 64 (vX b n 0) (hx.2.1 h0) (by have := hx.1; omega)]
/-- what is read of two texts that are alike is the same -/
theorem vC_same {b b2 : Nat → Int} {n : Int} (h : ∀ j : Nat, (j : Int) < n → b j = b2 j) (a : Int) : vC b n a = vC b2 n a := by
  unfold vC
  by_cases c : 0 ≤ a ∧ a < n
  · rw [if_pos c, if_pos c]
    exact h _ (by omega)
  · rw [if_neg c, if_neg c]
/-- the bytes that count -/
def vCut0 (b : Nat → Int) (n : Int) : Nat → Int := fun j => if (j : Int) < n then b j else 0
theorem vC_cut (b : Nat → Int) (n : Int) : vC (vCut0 b n) n = vC b n := by
  funext a
  refine vC_same (fun j hj => ?_) a
  unfold vCut0
  rw [if_pos hj]
