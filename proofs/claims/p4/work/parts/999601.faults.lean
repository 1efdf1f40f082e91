theorem vNd_le {b : Nat → Int} {n lo hi : Int} : ∀ {k : Nat} {s : Bool} {v a : Int}, a ≤ n → (vNd b n lo hi k s v a).2.1 ≤ n := by
  intro k
  induction k with
  | zero =>
    intro s v a h
    unfold vNd
    split
    · exact h
    · split
      · exact h
      · split
        · show a - 1 ≤ n
          omega
        · exact (vX_ge b n a).2.1 h
  | succ k ih =>
    intro s v a h
    unfold vNd
    split
    · rename_i g
      have h2 := (vC_lt (b := b) (n := n) (a := a) (by omega)).2
      exact ih (by omega)
    · split
      · exact h
      · split
        · show a - 1 ≤ n
          omega
        · exact (vX_ge b n a).2.1 h
theorem vRuM_le {b : Nat → Int} {n : Int} (t : Int32) (f : Nat → Int) (a : Int) (h : a ≤ n) : (vRuM b n t f a).2.1 ≤ n := by
  by_cases c1 : vRul (vC b n a) < 0
  · rw [vRuM_no c1]
    exact h
  · cases c2 : lwHas t (vRul (vC b n a)) with
    | true =>
      rw [vRuM_dup c1 c2]
      exact h
    | false =>
      have hlt := (vC_lt (b := b) (n := n) (a := a) (vRul_ne c1)).2
      have hx := (vX_ge b n (a + 1)).1
      have hxn := (vX_ge b n (a + 1)).2.1 (by omega)
      have hl := vNd_le (b := b) (n := n) (lo := vLst (vRul (vC b n a)).toNat) (hi := vMst (vRul (vC b n a)).toNat) (k := 2) (s := false) (v := 0) hxn
      cases hn : vNd b n (vLst (vRul (vC b n a)).toNat) (vMst (vRul (vC b n a)).toNat) 2 false 0 (vX b n (a + 1)) with
      | mk ok r =>
        obtain ⟨y, v⟩ := r
        rw [hn] at hl
        cases ok with
        | false =>
          rw [vRuM_bad2 c1 c2 hn]
          exact hl
        | true =>
          have hy := (vNd_ge hn).1
          have hay : a < y := by omega
          rw [vRuM_step2 c1 c2 hn hay hlt]
          exact vRuM_le _ _ _ hl
termination_by (n - a).toNat
decreasing_by omega
theorem vSpM_le {b : Nat → Int} {n a : Int} (h : a ≤ n) : (vSpM b n a).2.1 ≤ n := by
  by_cases c : vC b n a = 99
  · have hlt := (vC_lt (b := b) (n := n) (a := a) (by rw [c]; decide)).2
    have hl := vNd_le (b := b) (n := n) (lo := 0) (hi := 29) (k := 2) (s := false) (v := 0) ((vX_ge b n (a + 1)).2.1 (by omega))
    cases hn : vNd b n 0 29 2 false 0 (vX b n (a + 1)) with
    | mk ok r =>
      obtain ⟨y, v⟩ := r
      rw [hn] at hl
      cases ok with
      | false =>
        rw [vSpM_b c hn]
        exact hl
      | true =>
        by_cases c2 : vC b n y = 99
        · rw [vSpM_2 c hn c2]
          exact hl
        · rw [vSpM_t c hn (eq_false c2)]
          exact hl
  · rw [vSpM_0 (eq_false c)]
    exact h
theorem vLcM_le {b : Nat → Int} {n a : Int} {q : sgLwn} (h : a ≤ n) : (vLcM b n q a).2.1 ≤ n := by
  by_cases h1 : vC b n a = 115 ∧ q.2.2.2.2.2.1 = false
  · have hlt := (vC_lt (b := b) (n := n) (a := a) (by rw [h1.1]; decide)).2
    unfold vLcM
    rw [if_pos h1]
    exact vRuM_le _ _ _ ((vX_ge b n (a + 1)).2.1 (by omega))
  · by_cases h2 : (vC b n a = 116 ∧ q.2.2.2.1 < 12) ∨ (vC b n a = 98 ∧ q.2.2.2.2.1 < 8)
    · have hlt := (vC_lt (b := b) (n := n) (a := a) (by rcases h2 with h2 | h2 <;> rw [h2.1] <;> decide)).2
      unfold vLcM
      rw [if_neg h1, if_pos h2]
      exact vSpM_le ((vX_ge b n (a + 1)).2.1 (by omega))
    · unfold vLcM
      rw [if_neg h1, if_neg h2]
      exact h
theorem vLnM_le {b : Nat → Int} {n : Int} (q : sgLwn) (a : Int) (h : a ≤ n) : (vLnM b n q a).2.1 ≤ n := by
  by_cases hs : (vLcM b n q a).1 = true ∧ vC b n (vLcM b n q a).2.1 = 59 ∧ a < (vLcM b n q a).2.1 ∧ a < n
  · have h3 := hs.2.2
    have h4 := (vX_ge b n ((vLcM b n q a).2.1 + 1)).1
    have h5 := (vC_lt (b := b) (n := n) (a := (vLcM b n q a).2.1) (by rw [hs.2.1]; decide)).2
    have e : vLnM b n q a = vLnM b n (vLcM b n q a).2.2 (vX b n ((vLcM b n q a).2.1 + 1)) := by
      conv => lhs; unfold vLnM
      rw [dif_pos hs]
    rw [e]
    exact vLnM_le _ _ ((vX_ge b n ((vLcM b n q a).2.1 + 1)).2.1 (by omega))
  · have e : vLnM b n q a = vLcM b n q a := by
      unfold vLnM
      rw [dif_neg hs]
    rw [e]
    exact vLcM_le h
termination_by (n - a).toNat
decreasing_by omega
theorem vLnM_ge {b : Nat → Int} {n : Int} (q : sgLwn) (a a1 : Int) (q1 : sgLwn) (h : vLnM b n q a = (true, a1, q1)) : a < a1 := by
  by_cases hs : (vLcM b n q a).1 = true ∧ vC b n (vLcM b n q a).2.1 = 59 ∧ a < (vLcM b n q a).2.1 ∧ a < n
  · have h3 := hs.2.2
    have h4 := (vX_ge b n ((vLcM b n q a).2.1 + 1)).1
    have e : vLnM b n q a = vLnM b n (vLcM b n q a).2.2 (vX b n ((vLcM b n q a).2.1 + 1)) := by
      conv => lhs; unfold vLnM
      rw [dif_pos hs]
    rw [e] at h
    have := vLnM_ge _ _ _ _ h
    omega
  · have e : vLnM b n q a = vLcM b n q a := by
      unfold vLnM
      rw [dif_neg hs]
    rw [e] at h
    exact vLcM_ge h
termination_by (n - a).toNat
decreasing_by omega
/-- where a clause stops is the same on both sides -/
theorem vLc_cm2 {b : Nat → Int} {n a : Int} {q : sgLwn} (hq : q.2.2.2.2.2.1 = false → q.1 = vUsu) : vLcC b n q a = vLcM b n q a ∨ ((vLcM b n q a).1 = false ∧ (vLcC b n q a).1 = true ∧ vC b n (vLcC b n q a).2.1 = 99 ∧ (vLcM b n q a).2.1 = (vLcC b n q a).2.1) := by
  by_cases h1 : vC b n a = 115 ∧ q.2.2.2.2.2.1 = false
  · left
    unfold vLcC vLcM
    rw [if_pos h1, if_pos h1, hq h1.2]
  · by_cases h2 : (vC b n a = 116 ∧ q.2.2.2.1 < 12) ∨ (vC b n a = 98 ∧ q.2.2.2.2.1 < 8)
    · have e1 : vLcC b n q a = ((vSpC b n (vX b n (a + 1))).1, (vSpC b n (vX b n (a + 1))).2.1, lwPut (vC b n a == 116) (vSpC b n (vX b n (a + 1))).2.2 q) := by
        unfold vLcC
        rw [if_neg h1, if_pos h2]
      have e2 : vLcM b n q a = ((vSpM b n (vX b n (a + 1))).1, (vSpM b n (vX b n (a + 1))).2.1, lwPut (vC b n a == 116) (vSpM b n (vX b n (a + 1))).2.2 q) := by
        unfold vLcM
        rw [if_neg h1, if_pos h2]
      have h3 : vSpC b n (vX b n (a + 1)) = vSpM b n (vX b n (a + 1)) ∨ ((vSpM b n (vX b n (a + 1))).1 = false ∧ (vSpC b n (vX b n (a + 1))).1 = true ∧ vC b n (vSpC b n (vX b n (a + 1))).2.1 = 99 ∧ (vSpM b n (vX b n (a + 1))).2.1 = (vSpC b n (vX b n (a + 1))).2.1) := by
        by_cases h4 : vC b n (vX b n (a + 1)) = 99
        · cases hn : vNd b n 0 29 2 false 0 (vX b n (vX b n (a + 1) + 1)) with
          | mk ok r =>
            obtain ⟨y, v⟩ := r
            cases ok with
            | false => left; rw [vSpC_b h4 hn, vSpM_b h4 hn]
            | true =>
              by_cases h5 : vC b n y = 99
              · right
                rw [vSpC_t h4 hn, vSpM_2 h4 hn h5]
                exact ⟨rfl, rfl, h5, rfl⟩
              · left
                rw [vSpC_t h4 hn, vSpM_t h4 hn (eq_false h5)]
        · left
          rw [vSpC_0 (eq_false h4), vSpM_0 (eq_false h4)]
      rw [e1, e2]
      rcases h3 with h3 | h3
      · left
        rw [h3]
      · right
        exact h3
    · left
      unfold vLcC vLcM
      rw [if_neg h1, if_neg h2, if_neg h1, if_neg h2]
theorem vLn_cm2 {b : Nat → Int} {n : Int} (q : sgLwn) (a : Int) (hq : q.2.2.2.2.2.1 = false → q.1 = vUsu) : vLnC b n q a = vLnM b n q a ∨ ((vLnM b n q a).1 = false ∧ (vLnC b n q a).1 = true ∧ vC b n (vLnC b n q a).2.1 = 99 ∧ (vLnM b n q a).2.1 = (vLnC b n q a).2.1) := by
  rcases vLc_cm2 (b := b) (n := n) (a := a) hq with h | ⟨h1, h2, h3, h4⟩
  · by_cases hs : (vLcM b n q a).1 = true ∧ vC b n (vLcM b n q a).2.1 = 59 ∧ a < (vLcM b n q a).2.1 ∧ a < n
    · have e1 : vLnM b n q a = vLnM b n (vLcM b n q a).2.2 (vX b n ((vLcM b n q a).2.1 + 1)) := by
        conv => lhs; unfold vLnM
        rw [dif_pos hs]
      have e2 : vLnC b n q a = vLnC b n (vLcM b n q a).2.2 (vX b n ((vLcM b n q a).2.1 + 1)) := by
        conv => lhs; unfold vLnC
        rw [h, dif_pos hs]
      have h3 := hs.2.2
      have h4 := (vX_ge b n ((vLcM b n q a).2.1 + 1)).1
      rw [e1, e2]
      exact vLn_cm2 _ _ (vLcM_us hq)
    · have e1 : vLnM b n q a = vLcM b n q a := by
        unfold vLnM
        rw [dif_neg hs]
      have e2 : vLnC b n q a = vLcM b n q a := by
        unfold vLnC
        rw [h, dif_neg hs]
      rw [e1, e2]
      exact Or.inl rfl
  · have e1 : vLnM b n q a = vLcM b n q a := by
      unfold vLnM
      rw [dif_neg (fun z => by rw [h1] at z; cases z.1)]
    have e2 : vLnC b n q a = vLcC b n q a := by
      unfold vLnC
      rw [dif_neg (fun z => by rw [h3] at z; exact absurd z.2.1 (by decide))]
    rw [e1, e2]
    exact Or.inr ⟨h1, h2, h3, h4⟩
termination_by (n - a).toNat
decreasing_by omega
/-- what fault answers for a LAWN: the class, the reference -/
def lnFt1 (b : Nat → Int) (n w : Int) : Prop := (lnTk1 b n ∧ w = -1) ∨ ∃ (ok : Bool) (a1 : Int) (q1 : sgLwn), vLnC b n lw0 (vX b n 0) = (ok, a1, q1) ∧ ((ok = false ∧ w = a1) ∨ (ok = true ∧ ¬ vC b n a1 = 0 ∧ w = a1) ∨ (ok = true ∧ vC b n a1 = 0 ∧ ¬ lwOkC q1 ∧ w = n))
def lnFt2 (b : Nat → Int) (n w : Int) : Prop := (lnTk2 b n ∧ w = -1) ∨ ∃ (ok : Bool) (q1 : sgLwn), vLnM b n lw0 (vX b n 0) = (ok, w, q1) ∧ (ok = false ∨ ¬ (vC b n w = 0 ∧ lwOk q1))
theorem lnFt_fun {b : Nat → Int} {n w w' : Int} (hn : 0 ≤ n) (hb : ∀ j : Nat, (j : Int) < n → 1 ≤ b j ∧ b j ≤ 255) (h : lnFt1 b n w) (h' : lnFt2 b n w') : w = w' := by
  have hx0 := (vX_ge b n 0).1
  have hxn := (vX_ge b n 0).2.1 hn
  rcases h with ⟨t, rfl⟩ | ⟨ok, a1, q1, e, c⟩
  · rcases h' with ⟨-, rfl⟩ | ⟨ok', q', e', c'⟩
    · rfl
    · exact absurd (lnTk_same.mp t) (lnTk2_no e' c')
  · rcases h' with ⟨t, -⟩ | ⟨ok', q', e', c'⟩
    · exact absurd (lnTk_same.mpr t) (lnTk1_no e c)
    · rcases vLn_cm2 (b := b) (n := n) lw0 (vX b n 0) (fun _ => rfl) with h | ⟨h1, h2, h3, h4⟩
      · rw [e, e'] at h
        have ho : ok = ok' := congrArg (fun z => z.1) h
        have ha : a1 = w' := congrArg (fun z => z.2.1) h
        rcases c with ⟨-, c⟩ | ⟨-, -, c⟩ | ⟨g1, g2, -, c⟩
        · exact c.trans ha
        · exact c.trans ha
        · rw [← ho, g1] at e'
          rw [ha] at g2
          have l1 := vLnM_le (b := b) (n := n) lw0 (vX b n 0) hxn
          have l2 := vLnM_ge _ _ _ _ e'
          rw [e'] at l1
          have l1 : w' ≤ n := l1
          rcases Int.lt_or_le w' n with l3 | l3
          · exfalso
            rw [vC_in (by omega) l3] at g2
            have := (hb w'.toNat (by omega)).1
            omega
          · omega
      · rw [e, e'] at h4
        rw [e] at h2 h3
        have h2 : ok = true := h2
        have h3 : vC b n a1 = 99 := h3
        have h4 : w' = a1 := h4
        rcases c with ⟨g, -⟩ | ⟨-, -, c⟩ | ⟨-, g, -⟩
        · rw [g] at h2
          cases h2
        · rw [h4]
          exact c
        · rw [g] at h3
          exact absurd h3 (by decide)
