/-- what the class holds of the LAWN is what the reference holds -/
def sgHk (P : sgPm) : Prop := (P.2.2.2.2.1 = false ∧ gI (sgGm P) 9 = 0) ∨ (P.2.2.2.2.1 = true ∧ ruOk (sgRw P) ∧ gI (sgGm P) 9 = sgRw P 0 * sgRw P 1 ∧ ∀ i : Nat, i < 7 → gI (sgGm P) (30 + i) = sgRw P i)
def sgHl (P : sgPm) : Prop := sgGi (sgGm P) ∧ sgHk P
theorem sgHl_ru {P : sgPm} (h : sgHl P) (h4 : P.2.2.2.2.1 = true) : ruOk (sgRw P) := by
  obtain ⟨-, ⟨h1, -⟩ | ⟨-, h2, -⟩⟩ := h
  · exact absurd (h1.symm.trans h4) (by decide)
  · exact h2
theorem sgHl_of {P P1 : sgPm} (h : sgHl P) (h1 : sgGm P1 = sgGm P) (h2 : P1.2.2.2.2.1 = P.2.2.2.2.1) (h3 : sgRw P1 = sgRw P) : sgHl P1 := by
  obtain ⟨a, b⟩ := h
  refine ⟨?_, ?_⟩
  · rw [h1]
    exact a
  · unfold sgHk
    rw [h1, h2, h3]
    exact b
theorem sgSt_4 {P : sgPm} {a c : Nat → Int} {b d : Int} : (sgSt P a b c d).2.2.2.2.1 = P.2.2.2.2.1 := by simp only [sgSt]
theorem sgSt_Rw {P : sgPm} {a c : Nat → Int} {b d : Int} : sgRw (sgSt P a b c d) = sgRw P := by simp only [sgRw, sgSt]
theorem sgHl_St {P : sgPm} {a c : Nat → Int} {b d : Int} (h : sgHl P) : sgHl (sgSt P a b c d) := sgHl_of h sgGm_St sgSt_4 sgSt_Rw
theorem ty_tx1 {x w : Int} {P P1 : sgPm} (h : sgTy1 x P P1 w) : sgTx1 x P P1 := by
  rcases h with ⟨rfl, q, h1, h2, -⟩ | ⟨rfl, h1, h2, -⟩ | ⟨rfl, h1, h2, -⟩ | ⟨h1, h2, -⟩
  · exact Or.inl ⟨Or.inl ⟨rfl, lnTq_tk h1⟩, h2⟩
  · exact Or.inl ⟨Or.inr (Or.inl ⟨rfl, h1⟩), h2⟩
  · exact Or.inl ⟨Or.inr (Or.inr ⟨rfl, h1⟩), h2⟩
  · exact Or.inr ⟨h1, h2⟩
theorem ty_tx2 {x w : Int} {P P1 : sgPm} (h : sgTy2 x P P1 w) : sgTx2 x P P1 := by
  rcases h with ⟨rfl, q, h1, h2, -⟩ | ⟨rfl, h1, h2, -⟩ | ⟨rfl, h1, h2, -⟩ | ⟨h1, h2, -⟩
  · exact Or.inl ⟨Or.inl ⟨rfl, lnTr_tk h1⟩, h2⟩
  · exact Or.inl ⟨Or.inr (Or.inl ⟨rfl, h1⟩), h2⟩
  · exact Or.inl ⟨Or.inr (Or.inr ⟨rfl, h1⟩), h2⟩
  · exact Or.inr ⟨h1, h2⟩
theorem gP_r {g : Nat → sgT} {q : sgLwn} {j : Nat} (h : j < 7) : gI (gP2 (gP1 g q)) (30 + j) = q.1 j := by
  rw [← gP1_r (g := g) (q := q) h]
  unfold gI gP2
  rw [if_neg (by omega), if_neg (by omega), if_neg (by omega)]
theorem sgHl_pg {P P1 : sgPm} (h : sgHl P) (h1 : sgTo1 P P1) (h2 : P1.2.2.2.2.1 = P.2.2.2.2.1) (h3 : sgRw P1 = sgRw P) : sgHl P1 := by
  obtain ⟨a, b⟩ := h
  obtain ⟨k, -, -, h1⟩ := h1
  refine ⟨?_, ?_⟩
  · rw [h1]
    exact gPg_gi a
  · unfold sgHk
    rw [h1, h2, h3, gPg_I (by omega)]
    rcases b with ⟨b1, b2⟩ | ⟨b1, b2, b3, b4⟩
    · exact Or.inl ⟨b1, b2⟩
    · refine Or.inr ⟨b1, b2, b3, fun i hi => ?_⟩
      rw [gPg_I (by omega)]
      exact b4 i hi
theorem ty_all {P P1 P2 : sgPm} {x w1 w2 : Int} (hi : sgInv P) (hg : sgHl P) (s1 : sgSd1 P P1) (l1 : sgLs P P1) (t1 : sgTy1 x P P1 w1) (s2 : sgSd2 P1 P2) (g2 : sgGm P2 = sgGm P1) (t2 : sgTy2 x P1 P2 w2) : w1 = w2 ∧ sgHl P2 := by
  have ht : sgTk1 x P ↔ sgTk2 x P1 := (sgTk_same hi).trans (sgTk2_sd s1).symm
  have n1 : ∀ {w : Int}, sgTy1 x P P1 w → True := fun _ => trivial
  obtain ⟨a1, a2, a3, a4, a5⟩ := s1
  rcases t1 with ⟨e, q, h1, h2, h3, h4⟩ | ⟨e, h1, h2, h3, h4⟩ | ⟨e, h1, h2, h3, h4⟩ | ⟨h1, h2, h3, h4⟩
  · have tk : sgTk2 x P1 := ht.mp (Or.inl ⟨e, lnTq_tk h1⟩)
    rcases t2 with ⟨e', q', k1, k2, k3, k5, k4⟩ | ⟨e', -⟩ | ⟨e', -⟩ | ⟨k1, -⟩
    · have u : sgU2 P1 = sgU2 P := by
        unfold sgU2
        rw [a1]
      obtain ⟨e1, e2⟩ := sg_same_c hi.1
      have hc : vC (sgT1 P) (sgL1 P) = vC (sgU2 P) (sgL1 P) := by
        rw [e2, e1]
      rw [u, a2, ← e1] at k1
      have hq : q = q' := lnTr_fun (lnTq_same h1) ((lnTr_cf hc).mpr k1)
      subst hq
      refine ⟨h4.trans k4.symm, ?_, Or.inr ⟨k3.1, ?_, ?_, ?_⟩⟩
      · rw [g2, h3]
        exact gi_next hg.1
      · rw [k3.2]
        exact lnTr_ok (lnTq_same h1)
      · rw [g2, h3, k3.2]
        rfl
      · intro i hi
        rw [g2, h3, k3.2]
        exact gP_r hi
    · omega
    · omega
    · exact absurd tk k1
  · have tk : sgTk2 x P1 := ht.mp (Or.inr (Or.inl ⟨e, h1⟩))
    rcases t2 with ⟨e', -⟩ | ⟨e', k1, k2, k3, k5, k4⟩ | ⟨e', -⟩ | ⟨k1, -⟩
    · omega
    · refine ⟨?_, sgHl_of (sgHl_of hg h3 l1.1 l1.2) g2 k3.1 k3.2⟩
      rw [h4, k4, a4, hi.2.2.1]
    · omega
    · exact absurd tk k1
  · have tk : sgTk2 x P1 := ht.mp (Or.inr (Or.inr ⟨e, h1⟩))
    rcases t2 with ⟨e', -⟩ | ⟨e', -⟩ | ⟨e', k1, k2, k3, k5, k4⟩ | ⟨k1, -⟩
    · omega
    · omega
    · refine ⟨?_, sgHl_of (sgHl_pg hg h3 l1.1 l1.2) g2 k3.1 k3.2⟩
      rw [h4, k4, a5, hi.2.2.2]
    · exact absurd tk k1
  · have ntk : ¬ sgTk2 x P1 := fun z => h1 (ht.mpr z)
    rcases t2 with ⟨e', q', k1, -⟩ | ⟨e', k1, -⟩ | ⟨e', k1, -⟩ | ⟨k1, k2, k3, k5, k4⟩
    · exact absurd (Or.inl ⟨e', lnTr_tk k1⟩) ntk
    · exact absurd (Or.inr (Or.inl ⟨e', k1⟩)) ntk
    · exact absurd (Or.inr (Or.inr ⟨e', k1⟩)) ntk
    · exact ⟨h4.trans k4.symm, sgHl_of (sgHl_of hg h3 l1.1 l1.2) g2 k3.1 k3.2⟩
/-- what rule answers: how many cells there are, the rules -/
def sgRv (c : Int) (f : Nat → Int) (x : Int) : Int := if c = 0 ∨ x < 0 ∨ 6 ≤ x then -1 else f x.toNat
theorem sgRv_n {c x : Int} {f : Nat → Int} (h : c = 0 ∨ x < 0 ∨ 6 ≤ x) : sgRv c f x = -1 := if_pos h
theorem sgRv_y {c x : Int} {f : Nat → Int} (h : ¬ c = 0) (h0 : 0 ≤ x) (h6 : x < 6) : sgRv c f x = f x.toNat := if_neg (by omega)
theorem ru_at {f : Nat → Int} {ad ks : List Nat} {b : Bool} {j : Nat} {x : Int32} (hb : b = true) (h : okV ad ks (sg_ru b f j) (.int x)) (hr : ruOk f) (hj : j < 7) : x.toInt = f j := by
  subst hb
  obtain ⟨y, e, h1, h2⟩ : ∃ y : Int32, Value.int x = .int y ∧ iv (f j) (f j) y := by
    have hb := hr j hj
    match j, hj, hb, h with
    | 0, hj, hb, h =>
      obtain ⟨y, e, h1, h2⟩ : ∃ y : Int32, Value.int x = .int y ∧ iv (max 1 (min (f 0) 6)) (max 1 (min (f 0) 6)) y := h
      have b1 : 1 ≤ f 0 := hb.1
      have b2 : f 0 ≤ 6 := hb.2
      exact ⟨y, e, by omega, by omega⟩
    | 1, hj, hb, h =>
      obtain ⟨y, e, h1, h2⟩ : ∃ y : Int32, Value.int x = .int y ∧ iv (max 1 (min (f 1) 5)) (max 1 (min (f 1) 5)) y := h
      have b1 : 1 ≤ f 1 := hb.1
      have b2 : f 1 ≤ 5 := hb.2
      exact ⟨y, e, by omega, by omega⟩
    | 2, hj, hb, h =>
      obtain ⟨y, e, h1, h2⟩ : ∃ y : Int32, Value.int x = .int y ∧ iv (max 2 (min (f 2) 5)) (max 2 (min (f 2) 5)) y := h
      have b1 : 2 ≤ f 2 := hb.1
      have b2 : f 2 ≤ 5 := hb.2
      exact ⟨y, e, by omega, by omega⟩
    | 3, hj, hb, h =>
      obtain ⟨y, e, h1, h2⟩ : ∃ y : Int32, Value.int x = .int y ∧ iv (max 1 (min (f 3) 5)) (max 1 (min (f 3) 5)) y := h
      have b1 : 1 ≤ f 3 := hb.1
      have b2 : f 3 ≤ 5 := hb.2
      exact ⟨y, e, by omega, by omega⟩
    | 4, hj, hb, h =>
      obtain ⟨y, e, h1, h2⟩ : ∃ y : Int32, Value.int x = .int y ∧ iv (max 0 (min (f 4) 8)) (max 0 (min (f 4) 8)) y := h
      have b1 : 0 ≤ f 4 := hb.1
      have b2 : f 4 ≤ 8 := hb.2
      exact ⟨y, e, by omega, by omega⟩
    | 5, hj, hb, h =>
      obtain ⟨y, e, h1, h2⟩ : ∃ y : Int32, Value.int x = .int y ∧ iv (max 0 (min (f 5) 8)) (max 0 (min (f 5) 8)) y := h
      have b1 : 0 ≤ f 5 := hb.1
      have b2 : f 5 ≤ 8 := hb.2
      exact ⟨y, e, by omega, by omega⟩
    | 6, hj, hb, h =>
      obtain ⟨y, e, h1, h2⟩ : ∃ y : Int32, Value.int x = .int y ∧ iv (max 0 (min (f 6) 1)) (max 0 (min (f 6) 1)) y := h
      have b1 : 0 ≤ f 6 := hb.1
      have b2 : f 6 ≤ 1 := hb.2
      exact ⟨y, e, by omega, by omega⟩
    | j + 7, hj, hb, h => exact absurd hj (by omega)
  cases e
  exact Int.le_antisymm h2 h1
theorem sg_rvI {f : Int32} {g l m : Int64} {v : Int32} (h : ¬ f = 0 ↔ l.toInt ≤ g.toInt ∧ g.toInt ≤ m.toInt) (e : g = v.toInt64) (hl : l.toInt = 0) (hm : m.toInt = 5) (h0 : ¬ f = 0) : 0 ≤ v.toInt ∧ v.toInt < 6 := by
  have h1 : g.toInt = v.toInt := by rw [e, Int32.toInt_toInt64]
  have h2 := h.mp h0
  rw [h1, hl, hm] at h2
  omega
theorem sg_rvO {f : Int32} {g l m : Int64} {v : Int32} (h : ¬ f = 0 ↔ l.toInt ≤ g.toInt ∧ g.toInt ≤ m.toInt) (e : g = v.toInt64) (hl : l.toInt = 0) (hm : m.toInt = 5) (h0 : f = 0) : v.toInt < 0 ∨ 6 ≤ v.toInt := by
  have h1 : g.toInt = v.toInt := by rw [e, Int32.toInt_toInt64]
  have h2 : ¬ (l.toInt ≤ g.toInt ∧ g.toInt ≤ m.toInt) := fun q => h.mpr q h0
  rw [h1, hl, hm] at h2
  omega
/-- both sides answer rule alike -/
theorem rv_same {P : sgPm} {x : Int} (h : sgHl P) : sgRv (gI (sgGm P) 9) (fun i => gI (sgGm P) (30 + i)) x = sgRv (bif P.2.2.2.2.1 then 1 else 0) (sgRw P) x := by
  obtain ⟨-, ⟨h1, h2⟩ | ⟨h1, h2, h3, h4⟩⟩ := h
  · rw [sgRv_n (Or.inl h2), sgRv_n (Or.inl (by rw [h1]; rfl))]
  · have c0 : ¬ gI (sgGm P) 9 = 0 := by
      have b0 := h2 0 (by decide)
      have b1 := h2 1 (by decide)
      have b0 : (1 : Int) ≤ sgRw P 0 := b0.1
      have b1 : (1 : Int) ≤ sgRw P 1 := b1.1
      have := Int.mul_le_mul b0 b1 (by decide) (by omega)
      rw [h3]
      omega
    by_cases hx : x < 0 ∨ 6 ≤ x
    · rw [sgRv_n (Or.inr hx), sgRv_n (Or.inr hx)]
    · rw [sgRv_y c0 (by omega) (by omega), sgRv_y (by rw [h1]; decide) (by omega) (by omega)]
      exact h4 _ (by omega)
theorem rv_1 {r : Int32} {A : Prop} (h : (r = 1 ∧ A) ∨ (r = 0 ∧ ¬ A)) (c : ¬ r = 0) : A := by
  rcases h with h | h
  · exact h.2
  · exact absurd h.1 c
theorem rv_0 {r : Int32} {A : Prop} (h : (r = 1 ∧ A) ∨ (r = 0 ∧ ¬ A)) (c : r = 0) : ¬ A := by
  rcases h with h | h
  · rw [h.1] at c
    exact absurd c (by decide)
  · exact h.2
theorem rv_01 {r : Int32} {A B : Prop} (h : (r = 1 ∧ A) ∨ (r = 0 ∧ B)) : iv 0 1 r := by
  rcases h with h | h
  · rw [h.1]
    exact iv_c 1 (a := 0) (b := 1) (by decide +kernel)
  · rw [h.1]
    exact iv_c 0 (a := 0) (b := 1) (by decide +kernel)
theorem rv_z : (0 : Int32).toInt = 0 := by decide +kernel
theorem rv_6 : (6 : Int32).toInt = 6 := by decide +kernel
theorem rv_lt {x : Int32} (h : x < 0) : x.toInt < 0 := by
  have := Int32.lt_iff_toInt_lt.mp h
  rw [rv_z] at this
  exact this
theorem rv_ge0 {x : Int32} (h : (0 : Int32) ≤ x) : 0 ≤ x.toInt := by
  have := Int32.le_iff_toInt_le.mp h
  rw [rv_z] at this
  exact this
theorem rv_ge {x : Int32} (h : (6 : Int32) ≤ x) : 6 ≤ x.toInt := by
  have := Int32.le_iff_toInt_le.mp h
  rw [rv_6] at this
  exact this
theorem rv_lt6 {x : Int32} (h : x < 6) : x.toInt < 6 := by
  have := Int32.lt_iff_toInt_lt.mp h
  rw [rv_6] at this
  exact this
theorem rv_05 {x : Int32} (h : 0 ≤ x.toInt ∧ x.toInt < 6) : iv 0 5 x := ⟨h.1, by omega⟩
theorem rv_7 {x : Int32} (h : 0 ≤ x.toInt ∧ x.toInt < 6) : x.toNatClampNeg < 7 := by
  show x.toInt.toNat < 7
  omega
