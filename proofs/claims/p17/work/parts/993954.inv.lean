section
variable {b b2 : Nat → Int} {n : Int}
theorem vNd_all (hc : vC b n = vC b2 n) : vNd b n = vNd b2 n := by
  funext lo hi k s v a
  exact vNd_cf hc k s v a
theorem vRuM_c (hc : vC b n = vC b2 n) (t : Int32) (f : Nat → Int) (a : Int) : vRuM b n t f a = vRuM b2 n t f a := by
  have e1 : vC b2 n = vC b n := hc.symm
  have ex := (vX_cf hc).symm
  have en := (vNd_all hc).symm
  by_cases c1 : vRul (vC b n a) < 0
  · rw [vRuM_no c1, vRuM_no (b := b2) (by rw [e1]; exact c1)]
  · cases c2 : lwHas t (vRul (vC b n a)) with
    | true => rw [vRuM_dup c1 c2, vRuM_dup (b := b2) (by rw [e1]; exact c1) (by rw [e1]; exact c2)]
    | false =>
      have hlt := (vC_lt (b := b) (n := n) (a := a) (vRul_ne c1)).2
      have hx := (vX_ge b n (a + 1)).1
      cases hn : vNd b n (vLst (vRul (vC b n a)).toNat) (vMst (vRul (vC b n a)).toNat) 2 false 0 (vX b n (a + 1)) with
      | mk ok r =>
        obtain ⟨y, v⟩ := r
        cases ok with
        | false => rw [vRuM_bad2 c1 c2 hn, vRuM_bad2 (b := b2) (w := y) (x := v) (by rw [e1]; exact c1) (by rw [e1]; exact c2) (by rw [e1, en, ex]; exact hn)]
        | true =>
          have hy := (vNd_ge hn).1
          have hay : a < y := by omega
          rw [vRuM_step2 c1 c2 hn hay hlt, vRuM_step2 (b := b2) (a1 := y) (v := v) (by rw [e1]; exact c1) (by rw [e1]; exact c2) (by rw [e1, en, ex]; exact hn) hay hlt, e1]
          exact vRuM_c hc _ _ _
termination_by (n - a).toNat
decreasing_by omega
theorem vRuM_cf (hc : vC b n = vC b2 n) : vRuM b n = vRuM b2 n := by
  funext t f a
  exact vRuM_c hc t f a
theorem vSpM_cf (hc : vC b n = vC b2 n) : vSpM b n = vSpM b2 n := by
  funext a
  unfold vSpM
  rw [hc, vX_cf hc, vNd_all hc]
theorem vLcM_cf (hc : vC b n = vC b2 n) : vLcM b n = vLcM b2 n := by
  funext q a
  unfold vLcM
  rw [hc, vX_cf hc, vRuM_cf hc, vSpM_cf hc]
theorem vLnM_c (hc : vC b n = vC b2 n) (q : sgLwn) (a : Int) : vLnM b n q a = vLnM b2 n q a := by
  have el := vLcM_cf hc
  by_cases hs : (vLcM b n q a).1 = true ∧ vC b n (vLcM b n q a).2.1 = 59 ∧ a < (vLcM b n q a).2.1 ∧ a < n
  · have e1 : vLnM b n q a = vLnM b n (vLcM b n q a).2.2 (vX b n ((vLcM b n q a).2.1 + 1)) := by
      conv => lhs; unfold vLnM
      rw [dif_pos hs]
    have hs2 : (vLcM b2 n q a).1 = true ∧ vC b2 n (vLcM b2 n q a).2.1 = 59 ∧ a < (vLcM b2 n q a).2.1 ∧ a < n := by
      rw [← el, ← hc]
      exact hs
    have e2 : vLnM b2 n q a = vLnM b2 n (vLcM b2 n q a).2.2 (vX b2 n ((vLcM b2 n q a).2.1 + 1)) := by
      conv => lhs; unfold vLnM
      rw [dif_pos hs2]
    have h3 := hs.2.2
    have h4 := (vX_ge b n ((vLcM b n q a).2.1 + 1)).1
    rw [e1, e2, ← el, ← vX_cf hc]
    exact vLnM_c hc _ _
  · have e1 : vLnM b n q a = vLcM b n q a := by
      unfold vLnM
      rw [dif_neg hs]
    have e2 : vLnM b2 n q a = vLcM b2 n q a := by
      unfold vLnM
      rw [dif_neg (by rw [← el, ← hc]; exact hs)]
    rw [e1, e2, el]
termination_by (n - a).toNat
decreasing_by omega
theorem vLnM_cf (hc : vC b n = vC b2 n) : vLnM b n = vLnM b2 n := by
  funext q a
  exact vLnM_c hc q a
theorem lnTk2_cf (hc : vC b n = vC b2 n) : lnTk2 b n ↔ lnTk2 b2 n := by
  unfold lnTk2
  rw [hc, vX_cf hc, vLnM_cf hc]
end
/-- what holds of both sides' telling, between the calls -/
def sgInv (P : sgPm) : Prop := sgSame (sgT1 P, sgL1 P) (sgT2 P, sgL2 P) ∧ sgL1 P ≤ 240 ∧ P.2.2.2.2.2.2.1 = P.2.2.2.2.2.2.2.2.1 ∧ P.2.2.2.2.2.2.2.1 = P.2.2.2.2.2.2.2.2.2.1
theorem sgTk_same {P : sgPm} {x : Int} (h : sgInv P) : sgTk1 x P ↔ sgTk2 x P := by
  obtain ⟨hs, hL, hl, hg⟩ := h
  obtain ⟨e1, e2⟩ := sg_same_c hs
  have h0 : 0 ≤ sgL1 P := hs.2.1
  have hc : vC (sgT1 P) (sgL1 P) = vC (sgU2 P) (sgL1 P) := by
    rw [e2, e1]
  have a0 : lnTk1 (sgT1 P) (sgL1 P) ↔ lnTk2 (sgU2 P) (sgL2 P) := by
    rw [← e1]
    exact lnTk_same.trans (lnTk2_cf hc)
  have a1 : vLaw (sgT1 P) (sgL1 P) = vLawM (sgU2 P) (sgL2 P) := by
    rw [← e1]
    exact (vLaw_eq h0 hL).trans (vLawM_cf hc)
  have a2 : vGame (sgT1 P) (sgL1 P) = vGame (sgU2 P) (sgL2 P) := by
    rw [← e1]
    exact vGame_cf hc
  unfold sgTk1 sgTk2
  rw [a0, a1, a2, hl, hg]
theorem sgTk2_sd {P P1 : sgPm} {x : Int} (g : sgSd1 P P1) : sgTk2 x P1 ↔ sgTk2 x P := by
  obtain ⟨g1, g2, -, g4, g5⟩ := g
  have u : sgU2 P1 = sgU2 P := by
    unfold sgU2
    rw [g1]
  unfold sgTk2
  rw [u, g2, g4, g5]
theorem sgInv_text {P P1 P2 : sgPm} {x : Int} (h : sgInv P) (g1 : sgSd1 P P1) (g2 : sgTx1 x P P1) (g3 : sgSd2 P1 P2) (g4 : sgTx2 x P1 P2) : sgInv P2 := by
  have ht : sgTk1 x P ↔ sgTk2 x P1 := (sgTk_same h).trans (sgTk2_sd g1).symm
  obtain ⟨⟨hs1, hs2, hs3⟩, hL, hl, hg⟩ := h
  obtain ⟨a1, a2, a3, a4, a5⟩ := g1
  obtain ⟨b1, b2, b3, b4, b5⟩ := g3
  rcases g2 with ⟨t1, c1, c2, c3⟩ | ⟨t1, c1, c2, c3⟩
  · rcases g4 with ⟨t2, d1, d2, d3⟩ | ⟨t2, d1, d2, d3⟩
    · refine ⟨⟨?_, ?_, ?_⟩, ?_, ?_, ?_⟩
      · show sgL1 P2 = sgL2 P2
        rw [b2, c1, d1]
      · show 0 ≤ sgL1 P2
        rw [b2, c1]
        exact Int.le_refl _
      · intro j hj
        have hj : (j : Int) < sgL1 P2 := hj
        rw [b2, c1] at hj
        exact absurd hj (by omega)
      · rw [b2, c1]
        decide
      · apply Fin.ext
        rw [b4, c2, d2, a4, hl]
      · apply Fin.ext
        rw [b5, c3, d3, a5, hg]
    · exact absurd (ht.mp t1) t2
  · rcases g4 with ⟨t2, d1, d2, d3⟩ | ⟨t2, d1, d2, d3⟩
    · exact absurd (ht.mpr t2) t1
    · refine ⟨⟨?_, ?_, ?_⟩, ?_, ?_, ?_⟩
      · show sgL1 P2 = sgL2 P2
        rw [b2, c1, d1, a2]
        exact hs1
      · show 0 ≤ sgL1 P2
        rw [b2, c1]
        exact hs2
      · intro j hj
        have hj : (j : Int) < sgL1 P2 := hj
        rw [b2, c1] at hj
        show 1 ≤ sgT1 P2 j ∧ sgT1 P2 j ≤ 255 ∧ -128 ≤ sgT2 P2 j ∧ sgT2 P2 j ≤ 127 ∧ sgT2 P2 j % 256 = sgT1 P2 j
        rw [b1, b3, a1, a3]
        exact hs3 j hj
      · rw [b2, c1]
        exact hL
      · apply Fin.ext
        rw [b4, c2, d2, a4, hl]
      · apply Fin.ext
        rw [b5, c3, d3, a5, hg]
