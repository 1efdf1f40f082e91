section
variable {b b2 : Nat → Int} {n : Int}
theorem vX_c (hc : vC b n = vC b2 n) (a : Int) : vX b n a = vX b2 n a := by
  by_cases h : vC b n a = 32
  · have h1 := vC_lt (b := b) (n := n) (a := a) (by omega)
    rw [vX_on h, vX_on (show vC b2 n a = 32 by rw [← hc]; exact h)]
    exact vX_c hc (a + 1)
  · rw [vX_at h, vX_at (show ¬ vC b2 n a = 32 by rw [← hc]; exact h)]
termination_by (n - a).toNat
theorem vX_cf (hc : vC b n = vC b2 n) : vX b n = vX b2 n := funext (vX_c hc)
theorem vD_cf (hc : vC b n = vC b2 n) : vD b n = vD b2 n := by
  funext c a
  unfold vD
  rw [hc, vX_cf hc]
theorem vEn_cf (hc : vC b n = vC b2 n) : vEn b n = vEn b2 n := by
  funext a
  unfold vEn
  rw [hc]
theorem vL_else {f : Int → Rs} {op : Int → Bool} {a : Int} (h : op (vC b n a) = true) (g : ¬ ((f (vX b n (a + 1))).1 = true ∧ a < (f (vX b n (a + 1))).2 ∧ a < n)) : vL f op b n a = (false, (f (vX b n (a + 1))).2) := by
  conv => lhs; unfold vL
  rw [if_pos h, dif_neg g]
theorem vL_then {f : Int → Rs} {op : Int → Bool} {a : Int} (h : op (vC b n a) = true) (g : (f (vX b n (a + 1))).1 = true ∧ a < (f (vX b n (a + 1))).2 ∧ a < n) : vL f op b n a = vL f op b n (f (vX b n (a + 1))).2 := by
  conv => lhs; unfold vL
  rw [if_pos h, dif_pos g]
theorem vL_c (hc : vC b n = vC b2 n) {f : Int → Rs} {op : Int → Bool} (a : Int) : vL f op b n a = vL f op b2 n a := by
  have hx := vX_c hc (a + 1)
  cases ho : op (vC b n a) with
  | false => rw [vL_stop ho, vL_stop (show op (vC b2 n a) = false by rw [← hc]; exact ho)]
  | true =>
    have ho2 : op (vC b2 n a) = true := by rw [← hc]; exact ho
    by_cases g : (f (vX b n (a + 1))).1 = true ∧ a < (f (vX b n (a + 1))).2 ∧ a < n
    · have g2 := g
      rw [hx] at g2
      rw [vL_then ho g, vL_then ho2 g2, ← hx]
      exact vL_c hc _
    · have g2 := g
      rw [hx] at g2
      rw [vL_else ho g, vL_else ho2 g2, hx]
termination_by (n - a).toNat
decreasing_by
  have := g.2
  omega
theorem vL_cf (hc : vC b n = vC b2 n) {f : Int → Rs} {op : Int → Bool} : vL f op b n = vL f op b2 n := funext (vL_c hc)
theorem vNd_cf (hc : vC b n = vC b2 n) {lo hi : Int} : ∀ (k : Nat) (s : Bool) (v a : Int), vNd b n lo hi k s v a = vNd b2 n lo hi k s v a := by
  intro k
  induction k with
  | zero =>
    intro s v a
    unfold vNd
    rw [hc, vX_cf hc]
  | succ k ih =>
    intro s v a
    unfold vNd
    simp only [hc, vX_cf hc, ih]
theorem vNu_cf (hc : vC b n = vC b2 n) : vNu b n = vNu b2 n := by
  funext lo hi k a
  unfold vNu
  rw [vNd_cf hc]
theorem vAtom_cf (hc : vC b n = vC b2 n) : vAtom b n = vAtom b2 n := by
  funext rec deep a
  unfold vAtom
  rw [hc, vX_cf hc, vD_cf hc, vNu_cf hc]
theorem vAt_cf (hc : vC b n = vC b2 n) : ∀ k : Nat, vAt b n k = vAt b2 n k := by
  intro k
  induction k with
  | zero =>
    funext a
    unfold vAt
    rw [vAtom_cf hc]
  | succ k ih =>
    funext a
    unfold vAt
    rw [vAtom_cf hc, ih, vL_cf hc]
theorem vSum_cf (hc : vC b n = vC b2 n) (k : Nat) : vSum b n k = vSum b2 n k := by
  funext a
  unfold vSum
  rw [vAt_cf hc, vL_cf hc]
theorem vCmp_cf (hc : vC b n = vC b2 n) (k : Nat) : vCmp b n k = vCmp b2 n k := by
  funext a
  unfold vCmp
  rw [hc, vSum_cf hc, vX_cf hc]
theorem vUn_cf (hc : vC b n = vC b2 n) : ∀ k : Nat, vUn b n k = vUn b2 n k := by
  intro k
  induction k with
  | zero =>
    funext a
    unfold vUn
    rw [hc, vSum_cf hc, vCmp_cf hc]
  | succ k ih =>
    funext a
    unfold vUn
    rw [hc, vSum_cf hc, vCmp_cf hc, ih, vX_cf hc, vL_cf hc, vD_cf hc]
theorem vCon_cf (hc : vC b n = vC b2 n) (k : Nat) : vCon b n k = vCon b2 n k := by
  funext a
  unfold vCon
  rw [vUn_cf hc, vL_cf hc]
theorem vCl_cf (hc : vC b n = vC b2 n) : vCl b n = vCl b2 n := by
  funext a
  unfold vCl vCo
  rw [hc, vD_cf hc, vCon_cf hc, vSum_cf hc, vCmp_cf hc, vUn_cf hc, vL_cf hc]
theorem vLawM_cf (hc : vC b n = vC b2 n) : vLawM b n = vLawM b2 n := by
  unfold vLawM
  rw [vCl_cf hc, vX_cf hc, vL_cf hc, vEn_cf hc]
theorem vCut_cf (hc : vC b n = vC b2 n) : vCut b n = vCut b2 n := by
  funext a
  unfold vCut vCut1
  rw [hc, vX_cf hc]
theorem vMv_cf (hc : vC b n = vC b2 n) : vMv b n = vMv b2 n := by
  funext a
  unfold vMv
  rw [hc, vX_cf hc, vNu_cf hc, vCut_cf hc]
theorem vGm_cf (hc : vC b n = vC b2 n) : ∀ k : Nat, vGm b n k = vGm b2 n k := by
  intro k
  induction k with
  | zero => rfl
  | succ k ih =>
    funext a
    unfold vGm
    rw [vMv_cf hc, hc, ih, vX_cf hc]
theorem vGame_cf (hc : vC b n = vC b2 n) : vGame b n = vGame b2 n := by
  unfold vGame
  rw [vGm_cf hc, vX_cf hc, vEn_cf hc]
end
/-- both sides read the same -/
theorem sg_same_c {P : sgPm} (h : sgSame (sgT1 P, sgL1 P) (sgT2 P, sgL2 P)) : sgL1 P = sgL2 P ∧ vC (sgT1 P) (sgL1 P) = vC (sgU2 P) (sgL2 P) := by
  obtain ⟨h1, h0, h2⟩ := h
  refine ⟨h1, ?_⟩
  funext a
  rw [show sgL2 P = sgL1 P from h1.symm]
  refine vC_same (fun j hj => ?_) a
  exact (h2 j hj).2.2.2.2.symm
