theorem vB_as {r q : Rs} {f : Int → Rs} (h : vB r f = q) (g : Int → Rs) : vB r (fun a => vB (f a) g) = vB q g := by rw [← vB_assoc, h]
theorem vE_lt {c k : Int} (h : vE c < k) (hk : decide (0 < k) = true) : c < k := by
  have := of_decide_eq_true hk
  unfold vE at h
  split at h <;> omega
theorem vE_nlt {c k : Int} (h : ¬ vE c < k) (hk : decide (0 < k) = true) : ¬ c < k := by
  have := of_decide_eq_true hk
  unfold vE at h
  split at h <;> omega
theorem vE_gt {c k : Int} (h : k < vE c) (hk : decide (0 < k) = true) : k < c := by
  have := of_decide_eq_true hk
  unfold vE at h
  split at h <;> omega
theorem vE_ngt {c k : Int} (h : ¬ k < vE c) (hk : decide (0 < k) = true) : ¬ k < c := by
  have := of_decide_eq_true hk
  unfold vE at h
  split at h <;> omega
/-- the reference's: a move, by where its letter stands -/
def vCutM (b : Nat → Int) (n a : Int) : Rs := if vRd (vC b n a) = -1 then (false, a) else vCut1 b n (vX b n (a + 1))
def vMvM (b : Nat → Int) (n a : Int) : Rs :=
  if vGc (vC b n a) = -1 then (false, a) else if vGc (vC b n a) = 3 then (true, vX b n (a + 1))
  else if vGc (vC b n a) = 0 then (if vC b n (vX b n (a + 1)) = 63 then (true, vX b n (vX b n (a + 1) + 1)) else vNu b n 0 29 2 (vX b n (a + 1)))
  else if vGc (vC b n a) = 1 then vB (vNu b n 0 29 2 (vX b n (a + 1))) (vCutM b n) else vNu b n 0 29 2 (vX b n (a + 1))
theorem vGc_no {c : Int} (h1 : ¬ c = 103) (h2 : ¬ c = 99) (h3 : ¬ c = 109) (h4 : ¬ c = 120) : vGc c = -1 := by
  unfold vGc
  have e1 : (([103, 99, 109, 120] : List Int32).getD 0 0).toInt = 103 := by decide +kernel
  have e2 : (([103, 99, 109, 120] : List Int32).getD 1 0).toInt = 99 := by decide +kernel
  have e3 : (([103, 99, 109, 120] : List Int32).getD 2 0).toInt = 109 := by decide +kernel
  have e4 : (([103, 99, 109, 120] : List Int32).getD 3 0).toInt = 120 := by decide +kernel
  simp only [vIx, e1, e2, e3, e4]
  rw [if_neg (fun q => h1 q.symm), if_neg (fun q => h2 q.symm), if_neg (fun q => h3 q.symm), if_neg (fun q => h4 q.symm)]
theorem vRd_no {c : Int} (h1 : ¬ c = 114) (h2 : ¬ c = 100) : vRd c = -1 := by
  unfold vRd
  have e1 : (([114, 100] : List Int32).getD 0 0).toInt = 114 := by decide +kernel
  have e2 : (([114, 100] : List Int32).getD 1 0).toInt = 100 := by decide +kernel
  simp only [vIx, e1, e2]
  rw [if_neg (fun q => h1 q.symm), if_neg (fun q => h2 q.symm)]
theorem vCutM_eq {b : Nat → Int} {n a : Int} : vCutM b n a = vCut b n a := by
  unfold vCutM vCut
  by_cases h1 : vC b n a = 114
  · rw [if_pos h1, h1, if_neg (by decide +kernel)]
  · by_cases h2 : vC b n a = 100
    · rw [if_neg h1, if_pos h2, h2, if_neg (by decide +kernel)]
    · rw [if_neg h1, if_neg h2, if_pos (vRd_no h1 h2)]
theorem vMvM_eq {b : Nat → Int} {n a : Int} : vMv b n a = vMvM b n a := by
  unfold vMvM vMv
  by_cases h1 : vC b n a = 103
  · have g : vGc (vC b n a) = 0 := by rw [h1]; decide +kernel
    rw [if_pos h1, if_neg (show ¬ vGc (vC b n a) = -1 by rw [g]; decide), if_neg (show ¬ vGc (vC b n a) = 3 by rw [g]; decide), if_pos g]
  · by_cases h2 : vC b n a = 99
    · have g : vGc (vC b n a) = 1 := by rw [h2]; decide +kernel
      rw [if_neg h1, if_pos h2, if_neg (show ¬ vGc (vC b n a) = -1 by rw [g]; decide), if_neg (show ¬ vGc (vC b n a) = 3 by rw [g]; decide), if_neg (show ¬ vGc (vC b n a) = 0 by rw [g]; decide), if_pos g]
      congr 1
      funext x
      exact vCutM_eq.symm
    · by_cases h3 : vC b n a = 109
      · have g : vGc (vC b n a) = 2 := by rw [h3]; decide +kernel
        rw [if_neg h1, if_neg h2, if_pos h3, if_neg (show ¬ vGc (vC b n a) = -1 by rw [g]; decide), if_neg (show ¬ vGc (vC b n a) = 3 by rw [g]; decide), if_neg (show ¬ vGc (vC b n a) = 0 by rw [g]; decide), if_neg (show ¬ vGc (vC b n a) = 1 by rw [g]; decide)]
      · by_cases h4 : vC b n a = 120
        · have g : vGc (vC b n a) = 3 := by rw [h4]; decide +kernel
          rw [if_neg h1, if_neg h2, if_neg h3, if_pos h4, if_neg (show ¬ vGc (vC b n a) = -1 by rw [g]; decide), if_pos g]
        · rw [if_neg h1, if_neg h2, if_neg h3, if_neg h4, if_pos (vGc_no h1 h2 h3 h4)]
theorem vGc_ne {c : Int} (h : (vGc c = -1) = False) : c ≠ 0 := fun q => of_eq_false h (by rw [q]; decide +kernel)
theorem vRd_ne {c : Int} (h : (vRd c = -1) = False) : c ≠ 0 := fun q => of_eq_false h (by rw [q]; decide +kernel)
theorem vCut1_f {b : Nat → Int} {n a : Int} (h : vC b n a < 49 ∨ 53 < vC b n a) : vCut1 b n a = (false, a) := by
  unfold vCut1
  split
  · rfl
  · split
    · rfl
    · omega
theorem vCut1_t {b : Nat → Int} {n a : Int} (h1 : ¬ vC b n a < 49) (h2 : ¬ 53 < vC b n a) : vCut1 b n a = (true, vX b n (a + 1)) := by
  unfold vCut1
  rw [if_neg (by omega), if_neg (by omega)]
theorem vq_49 {c : Int} (h : c < 48 ∨ 57 < c) : c < 49 ∨ 53 < c := by omega
