/-- is a text taken as a LAWN: the class, the reference -/
def lnTk1 (b : Nat → Int) (n : Int) : Prop := ∃ (a1 : Int) (q1 : sgLwn), vLnC b n lw0 (vX b n 0) = (true, a1, q1) ∧ vC b n a1 = 0 ∧ lwOkC q1
def lnTk2 (b : Nat → Int) (n : Int) : Prop := ∃ (a1 : Int) (q1 : sgLwn), vLnM b n lw0 (vX b n 0) = (true, a1, q1) ∧ vC b n a1 = 0 ∧ lwOk q1
theorem lnTk_same {b : Nat → Int} {n : Int} : lnTk1 b n ↔ lnTk2 b n := lawn_same
theorem lnTk2_no {b : Nat → Int} {n w : Int} {ok : Bool} {q : sgLwn} (h : vLnM b n lw0 (vX b n 0) = (ok, w, q)) (hn : ok = false ∨ ¬ (vC b n w = 0 ∧ lwOk q)) : ¬ lnTk2 b n := by
  rintro ⟨a1, q1, h1, h2, h3⟩
  rw [h1] at h
  cases h
  rcases hn with hn | hn
  · cases hn
  · exact hn ⟨h2, h3⟩
/-- what a call leaves of the other side's telling; what it does to its own: how long, how many LAWs and GAMEs more -/
def sgSd2 (P P1 : sgPm) : Prop := sgT1 P1 = sgT1 P ∧ sgL1 P1 = sgL1 P ∧ sgT2 P1 = sgT2 P ∧ P1.2.2.2.2.2.2.1 = P.2.2.2.2.2.2.1 ∧ P1.2.2.2.2.2.2.2.1 = P.2.2.2.2.2.2.2.1
def sgEf2 (n : Int) (i j : Nat) (P P1 : sgPm) : Prop := sgL2 P1 = n ∧ P1.2.2.2.2.2.2.2.2.1.val = P.2.2.2.2.2.2.2.2.1.val + i ∧ P1.2.2.2.2.2.2.2.2.2.1.val = P.2.2.2.2.2.2.2.2.2.1.val + j
def sgSd1 (P P1 : sgPm) : Prop := sgT2 P1 = sgT2 P ∧ sgL2 P1 = sgL2 P ∧ sgT1 P1 = sgT1 P ∧ P1.2.2.2.2.2.2.2.2.1 = P.2.2.2.2.2.2.2.2.1 ∧ P1.2.2.2.2.2.2.2.2.2.1 = P.2.2.2.2.2.2.2.2.2.1
def sgEf1 (n : Int) (i j : Nat) (P P1 : sgPm) : Prop := sgL1 P1 = n ∧ P1.2.2.2.2.2.2.1.val = P.2.2.2.2.2.2.1.val + i ∧ P1.2.2.2.2.2.2.2.1.val = P.2.2.2.2.2.2.2.1.val + j
theorem sgSd2_rf {P : sgPm} : sgSd2 P P := ⟨rfl, rfl, rfl, rfl, rfl⟩
theorem sgSd1_rf {P : sgPm} : sgSd1 P P := ⟨rfl, rfl, rfl, rfl, rfl⟩
theorem sgEf2_rf {P : sgPm} : sgEf2 (sgL2 P) 0 0 P P := ⟨rfl, rfl, rfl⟩
theorem sgEf1_rf {P : sgPm} : sgEf1 (sgL1 P) 0 0 P P := ⟨rfl, rfl, rfl⟩
theorem sg_pinS {n m : Fin 5} {y f : Int32} (hy : iv (n.val : Int) (n.val : Int) y) (e : f = y + 1) (h : (m.val : Int) = f.toInt) : m.val = n.val + 1 := by
  have h5 : iv 0 4 y := sg_pin4 hy
  have h6 : f.toInt = y.toInt + 1 := sg_inc (k := 1) e h5 (by decide +kernel)
  have h7 := vq_iv hy
  omega
theorem sg_pin4n {n : Fin 5} {x : Int32} (hx : iv (n.val : Int) (n.val : Int) x) (e : x = 4) : ¬ n.val < 4 := by
  have h7 := vq_iv hx
  rw [e] at h7
  have h8 : (4 : Int32).toInt = 4 := by decide +kernel
  omega
theorem sg_pin4l {n : Fin 5} {x : Int32} (hx : iv (n.val : Int) (n.val : Int) x) (e : ¬ x = 4) : n.val < 4 := by
  have h7 := vq_iv hx
  have h8 : ¬ x.toInt = 4 := fun q => e (Int32.toInt_inj.mp (q.trans (by decide +kernel)))
  have := n.isLt
  omega
theorem sg_pinge {n : Fin 5} {x : Int32} (hx : iv (n.val : Int) (n.val : Int) x) (e : (4 : Int32) ≤ x) : ¬ n.val < 4 := by
  have h7 := vq_iv hx
  have h8 := Int32.le_iff_toInt_le.mp e
  have h9 : (4 : Int32).toInt = 4 := by decide +kernel
  omega
theorem sg_pinlt {n : Fin 5} {x : Int32} (hx : iv (n.val : Int) (n.val : Int) x) (e : x < 4) : n.val < 4 := by
  have h7 := vq_iv hx
  have h8 := Int32.lt_iff_toInt_lt.mp e
  have h9 : (4 : Int32).toInt = 4 := by decide +kernel
  omega
