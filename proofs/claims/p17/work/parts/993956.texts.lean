theorem rl_txt {P Q : sgPm} (h : sgRl P Q) (hl : sgL1 Q = 0) : sgKeep P Q ∧ sgPin Q = sgPin P ∧ sgN Q = sgN P ∧ sgSd1 P Q ∧ sgEf1 0 0 0 P Q ∧ sgLs P Q ∧ sgGk P Q := by
  obtain ⟨a1, a2, a3, a4, a5, a6, a7, a8, a9, a10, a11, a12, a13, a14, a15, a16, a17, a19, a20⟩ := h
  exact ⟨⟨a3, a5, Nat.le_of_eq a10.symm, by rw [show sgN Q = sgN P from a10]; exact Nat.le_add_right _ _⟩, a16, a10, ⟨a19, a20, a17, a8, a9⟩, ⟨hl, by rw [a6, Nat.add_zero], by rw [a7, Nat.add_zero]⟩, ⟨a4, a14⟩, a12, a13⟩
theorem sg_pinM {n m : Fin 5} {y f : Int32} (hy : iv (m.val : Int) (m.val : Int) y) (e : f = y - 1) (h : m.val = n.val + 1) : f.toInt = (n.val : Int) := by
  have h7 := vq_iv hy
  have := n.isLt
  have h3 : (1 : Int32).toInt = 1 := by decide +kernel
  rw [e, Jvm.Kit.i32_sub (by omega) (by omega), h3]
  omega
def lnTr (b : Nat → Int) (n : Int) (q : sgLwn) : Prop := ∃ a1 : Int, vLnM b n lw0 (vX b n 0) = (true, a1, q) ∧ vC b n a1 = 0 ∧ lwOk q
theorem lnTq_same {b : Nat → Int} {n : Int} {q : sgLwn} (h : lnTq b n q) : lnTr b n q := by
  obtain ⟨a1, h1, h2, h3⟩ := h
  have h4 := (vLn_cm lw0 (vX b n 0) (fun _ => rfl) a1 q).mp ⟨h1, h2⟩
  have hr : ruOk q.1 := by
    have z := vLnM_in (b := b) (n := n) lw0 (vX b n 0) ruOk_us
    rw [h4.1] at z
    exact z
  exact ⟨a1, h4.1, h2, (lwOk_same hr).mp h3⟩
theorem lnTr_tk {b : Nat → Int} {n : Int} {q : sgLwn} (h : lnTr b n q) : lnTk2 b n := by
  obtain ⟨a1, h⟩ := h
  exact ⟨a1, q, h⟩
theorem lnTr_fun {b : Nat → Int} {n : Int} {q q' : sgLwn} (h : lnTr b n q) (h' : lnTr b n q') : q = q' := by
  obtain ⟨a1, h1, -⟩ := h
  obtain ⟨a2, h2, -⟩ := h'
  rw [h1] at h2
  exact congrArg (fun z => z.2.2) h2
theorem lnTr_cf {b b2 : Nat → Int} {n : Int} {q : sgLwn} (hc : vC b n = vC b2 n) : lnTr b n q ↔ lnTr b2 n q := by
  unfold lnTr
  rw [hc, vX_cf hc, vLnM_cf hc]
theorem lnTr_ok {b : Nat → Int} {n : Int} {q : sgLwn} (h : lnTr b n q) : ruOk q.1 := by
  obtain ⟨a1, h1, -⟩ := h
  have z := vLnM_in (b := b) (n := n) lw0 (vX b n 0) ruOk_us
  rw [h1] at z
  exact z
/-- what a text does, by its sort, and what it answers: the class, the reference -/
def sgTy1 (x : Int) (P P1 : sgPm) (w : Int) : Prop :=
  (x = 0 ∧ ∃ q9 : sgLwn, lnTq (sgT1 P) (sgL1 P) q9 ∧ sgEf1 0 0 0 P P1 ∧ sgGm P1 = gP2 (gP1 (sgGm P) q9) ∧ w = q9.1 0 * q9.1 1)
  ∨ (x = 1 ∧ (P.2.2.2.2.2.2.1.val < 4 ∧ ∃ a1 : Int, vLaw (sgT1 P) (sgL1 P) = (true, a1)) ∧ sgEf1 0 1 0 P P1 ∧ sgGm P1 = sgGm P ∧ w = (P.2.2.2.2.2.2.1.val : Int))
  ∨ (x = 2 ∧ (P.2.2.2.2.2.2.2.1.val < 4 ∧ ∃ a1 : Int, vGame (sgT1 P) (sgL1 P) = (true, a1)) ∧ sgEf1 0 0 1 P P1 ∧ sgTo1 P P1 ∧ w = (P.2.2.2.2.2.2.2.1.val : Int))
  ∨ (¬ sgTk1 x P ∧ sgEf1 (sgL1 P) 0 0 P P1 ∧ sgGm P1 = sgGm P ∧ w = -1)
def sgTy2 (x : Int) (P P1 : sgPm) (w : Int) : Prop :=
  (x = 0 ∧ ∃ q9 : sgLwn, lnTr (sgU2 P) (sgL2 P) q9 ∧ sgEf2 0 0 0 P P1 ∧ (P1.2.2.2.2.1 = true ∧ sgRw P1 = q9.1) ∧ sgGk P P1 ∧ w = q9.1 0 * q9.1 1)
  ∨ (x = 1 ∧ (P.2.2.2.2.2.2.2.2.1.val < 4 ∧ ∃ a1 : Int, vLawM (sgU2 P) (sgL2 P) = (true, a1)) ∧ sgEf2 0 1 0 P P1 ∧ sgLs P P1 ∧ sgGk P P1 ∧ w = (P.2.2.2.2.2.2.2.2.1.val : Int))
  ∨ (x = 2 ∧ (P.2.2.2.2.2.2.2.2.2.1.val < 4 ∧ ∃ a1 : Int, vGame (sgU2 P) (sgL2 P) = (true, a1)) ∧ sgEf2 0 0 1 P P1 ∧ sgLs P P1 ∧ sgTo2 P P1 ∧ w = (P.2.2.2.2.2.2.2.2.2.1.val : Int))
  ∨ (¬ sgTk2 x P ∧ sgEf2 (sgL2 P) 0 0 P P1 ∧ sgLs P P1 ∧ sgGk P P1 ∧ w = -1)
theorem sgTy1_0 {P P1 : sgPm} {x : Int32} {w : Int} (hx : iv 0 0 x) (h : (∃ q9 : sgLwn, lnTq (sgT1 P) (sgL1 P) q9 ∧ sgEf1 0 0 0 P P1 ∧ sgGm P1 = gP2 (gP1 (sgGm P) q9) ∧ w = q9.1 0 * q9.1 1) ∨ (¬ lnTk1 (sgT1 P) (sgL1 P) ∧ sgEf1 (sgL1 P) 0 0 P P1 ∧ sgGm P1 = sgGm P ∧ w = -1)) : sgTy1 x.toInt P P1 w := by
  rcases h with h | ⟨h1, h2⟩
  · exact Or.inl ⟨vq_iv hx, h⟩
  · exact Or.inr (Or.inr (Or.inr ⟨fun z => h1 ((sgTk1_0 hx).mp z), h2⟩))
theorem sgTy1_1 {P P1 : sgPm} {x : Int32} {w : Int} (hx : iv 1 1 x) (h : ((P.2.2.2.2.2.2.1.val < 4 ∧ ∃ a1 : Int, vLaw (sgT1 P) (sgL1 P) = (true, a1)) ∧ sgEf1 0 1 0 P P1 ∧ sgGm P1 = sgGm P ∧ w = (P.2.2.2.2.2.2.1.val : Int)) ∨ (¬ (P.2.2.2.2.2.2.1.val < 4 ∧ ∃ a1 : Int, vLaw (sgT1 P) (sgL1 P) = (true, a1)) ∧ sgEf1 (sgL1 P) 0 0 P P1 ∧ sgGm P1 = sgGm P ∧ w = -1)) : sgTy1 x.toInt P P1 w := by
  rcases h with h | ⟨h1, h2⟩
  · exact Or.inr (Or.inl ⟨vq_iv hx, h⟩)
  · exact Or.inr (Or.inr (Or.inr ⟨fun z => h1 ((sgTk1_1 hx).mp z), h2⟩))
theorem sgTy1_2 {P P1 : sgPm} {x : Int32} {w : Int} (hx : iv 2 2 x) (h : ((P.2.2.2.2.2.2.2.1.val < 4 ∧ ∃ a1 : Int, vGame (sgT1 P) (sgL1 P) = (true, a1)) ∧ sgEf1 0 0 1 P P1 ∧ sgTo1 P P1 ∧ w = (P.2.2.2.2.2.2.2.1.val : Int)) ∨ (¬ (P.2.2.2.2.2.2.2.1.val < 4 ∧ ∃ a1 : Int, vGame (sgT1 P) (sgL1 P) = (true, a1)) ∧ sgEf1 (sgL1 P) 0 0 P P1 ∧ sgGm P1 = sgGm P ∧ w = -1)) : sgTy1 x.toInt P P1 w := by
  rcases h with h | ⟨h1, h2⟩
  · exact Or.inr (Or.inr (Or.inl ⟨vq_iv hx, h⟩))
  · exact Or.inr (Or.inr (Or.inr ⟨fun z => h1 ((sgTk1_2 hx).mp z), h2⟩))
theorem sgTy2_0 {P P1 : sgPm} {x : Int32} {w : Int} (hx : iv 0 0 x) (h : (∃ q9 : sgLwn, lnTr (sgU2 P) (sgL2 P) q9 ∧ sgEf2 0 0 0 P P1 ∧ (P1.2.2.2.2.1 = true ∧ sgRw P1 = q9.1) ∧ sgGk P P1 ∧ w = q9.1 0 * q9.1 1) ∨ (¬ lnTk2 (sgU2 P) (sgL2 P) ∧ sgEf2 (sgL2 P) 0 0 P P1 ∧ sgLs P P1 ∧ sgGk P P1 ∧ w = -1)) : sgTy2 x.toInt P P1 w := by
  rcases h with h | ⟨h1, h2⟩
  · exact Or.inl ⟨vq_iv hx, h⟩
  · exact Or.inr (Or.inr (Or.inr ⟨fun z => h1 ((sgTk2_0 hx).mp z), h2⟩))
theorem sgTy2_1 {P P1 : sgPm} {x : Int32} {w : Int} (hx : iv 1 1 x) (h : ((P.2.2.2.2.2.2.2.2.1.val < 4 ∧ ∃ a1 : Int, vLawM (sgU2 P) (sgL2 P) = (true, a1)) ∧ sgEf2 0 1 0 P P1 ∧ sgLs P P1 ∧ sgGk P P1 ∧ w = (P.2.2.2.2.2.2.2.2.1.val : Int)) ∨ (¬ (P.2.2.2.2.2.2.2.2.1.val < 4 ∧ ∃ a1 : Int, vLawM (sgU2 P) (sgL2 P) = (true, a1)) ∧ sgEf2 (sgL2 P) 0 0 P P1 ∧ sgLs P P1 ∧ sgGk P P1 ∧ w = -1)) : sgTy2 x.toInt P P1 w := by
  rcases h with h | ⟨h1, h2⟩
  · exact Or.inr (Or.inl ⟨vq_iv hx, h⟩)
  · exact Or.inr (Or.inr (Or.inr ⟨fun z => h1 ((sgTk2_1 hx).mp z), h2⟩))
theorem sgTy2_2 {P P1 : sgPm} {x : Int32} {w : Int} (hx : iv 2 2 x) (h : ((P.2.2.2.2.2.2.2.2.2.1.val < 4 ∧ ∃ a1 : Int, vGame (sgU2 P) (sgL2 P) = (true, a1)) ∧ sgEf2 0 0 1 P P1 ∧ sgLs P P1 ∧ sgTo2 P P1 ∧ w = (P.2.2.2.2.2.2.2.2.2.1.val : Int)) ∨ (¬ (P.2.2.2.2.2.2.2.2.2.1.val < 4 ∧ ∃ a1 : Int, vGame (sgU2 P) (sgL2 P) = (true, a1)) ∧ sgEf2 (sgL2 P) 0 0 P P1 ∧ sgLs P P1 ∧ sgGk P P1 ∧ w = -1)) : sgTy2 x.toInt P P1 w := by
  rcases h with h | ⟨h1, h2⟩
  · exact Or.inr (Or.inr (Or.inl ⟨vq_iv hx, h⟩))
  · exact Or.inr (Or.inr (Or.inr ⟨fun z => h1 ((sgTk2_2 hx).mp z), h2⟩))
