/-- what holds before the n-th call and behind it; of the telling: it is the same on both sides -/
def lwV (D : va_G) (n : Nat) (P : sgPm) (tys : List (ClassId × FieldType)) (ad ks : List Nat) (xx mm oq : Nat) (s : State) (H : Heap) : Prop :=
  va_K D vwCl tys s ∧ sgG (KT P) D vwCl (fun q : Nat => s.heap.size ≤ q) tys ad ks H ∧ isK ad ks 11 xx ∧ isK ad ks 12 mm ∧ isK ad ks 66 oq ∧ sgPin P = none ∧ sgN P ≤ 432000 * n ∧ sgInv P ∧ sgHx P
theorem lwV_next {D : va_G} {n : Nat} {P : sgPm} {tys : List (ClassId × FieldType)} {ad ks : List Nat} {xx mm oq : Nat} {s : State} {H : Heap} (hW : lwV D n P tys ad ks xx mm oq s H) {P1 : sgPm} {tys1 : List (ClassId × FieldType)} {ad1 ks1 : List Nat} {H1 : Heap}
    (hK : va_K D vwCl tys1 s) (hG : sgG (KT P1) D vwCl (fun q : Nat => s.heap.size ≤ q) tys1 ad1 ks1 H1) (hpin : sgPin P1 = none) (hN : sgN P1 ≤ sgN P + 432000) (hmo : sgMo ad ks ad1 ks1) (hinv : sgInv P1) (hgl : sgHx P1) : lwV D (n + 1) P1 tys1 ad1 ks1 xx mm oq s H1 := by
  obtain ⟨-, -, h1, h2, h3, -, h4, -⟩ := hW
  exact ⟨hK, hG, hmo _ _ h1, hmo _ _ h2, hmo _ _ h3, hpin, by omega, hinv, hgl⟩
theorem sgInv_of {P P1 : sgPm} (h : sgInv P) (h1 : sgTp P1 = sgTp P) (h2 : P1.2.2.2.2.2.2.1 = P.2.2.2.2.2.2.1) (h3 : P1.2.2.2.2.2.2.2.1 = P.2.2.2.2.2.2.2.1) (h4 : P1.2.2.2.2.2.2.2.2.1 = P.2.2.2.2.2.2.2.2.1) (h5 : P1.2.2.2.2.2.2.2.2.2.1 = P.2.2.2.2.2.2.2.2.2.1) : sgInv P1 := by
  obtain ⟨a, b, c, d⟩ := h
  refine ⟨?_, ?_, ?_, ?_⟩
  · show sgSame ((sgTp P1).1, (sgTp P1).2.1) ((sgTp P1).2.2.1, (sgTp P1).2.2.2.1)
    rw [h1]
    exact a
  · show (sgTp P1).2.1 ≤ 240
    rw [h1]
    exact b
  · rw [h2, h4]
    exact c
  · rw [h3, h5]
    exact d
theorem sgInv_l1 {P : sgPm} (h : sgInv P) : 0 ≤ sgL1 P ∧ sgL1 P ≤ 240 := ⟨h.1.2.1, h.2.1⟩
theorem sgInv_b1 {P : sgPm} (h : sgInv P) : ∀ j : Nat, (j : Int) < sgL1 P → 1 ≤ sgT1 P j ∧ sgT1 P j ≤ 255 := fun j hj => ⟨(h.1.2.2 j hj).1, (h.1.2.2 j hj).2.1⟩
theorem sgInv_e {P : sgPm} (h : sgInv P) : sgL1 P = sgL2 P := h.1.1
theorem sgInv_l2 {P : sgPm} (h : sgInv P) : 0 ≤ sgL2 P ∧ sgL2 P ≤ 240 := by
  rw [← sgInv_e h]
  exact sgInv_l1 h
theorem sgInv_b2 {P : sgPm} (h : sgInv P) : sgBy2 P := by
  intro j hj
  rw [← sgInv_e h] at hj
  obtain ⟨a1, -, a3, a4, a5⟩ := h.1.2.2 j hj
  have a1 : 1 ≤ sgT1 P j := a1
  have a5 : sgT2 P j % 256 = sgT1 P j := a5
  exact ⟨a3, a4, by omega⟩
theorem sgSd1_l2 {P P1 : sgPm} (g : sgSd1 P P1) (h : sgInv P) : 0 ≤ sgL2 P1 ∧ sgL2 P1 ≤ 240 := by
  rw [g.2.1]
  exact sgInv_l2 h
theorem sgSd1_b2 {P P1 : sgPm} (g : sgSd1 P P1) (h : sgInv P) : sgBy2 P1 := by
  intro j hj
  rw [g.2.1] at hj
  rw [g.1]
  exact sgInv_b2 h j hj
theorem sgSt_6 {P : sgPm} {a c : Nat → Int} {b d : Int} : (sgSt P a b c d).2.2.2.2.2.2.1 = P.2.2.2.2.2.2.1 := by simp only [sgSt]
theorem sgSt_7 {P : sgPm} {a c : Nat → Int} {b d : Int} : (sgSt P a b c d).2.2.2.2.2.2.2.1 = P.2.2.2.2.2.2.2.1 := by simp only [sgSt]
theorem sgSt_8 {P : sgPm} {a c : Nat → Int} {b d : Int} : (sgSt P a b c d).2.2.2.2.2.2.2.2.1 = P.2.2.2.2.2.2.2.2.1 := by simp only [sgSt]
theorem sgSt_9 {P : sgPm} {a c : Nat → Int} {b d : Int} : (sgSt P a b c d).2.2.2.2.2.2.2.2.2.1 = P.2.2.2.2.2.2.2.2.2.1 := by simp only [sgSt]
theorem sgSt_pin {P : sgPm} {a c : Nat → Int} {b d : Int} : sgPin (sgSt P a b c d) = sgPin P := by simp only [sgSt, sgPin]
theorem sgSt_N {P : sgPm} {a c : Nat → Int} {b d : Int} : sgN (sgSt P a b c d) = sgN P := by simp only [sgSt, sgN]
/-- what a call does that only tells or ends: the class's side, the reference's -/
def sgFe1 (x1 x2 x3 x4 x5 : Int32) (P P1 : sgPm) : Prop := (240 < sgL1 P + sgN5 x1 x2 x3 x4 x5 ∧ P1 = P) ∨ (sgL1 P + sgN5 x1 x2 x3 x4 x5 ≤ 240 ∧ P1 = sgSt P (sgFd x1 x2 x3 x4 x5 (sgT1 P, sgL1 P)).1 (sgFd x1 x2 x3 x4 x5 (sgT1 P, sgL1 P)).2 (sgT2 P) (sgL2 P))
def sgFe2 (x1 x2 x3 x4 x5 : Int32) (P P1 : sgPm) : Prop := (240 < sgL2 P + sgN5 x1 x2 x3 x4 x5 ∧ P1 = P) ∨ (sgL2 P + sgN5 x1 x2 x3 x4 x5 ≤ 240 ∧ P1 = sgSt P (sgT1 P) (sgL1 P) (sgFd2 x1 x2 x3 x4 x5 (sgT2 P, sgL2 P)).1 (sgFd2 x1 x2 x3 x4 x5 (sgT2 P, sgL2 P)).2)
def sgEd1 (x : Int32) (P P1 : sgPm) : Prop := ((x.toInt < 0 ∨ sgL1 P < x.toInt) ∧ P1 = P) ∨ ((0 ≤ x.toInt ∧ x.toInt ≤ sgL1 P) ∧ P1 = sgSt P (sgT1 P) x.toInt (sgT2 P) (sgL2 P))
def sgEd2 (x : Int32) (P P1 : sgPm) : Prop := ((x.toInt < 0 ∨ sgL2 P < x.toInt) ∧ P1 = P) ∨ ((0 ≤ x.toInt ∧ x.toInt ≤ sgL2 P) ∧ P1 = sgSt P (sgT1 P) (sgL1 P) (sgT2 P) x.toInt)
theorem sgFe1_of {x1 x2 x3 x4 x5 r : Int32} {P : sgPm} {B : sgPm → Prop} (h : (r = -1 ∧ 240 < sgL1 P + sgN5 x1 x2 x3 x4 x5 ∧ B P) ∨ (sgL1 P + sgN5 x1 x2 x3 x4 x5 ≤ 240 ∧ r.toInt = sgL1 P + sgN5 x1 x2 x3 x4 x5 ∧ B (sgSt P (sgFd x1 x2 x3 x4 x5 (sgT1 P, sgL1 P)).1 (sgFd x1 x2 x3 x4 x5 (sgT1 P, sgL1 P)).2 (sgT2 P) (sgL2 P)))) : ∃ P1 : sgPm, sgFe1 x1 x2 x3 x4 x5 P P1 ∧ B P1 := by
  rcases h with ⟨-, c, h⟩ | ⟨c, -, h⟩
  · exact ⟨P, Or.inl ⟨c, rfl⟩, h⟩
  · exact ⟨_, Or.inr ⟨c, rfl⟩, h⟩
theorem sgFe2_of {x1 x2 x3 x4 x5 r : Int32} {P : sgPm} {B : sgPm → Prop} (h : (r = -1 ∧ 240 < sgL2 P + sgN5 x1 x2 x3 x4 x5 ∧ B P) ∨ (sgL2 P + sgN5 x1 x2 x3 x4 x5 ≤ 240 ∧ r.toInt = sgL2 P + sgN5 x1 x2 x3 x4 x5 ∧ B (sgSt P (sgT1 P) (sgL1 P) (sgFd2 x1 x2 x3 x4 x5 (sgT2 P, sgL2 P)).1 (sgFd2 x1 x2 x3 x4 x5 (sgT2 P, sgL2 P)).2))) : ∃ P1 : sgPm, sgFe2 x1 x2 x3 x4 x5 P P1 ∧ B P1 := by
  rcases h with ⟨-, c, h⟩ | ⟨c, -, h⟩
  · exact ⟨P, Or.inl ⟨c, rfl⟩, h⟩
  · exact ⟨_, Or.inr ⟨c, rfl⟩, h⟩
theorem sgC240_id {l : Int} (h : 0 ≤ l ∧ l ≤ 240) : sgC240 l = l := by
  unfold sgC240
  omega
theorem sgEd1_of {x r : Int32} {P : sgPm} {B : sgPm → Prop} (hl : 0 ≤ sgL1 P ∧ sgL1 P ≤ 240) (h : sgEn x (sgC240 (sgL1 P)) r ∧ (r = 0 ∧ B P ∨ r = 1 ∧ B (sgSt P (sgT1 P) x.toInt (sgT2 P) (sgL2 P)))) : ∃ P1 : sgPm, sgEd1 x P P1 ∧ B P1 := by
  rw [sgC240_id hl] at h
  obtain ⟨⟨e, c⟩ | ⟨e, c⟩, ⟨f, h⟩ | ⟨f, h⟩⟩ := h
  · exact ⟨P, Or.inl ⟨c, rfl⟩, h⟩
  · exact absurd (e.symm.trans f) (by decide)
  · exact absurd (e.symm.trans f) (by decide)
  · exact ⟨_, Or.inr ⟨c, rfl⟩, h⟩
theorem sgEd2_of {x r : Int32} {P : sgPm} {B : sgPm → Prop} (hl : 0 ≤ sgL2 P ∧ sgL2 P ≤ 240) (h : sgEn x (sgC240 (sgL2 P)) r ∧ (r = 0 ∧ B P ∨ r = 1 ∧ B (sgSt P (sgT1 P) (sgL1 P) (sgT2 P) x.toInt))) : ∃ P1 : sgPm, sgEd2 x P P1 ∧ B P1 := by
  rw [sgC240_id hl] at h
  obtain ⟨⟨e, c⟩ | ⟨e, c⟩, ⟨f, h⟩ | ⟨f, h⟩⟩ := h
  · exact ⟨P, Or.inl ⟨c, rfl⟩, h⟩
  · exact absurd (e.symm.trans f) (by decide)
  · exact absurd (e.symm.trans f) (by decide)
  · exact ⟨_, Or.inr ⟨c, rfl⟩, h⟩
theorem sgFe1_s {x1 x2 x3 x4 x5 : Int32} {P P1 : sgPm} (g : sgFe1 x1 x2 x3 x4 x5 P P1) : sgPin P1 = sgPin P ∧ sgN P1 = sgN P ∧ sgT2 P1 = sgT2 P ∧ sgL2 P1 = sgL2 P := by
  rcases g with ⟨-, e⟩ | ⟨-, e⟩
  · rw [e]
    exact ⟨rfl, rfl, rfl, rfl⟩
  · rw [e]
    exact ⟨sgSt_pin, sgSt_N, sgT2_St, sgL2_St⟩
theorem sgFe2_s {x1 x2 x3 x4 x5 : Int32} {P P1 : sgPm} (g : sgFe2 x1 x2 x3 x4 x5 P P1) : sgPin P1 = sgPin P ∧ sgN P1 = sgN P := by
  rcases g with ⟨-, e⟩ | ⟨-, e⟩
  · rw [e]
    exact ⟨rfl, rfl⟩
  · rw [e]
    exact ⟨sgSt_pin, sgSt_N⟩
theorem sgEd1_s {x : Int32} {P P1 : sgPm} (g : sgEd1 x P P1) : sgPin P1 = sgPin P ∧ sgN P1 = sgN P ∧ sgT2 P1 = sgT2 P ∧ sgL2 P1 = sgL2 P := by
  rcases g with ⟨-, e⟩ | ⟨-, e⟩
  · rw [e]
    exact ⟨rfl, rfl, rfl, rfl⟩
  · rw [e]
    exact ⟨sgSt_pin, sgSt_N, sgT2_St, sgL2_St⟩
theorem sgEd2_s {x : Int32} {P P1 : sgPm} (g : sgEd2 x P P1) : sgPin P1 = sgPin P ∧ sgN P1 = sgN P := by
  rcases g with ⟨-, e⟩ | ⟨-, e⟩
  · rw [e]
    exact ⟨rfl, rfl⟩
  · rw [e]
    exact ⟨sgSt_pin, sgSt_N⟩
theorem sgInv_St {P P1 P2 : sgPm} {a b : (Nat → Int) × Int} (h : sgInv P) (e1 : P1 = sgSt P a.1 a.2 (sgT2 P) (sgL2 P)) (e2 : P2 = sgSt P1 (sgT1 P1) (sgL1 P1) b.1 b.2) (hs : sgSame a b) (hL : a.2 ≤ 240) : sgInv P2 := by
  have t1 : sgT1 P1 = a.1 := by rw [e1]; exact sgT1_St
  have l1 : sgL1 P1 = a.2 := by rw [e1]; exact sgL1_St
  have u1 : sgT1 P2 = a.1 := by rw [e2]; exact sgT1_St.trans t1
  have u2 : sgL1 P2 = a.2 := by rw [e2]; exact sgL1_St.trans l1
  have u3 : sgT2 P2 = b.1 := by rw [e2]; exact sgT2_St
  have u4 : sgL2 P2 = b.2 := by rw [e2]; exact sgL2_St
  have k6 : P2.2.2.2.2.2.2.1 = P.2.2.2.2.2.2.1 := by rw [e2]; exact sgSt_6.trans (by rw [e1]; exact sgSt_6)
  have k7 : P2.2.2.2.2.2.2.2.1 = P.2.2.2.2.2.2.2.1 := by rw [e2]; exact sgSt_7.trans (by rw [e1]; exact sgSt_7)
  have k8 : P2.2.2.2.2.2.2.2.2.1 = P.2.2.2.2.2.2.2.2.1 := by rw [e2]; exact sgSt_8.trans (by rw [e1]; exact sgSt_8)
  have k9 : P2.2.2.2.2.2.2.2.2.2.1 = P.2.2.2.2.2.2.2.2.2.1 := by rw [e2]; exact sgSt_9.trans (by rw [e1]; exact sgSt_9)
  obtain ⟨-, -, hl, hg⟩ := h
  refine ⟨?_, ?_, ?_, ?_⟩
  · rw [u1, u2, u3, u4]
    exact hs
  · rw [u2]
    exact hL
  · rw [k6, k8]
    exact hl
  · rw [k7, k9]
    exact hg
theorem sgInv_feed {x1 x2 x3 x4 x5 : Int32} {P P1 P2 : sgPm} (h : sgInv P) (g1 : sgFe1 x1 x2 x3 x4 x5 P P1) (g2 : sgFe2 x1 x2 x3 x4 x5 P1 P2) : sgInv P2 := by
  have hs := sgInv_e h
  obtain ⟨-, -, q1, q2⟩ := sgFe1_s g1
  rcases g1 with ⟨c1, e1⟩ | ⟨c1, e1⟩
  · rcases g2 with ⟨c2, e2⟩ | ⟨c2, e2⟩
    · rw [e2, e1]
      exact h
    · rw [q2] at c2
      exact absurd c1 (by omega)
  · rcases g2 with ⟨c2, e2⟩ | ⟨c2, e2⟩
    · rw [q2] at c2
      exact absurd c1 (by omega)
    · rw [q1, q2] at e2
      refine sgInv_St h e1 e2 (sgFd_same h.1) ?_
      rw [sgFd_len]
      exact c1
theorem sgInv_end {x : Int32} {P P1 P2 : sgPm} (h : sgInv P) (g1 : sgEd1 x P P1) (g2 : sgEd2 x P1 P2) : sgInv P2 := by
  have hs := sgInv_e h
  obtain ⟨-, -, q1, q2⟩ := sgEd1_s g1
  rcases g1 with ⟨c1, e1⟩ | ⟨c1, e1⟩
  · rcases g2 with ⟨c2, e2⟩ | ⟨c2, e2⟩
    · rw [e2, e1]
      exact h
    · rw [q2] at c2
      exact absurd c1 (by omega)
  · rcases g2 with ⟨c2, e2⟩ | ⟨c2, e2⟩
    · rw [q2] at c2
      exact absurd c1 (by omega)
    · rw [q1] at e2
      refine sgInv_St (a := (sgT1 P, x.toInt)) (b := (sgT2 P, x.toInt)) h e1 e2 ⟨rfl, c1.1, fun j hj => h.1.2.2 j ?_⟩ ?_
      · have hj : (j : Int) < x.toInt := hj
        show (j : Int) < sgL1 P
        omega
      · have := (sgInv_l1 h).2
        show x.toInt ≤ 240
        omega
/-- the answer of law: by the number and how many LAWs there are -/
def sgLa (v : Int32) (n : Nat) (r : Int32) : Prop := (r = 0 ∧ (v.toInt < -1 ∨ (n : Int) ≤ v.toInt)) ∨ (r = 1 ∧ -1 ≤ v.toInt ∧ v.toInt < n)
theorem sgLa.fun {v : Int32} {n : Nat} {r r' : Int32} (h : sgLa v n r) (h' : sgLa v n r') : r = r' := by
  rcases h with ⟨rfl, h1⟩ | ⟨rfl, h1⟩ <;> rcases h' with ⟨rfl, h2⟩ | ⟨rfl, h2⟩
  · rfl
  · omega
  · omega
  · rfl
theorem sg_m1 : (-1 : Int32).toInt = -1 := by decide +kernel
theorem sg_laA {v : Int32} {n : Nat} (h : v < -1) : v.toInt < -1 ∨ (n : Int) ≤ v.toInt := Or.inl (by have h1 := Int32.lt_iff_toInt_lt.mp h; rw [sg_m1] at h1; exact h1)
theorem sg_laB {v f : Int32} {n : Nat} (h : f ≤ v) (hf : iv (n : Int) (n : Int) f) : v.toInt < -1 ∨ (n : Int) ≤ v.toInt := Or.inr (by have h1 := Int32.le_iff_toInt_le.mp h; have := hf.1; omega)
theorem sg_laN {v f : Int32} {n : Nat} (h0 : -1 ≤ v) (h : v < f) (hf : iv (n : Int) (n : Int) f) : -1 ≤ v.toInt ∧ v.toInt < n := by
  have h1 := Int32.le_iff_toInt_le.mp h0
  rw [sg_m1] at h1
  have h3 := Int32.lt_iff_toInt_lt.mp h
  have := hf.2
  omega
theorem sg_laE {v : Int32} {n : Nat} (h : v = -1) : -1 ≤ v.toInt ∧ v.toInt < n := by
  rw [h, sg_m1]
  omega
theorem sg_laM {m : Int64} {w y : Int32} {n : Fin 5} (e1 : m = w.toInt64) (e2 : w = y - 1) (hy : iv (n.val : Int) (n.val : Int) y) : m.toInt = (n.val : Int) - 1 := by
  have h1 := hy.1
  have h2 := hy.2
  have := n.isLt
  have h3 : (1 : Int32).toInt = 1 := by decide +kernel
  rw [e1, Int32.toInt_toInt64, e2, Jvm.Kit.i32_sub (by omega) (by omega), h3]
  omega
theorem sg_laO {f : Int32} {g l m : Int64} {v : Int32} {n : Fin 5} (h : ¬ f = 0 ↔ l.toInt ≤ g.toInt ∧ g.toInt ≤ m.toInt) (e : g = v.toInt64) (hl : l.toInt = 0) (hm : m.toInt = (n.val : Int) - 1) (h0 : f = 0) (hn : ¬ v = -1) : v.toInt < -1 ∨ (n.val : Int) ≤ v.toInt := by
  have h1 : g.toInt = v.toInt := by rw [e, Int32.toInt_toInt64]
  have h2 : ¬ (l.toInt ≤ g.toInt ∧ g.toInt ≤ m.toInt) := fun q => h.mpr q h0
  have h3 : ¬ v.toInt = -1 := fun q => hn (Int32.toInt_inj.mp (q.trans sg_m1.symm))
  rw [h1, hl, hm] at h2
  omega
theorem sg_laI {f : Int32} {g l m : Int64} {v : Int32} {n : Fin 5} (h : ¬ f = 0 ↔ l.toInt ≤ g.toInt ∧ g.toInt ≤ m.toInt) (e : g = v.toInt64) (hl : l.toInt = 0) (hm : m.toInt = (n.val : Int) - 1) (h0 : ¬ f = 0) : -1 ≤ v.toInt ∧ v.toInt < n.val := by
  have h1 : g.toInt = v.toInt := by rw [e, Int32.toInt_toInt64]
  have h2 := h.mp h0
  rw [h1, hl, hm] at h2
  omega
theorem sg_la3 {v : Int32} {n : Fin 5} (h : -1 ≤ v.toInt ∧ v.toInt < n.val) : iv (-1) 3 v := ⟨h.1, by have := n.isLt; omega⟩
theorem sgDr1_of {P : sgPm} {r : Int32} {v : Int} {X : Prop} {B : sgPm → Prop} (h : X ∧ (r = 0 ∧ B P ∨ r = 1 ∧ B (P.1, P.2.1, P.2.2.1, v, P.2.2.2.2))) : ∃ d : Int, B (P.1, P.2.1, P.2.2.1, d, P.2.2.2.2) := by
  obtain ⟨-, ⟨-, h⟩ | ⟨-, h⟩⟩ := h
  · exact ⟨P.2.2.2.1, h⟩
  · exact ⟨_, h⟩
theorem sgDr2_of {P : sgPm} {r : Int32} {v : Int} {X : Prop} {B : sgPm → Prop} (h : X ∧ (r = 0 ∧ B P ∨ r = 1 ∧ B (P.1, P.2.1, P.2.2.1, P.2.2.2.1, P.2.2.2.2.1, v, P.2.2.2.2.2.2))) : ∃ d : Int, B (P.1, P.2.1, P.2.2.1, P.2.2.2.1, P.2.2.2.2.1, d, P.2.2.2.2.2.2) := by
  obtain ⟨-, ⟨-, h⟩ | ⟨-, h⟩⟩ := h
  · exact ⟨P.2.2.2.2.2.1, h⟩
  · exact ⟨_, h⟩
