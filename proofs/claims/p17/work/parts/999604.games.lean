/-- what the class holds of the GAMES is what the reference holds -/
def sgHm (P : sgPm) : Prop := sgGg (sgGm P) P.2.2.2.2.2.2.2.1.val ∧ ∀ j : Nat, j < P.2.2.2.2.2.2.2.1.val → gCn (sgGm P) j = ((sgGl P j).val : Int) ∧ ∀ i : Nat, i < (sgGl P j).val → ∃ q : sgMq, mqOk q ∧ gMv (sgGm P) j i = pkQ q ∧ sgG0 P (64 * j + 4 * i) = q.1 ∧ sgG0 P (64 * j + (4 * i + 1)) = q.2.1 ∧ sgG0 P (64 * j + (4 * i + 2)) = q.2.2.1 ∧ sgG0 P (64 * j + (4 * i + 3)) = q.2.2.2
theorem sgHm_of {P P1 : sgPm} (h : sgHm P) (h1 : sgGm P1 = sgGm P) (h2 : P1.2.2.2.2.2.2.2.1 = P.2.2.2.2.2.2.2.1) (h3 : sgG0 P1 = sgG0 P) (h4 : sgGl P1 = sgGl P) : sgHm P1 := by
  unfold sgHm
  rw [h1, h2, h3, h4]
  exact h
theorem sgHm_hi {P P1 : sgPm} (h : sgHm P) (h1 : ∀ i : Nat, 40 ≤ i → sgGm P1 i = sgGm P i) (h2 : P1.2.2.2.2.2.2.2.1 = P.2.2.2.2.2.2.2.1) (h3 : sgG0 P1 = sgG0 P) (h4 : sgGl P1 = sgGl P) : sgHm P1 := by
  obtain ⟨a, b⟩ := h
  refine ⟨?_, fun j hj => ?_⟩
  · rw [h2]
    exact hi_gg h1 a
  · rw [h2] at hj
    obtain ⟨c, d⟩ := b j hj
    rw [hi_C h1, h3, h4]
    refine ⟨c, fun i hi => ?_⟩
    rw [hi_V h1]
    exact d i hi
/-- both sides told one more -/
theorem sgHm_to {P P1 P2 : sgPm} {b b2 : Nat → Int} {n : Int} {g : Nat} {k k2 : Nat} (h : sgHm P) (hg : P.2.2.2.2.2.2.2.1.val = g) (hg4 : g < 4) (hT : vC b n = vC b2 n) (hk : gK b n k) (hok : ∀ i : Nat, i < k → mqOk (gmT b n i)) (hgm : sgGm P2 = gPg (sgGm P) g k (gmT b n)) (hk2 : gK b2 n k2) (hto : gTold (sgG0 P1) (sgGl P1) (sgG0 P2) (sgGl P2) g k2 (gmT b2 n)) (h0 : sgG0 P1 = sgG0 P) (hl : sgGl P1 = sgGl P) (hc : P2.2.2.2.2.2.2.2.1.val = g + 1) : sgHm P2 := by
  obtain ⟨a, d⟩ := h
  rw [hg] at a d
  obtain ⟨t1, t2, t3, t4⟩ := hto
  have ek : k = k2 := gK_fun (gK_cf hT hk) hk2
  subst ek
  have hk16 := hk.2.2.1
  refine ⟨?_, fun j hj => ?_⟩
  · rw [hc, hgm]
    exact gPg_gg (by omega) a
  · rw [hc] at hj
    rw [hgm]
    by_cases c : j = g
    · subst c
      rw [gPg_Cy, t3]
      refine ⟨rfl, fun i hi => ?_⟩
      rw [gPg_Vy (by omega) (by omega)]
      obtain ⟨u1, u2, u3, u4⟩ := t4 i hi
      refine ⟨gmT b n i, hok i hi, rfl, ?_, ?_, ?_, ?_⟩
      · rw [u1, gmT_cf hT]
      · rw [u2, gmT_cf hT]
      · rw [u3, gmT_cf hT]
      · rw [u4, gmT_cf hT]
    · have hj' : j < g := by omega
      obtain ⟨e1, e2⟩ := d j hj'
      rw [gPg_Cn (by omega) (by omega) c, t2 j hj', hl]
      refine ⟨e1, fun i hi => ?_⟩
      have h17 := (sgGl P j).isLt
      obtain ⟨q, q0, q1, q2, q3, q4, q5⟩ := e2 i hi
      rw [gPg_Vn (by omega) (by omega) (by omega) c, t1 _ (by omega), t1 _ (by omega), t1 _ (by omega), t1 _ (by omega), h0]
      exact ⟨q, q0, q1, q2, q3, q4, q5⟩
theorem ty_gm {P P1 P2 : sgPm} {x w1 w2 : Int} (hi : sgInv P) (hg : sgHm P) (s1 : sgSd1 P P1) (k1 : sgGk P P1) (t1 : sgTy1 x P P1 w1) (s2 : sgSd2 P1 P2) (g2 : sgGm P2 = sgGm P1) (t2 : sgTy2 x P1 P2 w2) : sgHm P2 := by
  have ht : sgTk1 x P ↔ sgTk2 x P1 := (sgTk_same hi).trans (sgTk2_sd s1).symm
  have ss := s1
  obtain ⟨a1, a2, a3, a4, a5⟩ := s1
  have c2 : P2.2.2.2.2.2.2.2.1 = P1.2.2.2.2.2.2.2.1 := s2.2.2.2.2
  rcases t1 with ⟨e, q, h1, h2, h3, h4⟩ | ⟨e, h1, h2, h3, h4⟩ | ⟨e, h1, h2, h3, h4⟩ | ⟨h1, h2, h3, h4⟩
  · have tk : sgTk2 x P1 := ht.mp (Or.inl ⟨e, lnTq_tk h1⟩)
    have c1 : P1.2.2.2.2.2.2.2.1 = P.2.2.2.2.2.2.2.1 := Fin.ext (h2.2.2.trans (Nat.add_zero _))
    rcases t2 with ⟨e', q', m1, m2, m3, m5, m4⟩ | ⟨e', -⟩ | ⟨e', -⟩ | ⟨m1, -⟩
    · refine sgHm_hi hg (fun i hi => ?_) (c2.trans c1) (m5.1.trans k1.1) (m5.2.trans k1.2)
      rw [g2, h3, gP2_hi i hi, gP1_hi i hi]
    · omega
    · omega
    · exact absurd tk m1
  · have tk : sgTk2 x P1 := ht.mp (Or.inr (Or.inl ⟨e, h1⟩))
    have c1 : P1.2.2.2.2.2.2.2.1 = P.2.2.2.2.2.2.2.1 := Fin.ext (h2.2.2.trans (Nat.add_zero _))
    rcases t2 with ⟨e', -⟩ | ⟨e', m1, m2, m3, m5, m4⟩ | ⟨e', -⟩ | ⟨m1, -⟩
    · omega
    · exact sgHm_of hg (g2.trans h3) (c2.trans c1) (m5.1.trans k1.1) (m5.2.trans k1.2)
    · omega
    · exact absurd tk m1
  · have tk : sgTk2 x P1 := ht.mp (Or.inr (Or.inr ⟨e, h1⟩))
    rcases t2 with ⟨e', -⟩ | ⟨e', -⟩ | ⟨e', m1, m2, m3, m5, m4⟩ | ⟨m1, -⟩
    · omega
    · omega
    · obtain ⟨k, o1, o2, o3⟩ := h3
      obtain ⟨k2, p1, p2⟩ := m5
      have u : sgU2 P1 = sgU2 P := by
        unfold sgU2
        rw [a1]
      obtain ⟨e1, e2⟩ := sg_same_c hi.1
      have hc : vC (sgT1 P) (sgL1 P) = vC (sgU2 P) (sgL1 P) := by
        rw [e2, e1]
      rw [u, a2, ← e1] at p1 p2
      have gg : P1.2.2.2.2.2.2.2.2.2.1.val = P.2.2.2.2.2.2.2.1.val := by rw [a5, hi.2.2.2]
      rw [gg] at p2
      exact sgHm_to hg rfl h1.1 hc o1 o2 (g2.trans o3) p1 p2 k1.1 k1.2 (by rw [c2]; exact h2.2.2)
    · exact absurd tk m1
  · have ntk : ¬ sgTk2 x P1 := fun z => h1 (ht.mpr z)
    have c1 : P1.2.2.2.2.2.2.2.1 = P.2.2.2.2.2.2.2.1 := Fin.ext (h2.2.2.trans (Nat.add_zero _))
    rcases t2 with ⟨e', q', m1, -⟩ | ⟨e', m1, -⟩ | ⟨e', m1, -⟩ | ⟨m1, m2, m3, m5, m4⟩
    · exact absurd (Or.inl ⟨e', lnTr_tk m1⟩) ntk
    · exact absurd (Or.inr (Or.inl ⟨e', m1⟩)) ntk
    · exact absurd (Or.inr (Or.inr ⟨e', m1⟩)) ntk
    · exact sgHm_of hg (g2.trans h3) (c2.trans c1) (m5.1.trans k1.1) (m5.2.trans k1.2)
/-- the LAWN and the GAMES -/
def sgHx (P : sgPm) : Prop := sgHl P ∧ sgHm P
theorem sgHx_of {P P1 : sgPm} (h : sgHx P) (h1 : sgGm P1 = sgGm P) (h2 : P1.2.2.2.2.1 = P.2.2.2.2.1) (h3 : sgRw P1 = sgRw P) (h4 : P1.2.2.2.2.2.2.2.1 = P.2.2.2.2.2.2.2.1) (h5 : sgG0 P1 = sgG0 P) (h6 : sgGl P1 = sgGl P) : sgHx P1 := ⟨sgHl_of h.1 h1 h2 h3, sgHm_of h.2 h1 h4 h5 h6⟩
theorem sgSt_G0 {P : sgPm} {a c : Nat → Int} {b d : Int} : sgG0 (sgSt P a b c d) = sgG0 P := by simp only [sgG0, sgSt]
theorem sgSt_Gl {P : sgPm} {a c : Nat → Int} {b d : Int} : sgGl (sgSt P a b c d) = sgGl P := by simp only [sgGl, sgSt]
theorem sgSt_g7 {P : sgPm} {a c : Nat → Int} {b d : Int} : (sgSt P a b c d).2.2.2.2.2.2.2.1 = P.2.2.2.2.2.2.2.1 := by simp only [sgSt]
theorem sgHx_St {P : sgPm} {a c : Nat → Int} {b d : Int} (h : sgHx P) : sgHx (sgSt P a b c d) := sgHx_of h sgGm_St sgSt_4 sgSt_Rw sgSt_g7 sgSt_G0 sgSt_Gl
