theorem sgSt_St {P : sgPm} {a c e g : Nat → Int} {b d f h : Int} : sgSt (sgSt P a b c d) e f g h = sgSt P e f g h := by simp only [sgSt]
theorem sgT1_St {P : sgPm} {a c : Nat → Int} {b d : Int} : sgT1 (sgSt P a b c d) = a := by simp only [sgT1, sgTp, sgSt]
theorem sgL1_St {P : sgPm} {a c : Nat → Int} {b d : Int} : sgL1 (sgSt P a b c d) = b := by simp only [sgL1, sgTp, sgSt]
theorem sgT2_St {P : sgPm} {a c : Nat → Int} {b d : Int} : sgT2 (sgSt P a b c d) = c := by simp only [sgT2, sgTp, sgSt]
theorem sgL2_St {P : sgPm} {a c : Nat → Int} {b d : Int} : sgL2 (sgSt P a b c d) = d := by simp only [sgL2, sgTp, sgSt]
/-- what five numbers told add, on the class's side -/
def sgFd (x1 x2 x3 x4 x5 : Int32) (q : (Nat → Int) × Int) : (Nat → Int) × Int := sgAp x5 (sgAp x4 (sgAp x3 (sgAp x2 (sgAp x1 q))))
def sgN5 (x1 x2 x3 x4 x5 : Int32) : Int := sg_nb x1 + sg_nb x2 + sg_nb x3 + sg_nb x4 + sg_nb x5
/-- the reference's: bytes are signed -/
def sgB2 (v k : Int32) : Int := (vp_nar .byte ((v >>> (k &&& 31)).toInt8.toInt32)).toInt
def sgA2 (v k : Int32) (q : (Nat → Int) × Int) : (Nat → Int) × Int := if (v >>> (k &&& 31)) &&& 255 = 0 then q else (sgUp q.1 q.2.toNat (sgB2 v k), q.2 + 1)
def sgAp2 (v : Int32) (q : (Nat → Int) × Int) : (Nat → Int) × Int := sgA2 v 0 (sgA2 v 8 (sgA2 v 16 (sgA2 v 24 q)))
def sgFd2 (x1 x2 x3 x4 x5 : Int32) (q : (Nat → Int) × Int) : (Nat → Int) × Int := sgAp2 x5 (sgAp2 x4 (sgAp2 x3 (sgAp2 x2 (sgAp2 x1 q))))
theorem sgA2_0 {v k k0 f g : Int32} {q : (Nat → Int) × Int} (e1 : f = v >>> (k &&& 31)) (e2 : g = f &&& 255) (hk : k = k0) (c : g = 0) : sgA2 v k0 q = q := by
  subst hk
  unfold sgA2
  rw [← e1, ← e2, if_pos c]
theorem sgA2_1 {v k k0 f g : Int32} {t : Nat → Int} {l : Int} (e1 : f = v >>> (k &&& 31)) (e2 : g = f &&& 255) (hk : k = k0) (c : ¬ g = 0) : sgA2 v k0 (t, l) = (sgUp t l.toNat (sgB2 v k0), l + 1) := by
  subst hk
  unfold sgA2
  rw [← e1, ← e2, if_neg c]
theorem sgB2_of {v k k0 f g : Int32} (e1 : f = v >>> (k &&& 31)) (e2 : g = f.toInt8.toInt32) (hk : k = k0) : (vp_nar .byte g).toInt = sgB2 v k0 := by
  subst hk
  unfold sgB2
  rw [← e1, ← e2]
theorem sgA2_len (v k : Int32) (q : (Nat → Int) × Int) : (sgA2 v k q).2 = q.2 + sg_nb1 v k := by
  unfold sgA2 sg_nb1
  split
  · exact (Int.add_zero _).symm
  · rfl
theorem sgAp2_len (v : Int32) (q : (Nat → Int) × Int) : (sgAp2 v q).2 = q.2 + sg_nb v := by
  unfold sgAp2 sg_nb
  rw [sgA2_len, sgA2_len, sgA2_len, sgA2_len]
  omega
theorem sgFd_len (x1 x2 x3 x4 x5 : Int32) (q : (Nat → Int) × Int) : (sgFd x1 x2 x3 x4 x5 q).2 = q.2 + sgN5 x1 x2 x3 x4 x5 := by
  unfold sgFd sgN5
  rw [sgAp_len, sgAp_len, sgAp_len, sgAp_len, sgAp_len]
  omega
theorem sgFd2_len (x1 x2 x3 x4 x5 : Int32) (q : (Nat → Int) × Int) : (sgFd2 x1 x2 x3 x4 x5 q).2 = q.2 + sgN5 x1 x2 x3 x4 x5 := by
  unfold sgFd2 sgN5
  rw [sgAp2_len, sgAp2_len, sgAp2_len, sgAp2_len, sgAp2_len]
  omega
theorem sg_pair {q : (Nat → Int) × Int} : (q.1, q.2) = q := rfl
/-- what was told is the same on both sides -/
def sgSame (q q2 : (Nat → Int) × Int) : Prop := q.2 = q2.2 ∧ 0 ≤ q.2 ∧ ∀ j : Nat, (j : Int) < q.2 → 1 ≤ q.1 j ∧ q.1 j ≤ 255 ∧ -128 ≤ q2.1 j ∧ q2.1 j ≤ 127 ∧ q2.1 j % 256 = q.1 j
theorem sgB2_all (w : Int32) : -128 ≤ (vp_nar .byte (w.toInt8.toInt32)).toInt ∧ (vp_nar .byte (w.toInt8.toInt32)).toInt ≤ 127 ∧ (vp_nar .byte (w.toInt8.toInt32)).toInt % 256 = (w &&& 255).toInt := by
  have h1 : vp_nar .byte (w.toInt8.toInt32) = w.toInt8.toInt32 := by
    have h : vp_nar .byte (w.toInt8.toInt32) = (w.toInt8.toInt32).toInt8.toInt32 := by
      simp only [vp_nar, narrow]
    rw [h]
    simp
  rw [h1]
  have h2 : (w.toInt8.toInt32).toInt = w.toInt8.toInt := by simp
  rw [h2]
  have h3 := Int8.le_toInt w.toInt8
  have h4 := Int8.toInt_lt w.toInt8
  have h5 : w.toInt8.toInt = w.toInt.bmod 256 := by simp
  have h6 : (w &&& 255).toInt = w.toInt % 256 := by
    have h7 : ((w &&& 255).toBitVec).toNat = w.toBitVec.toNat % 256 := by
      rw [Int32.toBitVec_and, BitVec.toNat_and]
      exact Nat.and_two_pow_sub_one_eq_mod w.toBitVec.toNat 8
    have h8 : (w &&& 255).toInt = ((w &&& 255).toBitVec.toNat : Int) := by
      rw [← Int32.toInt_toBitVec, BitVec.toInt_eq_toNat_of_lt (by omega)]
    have h9 : w.toInt = if 2 * w.toBitVec.toNat < 2 ^ 32 then (w.toBitVec.toNat : Int) else (w.toBitVec.toNat : Int) - (2 ^ 32 : Nat) := by
      rw [← Int32.toInt_toBitVec, BitVec.toInt_eq_toNat_cond]
    rw [h8, h7, h9]
    split <;> omega
  refine ⟨by simpa using h3, by omega, ?_⟩
  rw [h5, h6]
  exact Int.bmod_emod (x := w.toInt) (m := 256)

theorem sgB2_B1 (v k : Int32) : -128 ≤ sgB2 v k ∧ sgB2 v k ≤ 127 ∧ sgB2 v k % 256 = sgB1 v k := by
  exact sgB2_all _
theorem sgA_same {v k : Int32} {q q2 : (Nat → Int) × Int} (h : sgSame q q2) : sgSame (sgA1 v k q) (sgA2 v k q2) := by
  obtain ⟨h1, h0, h2⟩ := h
  unfold sgA1 sgA2
  by_cases c : (v >>> (k &&& 31)) &&& 255 = 0
  · rw [if_pos c, if_pos c]
    exact ⟨h1, h0, h2⟩
  · rw [if_neg c, if_neg c]
    refine ⟨by show q.2 + 1 = q2.2 + 1; omega, by show 0 ≤ q.2 + 1; omega, fun j hj => ?_⟩
    have hj : (j : Int) < q.2 + 1 := hj
    show 1 ≤ sgUp q.1 q.2.toNat (sgB1 v k) j ∧ sgUp q.1 q.2.toNat (sgB1 v k) j ≤ 255 ∧ -128 ≤ sgUp q2.1 q2.2.toNat (sgB2 v k) j ∧ sgUp q2.1 q2.2.toNat (sgB2 v k) j ≤ 127 ∧ sgUp q2.1 q2.2.toNat (sgB2 v k) j % 256 = sgUp q.1 q.2.toNat (sgB1 v k) j
    unfold sgUp
    rw [← h1]
    by_cases e : j = q.2.toNat
    · rw [if_pos e, if_pos e]
      have hb := sgB2_B1 v k
      have hl := sgB1_le v k
      have hne : sgB1 v k ≠ 0 := fun z => c (Int32.toInt_inj.mp z)
      exact ⟨by omega, hl.2, hb.1, hb.2.1, hb.2.2⟩
    · rw [if_neg e, if_neg e]
      exact h2 j (by omega)
theorem sgAp_same {v : Int32} {q q2 : (Nat → Int) × Int} (h : sgSame q q2) : sgSame (sgAp v q) (sgAp2 v q2) := sgA_same (sgA_same (sgA_same (sgA_same h)))
theorem sgFd_same {x1 x2 x3 x4 x5 : Int32} {q q2 : (Nat → Int) × Int} (h : sgSame q q2) : sgSame (sgFd x1 x2 x3 x4 x5 q) (sgFd2 x1 x2 x3 x4 x5 q2) := sgAp_same (sgAp_same (sgAp_same (sgAp_same (sgAp_same h))))
theorem sg_apE1 {P : sgPm} {q : (Nat → Int) × Int} {t2 : Nat → Int} {l2 : Int} {x : Int32} : sgSt (sgSt P q.1 q.2 t2 l2) (sgAp x (sgT1 (sgSt P q.1 q.2 t2 l2), sgL1 (sgSt P q.1 q.2 t2 l2))).1 (sgAp x (sgT1 (sgSt P q.1 q.2 t2 l2), sgL1 (sgSt P q.1 q.2 t2 l2))).2 (sgT2 (sgSt P q.1 q.2 t2 l2)) (sgL2 (sgSt P q.1 q.2 t2 l2)) = sgSt P (sgAp x q).1 (sgAp x q).2 t2 l2 := by
  have h1 : sgT1 (sgSt P q.1 q.2 t2 l2) = q.1 := sgT1_St
  have h2 : sgL1 (sgSt P q.1 q.2 t2 l2) = q.2 := sgL1_St
  have h3 : sgT2 (sgSt P q.1 q.2 t2 l2) = t2 := sgT2_St
  have h4 : sgL2 (sgSt P q.1 q.2 t2 l2) = l2 := sgL2_St
  rw [h1, h2, h3, h4]
  exact sgSt_St
theorem sg_apSt1 {q : (Nat → Int) × Int} {t2 : Nat → Int} {l2 : Int} {x : Int32} {D : va_G} {A : Nat → Prop} {tys : List (ClassId × FieldType)} {ad ks : List Nat} {H : Heap} {P : sgPm} (h : sgG (KT (sgSt (sgSt P q.1 q.2 t2 l2) (sgAp x (sgT1 (sgSt P q.1 q.2 t2 l2), sgL1 (sgSt P q.1 q.2 t2 l2))).1 (sgAp x (sgT1 (sgSt P q.1 q.2 t2 l2), sgL1 (sgSt P q.1 q.2 t2 l2))).2 (sgT2 (sgSt P q.1 q.2 t2 l2)) (sgL2 (sgSt P q.1 q.2 t2 l2)))) D vwCl A tys ad ks H) : sgG (KT (sgSt P (sgAp x q).1 (sgAp x q).2 t2 l2)) D vwCl A tys ad ks H := sg_apE1 ▸ h
theorem sg_apL1 {P : sgPm} {q : (Nat → Int) × Int} {t2 : Nat → Int} {l2 n : Int} (h : 0 ≤ q.2 ∧ q.2 + n ≤ 240) : 0 ≤ sgL1 (sgSt P q.1 q.2 t2 l2) ∧ sgL1 (sgSt P q.1 q.2 t2 l2) + n ≤ 240 := by
  have h2 : sgL1 (sgSt P q.1 q.2 t2 l2) = q.2 := sgL1_St
  rw [h2]
  exact h
theorem sg_apC1 {P : sgPm} {q : (Nat → Int) × Int} {t2 : Nat → Int} {l2 : Int} {x : Int32} (hx : iv (sgC240 (sgL1 (sgSt P q.1 q.2 t2 l2))) (sgC240 (sgL1 (sgSt P q.1 q.2 t2 l2))) x) (h : 0 ≤ q.2 ∧ q.2 ≤ 240) : x.toInt = q.2 := by
  have h2 : sgL1 (sgSt P q.1 q.2 t2 l2) = q.2 := sgL1_St
  rw [h2] at hx
  exact sgC240_eq hx h.1 h.2
theorem sg_apE2 {P : sgPm} {q : (Nat → Int) × Int} {t2 : Nat → Int} {l2 : Int} {x : Int32} : sgSt (sgSt P t2 l2 q.1 q.2) (sgT1 (sgSt P t2 l2 q.1 q.2)) (sgL1 (sgSt P t2 l2 q.1 q.2)) (sgAp2 x (sgT2 (sgSt P t2 l2 q.1 q.2), sgL2 (sgSt P t2 l2 q.1 q.2))).1 (sgAp2 x (sgT2 (sgSt P t2 l2 q.1 q.2), sgL2 (sgSt P t2 l2 q.1 q.2))).2 = sgSt P t2 l2 (sgAp2 x q).1 (sgAp2 x q).2 := by
  have h1 : sgT1 (sgSt P t2 l2 q.1 q.2) = t2 := sgT1_St
  have h2 : sgL1 (sgSt P t2 l2 q.1 q.2) = l2 := sgL1_St
  have h3 : sgT2 (sgSt P t2 l2 q.1 q.2) = q.1 := sgT2_St
  have h4 : sgL2 (sgSt P t2 l2 q.1 q.2) = q.2 := sgL2_St
  rw [h1, h2, h3, h4]
  exact sgSt_St
theorem sg_apSt2 {q : (Nat → Int) × Int} {t2 : Nat → Int} {l2 : Int} {x : Int32} {D : va_G} {A : Nat → Prop} {tys : List (ClassId × FieldType)} {ad ks : List Nat} {H : Heap} {P : sgPm} (h : sgG (KT (sgSt (sgSt P t2 l2 q.1 q.2) (sgT1 (sgSt P t2 l2 q.1 q.2)) (sgL1 (sgSt P t2 l2 q.1 q.2)) (sgAp2 x (sgT2 (sgSt P t2 l2 q.1 q.2), sgL2 (sgSt P t2 l2 q.1 q.2))).1 (sgAp2 x (sgT2 (sgSt P t2 l2 q.1 q.2), sgL2 (sgSt P t2 l2 q.1 q.2))).2)) D vwCl A tys ad ks H) : sgG (KT (sgSt P t2 l2 (sgAp2 x q).1 (sgAp2 x q).2)) D vwCl A tys ad ks H := sg_apE2 ▸ h
theorem sg_apL2 {P : sgPm} {q : (Nat → Int) × Int} {t2 : Nat → Int} {l2 n : Int} (h : 0 ≤ q.2 ∧ q.2 + n ≤ 240) : 0 ≤ sgL2 (sgSt P t2 l2 q.1 q.2) ∧ sgL2 (sgSt P t2 l2 q.1 q.2) + n ≤ 240 := by
  have h2 : sgL2 (sgSt P t2 l2 q.1 q.2) = q.2 := sgL2_St
  rw [h2]
  exact h
theorem sg_apC2 {P : sgPm} {q : (Nat → Int) × Int} {t2 : Nat → Int} {l2 : Int} {x : Int32} (hx : iv (sgC240 (sgL2 (sgSt P t2 l2 q.1 q.2))) (sgC240 (sgL2 (sgSt P t2 l2 q.1 q.2))) x) (h : 0 ≤ q.2 ∧ q.2 ≤ 240) : x.toInt = q.2 := by
  have h2 : sgL2 (sgSt P t2 l2 q.1 q.2) = q.2 := sgL2_St
  rw [h2] at hx
  exact sgC240_eq hx h.1 h.2
