theorem kk_0 {P Q : sgPm} : KK0 Q = KK0 P := rfl
theorem kk_1 {P Q : sgPm} : KK1 Q = KK1 P := rfl
theorem kk_2 {P Q : sgPm} (h1 : Q.2.1 = P.2.1) (h2 : Q.2.2.1 = P.2.2.1) : KK2 Q = KK2 P := by
  simp only [KK2, sgC1, sgN, sgPl, sgG0, sgGl, sgRw, sgW, sgNc, sgPin, sgTp, sgT1, sgL1, sgT2, sgL2, sgGm, h1, h2]
theorem kk_3 {P Q : sgPm} : KK3 Q = KK3 P := rfl
theorem kk_4 {P Q : sgPm} : KK4 Q = KK4 P := rfl
theorem kk_5 {P Q : sgPm} : KK5 Q = KK5 P := rfl
theorem kk_6 {P Q : sgPm} : KK6 Q = KK6 P := rfl
theorem kk_7 {P Q : sgPm} : KK7 Q = KK7 P := rfl
theorem kk_8 {P Q : sgPm} (h0 : Q.1 = P.1) : KK8 Q = KK8 P := by
  simp only [KK8, sgC1, sgN, sgPl, sgG0, sgGl, sgRw, sgW, sgNc, sgPin, sgTp, sgT1, sgL1, sgT2, sgL2, sgGm, h0]
theorem kk_9 {P Q : sgPm} : KK9 Q = KK9 P := rfl
theorem kk_10 {P Q : sgPm} (h18 : Q.2.2.2.2.2.2.2.2.2.2.2.2.2.2.2.2.2.2.1 = P.2.2.2.2.2.2.2.2.2.2.2.2.2.2.2.2.2.2.1) : KK10 Q = KK10 P := by
  simp only [KK10, sgC1, sgN, sgPl, sgG0, sgGl, sgRw, sgW, sgNc, sgPin, sgTp, sgT1, sgL1, sgT2, sgL2, sgGm, h18]
theorem kk_11 {P Q : sgPm} (h3 : Q.2.2.2.1 = P.2.2.2.1) (h6 : Q.2.2.2.2.2.2.1 = P.2.2.2.2.2.2.1) (h7 : Q.2.2.2.2.2.2.2.1 = P.2.2.2.2.2.2.2.1) : KK11 Q = KK11 P := by
  simp only [KK11, sgC1, sgN, sgPl, sgG0, sgGl, sgRw, sgW, sgNc, sgPin, sgTp, sgT1, sgL1, sgT2, sgL2, sgGm, h3, h6, h7]
theorem kk_12 {P Q : sgPm} (h4 : Q.2.2.2.2.1 = P.2.2.2.2.1) (h5 : Q.2.2.2.2.2.1 = P.2.2.2.2.2.1) (h8 : Q.2.2.2.2.2.2.2.2.1 = P.2.2.2.2.2.2.2.2.1) (h9 : Q.2.2.2.2.2.2.2.2.2.1 = P.2.2.2.2.2.2.2.2.2.1) (h15 : Q.2.2.2.2.2.2.2.2.2.2.2.2.2.2.2.1 = P.2.2.2.2.2.2.2.2.2.2.2.2.2.2.2.1) (h20 : Q.2.2.2.2.2.2.2.2.2.2.2.2.2.2.2.2.2.2.2.2.1 = P.2.2.2.2.2.2.2.2.2.2.2.2.2.2.2.2.2.2.2.2.1) : KK12 Q = KK12 P := by
  simp only [KK12, sgC1, sgN, sgPl, sgG0, sgGl, sgRw, sgW, sgNc, sgPin, sgTp, sgT1, sgL1, sgT2, sgL2, sgGm, h4, h5, h8, h9, h15, h20]
theorem kk_13 {P Q : sgPm} : KK13 Q = KK13 P := rfl
theorem kk_14 {P Q : sgPm} : KK14 Q = KK14 P := rfl
theorem kk_15 {P Q : sgPm} : KK15 Q = KK15 P := rfl
theorem kk_16 {P Q : sgPm} (h11 : Q.2.2.2.2.2.2.2.2.2.2.2.1 = P.2.2.2.2.2.2.2.2.2.2.2.1) : KK16 Q = KK16 P := by
  simp only [KK16, sgC1, sgN, sgPl, sgG0, sgGl, sgRw, sgW, sgNc, sgPin, sgTp, sgT1, sgL1, sgT2, sgL2, sgGm, h11]
theorem kk_17 {P Q : sgPm} : KK17 Q = KK17 P := rfl
theorem kk_18 {P Q : sgPm} : KK18 Q = KK18 P := rfl
theorem kk_19 {P Q : sgPm} : KK19 Q = KK19 P := rfl
theorem kk_20 {P Q : sgPm} : KK20 Q = KK20 P := rfl
theorem kk_21 {P Q : sgPm} : KK21 Q = KK21 P := rfl
theorem kk_22 {P Q : sgPm} : KK22 Q = KK22 P := rfl
theorem kk_23 {P Q : sgPm} : KK23 Q = KK23 P := rfl
theorem kk_24 {P Q : sgPm} : KK24 Q = KK24 P := rfl
theorem kk_25 {P Q : sgPm} : KK25 Q = KK25 P := rfl
theorem kk_26 {P Q : sgPm} : KK26 Q = KK26 P := rfl
theorem kk_27 {P Q : sgPm} : KK27 Q = KK27 P := rfl
theorem kk_28 {P Q : sgPm} : KK28 Q = KK28 P := rfl
theorem kk_29 {P Q : sgPm} : KK29 Q = KK29 P := rfl
theorem kk_30 {P Q : sgPm} : KK30 Q = KK30 P := rfl
theorem kk_31 {P Q : sgPm} : KK31 Q = KK31 P := rfl
theorem kk_32 {P Q : sgPm} : KK32 Q = KK32 P := rfl
theorem kk_33 {P Q : sgPm} : KK33 Q = KK33 P := rfl
theorem kk_34 {P Q : sgPm} : KK34 Q = KK34 P := rfl
theorem kk_35 {P Q : sgPm} : KK35 Q = KK35 P := rfl
theorem kk_36 {P Q : sgPm} : KK36 Q = KK36 P := rfl
theorem kk_37 {P Q : sgPm} : KK37 Q = KK37 P := rfl
theorem kk_38 {P Q : sgPm} : KK38 Q = KK38 P := rfl
theorem kk_39 {P Q : sgPm} : KK39 Q = KK39 P := rfl
theorem kk_40 {P Q : sgPm} : KK40 Q = KK40 P := rfl
theorem kk_41 {P Q : sgPm} : KK41 Q = KK41 P := rfl
theorem kk_42 {P Q : sgPm} (h17 : Q.2.2.2.2.2.2.2.2.2.2.2.2.2.2.2.2.2.1 = P.2.2.2.2.2.2.2.2.2.2.2.2.2.2.2.2.2.1) : KK42 Q = KK42 P := by
  simp only [KK42, sgC1, sgN, sgPl, sgG0, sgGl, sgRw, sgW, sgNc, sgPin, sgTp, sgT1, sgL1, sgT2, sgL2, sgGm, h17]
theorem kk_43 {P Q : sgPm} : KK43 Q = KK43 P := rfl
theorem kk_44 {P Q : sgPm} : KK44 Q = KK44 P := rfl
theorem kk_45 {P Q : sgPm} (h19 : Q.2.2.2.2.2.2.2.2.2.2.2.2.2.2.2.2.2.2.2.1 = P.2.2.2.2.2.2.2.2.2.2.2.2.2.2.2.2.2.2.2.1) : KK45 Q = KK45 P := by
  simp only [KK45, sgC1, sgN, sgPl, sgG0, sgGl, sgRw, sgW, sgNc, sgPin, sgTp, sgT1, sgL1, sgT2, sgL2, sgGm, h19]
theorem kk_46 {P Q : sgPm} : KK46 Q = KK46 P := rfl
theorem kk_47 {P Q : sgPm} : KK47 Q = KK47 P := rfl
theorem kk_48 {P Q : sgPm} : KK48 Q = KK48 P := rfl
theorem kk_49 {P Q : sgPm} (h4 : Q.2.2.2.2.1 = P.2.2.2.2.1) (h14 : Q.2.2.2.2.2.2.2.2.2.2.2.2.2.2.1 = P.2.2.2.2.2.2.2.2.2.2.2.2.2.2.1) : KK49 Q = KK49 P := by
  simp only [KK49, sgC1, sgN, sgPl, sgG0, sgGl, sgRw, sgW, sgNc, sgPin, sgTp, sgT1, sgL1, sgT2, sgL2, sgGm, h4, h14]
theorem kk_50 {P Q : sgPm} : KK50 Q = KK50 P := rfl
theorem kk_51 {P Q : sgPm} : KK51 Q = KK51 P := rfl
theorem kk_52 {P Q : sgPm} (h12 : Q.2.2.2.2.2.2.2.2.2.2.2.2.1 = P.2.2.2.2.2.2.2.2.2.2.2.2.1) : KK52 Q = KK52 P := by
  simp only [KK52, sgC1, sgN, sgPl, sgG0, sgGl, sgRw, sgW, sgNc, sgPin, sgTp, sgT1, sgL1, sgT2, sgL2, sgGm, h12]
theorem kk_53 {P Q : sgPm} (h13 : Q.2.2.2.2.2.2.2.2.2.2.2.2.2.1 = P.2.2.2.2.2.2.2.2.2.2.2.2.2.1) : KK53 Q = KK53 P := by
  simp only [KK53, sgC1, sgN, sgPl, sgG0, sgGl, sgRw, sgW, sgNc, sgPin, sgTp, sgT1, sgL1, sgT2, sgL2, sgGm, h13]
theorem kk_54 {P Q : sgPm} (h10 : Q.2.2.2.2.2.2.2.2.2.2.1 = P.2.2.2.2.2.2.2.2.2.2.1) (h16 : Q.2.2.2.2.2.2.2.2.2.2.2.2.2.2.2.2.1 = P.2.2.2.2.2.2.2.2.2.2.2.2.2.2.2.2.1) : KK54 Q = KK54 P := by
  simp only [KK54, sgC1, sgN, sgPl, sgG0, sgGl, sgRw, sgW, sgNc, sgPin, sgTp, sgT1, sgL1, sgT2, sgL2, sgGm, h10, h16]
theorem kk_55 {P Q : sgPm} (h10 : Q.2.2.2.2.2.2.2.2.2.2.1 = P.2.2.2.2.2.2.2.2.2.2.1) : KK55 Q = KK55 P := by
  simp only [KK55, sgC1, sgN, sgPl, sgG0, sgGl, sgRw, sgW, sgNc, sgPin, sgTp, sgT1, sgL1, sgT2, sgL2, sgGm, h10]
theorem kk_56 {P Q : sgPm} : KK56 Q = KK56 P := rfl
theorem kk_57 {P Q : sgPm} : KK57 Q = KK57 P := rfl
theorem kk_58 {P Q : sgPm} (h10 : Q.2.2.2.2.2.2.2.2.2.2.1 = P.2.2.2.2.2.2.2.2.2.2.1) : KK58 Q = KK58 P := by
  simp only [KK58, sgC1, sgN, sgPl, sgG0, sgGl, sgRw, sgW, sgNc, sgPin, sgTp, sgT1, sgL1, sgT2, sgL2, sgGm, h10]
theorem kk_59 {P Q : sgPm} : KK59 Q = KK59 P := rfl
theorem kk_60 {P Q : sgPm} : KK60 Q = KK60 P := rfl
theorem kk_61 {P Q : sgPm} : KK61 Q = KK61 P := rfl
theorem kk_62 {P Q : sgPm} : KK62 Q = KK62 P := rfl
theorem kk_63 {P Q : sgPm} : KK63 Q = KK63 P := rfl
theorem kk_64 {P Q : sgPm} : KK64 Q = KK64 P := rfl
theorem kk_65 {P Q : sgPm} (h10 : Q.2.2.2.2.2.2.2.2.2.2.1 = P.2.2.2.2.2.2.2.2.2.2.1) : KK65 Q = KK65 P := by
  simp only [KK65, sgC1, sgN, sgPl, sgG0, sgGl, sgRw, sgW, sgNc, sgPin, sgTp, sgT1, sgL1, sgT2, sgL2, sgGm, h10]
theorem kk_66 {P Q : sgPm} : KK66 Q = KK66 P := rfl
theorem kk_67 {P Q : sgPm} (h21 : Q.2.2.2.2.2.2.2.2.2.2.2.2.2.2.2.2.2.2.2.2.2 = P.2.2.2.2.2.2.2.2.2.2.2.2.2.2.2.2.2.2.2.2.2) : KK67 Q = KK67 P := by
  simp only [KK67, sgC1, sgN, sgPl, sgG0, sgGl, sgRw, sgW, sgNc, sgPin, sgTp, sgT1, sgL1, sgT2, sgL2, sgGm, h21]
def sgS16 (Q P : sgPm) : Prop := Q.1 = P.1 ∧ Q.2.1 = P.2.1 ∧ Q.2.2.1 = P.2.2.1 ∧ Q.2.2.2.1 = P.2.2.2.1 ∧ Q.2.2.2.2.1 = P.2.2.2.2.1 ∧ Q.2.2.2.2.2.1 = P.2.2.2.2.2.1 ∧ Q.2.2.2.2.2.2.1 = P.2.2.2.2.2.2.1 ∧ Q.2.2.2.2.2.2.2.1 = P.2.2.2.2.2.2.2.1 ∧ Q.2.2.2.2.2.2.2.2.1 = P.2.2.2.2.2.2.2.2.1 ∧ Q.2.2.2.2.2.2.2.2.2.1 = P.2.2.2.2.2.2.2.2.2.1 ∧ Q.2.2.2.2.2.2.2.2.2.2.1 = P.2.2.2.2.2.2.2.2.2.2.1 ∧ Q.2.2.2.2.2.2.2.2.2.2.2.2.1 = P.2.2.2.2.2.2.2.2.2.2.2.2.1 ∧ Q.2.2.2.2.2.2.2.2.2.2.2.2.2.1 = P.2.2.2.2.2.2.2.2.2.2.2.2.2.1 ∧ Q.2.2.2.2.2.2.2.2.2.2.2.2.2.2.1 = P.2.2.2.2.2.2.2.2.2.2.2.2.2.2.1 ∧ Q.2.2.2.2.2.2.2.2.2.2.2.2.2.2.2.1 = P.2.2.2.2.2.2.2.2.2.2.2.2.2.2.2.1 ∧ Q.2.2.2.2.2.2.2.2.2.2.2.2.2.2.2.2.1 = P.2.2.2.2.2.2.2.2.2.2.2.2.2.2.2.2.1 ∧ Q.2.2.2.2.2.2.2.2.2.2.2.2.2.2.2.2.2.1 = P.2.2.2.2.2.2.2.2.2.2.2.2.2.2.2.2.2.1 ∧ Q.2.2.2.2.2.2.2.2.2.2.2.2.2.2.2.2.2.2.1 = P.2.2.2.2.2.2.2.2.2.2.2.2.2.2.2.2.2.2.1 ∧ Q.2.2.2.2.2.2.2.2.2.2.2.2.2.2.2.2.2.2.2.1 = P.2.2.2.2.2.2.2.2.2.2.2.2.2.2.2.2.2.2.2.1 ∧ Q.2.2.2.2.2.2.2.2.2.2.2.2.2.2.2.2.2.2.2.2.1 = P.2.2.2.2.2.2.2.2.2.2.2.2.2.2.2.2.2.2.2.2.1 ∧ Q.2.2.2.2.2.2.2.2.2.2.2.2.2.2.2.2.2.2.2.2.2 = P.2.2.2.2.2.2.2.2.2.2.2.2.2.2.2.2.2.2.2.2.2
theorem KT_but16 {B P Q : sgPm} (hq : sgS16 Q B) (hp : sgS16 P B) : ∀ i : Nat, i ≠ 16 → (KT Q)[i]? = (KT P)[i]? := by
  obtain ⟨q0, q1, q2, q3, q4, q5, q6, q7, q8, q9, q10, q12, q13, q14, q15, q16, q17, q18, q19, q20, q21⟩ := hq
  obtain ⟨p0, p1, p2, p3, p4, p5, p6, p7, p8, p9, p10, p12, p13, p14, p15, p16, p17, p18, p19, p20, p21⟩ := hp
  intro i hi
  match i, hi with
  | 0, hi => exact congrArg some kk_0
  | 1, hi => exact congrArg some kk_1
  | 2, hi => exact congrArg some (kk_2 (q1.trans p1.symm) (q2.trans p2.symm))
  | 3, hi => exact congrArg some kk_3
  | 4, hi => exact congrArg some kk_4
  | 5, hi => exact congrArg some kk_5
  | 6, hi => exact congrArg some kk_6
  | 7, hi => exact congrArg some kk_7
  | 8, hi => exact congrArg some (kk_8 (q0.trans p0.symm))
  | 9, hi => exact congrArg some kk_9
  | 10, hi => exact congrArg some (kk_10 (q18.trans p18.symm))
  | 11, hi => exact congrArg some (kk_11 (q3.trans p3.symm) (q6.trans p6.symm) (q7.trans p7.symm))
  | 12, hi => exact congrArg some (kk_12 (q4.trans p4.symm) (q5.trans p5.symm) (q8.trans p8.symm) (q9.trans p9.symm) (q15.trans p15.symm) (q20.trans p20.symm))
  | 13, hi => exact congrArg some kk_13
  | 14, hi => exact congrArg some kk_14
  | 15, hi => exact congrArg some kk_15
  | 16, hi => exact absurd rfl hi
  | 17, hi => exact congrArg some kk_17
  | 18, hi => exact congrArg some kk_18
  | 19, hi => exact congrArg some kk_19
  | 20, hi => exact congrArg some kk_20
  | 21, hi => exact congrArg some kk_21
  | 22, hi => exact congrArg some kk_22
  | 23, hi => exact congrArg some kk_23
  | 24, hi => exact congrArg some kk_24
  | 25, hi => exact congrArg some kk_25
  | 26, hi => exact congrArg some kk_26
  | 27, hi => exact congrArg some kk_27
  | 28, hi => exact congrArg some kk_28
  | 29, hi => exact congrArg some kk_29
  | 30, hi => exact congrArg some kk_30
  | 31, hi => exact congrArg some kk_31
  | 32, hi => exact congrArg some kk_32
  | 33, hi => exact congrArg some kk_33
  | 34, hi => exact congrArg some kk_34
  | 35, hi => exact congrArg some kk_35
  | 36, hi => exact congrArg some kk_36
  | 37, hi => exact congrArg some kk_37
  | 38, hi => exact congrArg some kk_38
  | 39, hi => exact congrArg some kk_39
  | 40, hi => exact congrArg some kk_40
  | 41, hi => exact congrArg some kk_41
  | 42, hi => exact congrArg some (kk_42 (q17.trans p17.symm))
  | 43, hi => exact congrArg some kk_43
  | 44, hi => exact congrArg some kk_44
  | 45, hi => exact congrArg some (kk_45 (q19.trans p19.symm))
  | 46, hi => exact congrArg some kk_46
  | 47, hi => exact congrArg some kk_47
  | 48, hi => exact congrArg some kk_48
  | 49, hi => exact congrArg some (kk_49 (q4.trans p4.symm) (q14.trans p14.symm))
  | 50, hi => exact congrArg some kk_50
  | 51, hi => exact congrArg some kk_51
  | 52, hi => exact congrArg some (kk_52 (q12.trans p12.symm))
  | 53, hi => exact congrArg some (kk_53 (q13.trans p13.symm))
  | 54, hi => exact congrArg some (kk_54 (q10.trans p10.symm) (q16.trans p16.symm))
  | 55, hi => exact congrArg some (kk_55 (q10.trans p10.symm))
  | 56, hi => exact congrArg some kk_56
  | 57, hi => exact congrArg some kk_57
  | 58, hi => exact congrArg some (kk_58 (q10.trans p10.symm))
  | 59, hi => exact congrArg some kk_59
  | 60, hi => exact congrArg some kk_60
  | 61, hi => exact congrArg some kk_61
  | 62, hi => exact congrArg some kk_62
  | 63, hi => exact congrArg some kk_63
  | 64, hi => exact congrArg some kk_64
  | 65, hi => exact congrArg some (kk_65 (q10.trans p10.symm))
  | 66, hi => exact congrArg some kk_66
  | 67, hi => exact congrArg some (kk_67 (q21.trans p21.symm))
  | i + 68, hi => rfl
def sgS52 (Q P : sgPm) : Prop := Q.1 = P.1 ∧ Q.2.1 = P.2.1 ∧ Q.2.2.1 = P.2.2.1 ∧ Q.2.2.2.1 = P.2.2.2.1 ∧ Q.2.2.2.2.1 = P.2.2.2.2.1 ∧ Q.2.2.2.2.2.1 = P.2.2.2.2.2.1 ∧ Q.2.2.2.2.2.2.1 = P.2.2.2.2.2.2.1 ∧ Q.2.2.2.2.2.2.2.1 = P.2.2.2.2.2.2.2.1 ∧ Q.2.2.2.2.2.2.2.2.1 = P.2.2.2.2.2.2.2.2.1 ∧ Q.2.2.2.2.2.2.2.2.2.1 = P.2.2.2.2.2.2.2.2.2.1 ∧ Q.2.2.2.2.2.2.2.2.2.2.1 = P.2.2.2.2.2.2.2.2.2.2.1 ∧ Q.2.2.2.2.2.2.2.2.2.2.2.1 = P.2.2.2.2.2.2.2.2.2.2.2.1 ∧ Q.2.2.2.2.2.2.2.2.2.2.2.2.2.1 = P.2.2.2.2.2.2.2.2.2.2.2.2.2.1 ∧ Q.2.2.2.2.2.2.2.2.2.2.2.2.2.2.1 = P.2.2.2.2.2.2.2.2.2.2.2.2.2.2.1 ∧ Q.2.2.2.2.2.2.2.2.2.2.2.2.2.2.2.1 = P.2.2.2.2.2.2.2.2.2.2.2.2.2.2.2.1 ∧ Q.2.2.2.2.2.2.2.2.2.2.2.2.2.2.2.2.1 = P.2.2.2.2.2.2.2.2.2.2.2.2.2.2.2.2.1 ∧ Q.2.2.2.2.2.2.2.2.2.2.2.2.2.2.2.2.2.1 = P.2.2.2.2.2.2.2.2.2.2.2.2.2.2.2.2.2.1 ∧ Q.2.2.2.2.2.2.2.2.2.2.2.2.2.2.2.2.2.2.1 = P.2.2.2.2.2.2.2.2.2.2.2.2.2.2.2.2.2.2.1 ∧ Q.2.2.2.2.2.2.2.2.2.2.2.2.2.2.2.2.2.2.2.1 = P.2.2.2.2.2.2.2.2.2.2.2.2.2.2.2.2.2.2.2.1 ∧ Q.2.2.2.2.2.2.2.2.2.2.2.2.2.2.2.2.2.2.2.2.1 = P.2.2.2.2.2.2.2.2.2.2.2.2.2.2.2.2.2.2.2.2.1 ∧ Q.2.2.2.2.2.2.2.2.2.2.2.2.2.2.2.2.2.2.2.2.2 = P.2.2.2.2.2.2.2.2.2.2.2.2.2.2.2.2.2.2.2.2.2
theorem KT_but52 {B P Q : sgPm} (hq : sgS52 Q B) (hp : sgS52 P B) : ∀ i : Nat, i ≠ 52 → (KT Q)[i]? = (KT P)[i]? := by
  obtain ⟨q0, q1, q2, q3, q4, q5, q6, q7, q8, q9, q10, q11, q13, q14, q15, q16, q17, q18, q19, q20, q21⟩ := hq
  obtain ⟨p0, p1, p2, p3, p4, p5, p6, p7, p8, p9, p10, p11, p13, p14, p15, p16, p17, p18, p19, p20, p21⟩ := hp
  intro i hi
  match i, hi with
  | 0, hi => exact congrArg some kk_0
  | 1, hi => exact congrArg some kk_1
  | 2, hi => exact congrArg some (kk_2 (q1.trans p1.symm) (q2.trans p2.symm))
  | 3, hi => exact congrArg some kk_3
  | 4, hi => exact congrArg some kk_4
  | 5, hi => exact congrArg some kk_5
  | 6, hi => exact congrArg some kk_6
  | 7, hi => exact congrArg some kk_7
  | 8, hi => exact congrArg some (kk_8 (q0.trans p0.symm))
  | 9, hi => exact congrArg some kk_9
  | 10, hi => exact congrArg some (kk_10 (q18.trans p18.symm))
  | 11, hi => exact congrArg some (kk_11 (q3.trans p3.symm) (q6.trans p6.symm) (q7.trans p7.symm))
  | 12, hi => exact congrArg some (kk_12 (q4.trans p4.symm) (q5.trans p5.symm) (q8.trans p8.symm) (q9.trans p9.symm) (q15.trans p15.symm) (q20.trans p20.symm))
  | 13, hi => exact congrArg some kk_13
  | 14, hi => exact congrArg some kk_14
  | 15, hi => exact congrArg some kk_15
  | 16, hi => exact congrArg some (kk_16 (q11.trans p11.symm))
  | 17, hi => exact congrArg some kk_17
  | 18, hi => exact congrArg some kk_18
  | 19, hi => exact congrArg some kk_19
  | 20, hi => exact congrArg some kk_20
  | 21, hi => exact congrArg some kk_21
  | 22, hi => exact congrArg some kk_22
  | 23, hi => exact congrArg some kk_23
  | 24, hi => exact congrArg some kk_24
  | 25, hi => exact congrArg some kk_25
  | 26, hi => exact congrArg some kk_26
  | 27, hi => exact congrArg some kk_27
  | 28, hi => exact congrArg some kk_28
  | 29, hi => exact congrArg some kk_29
  | 30, hi => exact congrArg some kk_30
  | 31, hi => exact congrArg some kk_31
  | 32, hi => exact congrArg some kk_32
  | 33, hi => exact congrArg some kk_33
  | 34, hi => exact congrArg some kk_34
  | 35, hi => exact congrArg some kk_35
  | 36, hi => exact congrArg some kk_36
  | 37, hi => exact congrArg some kk_37
  | 38, hi => exact congrArg some kk_38
  | 39, hi => exact congrArg some kk_39
  | 40, hi => exact congrArg some kk_40
  | 41, hi => exact congrArg some kk_41
  | 42, hi => exact congrArg some (kk_42 (q17.trans p17.symm))
  | 43, hi => exact congrArg some kk_43
  | 44, hi => exact congrArg some kk_44
  | 45, hi => exact congrArg some (kk_45 (q19.trans p19.symm))
  | 46, hi => exact congrArg some kk_46
  | 47, hi => exact congrArg some kk_47
  | 48, hi => exact congrArg some kk_48
  | 49, hi => exact congrArg some (kk_49 (q4.trans p4.symm) (q14.trans p14.symm))
  | 50, hi => exact congrArg some kk_50
  | 51, hi => exact congrArg some kk_51
  | 52, hi => exact absurd rfl hi
  | 53, hi => exact congrArg some (kk_53 (q13.trans p13.symm))
  | 54, hi => exact congrArg some (kk_54 (q10.trans p10.symm) (q16.trans p16.symm))
  | 55, hi => exact congrArg some (kk_55 (q10.trans p10.symm))
  | 56, hi => exact congrArg some kk_56
  | 57, hi => exact congrArg some kk_57
  | 58, hi => exact congrArg some (kk_58 (q10.trans p10.symm))
  | 59, hi => exact congrArg some kk_59
  | 60, hi => exact congrArg some kk_60
  | 61, hi => exact congrArg some kk_61
  | 62, hi => exact congrArg some kk_62
  | 63, hi => exact congrArg some kk_63
  | 64, hi => exact congrArg some kk_64
  | 65, hi => exact congrArg some (kk_65 (q10.trans p10.symm))
  | 66, hi => exact congrArg some kk_66
  | 67, hi => exact congrArg some (kk_67 (q21.trans p21.symm))
  | i + 68, hi => rfl
def sgS53 (Q P : sgPm) : Prop := Q.1 = P.1 ∧ Q.2.1 = P.2.1 ∧ Q.2.2.1 = P.2.2.1 ∧ Q.2.2.2.1 = P.2.2.2.1 ∧ Q.2.2.2.2.1 = P.2.2.2.2.1 ∧ Q.2.2.2.2.2.1 = P.2.2.2.2.2.1 ∧ Q.2.2.2.2.2.2.1 = P.2.2.2.2.2.2.1 ∧ Q.2.2.2.2.2.2.2.1 = P.2.2.2.2.2.2.2.1 ∧ Q.2.2.2.2.2.2.2.2.1 = P.2.2.2.2.2.2.2.2.1 ∧ Q.2.2.2.2.2.2.2.2.2.1 = P.2.2.2.2.2.2.2.2.2.1 ∧ Q.2.2.2.2.2.2.2.2.2.2.1 = P.2.2.2.2.2.2.2.2.2.2.1 ∧ Q.2.2.2.2.2.2.2.2.2.2.2.1 = P.2.2.2.2.2.2.2.2.2.2.2.1 ∧ Q.2.2.2.2.2.2.2.2.2.2.2.2.1 = P.2.2.2.2.2.2.2.2.2.2.2.2.1 ∧ Q.2.2.2.2.2.2.2.2.2.2.2.2.2.2.1 = P.2.2.2.2.2.2.2.2.2.2.2.2.2.2.1 ∧ Q.2.2.2.2.2.2.2.2.2.2.2.2.2.2.2.1 = P.2.2.2.2.2.2.2.2.2.2.2.2.2.2.2.1 ∧ Q.2.2.2.2.2.2.2.2.2.2.2.2.2.2.2.2.1 = P.2.2.2.2.2.2.2.2.2.2.2.2.2.2.2.2.1 ∧ Q.2.2.2.2.2.2.2.2.2.2.2.2.2.2.2.2.2.1 = P.2.2.2.2.2.2.2.2.2.2.2.2.2.2.2.2.2.1 ∧ Q.2.2.2.2.2.2.2.2.2.2.2.2.2.2.2.2.2.2.1 = P.2.2.2.2.2.2.2.2.2.2.2.2.2.2.2.2.2.2.1 ∧ Q.2.2.2.2.2.2.2.2.2.2.2.2.2.2.2.2.2.2.2.1 = P.2.2.2.2.2.2.2.2.2.2.2.2.2.2.2.2.2.2.2.1 ∧ Q.2.2.2.2.2.2.2.2.2.2.2.2.2.2.2.2.2.2.2.2.1 = P.2.2.2.2.2.2.2.2.2.2.2.2.2.2.2.2.2.2.2.2.1 ∧ Q.2.2.2.2.2.2.2.2.2.2.2.2.2.2.2.2.2.2.2.2.2 = P.2.2.2.2.2.2.2.2.2.2.2.2.2.2.2.2.2.2.2.2.2
theorem KT_but53 {B P Q : sgPm} (hq : sgS53 Q B) (hp : sgS53 P B) : ∀ i : Nat, i ≠ 53 → (KT Q)[i]? = (KT P)[i]? := by
  obtain ⟨q0, q1, q2, q3, q4, q5, q6, q7, q8, q9, q10, q11, q12, q14, q15, q16, q17, q18, q19, q20, q21⟩ := hq
  obtain ⟨p0, p1, p2, p3, p4, p5, p6, p7, p8, p9, p10, p11, p12, p14, p15, p16, p17, p18, p19, p20, p21⟩ := hp
  intro i hi
  match i, hi with
  | 0, hi => exact congrArg some kk_0
  | 1, hi => exact congrArg some kk_1
  | 2, hi => exact congrArg some (kk_2 (q1.trans p1.symm) (q2.trans p2.symm))
  | 3, hi => exact congrArg some kk_3
  | 4, hi => exact congrArg some kk_4
  | 5, hi => exact congrArg some kk_5
  | 6, hi => exact congrArg some kk_6
  | 7, hi => exact congrArg some kk_7
  | 8, hi => exact congrArg some (kk_8 (q0.trans p0.symm))
  | 9, hi => exact congrArg some kk_9
  | 10, hi => exact congrArg some (kk_10 (q18.trans p18.symm))
  | 11, hi => exact congrArg some (kk_11 (q3.trans p3.symm) (q6.trans p6.symm) (q7.trans p7.symm))
  | 12, hi => exact congrArg some (kk_12 (q4.trans p4.symm) (q5.trans p5.symm) (q8.trans p8.symm) (q9.trans p9.symm) (q15.trans p15.symm) (q20.trans p20.symm))
  | 13, hi => exact congrArg some kk_13
  | 14, hi => exact congrArg some kk_14
  | 15, hi => exact congrArg some kk_15
  | 16, hi => exact congrArg some (kk_16 (q11.trans p11.symm))
  | 17, hi => exact congrArg some kk_17
  | 18, hi => exact congrArg some kk_18
  | 19, hi => exact congrArg some kk_19
  | 20, hi => exact congrArg some kk_20
  | 21, hi => exact congrArg some kk_21
  | 22, hi => exact congrArg some kk_22
  | 23, hi => exact congrArg some kk_23
  | 24, hi => exact congrArg some kk_24
  | 25, hi => exact congrArg some kk_25
  | 26, hi => exact congrArg some kk_26
  | 27, hi => exact congrArg some kk_27
  | 28, hi => exact congrArg some kk_28
  | 29, hi => exact congrArg some kk_29
  | 30, hi => exact congrArg some kk_30
  | 31, hi => exact congrArg some kk_31
  | 32, hi => exact congrArg some kk_32
  | 33, hi => exact congrArg some kk_33
  | 34, hi => exact congrArg some kk_34
  | 35, hi => exact congrArg some kk_35
  | 36, hi => exact congrArg some kk_36
  | 37, hi => exact congrArg some kk_37
  | 38, hi => exact congrArg some kk_38
  | 39, hi => exact congrArg some kk_39
  | 40, hi => exact congrArg some kk_40
  | 41, hi => exact congrArg some kk_41
  | 42, hi => exact congrArg some (kk_42 (q17.trans p17.symm))
  | 43, hi => exact congrArg some kk_43
  | 44, hi => exact congrArg some kk_44
  | 45, hi => exact congrArg some (kk_45 (q19.trans p19.symm))
  | 46, hi => exact congrArg some kk_46
  | 47, hi => exact congrArg some kk_47
  | 48, hi => exact congrArg some kk_48
  | 49, hi => exact congrArg some (kk_49 (q4.trans p4.symm) (q14.trans p14.symm))
  | 50, hi => exact congrArg some kk_50
  | 51, hi => exact congrArg some kk_51
  | 52, hi => exact congrArg some (kk_52 (q12.trans p12.symm))
  | 53, hi => exact absurd rfl hi
  | 54, hi => exact congrArg some (kk_54 (q10.trans p10.symm) (q16.trans p16.symm))
  | 55, hi => exact congrArg some (kk_55 (q10.trans p10.symm))
  | 56, hi => exact congrArg some kk_56
  | 57, hi => exact congrArg some kk_57
  | 58, hi => exact congrArg some (kk_58 (q10.trans p10.symm))
  | 59, hi => exact congrArg some kk_59
  | 60, hi => exact congrArg some kk_60
  | 61, hi => exact congrArg some kk_61
  | 62, hi => exact congrArg some kk_62
  | 63, hi => exact congrArg some kk_63
  | 64, hi => exact congrArg some kk_64
  | 65, hi => exact congrArg some (kk_65 (q10.trans p10.symm))
  | 66, hi => exact congrArg some kk_66
  | 67, hi => exact congrArg some (kk_67 (q21.trans p21.symm))
  | i + 68, hi => rfl
def sgS54 (Q P : sgPm) : Prop := Q.1 = P.1 ∧ Q.2.1 = P.2.1 ∧ Q.2.2.1 = P.2.2.1 ∧ Q.2.2.2.1 = P.2.2.2.1 ∧ Q.2.2.2.2.1 = P.2.2.2.2.1 ∧ Q.2.2.2.2.2.1 = P.2.2.2.2.2.1 ∧ Q.2.2.2.2.2.2.1 = P.2.2.2.2.2.2.1 ∧ Q.2.2.2.2.2.2.2.1 = P.2.2.2.2.2.2.2.1 ∧ Q.2.2.2.2.2.2.2.2.1 = P.2.2.2.2.2.2.2.2.1 ∧ Q.2.2.2.2.2.2.2.2.2.1 = P.2.2.2.2.2.2.2.2.2.1 ∧ Q.2.2.2.2.2.2.2.2.2.2.1 = P.2.2.2.2.2.2.2.2.2.2.1 ∧ Q.2.2.2.2.2.2.2.2.2.2.2.1 = P.2.2.2.2.2.2.2.2.2.2.2.1 ∧ Q.2.2.2.2.2.2.2.2.2.2.2.2.1 = P.2.2.2.2.2.2.2.2.2.2.2.2.1 ∧ Q.2.2.2.2.2.2.2.2.2.2.2.2.2.1 = P.2.2.2.2.2.2.2.2.2.2.2.2.2.1 ∧ Q.2.2.2.2.2.2.2.2.2.2.2.2.2.2.1 = P.2.2.2.2.2.2.2.2.2.2.2.2.2.2.1 ∧ Q.2.2.2.2.2.2.2.2.2.2.2.2.2.2.2.1 = P.2.2.2.2.2.2.2.2.2.2.2.2.2.2.2.1 ∧ Q.2.2.2.2.2.2.2.2.2.2.2.2.2.2.2.2.2.1 = P.2.2.2.2.2.2.2.2.2.2.2.2.2.2.2.2.2.1 ∧ Q.2.2.2.2.2.2.2.2.2.2.2.2.2.2.2.2.2.2.1 = P.2.2.2.2.2.2.2.2.2.2.2.2.2.2.2.2.2.2.1 ∧ Q.2.2.2.2.2.2.2.2.2.2.2.2.2.2.2.2.2.2.2.1 = P.2.2.2.2.2.2.2.2.2.2.2.2.2.2.2.2.2.2.2.1 ∧ Q.2.2.2.2.2.2.2.2.2.2.2.2.2.2.2.2.2.2.2.2.1 = P.2.2.2.2.2.2.2.2.2.2.2.2.2.2.2.2.2.2.2.2.1 ∧ Q.2.2.2.2.2.2.2.2.2.2.2.2.2.2.2.2.2.2.2.2.2 = P.2.2.2.2.2.2.2.2.2.2.2.2.2.2.2.2.2.2.2.2.2
theorem KT_but54 {B P Q : sgPm} (hq : sgS54 Q B) (hp : sgS54 P B) : ∀ i : Nat, i ≠ 54 → (KT Q)[i]? = (KT P)[i]? := by
  obtain ⟨q0, q1, q2, q3, q4, q5, q6, q7, q8, q9, q10, q11, q12, q13, q14, q15, q17, q18, q19, q20, q21⟩ := hq
  obtain ⟨p0, p1, p2, p3, p4, p5, p6, p7, p8, p9, p10, p11, p12, p13, p14, p15, p17, p18, p19, p20, p21⟩ := hp
  intro i hi
  match i, hi with
  | 0, hi => exact congrArg some kk_0
  | 1, hi => exact congrArg some kk_1
  | 2, hi => exact congrArg some (kk_2 (q1.trans p1.symm) (q2.trans p2.symm))
  | 3, hi => exact congrArg some kk_3
  | 4, hi => exact congrArg some kk_4
  | 5, hi => exact congrArg some kk_5
  | 6, hi => exact congrArg some kk_6
  | 7, hi => exact congrArg some kk_7
  | 8, hi => exact congrArg some (kk_8 (q0.trans p0.symm))
  | 9, hi => exact congrArg some kk_9
  | 10, hi => exact congrArg some (kk_10 (q18.trans p18.symm))
  | 11, hi => exact congrArg some (kk_11 (q3.trans p3.symm) (q6.trans p6.symm) (q7.trans p7.symm))
  | 12, hi => exact congrArg some (kk_12 (q4.trans p4.symm) (q5.trans p5.symm) (q8.trans p8.symm) (q9.trans p9.symm) (q15.trans p15.symm) (q20.trans p20.symm))
  | 13, hi => exact congrArg some kk_13
  | 14, hi => exact congrArg some kk_14
  | 15, hi => exact congrArg some kk_15
  | 16, hi => exact congrArg some (kk_16 (q11.trans p11.symm))
  | 17, hi => exact congrArg some kk_17
  | 18, hi => exact congrArg some kk_18
  | 19, hi => exact congrArg some kk_19
  | 20, hi => exact congrArg some kk_20
  | 21, hi => exact congrArg some kk_21
  | 22, hi => exact congrArg some kk_22
  | 23, hi => exact congrArg some kk_23
  | 24, hi => exact congrArg some kk_24
  | 25, hi => exact congrArg some kk_25
  | 26, hi => exact congrArg some kk_26
  | 27, hi => exact congrArg some kk_27
  | 28, hi => exact congrArg some kk_28
  | 29, hi => exact congrArg some kk_29
  | 30, hi => exact congrArg some kk_30
  | 31, hi => exact congrArg some kk_31
  | 32, hi => exact congrArg some kk_32
  | 33, hi => exact congrArg some kk_33
  | 34, hi => exact congrArg some kk_34
  | 35, hi => exact congrArg some kk_35
  | 36, hi => exact congrArg some kk_36
  | 37, hi => exact congrArg some kk_37
  | 38, hi => exact congrArg some kk_38
  | 39, hi => exact congrArg some kk_39
  | 40, hi => exact congrArg some kk_40
  | 41, hi => exact congrArg some kk_41
  | 42, hi => exact congrArg some (kk_42 (q17.trans p17.symm))
  | 43, hi => exact congrArg some kk_43
  | 44, hi => exact congrArg some kk_44
  | 45, hi => exact congrArg some (kk_45 (q19.trans p19.symm))
  | 46, hi => exact congrArg some kk_46
  | 47, hi => exact congrArg some kk_47
  | 48, hi => exact congrArg some kk_48
  | 49, hi => exact congrArg some (kk_49 (q4.trans p4.symm) (q14.trans p14.symm))
  | 50, hi => exact congrArg some kk_50
  | 51, hi => exact congrArg some kk_51
  | 52, hi => exact congrArg some (kk_52 (q12.trans p12.symm))
  | 53, hi => exact congrArg some (kk_53 (q13.trans p13.symm))
  | 54, hi => exact absurd rfl hi
  | 55, hi => exact congrArg some (kk_55 (q10.trans p10.symm))
  | 56, hi => exact congrArg some kk_56
  | 57, hi => exact congrArg some kk_57
  | 58, hi => exact congrArg some (kk_58 (q10.trans p10.symm))
  | 59, hi => exact congrArg some kk_59
  | 60, hi => exact congrArg some kk_60
  | 61, hi => exact congrArg some kk_61
  | 62, hi => exact congrArg some kk_62
  | 63, hi => exact congrArg some kk_63
  | 64, hi => exact congrArg some kk_64
  | 65, hi => exact congrArg some (kk_65 (q10.trans p10.symm))
  | 66, hi => exact congrArg some kk_66
  | 67, hi => exact congrArg some (kk_67 (q21.trans p21.symm))
  | i + 68, hi => rfl
def sgS42 (Q P : sgPm) : Prop := Q.1 = P.1 ∧ Q.2.1 = P.2.1 ∧ Q.2.2.1 = P.2.2.1 ∧ Q.2.2.2.1 = P.2.2.2.1 ∧ Q.2.2.2.2.1 = P.2.2.2.2.1 ∧ Q.2.2.2.2.2.1 = P.2.2.2.2.2.1 ∧ Q.2.2.2.2.2.2.1 = P.2.2.2.2.2.2.1 ∧ Q.2.2.2.2.2.2.2.1 = P.2.2.2.2.2.2.2.1 ∧ Q.2.2.2.2.2.2.2.2.1 = P.2.2.2.2.2.2.2.2.1 ∧ Q.2.2.2.2.2.2.2.2.2.1 = P.2.2.2.2.2.2.2.2.2.1 ∧ Q.2.2.2.2.2.2.2.2.2.2.1 = P.2.2.2.2.2.2.2.2.2.2.1 ∧ Q.2.2.2.2.2.2.2.2.2.2.2.1 = P.2.2.2.2.2.2.2.2.2.2.2.1 ∧ Q.2.2.2.2.2.2.2.2.2.2.2.2.1 = P.2.2.2.2.2.2.2.2.2.2.2.2.1 ∧ Q.2.2.2.2.2.2.2.2.2.2.2.2.2.1 = P.2.2.2.2.2.2.2.2.2.2.2.2.2.1 ∧ Q.2.2.2.2.2.2.2.2.2.2.2.2.2.2.1 = P.2.2.2.2.2.2.2.2.2.2.2.2.2.2.1 ∧ Q.2.2.2.2.2.2.2.2.2.2.2.2.2.2.2.1 = P.2.2.2.2.2.2.2.2.2.2.2.2.2.2.2.1 ∧ Q.2.2.2.2.2.2.2.2.2.2.2.2.2.2.2.2.1 = P.2.2.2.2.2.2.2.2.2.2.2.2.2.2.2.2.1 ∧ Q.2.2.2.2.2.2.2.2.2.2.2.2.2.2.2.2.2.2.1 = P.2.2.2.2.2.2.2.2.2.2.2.2.2.2.2.2.2.2.1 ∧ Q.2.2.2.2.2.2.2.2.2.2.2.2.2.2.2.2.2.2.2.1 = P.2.2.2.2.2.2.2.2.2.2.2.2.2.2.2.2.2.2.2.1 ∧ Q.2.2.2.2.2.2.2.2.2.2.2.2.2.2.2.2.2.2.2.2.1 = P.2.2.2.2.2.2.2.2.2.2.2.2.2.2.2.2.2.2.2.2.1 ∧ Q.2.2.2.2.2.2.2.2.2.2.2.2.2.2.2.2.2.2.2.2.2 = P.2.2.2.2.2.2.2.2.2.2.2.2.2.2.2.2.2.2.2.2.2
theorem KT_but42 {B P Q : sgPm} (hq : sgS42 Q B) (hp : sgS42 P B) : ∀ i : Nat, i ≠ 42 → (KT Q)[i]? = (KT P)[i]? := by
  obtain ⟨q0, q1, q2, q3, q4, q5, q6, q7, q8, q9, q10, q11, q12, q13, q14, q15, q16, q18, q19, q20, q21⟩ := hq
  obtain ⟨p0, p1, p2, p3, p4, p5, p6, p7, p8, p9, p10, p11, p12, p13, p14, p15, p16, p18, p19, p20, p21⟩ := hp
  intro i hi
  match i, hi with
  | 0, hi => exact congrArg some kk_0
  | 1, hi => exact congrArg some kk_1
  | 2, hi => exact congrArg some (kk_2 (q1.trans p1.symm) (q2.trans p2.symm))
  | 3, hi => exact congrArg some kk_3
  | 4, hi => exact congrArg some kk_4
  | 5, hi => exact congrArg some kk_5
  | 6, hi => exact congrArg some kk_6
  | 7, hi => exact congrArg some kk_7
  | 8, hi => exact congrArg some (kk_8 (q0.trans p0.symm))
  | 9, hi => exact congrArg some kk_9
  | 10, hi => exact congrArg some (kk_10 (q18.trans p18.symm))
  | 11, hi => exact congrArg some (kk_11 (q3.trans p3.symm) (q6.trans p6.symm) (q7.trans p7.symm))
  | 12, hi => exact congrArg some (kk_12 (q4.trans p4.symm) (q5.trans p5.symm) (q8.trans p8.symm) (q9.trans p9.symm) (q15.trans p15.symm) (q20.trans p20.symm))
  | 13, hi => exact congrArg some kk_13
  | 14, hi => exact congrArg some kk_14
  | 15, hi => exact congrArg some kk_15
  | 16, hi => exact congrArg some (kk_16 (q11.trans p11.symm))
  | 17, hi => exact congrArg some kk_17
  | 18, hi => exact congrArg some kk_18
  | 19, hi => exact congrArg some kk_19
  | 20, hi => exact congrArg some kk_20
  | 21, hi => exact congrArg some kk_21
  | 22, hi => exact congrArg some kk_22
  | 23, hi => exact congrArg some kk_23
  | 24, hi => exact congrArg some kk_24
  | 25, hi => exact congrArg some kk_25
  | 26, hi => exact congrArg some kk_26
  | 27, hi => exact congrArg some kk_27
  | 28, hi => exact congrArg some kk_28
  | 29, hi => exact congrArg some kk_29
  | 30, hi => exact congrArg some kk_30
  | 31, hi => exact congrArg some kk_31
  | 32, hi => exact congrArg some kk_32
  | 33, hi => exact congrArg some kk_33
  | 34, hi => exact congrArg some kk_34
  | 35, hi => exact congrArg some kk_35
  | 36, hi => exact congrArg some kk_36
  | 37, hi => exact congrArg some kk_37
  | 38, hi => exact congrArg some kk_38
  | 39, hi => exact congrArg some kk_39
  | 40, hi => exact congrArg some kk_40
  | 41, hi => exact congrArg some kk_41
  | 42, hi => exact absurd rfl hi
  | 43, hi => exact congrArg some kk_43
  | 44, hi => exact congrArg some kk_44
  | 45, hi => exact congrArg some (kk_45 (q19.trans p19.symm))
  | 46, hi => exact congrArg some kk_46
  | 47, hi => exact congrArg some kk_47
  | 48, hi => exact congrArg some kk_48
  | 49, hi => exact congrArg some (kk_49 (q4.trans p4.symm) (q14.trans p14.symm))
  | 50, hi => exact congrArg some kk_50
  | 51, hi => exact congrArg some kk_51
  | 52, hi => exact congrArg some (kk_52 (q12.trans p12.symm))
  | 53, hi => exact congrArg some (kk_53 (q13.trans p13.symm))
  | 54, hi => exact congrArg some (kk_54 (q10.trans p10.symm) (q16.trans p16.symm))
  | 55, hi => exact congrArg some (kk_55 (q10.trans p10.symm))
  | 56, hi => exact congrArg some kk_56
  | 57, hi => exact congrArg some kk_57
  | 58, hi => exact congrArg some (kk_58 (q10.trans p10.symm))
  | 59, hi => exact congrArg some kk_59
  | 60, hi => exact congrArg some kk_60
  | 61, hi => exact congrArg some kk_61
  | 62, hi => exact congrArg some kk_62
  | 63, hi => exact congrArg some kk_63
  | 64, hi => exact congrArg some kk_64
  | 65, hi => exact congrArg some (kk_65 (q10.trans p10.symm))
  | 66, hi => exact congrArg some kk_66
  | 67, hi => exact congrArg some (kk_67 (q21.trans p21.symm))
  | i + 68, hi => rfl
def sgS10 (Q P : sgPm) : Prop := Q.1 = P.1 ∧ Q.2.1 = P.2.1 ∧ Q.2.2.1 = P.2.2.1 ∧ Q.2.2.2.1 = P.2.2.2.1 ∧ Q.2.2.2.2.1 = P.2.2.2.2.1 ∧ Q.2.2.2.2.2.1 = P.2.2.2.2.2.1 ∧ Q.2.2.2.2.2.2.1 = P.2.2.2.2.2.2.1 ∧ Q.2.2.2.2.2.2.2.1 = P.2.2.2.2.2.2.2.1 ∧ Q.2.2.2.2.2.2.2.2.1 = P.2.2.2.2.2.2.2.2.1 ∧ Q.2.2.2.2.2.2.2.2.2.1 = P.2.2.2.2.2.2.2.2.2.1 ∧ Q.2.2.2.2.2.2.2.2.2.2.1 = P.2.2.2.2.2.2.2.2.2.2.1 ∧ Q.2.2.2.2.2.2.2.2.2.2.2.1 = P.2.2.2.2.2.2.2.2.2.2.2.1 ∧ Q.2.2.2.2.2.2.2.2.2.2.2.2.1 = P.2.2.2.2.2.2.2.2.2.2.2.2.1 ∧ Q.2.2.2.2.2.2.2.2.2.2.2.2.2.1 = P.2.2.2.2.2.2.2.2.2.2.2.2.2.1 ∧ Q.2.2.2.2.2.2.2.2.2.2.2.2.2.2.1 = P.2.2.2.2.2.2.2.2.2.2.2.2.2.2.1 ∧ Q.2.2.2.2.2.2.2.2.2.2.2.2.2.2.2.1 = P.2.2.2.2.2.2.2.2.2.2.2.2.2.2.2.1 ∧ Q.2.2.2.2.2.2.2.2.2.2.2.2.2.2.2.2.1 = P.2.2.2.2.2.2.2.2.2.2.2.2.2.2.2.2.1 ∧ Q.2.2.2.2.2.2.2.2.2.2.2.2.2.2.2.2.2.1 = P.2.2.2.2.2.2.2.2.2.2.2.2.2.2.2.2.2.1 ∧ Q.2.2.2.2.2.2.2.2.2.2.2.2.2.2.2.2.2.2.2.1 = P.2.2.2.2.2.2.2.2.2.2.2.2.2.2.2.2.2.2.2.1 ∧ Q.2.2.2.2.2.2.2.2.2.2.2.2.2.2.2.2.2.2.2.2.1 = P.2.2.2.2.2.2.2.2.2.2.2.2.2.2.2.2.2.2.2.2.1 ∧ Q.2.2.2.2.2.2.2.2.2.2.2.2.2.2.2.2.2.2.2.2.2 = P.2.2.2.2.2.2.2.2.2.2.2.2.2.2.2.2.2.2.2.2.2
theorem KT_but10 {B P Q : sgPm} (hq : sgS10 Q B) (hp : sgS10 P B) : ∀ i : Nat, i ≠ 10 → (KT Q)[i]? = (KT P)[i]? := by
  obtain ⟨q0, q1, q2, q3, q4, q5, q6, q7, q8, q9, q10, q11, q12, q13, q14, q15, q16, q17, q19, q20, q21⟩ := hq
  obtain ⟨p0, p1, p2, p3, p4, p5, p6, p7, p8, p9, p10, p11, p12, p13, p14, p15, p16, p17, p19, p20, p21⟩ := hp
  intro i hi
  match i, hi with
  | 0, hi => exact congrArg some kk_0
  | 1, hi => exact congrArg some kk_1
  | 2, hi => exact congrArg some (kk_2 (q1.trans p1.symm) (q2.trans p2.symm))
  | 3, hi => exact congrArg some kk_3
  | 4, hi => exact congrArg some kk_4
  | 5, hi => exact congrArg some kk_5
  | 6, hi => exact congrArg some kk_6
  | 7, hi => exact congrArg some kk_7
  | 8, hi => exact congrArg some (kk_8 (q0.trans p0.symm))
  | 9, hi => exact congrArg some kk_9
  | 10, hi => exact absurd rfl hi
  | 11, hi => exact congrArg some (kk_11 (q3.trans p3.symm) (q6.trans p6.symm) (q7.trans p7.symm))
  | 12, hi => exact congrArg some (kk_12 (q4.trans p4.symm) (q5.trans p5.symm) (q8.trans p8.symm) (q9.trans p9.symm) (q15.trans p15.symm) (q20.trans p20.symm))
  | 13, hi => exact congrArg some kk_13
  | 14, hi => exact congrArg some kk_14
  | 15, hi => exact congrArg some kk_15
  | 16, hi => exact congrArg some (kk_16 (q11.trans p11.symm))
  | 17, hi => exact congrArg some kk_17
  | 18, hi => exact congrArg some kk_18
  | 19, hi => exact congrArg some kk_19
  | 20, hi => exact congrArg some kk_20
  | 21, hi => exact congrArg some kk_21
  | 22, hi => exact congrArg some kk_22
  | 23, hi => exact congrArg some kk_23
  | 24, hi => exact congrArg some kk_24
  | 25, hi => exact congrArg some kk_25
  | 26, hi => exact congrArg some kk_26
  | 27, hi => exact congrArg some kk_27
  | 28, hi => exact congrArg some kk_28
  | 29, hi => exact congrArg some kk_29
  | 30, hi => exact congrArg some kk_30
  | 31, hi => exact congrArg some kk_31
  | 32, hi => exact congrArg some kk_32
  | 33, hi => exact congrArg some kk_33
  | 34, hi => exact congrArg some kk_34
  | 35, hi => exact congrArg some kk_35
  | 36, hi => exact congrArg some kk_36
  | 37, hi => exact congrArg some kk_37
  | 38, hi => exact congrArg some kk_38
  | 39, hi => exact congrArg some kk_39
  | 40, hi => exact congrArg some kk_40
  | 41, hi => exact congrArg some kk_41
  | 42, hi => exact congrArg some (kk_42 (q17.trans p17.symm))
  | 43, hi => exact congrArg some kk_43
  | 44, hi => exact congrArg some kk_44
  | 45, hi => exact congrArg some (kk_45 (q19.trans p19.symm))
  | 46, hi => exact congrArg some kk_46
  | 47, hi => exact congrArg some kk_47
  | 48, hi => exact congrArg some kk_48
  | 49, hi => exact congrArg some (kk_49 (q4.trans p4.symm) (q14.trans p14.symm))
  | 50, hi => exact congrArg some kk_50
  | 51, hi => exact congrArg some kk_51
  | 52, hi => exact congrArg some (kk_52 (q12.trans p12.symm))
  | 53, hi => exact congrArg some (kk_53 (q13.trans p13.symm))
  | 54, hi => exact congrArg some (kk_54 (q10.trans p10.symm) (q16.trans p16.symm))
  | 55, hi => exact congrArg some (kk_55 (q10.trans p10.symm))
  | 56, hi => exact congrArg some kk_56
  | 57, hi => exact congrArg some kk_57
  | 58, hi => exact congrArg some (kk_58 (q10.trans p10.symm))
  | 59, hi => exact congrArg some kk_59
  | 60, hi => exact congrArg some kk_60
  | 61, hi => exact congrArg some kk_61
  | 62, hi => exact congrArg some kk_62
  | 63, hi => exact congrArg some kk_63
  | 64, hi => exact congrArg some kk_64
  | 65, hi => exact congrArg some (kk_65 (q10.trans p10.symm))
  | 66, hi => exact congrArg some kk_66
  | 67, hi => exact congrArg some (kk_67 (q21.trans p21.symm))
  | i + 68, hi => rfl
def sgS45 (Q P : sgPm) : Prop := Q.1 = P.1 ∧ Q.2.1 = P.2.1 ∧ Q.2.2.1 = P.2.2.1 ∧ Q.2.2.2.1 = P.2.2.2.1 ∧ Q.2.2.2.2.1 = P.2.2.2.2.1 ∧ Q.2.2.2.2.2.1 = P.2.2.2.2.2.1 ∧ Q.2.2.2.2.2.2.1 = P.2.2.2.2.2.2.1 ∧ Q.2.2.2.2.2.2.2.1 = P.2.2.2.2.2.2.2.1 ∧ Q.2.2.2.2.2.2.2.2.1 = P.2.2.2.2.2.2.2.2.1 ∧ Q.2.2.2.2.2.2.2.2.2.1 = P.2.2.2.2.2.2.2.2.2.1 ∧ Q.2.2.2.2.2.2.2.2.2.2.1 = P.2.2.2.2.2.2.2.2.2.2.1 ∧ Q.2.2.2.2.2.2.2.2.2.2.2.1 = P.2.2.2.2.2.2.2.2.2.2.2.1 ∧ Q.2.2.2.2.2.2.2.2.2.2.2.2.1 = P.2.2.2.2.2.2.2.2.2.2.2.2.1 ∧ Q.2.2.2.2.2.2.2.2.2.2.2.2.2.1 = P.2.2.2.2.2.2.2.2.2.2.2.2.2.1 ∧ Q.2.2.2.2.2.2.2.2.2.2.2.2.2.2.1 = P.2.2.2.2.2.2.2.2.2.2.2.2.2.2.1 ∧ Q.2.2.2.2.2.2.2.2.2.2.2.2.2.2.2.1 = P.2.2.2.2.2.2.2.2.2.2.2.2.2.2.2.1 ∧ Q.2.2.2.2.2.2.2.2.2.2.2.2.2.2.2.2.1 = P.2.2.2.2.2.2.2.2.2.2.2.2.2.2.2.2.1 ∧ Q.2.2.2.2.2.2.2.2.2.2.2.2.2.2.2.2.2.1 = P.2.2.2.2.2.2.2.2.2.2.2.2.2.2.2.2.2.1 ∧ Q.2.2.2.2.2.2.2.2.2.2.2.2.2.2.2.2.2.2.1 = P.2.2.2.2.2.2.2.2.2.2.2.2.2.2.2.2.2.2.1 ∧ Q.2.2.2.2.2.2.2.2.2.2.2.2.2.2.2.2.2.2.2.2.1 = P.2.2.2.2.2.2.2.2.2.2.2.2.2.2.2.2.2.2.2.2.1 ∧ Q.2.2.2.2.2.2.2.2.2.2.2.2.2.2.2.2.2.2.2.2.2 = P.2.2.2.2.2.2.2.2.2.2.2.2.2.2.2.2.2.2.2.2.2
theorem KT_but45 {B P Q : sgPm} (hq : sgS45 Q B) (hp : sgS45 P B) : ∀ i : Nat, i ≠ 45 → (KT Q)[i]? = (KT P)[i]? := by
  obtain ⟨q0, q1, q2, q3, q4, q5, q6, q7, q8, q9, q10, q11, q12, q13, q14, q15, q16, q17, q18, q20, q21⟩ := hq
  obtain ⟨p0, p1, p2, p3, p4, p5, p6, p7, p8, p9, p10, p11, p12, p13, p14, p15, p16, p17, p18, p20, p21⟩ := hp
  intro i hi
  match i, hi with
  | 0, hi => exact congrArg some kk_0
  | 1, hi => exact congrArg some kk_1
  | 2, hi => exact congrArg some (kk_2 (q1.trans p1.symm) (q2.trans p2.symm))
  | 3, hi => exact congrArg some kk_3
  | 4, hi => exact congrArg some kk_4
  | 5, hi => exact congrArg some kk_5
  | 6, hi => exact congrArg some kk_6
  | 7, hi => exact congrArg some kk_7
  | 8, hi => exact congrArg some (kk_8 (q0.trans p0.symm))
  | 9, hi => exact congrArg some kk_9
  | 10, hi => exact congrArg some (kk_10 (q18.trans p18.symm))
  | 11, hi => exact congrArg some (kk_11 (q3.trans p3.symm) (q6.trans p6.symm) (q7.trans p7.symm))
  | 12, hi => exact congrArg some (kk_12 (q4.trans p4.symm) (q5.trans p5.symm) (q8.trans p8.symm) (q9.trans p9.symm) (q15.trans p15.symm) (q20.trans p20.symm))
  | 13, hi => exact congrArg some kk_13
  | 14, hi => exact congrArg some kk_14
  | 15, hi => exact congrArg some kk_15
  | 16, hi => exact congrArg some (kk_16 (q11.trans p11.symm))
  | 17, hi => exact congrArg some kk_17
  | 18, hi => exact congrArg some kk_18
  | 19, hi => exact congrArg some kk_19
  | 20, hi => exact congrArg some kk_20
  | 21, hi => exact congrArg some kk_21
  | 22, hi => exact congrArg some kk_22
  | 23, hi => exact congrArg some kk_23
  | 24, hi => exact congrArg some kk_24
  | 25, hi => exact congrArg some kk_25
  | 26, hi => exact congrArg some kk_26
  | 27, hi => exact congrArg some kk_27
  | 28, hi => exact congrArg some kk_28
  | 29, hi => exact congrArg some kk_29
  | 30, hi => exact congrArg some kk_30
  | 31, hi => exact congrArg some kk_31
  | 32, hi => exact congrArg some kk_32
  | 33, hi => exact congrArg some kk_33
  | 34, hi => exact congrArg some kk_34
  | 35, hi => exact congrArg some kk_35
  | 36, hi => exact congrArg some kk_36
  | 37, hi => exact congrArg some kk_37
  | 38, hi => exact congrArg some kk_38
  | 39, hi => exact congrArg some kk_39
  | 40, hi => exact congrArg some kk_40
  | 41, hi => exact congrArg some kk_41
  | 42, hi => exact congrArg some (kk_42 (q17.trans p17.symm))
  | 43, hi => exact congrArg some kk_43
  | 44, hi => exact congrArg some kk_44
  | 45, hi => exact absurd rfl hi
  | 46, hi => exact congrArg some kk_46
  | 47, hi => exact congrArg some kk_47
  | 48, hi => exact congrArg some kk_48
  | 49, hi => exact congrArg some (kk_49 (q4.trans p4.symm) (q14.trans p14.symm))
  | 50, hi => exact congrArg some kk_50
  | 51, hi => exact congrArg some kk_51
  | 52, hi => exact congrArg some (kk_52 (q12.trans p12.symm))
  | 53, hi => exact congrArg some (kk_53 (q13.trans p13.symm))
  | 54, hi => exact congrArg some (kk_54 (q10.trans p10.symm) (q16.trans p16.symm))
  | 55, hi => exact congrArg some (kk_55 (q10.trans p10.symm))
  | 56, hi => exact congrArg some kk_56
  | 57, hi => exact congrArg some kk_57
  | 58, hi => exact congrArg some (kk_58 (q10.trans p10.symm))
  | 59, hi => exact congrArg some kk_59
  | 60, hi => exact congrArg some kk_60
  | 61, hi => exact congrArg some kk_61
  | 62, hi => exact congrArg some kk_62
  | 63, hi => exact congrArg some kk_63
  | 64, hi => exact congrArg some kk_64
  | 65, hi => exact congrArg some (kk_65 (q10.trans p10.symm))
  | 66, hi => exact congrArg some kk_66
  | 67, hi => exact congrArg some (kk_67 (q21.trans p21.symm))
  | i + 68, hi => rfl
def sgS12 (Q P : sgPm) : Prop := Q.1 = P.1 ∧ Q.2.1 = P.2.1 ∧ Q.2.2.1 = P.2.2.1 ∧ Q.2.2.2.1 = P.2.2.2.1 ∧ Q.2.2.2.2.1 = P.2.2.2.2.1 ∧ Q.2.2.2.2.2.1 = P.2.2.2.2.2.1 ∧ Q.2.2.2.2.2.2.1 = P.2.2.2.2.2.2.1 ∧ Q.2.2.2.2.2.2.2.1 = P.2.2.2.2.2.2.2.1 ∧ Q.2.2.2.2.2.2.2.2.1 = P.2.2.2.2.2.2.2.2.1 ∧ Q.2.2.2.2.2.2.2.2.2.1 = P.2.2.2.2.2.2.2.2.2.1 ∧ Q.2.2.2.2.2.2.2.2.2.2.1 = P.2.2.2.2.2.2.2.2.2.2.1 ∧ Q.2.2.2.2.2.2.2.2.2.2.2.1 = P.2.2.2.2.2.2.2.2.2.2.2.1 ∧ Q.2.2.2.2.2.2.2.2.2.2.2.2.1 = P.2.2.2.2.2.2.2.2.2.2.2.2.1 ∧ Q.2.2.2.2.2.2.2.2.2.2.2.2.2.1 = P.2.2.2.2.2.2.2.2.2.2.2.2.2.1 ∧ Q.2.2.2.2.2.2.2.2.2.2.2.2.2.2.1 = P.2.2.2.2.2.2.2.2.2.2.2.2.2.2.1 ∧ Q.2.2.2.2.2.2.2.2.2.2.2.2.2.2.2.1 = P.2.2.2.2.2.2.2.2.2.2.2.2.2.2.2.1 ∧ Q.2.2.2.2.2.2.2.2.2.2.2.2.2.2.2.2.1 = P.2.2.2.2.2.2.2.2.2.2.2.2.2.2.2.2.1 ∧ Q.2.2.2.2.2.2.2.2.2.2.2.2.2.2.2.2.2.1 = P.2.2.2.2.2.2.2.2.2.2.2.2.2.2.2.2.2.1 ∧ Q.2.2.2.2.2.2.2.2.2.2.2.2.2.2.2.2.2.2.1 = P.2.2.2.2.2.2.2.2.2.2.2.2.2.2.2.2.2.2.1 ∧ Q.2.2.2.2.2.2.2.2.2.2.2.2.2.2.2.2.2.2.2.1 = P.2.2.2.2.2.2.2.2.2.2.2.2.2.2.2.2.2.2.2.1 ∧ Q.2.2.2.2.2.2.2.2.2.2.2.2.2.2.2.2.2.2.2.2.2 = P.2.2.2.2.2.2.2.2.2.2.2.2.2.2.2.2.2.2.2.2.2
theorem KT_but12 {B P Q : sgPm} (hq : sgS12 Q B) (hp : sgS12 P B) : ∀ i : Nat, i ≠ 12 → (KT Q)[i]? = (KT P)[i]? := by
  obtain ⟨q0, q1, q2, q3, q4, q5, q6, q7, q8, q9, q10, q11, q12, q13, q14, q15, q16, q17, q18, q19, q21⟩ := hq
  obtain ⟨p0, p1, p2, p3, p4, p5, p6, p7, p8, p9, p10, p11, p12, p13, p14, p15, p16, p17, p18, p19, p21⟩ := hp
  intro i hi
  match i, hi with
  | 0, hi => exact congrArg some kk_0
  | 1, hi => exact congrArg some kk_1
  | 2, hi => exact congrArg some (kk_2 (q1.trans p1.symm) (q2.trans p2.symm))
  | 3, hi => exact congrArg some kk_3
  | 4, hi => exact congrArg some kk_4
  | 5, hi => exact congrArg some kk_5
  | 6, hi => exact congrArg some kk_6
  | 7, hi => exact congrArg some kk_7
  | 8, hi => exact congrArg some (kk_8 (q0.trans p0.symm))
  | 9, hi => exact congrArg some kk_9
  | 10, hi => exact congrArg some (kk_10 (q18.trans p18.symm))
  | 11, hi => exact congrArg some (kk_11 (q3.trans p3.symm) (q6.trans p6.symm) (q7.trans p7.symm))
  | 12, hi => exact absurd rfl hi
  | 13, hi => exact congrArg some kk_13
  | 14, hi => exact congrArg some kk_14
  | 15, hi => exact congrArg some kk_15
  | 16, hi => exact congrArg some (kk_16 (q11.trans p11.symm))
  | 17, hi => exact congrArg some kk_17
  | 18, hi => exact congrArg some kk_18
  | 19, hi => exact congrArg some kk_19
  | 20, hi => exact congrArg some kk_20
  | 21, hi => exact congrArg some kk_21
  | 22, hi => exact congrArg some kk_22
  | 23, hi => exact congrArg some kk_23
  | 24, hi => exact congrArg some kk_24
  | 25, hi => exact congrArg some kk_25
  | 26, hi => exact congrArg some kk_26
  | 27, hi => exact congrArg some kk_27
  | 28, hi => exact congrArg some kk_28
  | 29, hi => exact congrArg some kk_29
  | 30, hi => exact congrArg some kk_30
  | 31, hi => exact congrArg some kk_31
  | 32, hi => exact congrArg some kk_32
  | 33, hi => exact congrArg some kk_33
  | 34, hi => exact congrArg some kk_34
  | 35, hi => exact congrArg some kk_35
  | 36, hi => exact congrArg some kk_36
  | 37, hi => exact congrArg some kk_37
  | 38, hi => exact congrArg some kk_38
  | 39, hi => exact congrArg some kk_39
  | 40, hi => exact congrArg some kk_40
  | 41, hi => exact congrArg some kk_41
  | 42, hi => exact congrArg some (kk_42 (q17.trans p17.symm))
  | 43, hi => exact congrArg some kk_43
  | 44, hi => exact congrArg some kk_44
  | 45, hi => exact congrArg some (kk_45 (q19.trans p19.symm))
  | 46, hi => exact congrArg some kk_46
  | 47, hi => exact congrArg some kk_47
  | 48, hi => exact congrArg some kk_48
  | 49, hi => exact congrArg some (kk_49 (q4.trans p4.symm) (q14.trans p14.symm))
  | 50, hi => exact congrArg some kk_50
  | 51, hi => exact congrArg some kk_51
  | 52, hi => exact congrArg some (kk_52 (q12.trans p12.symm))
  | 53, hi => exact congrArg some (kk_53 (q13.trans p13.symm))
  | 54, hi => exact congrArg some (kk_54 (q10.trans p10.symm) (q16.trans p16.symm))
  | 55, hi => exact congrArg some (kk_55 (q10.trans p10.symm))
  | 56, hi => exact congrArg some kk_56
  | 57, hi => exact congrArg some kk_57
  | 58, hi => exact congrArg some (kk_58 (q10.trans p10.symm))
  | 59, hi => exact congrArg some kk_59
  | 60, hi => exact congrArg some kk_60
  | 61, hi => exact congrArg some kk_61
  | 62, hi => exact congrArg some kk_62
  | 63, hi => exact congrArg some kk_63
  | 64, hi => exact congrArg some kk_64
  | 65, hi => exact congrArg some (kk_65 (q10.trans p10.symm))
  | 66, hi => exact congrArg some kk_66
  | 67, hi => exact congrArg some (kk_67 (q21.trans p21.symm))
  | i + 68, hi => rfl
def sgS67 (Q P : sgPm) : Prop := Q.1 = P.1 ∧ Q.2.1 = P.2.1 ∧ Q.2.2.1 = P.2.2.1 ∧ Q.2.2.2.1 = P.2.2.2.1 ∧ Q.2.2.2.2.1 = P.2.2.2.2.1 ∧ Q.2.2.2.2.2.1 = P.2.2.2.2.2.1 ∧ Q.2.2.2.2.2.2.1 = P.2.2.2.2.2.2.1 ∧ Q.2.2.2.2.2.2.2.1 = P.2.2.2.2.2.2.2.1 ∧ Q.2.2.2.2.2.2.2.2.1 = P.2.2.2.2.2.2.2.2.1 ∧ Q.2.2.2.2.2.2.2.2.2.1 = P.2.2.2.2.2.2.2.2.2.1 ∧ Q.2.2.2.2.2.2.2.2.2.2.1 = P.2.2.2.2.2.2.2.2.2.2.1 ∧ Q.2.2.2.2.2.2.2.2.2.2.2.1 = P.2.2.2.2.2.2.2.2.2.2.2.1 ∧ Q.2.2.2.2.2.2.2.2.2.2.2.2.1 = P.2.2.2.2.2.2.2.2.2.2.2.2.1 ∧ Q.2.2.2.2.2.2.2.2.2.2.2.2.2.1 = P.2.2.2.2.2.2.2.2.2.2.2.2.2.1 ∧ Q.2.2.2.2.2.2.2.2.2.2.2.2.2.2.1 = P.2.2.2.2.2.2.2.2.2.2.2.2.2.2.1 ∧ Q.2.2.2.2.2.2.2.2.2.2.2.2.2.2.2.1 = P.2.2.2.2.2.2.2.2.2.2.2.2.2.2.2.1 ∧ Q.2.2.2.2.2.2.2.2.2.2.2.2.2.2.2.2.1 = P.2.2.2.2.2.2.2.2.2.2.2.2.2.2.2.2.1 ∧ Q.2.2.2.2.2.2.2.2.2.2.2.2.2.2.2.2.2.1 = P.2.2.2.2.2.2.2.2.2.2.2.2.2.2.2.2.2.1 ∧ Q.2.2.2.2.2.2.2.2.2.2.2.2.2.2.2.2.2.2.1 = P.2.2.2.2.2.2.2.2.2.2.2.2.2.2.2.2.2.2.1 ∧ Q.2.2.2.2.2.2.2.2.2.2.2.2.2.2.2.2.2.2.2.1 = P.2.2.2.2.2.2.2.2.2.2.2.2.2.2.2.2.2.2.2.1 ∧ Q.2.2.2.2.2.2.2.2.2.2.2.2.2.2.2.2.2.2.2.2.1 = P.2.2.2.2.2.2.2.2.2.2.2.2.2.2.2.2.2.2.2.2.1
theorem KT_but67 {B P Q : sgPm} (hq : sgS67 Q B) (hp : sgS67 P B) : ∀ i : Nat, i ≠ 67 → (KT Q)[i]? = (KT P)[i]? := by
  obtain ⟨q0, q1, q2, q3, q4, q5, q6, q7, q8, q9, q10, q11, q12, q13, q14, q15, q16, q17, q18, q19, q20⟩ := hq
  obtain ⟨p0, p1, p2, p3, p4, p5, p6, p7, p8, p9, p10, p11, p12, p13, p14, p15, p16, p17, p18, p19, p20⟩ := hp
  intro i hi
  match i, hi with
  | 0, hi => exact congrArg some kk_0
  | 1, hi => exact congrArg some kk_1
  | 2, hi => exact congrArg some (kk_2 (q1.trans p1.symm) (q2.trans p2.symm))
  | 3, hi => exact congrArg some kk_3
  | 4, hi => exact congrArg some kk_4
  | 5, hi => exact congrArg some kk_5
  | 6, hi => exact congrArg some kk_6
  | 7, hi => exact congrArg some kk_7
  | 8, hi => exact congrArg some (kk_8 (q0.trans p0.symm))
  | 9, hi => exact congrArg some kk_9
  | 10, hi => exact congrArg some (kk_10 (q18.trans p18.symm))
  | 11, hi => exact congrArg some (kk_11 (q3.trans p3.symm) (q6.trans p6.symm) (q7.trans p7.symm))
  | 12, hi => exact congrArg some (kk_12 (q4.trans p4.symm) (q5.trans p5.symm) (q8.trans p8.symm) (q9.trans p9.symm) (q15.trans p15.symm) (q20.trans p20.symm))
  | 13, hi => exact congrArg some kk_13
  | 14, hi => exact congrArg some kk_14
  | 15, hi => exact congrArg some kk_15
  | 16, hi => exact congrArg some (kk_16 (q11.trans p11.symm))
  | 17, hi => exact congrArg some kk_17
  | 18, hi => exact congrArg some kk_18
  | 19, hi => exact congrArg some kk_19
  | 20, hi => exact congrArg some kk_20
  | 21, hi => exact congrArg some kk_21
  | 22, hi => exact congrArg some kk_22
  | 23, hi => exact congrArg some kk_23
  | 24, hi => exact congrArg some kk_24
  | 25, hi => exact congrArg some kk_25
  | 26, hi => exact congrArg some kk_26
  | 27, hi => exact congrArg some kk_27
  | 28, hi => exact congrArg some kk_28
  | 29, hi => exact congrArg some kk_29
  | 30, hi => exact congrArg some kk_30
  | 31, hi => exact congrArg some kk_31
  | 32, hi => exact congrArg some kk_32
  | 33, hi => exact congrArg some kk_33
  | 34, hi => exact congrArg some kk_34
  | 35, hi => exact congrArg some kk_35
  | 36, hi => exact congrArg some kk_36
  | 37, hi => exact congrArg some kk_37
  | 38, hi => exact congrArg some kk_38
  | 39, hi => exact congrArg some kk_39
  | 40, hi => exact congrArg some kk_40
  | 41, hi => exact congrArg some kk_41
  | 42, hi => exact congrArg some (kk_42 (q17.trans p17.symm))
  | 43, hi => exact congrArg some kk_43
  | 44, hi => exact congrArg some kk_44
  | 45, hi => exact congrArg some (kk_45 (q19.trans p19.symm))
  | 46, hi => exact congrArg some kk_46
  | 47, hi => exact congrArg some kk_47
  | 48, hi => exact congrArg some kk_48
  | 49, hi => exact congrArg some (kk_49 (q4.trans p4.symm) (q14.trans p14.symm))
  | 50, hi => exact congrArg some kk_50
  | 51, hi => exact congrArg some kk_51
  | 52, hi => exact congrArg some (kk_52 (q12.trans p12.symm))
  | 53, hi => exact congrArg some (kk_53 (q13.trans p13.symm))
  | 54, hi => exact congrArg some (kk_54 (q10.trans p10.symm) (q16.trans p16.symm))
  | 55, hi => exact congrArg some (kk_55 (q10.trans p10.symm))
  | 56, hi => exact congrArg some kk_56
  | 57, hi => exact congrArg some kk_57
  | 58, hi => exact congrArg some (kk_58 (q10.trans p10.symm))
  | 59, hi => exact congrArg some kk_59
  | 60, hi => exact congrArg some kk_60
  | 61, hi => exact congrArg some kk_61
  | 62, hi => exact congrArg some kk_62
  | 63, hi => exact congrArg some kk_63
  | 64, hi => exact congrArg some kk_64
  | 65, hi => exact congrArg some (kk_65 (q10.trans p10.symm))
  | 66, hi => exact congrArg some kk_66
  | 67, hi => exact absurd rfl hi
  | i + 68, hi => rfl
theorem sg_cast {kt kt2 : List sgK} {D : va_G} {cl : List vw_C} {A : Nat → Prop} {tys : List (ClassId × FieldType)} {ad ks : List Nat} {H : Heap} (hG : sgG kt D cl A tys ad ks H) (e : kt = kt2) : sgG kt2 D cl A tys ad ks H := e ▸ hG
