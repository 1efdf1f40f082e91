theorem sgr_bad {b : Bool} {d lo hi mr f : Int} {D : va_G} {A : Nat → Prop} {tys : List (ClassId × FieldType)} {ad ks : List Nat} {H : Heap} {P : sgPm} (hG : sgG (KR b d lo hi mr f P) D vwCl A tys ad ks H) {a : Nat} (ha : isK ad ks 12 a) {w : Int32} (hf : fld D H 12 a 11 (.int w)) (hv : iv 0 241 w) (h0 : 0 ≤ mr) : sgG (KR b d lo hi 0 0 P) D vwCl A tys ad ks H := by
  have hG2 : sgG (KR b d lo hi mr 0 P) D vwCl A tys ad ks H := sg_str1 hG ha (by decide) rfl rfl (r := (RX12, TX12, 53)) rfl (j := 11) (by decide) rfl rfl (fun i t' hi ht => by match i, hi, ht with
    | 0, hi, ht => cases ht; exact ⟨_, rfl, fun v hv => hv⟩
    | 1, hi, ht => cases ht; exact ⟨_, rfl, fun v hv => hv⟩
    | 2, hi, ht => cases ht; exact ⟨_, rfl, fun v hv => hv⟩
    | 3, hi, ht => cases ht; exact ⟨_, rfl, fun v hv => hv⟩
    | 4, hi, ht => cases ht; exact ⟨_, rfl, fun v hv => hv⟩
    | 5, hi, ht => cases ht; exact ⟨_, rfl, fun v hv => hv⟩
    | 6, hi, ht => cases ht; exact ⟨_, rfl, fun v hv => hv⟩
    | 7, hi, ht => cases ht; exact ⟨_, rfl, fun v hv => hv⟩
    | 8, hi, ht => cases ht; exact ⟨_, rfl, fun v hv => hv⟩
    | 9, hi, ht => cases ht; exact ⟨_, rfl, fun v hv => hv⟩
    | 10, hi, ht => cases ht; exact ⟨_, rfl, fun v hv => hv⟩
    | 11, hi, ht => exact absurd rfl hi
    | 12, hi, ht => cases ht; exact ⟨_, rfl, fun v hv => hv⟩
    | 13, hi, ht => cases ht; exact ⟨_, rfl, fun v hv => hv⟩
    | 14, hi, ht => cases ht; exact ⟨_, rfl, fun v hv => hv⟩
    | 15, hi, ht => cases ht; exact ⟨_, rfl, fun v hv => hv⟩
    | 16, hi, ht => cases ht; exact ⟨_, rfl, fun v hv => hv⟩
    | 17, hi, ht => cases ht; exact ⟨_, rfl, fun v hv => hv⟩
    | 18, hi, ht => cases ht; exact ⟨_, rfl, fun v hv => hv⟩
    | 19, hi, ht => cases ht; exact ⟨_, rfl, fun v hv => hv⟩
    | 20, hi, ht => cases ht; exact ⟨_, rfl, fun v hv => hv⟩
    | 21, hi, ht => cases ht; exact ⟨_, rfl, fun v hv => hv⟩
    | 22, hi, ht => cases ht; exact ⟨_, rfl, fun v hv => hv⟩
    | 23, hi, ht => cases ht; exact ⟨_, rfl, fun v hv => hv⟩
    | 24, hi, ht => cases ht; exact ⟨_, rfl, fun v hv => hv⟩
    | 25, hi, ht => cases ht; exact ⟨_, rfl, fun v hv => hv⟩
    | 26, hi, ht => cases ht; exact ⟨_, rfl, fun v hv => hv⟩
    | 27, hi, ht => cases ht; exact ⟨_, rfl, fun v hv => hv⟩
    | 28, hi, ht => cases ht; exact ⟨_, rfl, fun v hv => hv⟩
    | 29, hi, ht => cases ht; exact ⟨_, rfl, fun v hv => hv⟩
    | 30, hi, ht => cases ht; exact ⟨_, rfl, fun v hv => hv⟩
    | 31, hi, ht => cases ht; exact ⟨_, rfl, fun v hv => hv⟩
    | 32, hi, ht => cases ht; exact ⟨_, rfl, fun v hv => hv⟩
    | 33, hi, ht => cases ht; exact ⟨_, rfl, fun v hv => hv⟩
    | 34, hi, ht => cases ht; exact ⟨_, rfl, fun v hv => hv⟩
    | 35, hi, ht => cases ht; exact ⟨_, rfl, fun v hv => hv⟩
    | 36, hi, ht => cases ht; exact ⟨_, rfl, fun v hv => hv⟩
    | 37, hi, ht => cases ht; exact ⟨_, rfl, fun v hv => hv⟩
    | 38, hi, ht => cases ht; exact ⟨_, rfl, fun v hv => hv⟩
    | 39, hi, ht => cases ht; exact ⟨_, rfl, fun v hv => hv⟩
    | 40, hi, ht => cases ht; exact ⟨_, rfl, fun v hv => hv⟩
    | 41, hi, ht => cases ht; exact ⟨_, rfl, fun v hv => hv⟩
    | 42, hi, ht => cases ht; exact ⟨_, rfl, fun v hv => hv⟩
    | 43, hi, ht => cases ht; exact ⟨_, rfl, fun v hv => hv⟩
    | 44, hi, ht => cases ht; exact ⟨_, rfl, fun v hv => hv⟩
    | 45, hi, ht => cases ht; exact ⟨_, rfl, fun v hv => hv⟩
    | 46, hi, ht => cases ht; exact ⟨_, rfl, fun v hv => hv⟩
    | 47, hi, ht => cases ht; exact ⟨_, rfl, fun v hv => hv⟩
    | 48, hi, ht => cases ht; exact ⟨_, rfl, fun v hv => hv⟩
    | 49, hi, ht => cases ht; exact ⟨_, rfl, fun v hv => hv⟩
    | 50, hi, ht => cases ht; exact ⟨_, rfl, fun v hv => hv⟩
    | 51, hi, ht => cases ht; exact ⟨_, rfl, fun v hv => hv⟩
    | 52, hi, ht => cases ht; exact ⟨_, rfl, fun v hv => hv⟩
    | i + 53, hi, ht => cases ht) (fun i hi => by match i, hi with
    | 0, hi => rfl
    | 1, hi => rfl
    | 2, hi => rfl
    | 3, hi => rfl
    | 4, hi => rfl
    | 5, hi => rfl
    | 6, hi => rfl
    | 7, hi => rfl
    | 8, hi => rfl
    | 9, hi => rfl
    | 10, hi => rfl
    | 11, hi => rfl
    | 12, hi => exact absurd rfl hi
    | 13, hi => rfl
    | 14, hi => rfl
    | 15, hi => rfl
    | 16, hi => rfl
    | 17, hi => rfl
    | 18, hi => rfl
    | 19, hi => rfl
    | 20, hi => rfl
    | 21, hi => rfl
    | 22, hi => rfl
    | 23, hi => rfl
    | 24, hi => rfl
    | 25, hi => rfl
    | 26, hi => rfl
    | 27, hi => rfl
    | 28, hi => rfl
    | 29, hi => rfl
    | 30, hi => rfl
    | 31, hi => rfl
    | 32, hi => rfl
    | 33, hi => rfl
    | 34, hi => rfl
    | 35, hi => rfl
    | 36, hi => rfl
    | 37, hi => rfl
    | 38, hi => rfl
    | 39, hi => rfl
    | 40, hi => rfl
    | 41, hi => rfl
    | 42, hi => rfl
    | 43, hi => rfl
    | 44, hi => rfl
    | 45, hi => rfl
    | 46, hi => rfl
    | 47, hi => rfl
    | 48, hi => rfl
    | 49, hi => rfl
    | 50, hi => rfl
    | 51, hi => rfl
    | 52, hi => rfl
    | 53, hi => rfl
    | 54, hi => rfl
    | 55, hi => rfl
    | 56, hi => rfl
    | 57, hi => rfl
    | 58, hi => rfl
    | 59, hi => rfl
    | 60, hi => rfl
    | 61, hi => rfl
    | 62, hi => rfl
    | 63, hi => rfl
    | 64, hi => rfl
    | 65, hi => rfl
    | 66, hi => rfl
    | 67, hi => rfl
    | i + 68, hi => rfl) hf ⟨w, rfl, hv⟩
  refine sg_kinds hG2 rfl fun k K e hk he => ?_
  by_cases h5 : k = 50
  · subst h5
    cases hk
    exact ⟨KK50r 0 P, rfl, okE_arr (fun j v => sg_rr_mono h0 (sg_rl_inl j).choose_spec) he⟩
  · refine ⟨K, ?_, he⟩
    rw [← hk]
    match k, h5 with
    | 0, h0 => rfl
    | 1, h0 => rfl
    | 2, h0 => rfl
    | 3, h0 => rfl
    | 4, h0 => rfl
    | 5, h0 => rfl
    | 6, h0 => rfl
    | 7, h0 => rfl
    | 8, h0 => rfl
    | 9, h0 => rfl
    | 10, h0 => rfl
    | 11, h0 => rfl
    | 12, h0 => rfl
    | 13, h0 => rfl
    | 14, h0 => rfl
    | 15, h0 => rfl
    | 16, h0 => rfl
    | 17, h0 => rfl
    | 18, h0 => rfl
    | 19, h0 => rfl
    | 20, h0 => rfl
    | 21, h0 => rfl
    | 22, h0 => rfl
    | 23, h0 => rfl
    | 24, h0 => rfl
    | 25, h0 => rfl
    | 26, h0 => rfl
    | 27, h0 => rfl
    | 28, h0 => rfl
    | 29, h0 => rfl
    | 30, h0 => rfl
    | 31, h0 => rfl
    | 32, h0 => rfl
    | 33, h0 => rfl
    | 34, h0 => rfl
    | 35, h0 => rfl
    | 36, h0 => rfl
    | 37, h0 => rfl
    | 38, h0 => rfl
    | 39, h0 => rfl
    | 40, h0 => rfl
    | 41, h0 => rfl
    | 42, h0 => rfl
    | 43, h0 => rfl
    | 44, h0 => rfl
    | 45, h0 => rfl
    | 46, h0 => rfl
    | 47, h0 => rfl
    | 48, h0 => rfl
    | 49, h0 => rfl
    | 50, h0 => exact absurd rfl h0
    | 51, h0 => rfl
    | 52, h0 => rfl
    | 53, h0 => rfl
    | 54, h0 => rfl
    | 55, h0 => rfl
    | 56, h0 => rfl
    | 57, h0 => rfl
    | 58, h0 => rfl
    | 59, h0 => rfl
    | 60, h0 => rfl
    | 61, h0 => rfl
    | 62, h0 => rfl
    | 63, h0 => rfl
    | 64, h0 => rfl
    | 65, h0 => rfl
    | 66, h0 => rfl
    | 67, h0 => rfl
    | k + 68, h0 => rfl
theorem sg_btw {r x y : Int32} {a b c d : Int} (h : x.toInt ≤ r.toInt ∧ r.toInt ≤ y.toInt) (hx : iv a b x) (hy : iv c d y) : iv a d r := ⟨Int.le_trans hx.1 h.1, Int.le_trans h.2 hy.2⟩
theorem sg_isin2 {v l m : Int64} {x y z : Int32} (h : l.toInt ≤ v.toInt ∧ v.toInt ≤ m.toInt) (e : v = x.toInt64) (e1 : l = y.toInt64) (e2 : m = z.toInt64) : y.toInt ≤ x.toInt ∧ x.toInt ≤ z.toInt := by
  have h1 : v.toInt = x.toInt := by rw [e, Int32.toInt_toInt64]
  have h2 : m.toInt = z.toInt := by rw [e2, Int32.toInt_toInt64]
  have h3 : l.toInt = y.toInt := by rw [e1, Int32.toInt_toInt64]
  omega
theorem sg_rr7 {ad ks : List Nat} {x i : Int32} {lo hi a c : Int} (h : okV ad ks (sg_rr 7 i.toNatClampNeg) (.int x)) (hi0 : iv lo hi i) (hd : decide (0 ≤ lo ∧ lo = hi) = true) (he : sg_rr 7 lo.toNat = .inl (a, c)) : iv a c x := by
  rw [sg_cl hi0 hd, he] at h
  obtain ⟨y, h3, h4⟩ := h
  cases h3
  exact h4
theorem sg_rr7w {ad ks : List Nat} {x i : Int32} {lo hi a c : Int} (hi0 : iv lo hi i) (hd : decide (0 ≤ lo ∧ lo = hi) = true) (he : sg_rr 7 lo.toNat = .inl (a, c)) (hx : iv a c x) : okV ad ks (sg_rr 7 i.toNatClampNeg) (.int x) := by
  rw [sg_cl hi0 hd, he]
  exact ⟨x, rfl, hx⟩
theorem sg_rr_up {ad ks : List Nat} {m : Int} {j i : Nat} {v : Int32} (hi : (i : Int) = m) (hj : j ≠ i) (h : okV ad ks (sg_rr m j) (.int v)) : okV ad ks (sg_rr (m + 1) j) (.int v) := by
  unfold sg_rr at h ⊢
  by_cases e : (j : Int) < m
  · rw [if_pos e] at h
    rw [if_pos (by omega)]
    exact h
  · rw [if_neg (by omega)]
    exact ⟨v, rfl, iv_top v⟩
theorem sg_rr_at {ad ks : List Nat} {m a c lo hi : Int} {i x : Int32} (hi0 : iv lo hi i) (hd : decide (0 ≤ lo ∧ lo = hi) = true) (hm : i.toInt = m) (he : sg_rl lo.toNat = .inl (a, c)) (hx : iv a c x) : okV ad ks (sg_rr (m + 1) i.toNatClampNeg) (.int x) := by
  have h1 := sg_cl hi0 hd
  have h2 := of_decide_eq_true hd
  have h3 := hi0.1
  have h4 := hi0.2
  rw [h1]
  unfold sg_rr
  rw [if_pos (by omega), he]
  exact ⟨x, rfl, hx⟩
theorem sg_rr_rl {ad ks : List Nat} {m : Int} {i x : Int32} (hm : i.toInt = m) (h0 : 0 ≤ i.toInt) (h7 : i.toInt < 7) (h : okV ad ks (sg_rr 7 i.toNatClampNeg) (.int x)) : okV ad ks (sg_rr (m + 1) i.toNatClampNeg) (.int x) := by
  have e : (i.toNatClampNeg : Int) = i.toInt := by show ((i.toInt.toNat : Nat) : Int) = _; omega
  unfold sg_rr at h ⊢
  rw [if_pos (by omega)] at h ⊢
  exact h
theorem sg_strA {kt kt' : List sgK} {cl : List vw_C} {D : va_G} {A : Nat → Prop} {tys : List (ClassId × FieldType)} {ad ks : List Nat} {H : Heap} (hG : sgG kt D cl A tys ad ks H) {k a : Nat} (ha : isK ad ks k a) (hu : k ∈ [2, 8, 10, 11, 12, 16, 42, 45, 49, 50, 51, 52, 53, 54]) {n : Nat} {el el' : Nat → sgT} (hk : kt[k]? = some (.inr (n, .int, el))) (hk' : kt'[k]? = some (.inr (n, .int, el'))) (hsk : ∀ i : Nat, i ≠ k → kt'[i]? = kt[i]?) {i0 : Nat} {x : Int32} (he : ele H a i0 x) (hv : okV ad ks (el' i0) (.int x)) (hsm : ∀ (j : Nat) (v : Int32), j < n → j ≠ i0 → okV ad ks (el j) (.int v) → okV ad ks (el' j) (.int v)) : sgG kt' D cl A tys ad ks H := by
  obtain ⟨ws, hP, hD, hT, hU⟩ := hG
  refine ⟨ws, hP, hD, ⟨hT.1, hT.2.1, fun i q k2 hq hk2 => ?_⟩, hU.1, hU.2.kt (hsk 67 (by rintro rfl; revert hu; decide))⟩
  obtain ⟨K, g1, g2⟩ := hT.2.2 i q k2 hq hk2
  by_cases h : k2 = k
  · subst h
    rw [hk] at g1
    cases g1
    refine ⟨_, hk', ?_⟩
    obtain ⟨j0, e0, K0, w1, w2, w3, w4⟩ := ha.in hT
    have hij : i = j0 := hU.1 _ hu i j0 hk2 w2
    subst hij
    rw [w1] at hq
    cases hq
    cases e0 with
    | inr q => exact g2.elim
    | inl q =>
      obtain ⟨cA, m, z⟩ := q
      obtain ⟨h1, h2, h3, h4⟩ := g2
      dsimp only at h1 h2 h3 h4
      subst h1
      match z, w1, h3, h4 with
      | .inl f, w1, h3, h4 =>
        refine ⟨rfl, h2, fun j hj => ?_, h4⟩
        by_cases hji : j = i0
        · subst hji
          rw [show f j = x from ele_fun (ele_of (hP i _ w1) hj) he]
          exact hv
        · exact hsm j _ hj hji (h3 j hj)
      | .inr (.inl f), w1, h3, h4 => cases h4
      | .inr (.inr (.inl f)), w1, h3, h4 => exact h3.elim
      | .inr (.inr (.inr (.inl f))), w1, h3, h4 => exact h3.elim
      | .inr (.inr (.inr (.inr f))), w1, h3, h4 => obtain ⟨C, h4⟩ := h4; cases h4
  · exact ⟨K, (hsk k2 h).trans g1, g2⟩
def sgLw (P : sgPm) (w : Nat → Int) (c : Int) : sgPm := (P.1, P.2.1, P.2.2.1, P.2.2.2.1, true, P.2.2.2.2.2.1, P.2.2.2.2.2.2.1, P.2.2.2.2.2.2.2.1, P.2.2.2.2.2.2.2.2.1, P.2.2.2.2.2.2.2.2.2.1, sgN P, sgPl P, sgG0 P, sgGl P, w, c, sgPin P, sgTp P)
def sgGs (P : sgPm) (G : Nat → Int) (gl : Nat → Fin 17) : sgPm := (P.1, P.2.1, P.2.2.1, P.2.2.2.1, P.2.2.2.2.1, P.2.2.2.2.2.1, P.2.2.2.2.2.2.1, P.2.2.2.2.2.2.2.1, P.2.2.2.2.2.2.2.2.1, P.2.2.2.2.2.2.2.2.2.1, sgN P, sgPl P, G, gl, sgRw P, sgNc P, sgPin P, sgTp P)
theorem sgC1_0 (P : sgPm) : 0 ≤ sgC1 P ∧ sgC1 P ≤ 30 := by
  unfold sgC1
  cases P.2.2.2.2.1 <;> simp only [cond_true, cond_false] <;> omega
section
variable {p : Program} {l : Launch} {e : Env} {R : Room} {s : State} {m : MethodId} {args : Array Value} {below : List Frame} {meth : Method} {c : Code} {H : Heap} {locs : List Loc} {cells slots : Nat} {Q : State → Prop} {cc : ByteArray} {nL pc : Nat} {ls : Array Slot} {rest : List Value} {own : String} {D : va_G} {A : Nat → Prop} {tys : List (ClassId × FieldType)} {ad ks : List Nat} {P : sgPm} {H0 : Heap} {index : Nat} {base : Nat} {st0 : List Value} {a : Nat}
theorem as_50m {b : Bool} {d lo hi mr f : Int} (X : CallFix p m c cc nL s args sg_tbl own) (hK : va_K D vwCl tys s) (hG : sgG (KR b d lo hi mr f P) D vwCl A tys ad ks H) (hS : va_S A H0 H locs) (ha : isK ad ks 50 a) {i x : Int32} (hin : vp_in i 7) (hm : i.toInt = mr) (hv : okV ad ks (sg_rr (mr + 1) i.toNatClampNeg) (.int x)) (hdg : decode cc pc = .ok (.iastore, 1))
    (kk : ∀ (H1 : Heap) (locs1 : List Loc), sgG (KR b d lo hi (mr + 1) f P) D vwCl A tys ad ks H1 → va_S A H0 H1 locs1 → W p l e R s m args below meth c H1 locs1 cells slots Q (F0 m (pc + 1) ls rest)) : W p l e R s m args below meth c H locs cells slots Q (F0 m pc ls (.int x :: .int i :: .ref a :: rest)) := by
  have hz : 0 ≤ i.toInt := Int.not_lt.mp fun q => hin (Or.inl (Int32.lt_iff_toInt_lt.mpr q))
  exact sg_iast1 (kt' := KR b d lo hi (mr + 1) f P) X hK hG hS (k := 50) ha (by decide) rfl rfl (fun i hi => by match i, hi with
    | 0, hi => rfl
    | 1, hi => rfl
    | 2, hi => rfl
    | 3, hi => rfl
    | 4, hi => rfl
    | 5, hi => rfl
    | 6, hi => rfl
    | 7, hi => rfl
    | 8, hi => rfl
    | 9, hi => rfl
    | 10, hi => rfl
    | 11, hi => rfl
    | 12, hi => rfl
    | 13, hi => rfl
    | 14, hi => rfl
    | 15, hi => rfl
    | 16, hi => rfl
    | 17, hi => rfl
    | 18, hi => rfl
    | 19, hi => rfl
    | 20, hi => rfl
    | 21, hi => rfl
    | 22, hi => rfl
    | 23, hi => rfl
    | 24, hi => rfl
    | 25, hi => rfl
    | 26, hi => rfl
    | 27, hi => rfl
    | 28, hi => rfl
    | 29, hi => rfl
    | 30, hi => rfl
    | 31, hi => rfl
    | 32, hi => rfl
    | 33, hi => rfl
    | 34, hi => rfl
    | 35, hi => rfl
    | 36, hi => rfl
    | 37, hi => rfl
    | 38, hi => rfl
    | 39, hi => rfl
    | 40, hi => rfl
    | 41, hi => rfl
    | 42, hi => rfl
    | 43, hi => rfl
    | 44, hi => rfl
    | 45, hi => rfl
    | 46, hi => rfl
    | 47, hi => rfl
    | 48, hi => rfl
    | 49, hi => rfl
    | 50, hi => exact absurd rfl hi
    | 51, hi => rfl
    | 52, hi => rfl
    | 53, hi => rfl
    | 54, hi => rfl
    | 55, hi => rfl
    | 56, hi => rfl
    | 57, hi => rfl
    | 58, hi => rfl
    | 59, hi => rfl
    | 60, hi => rfl
    | 61, hi => rfl
    | 62, hi => rfl
    | 63, hi => rfl
    | 64, hi => rfl
    | 65, hi => rfl
    | 66, hi => rfl
    | 67, hi => rfl
    | i + 68, hi => rfl) hin hv (fun j v _ hj h => sg_rr_up (by show ((i.toInt.toNat : Nat) : Int) = mr; omega) hj h) hdg kk
theorem gsS_same {P : sgPm} {F G : Nat → Int} {gl : Nat → Fin 17} : sgS52 (sgGs P F gl) (sgGs P G gl) := ⟨(rfl : (sgGs P F gl).1 = P.1).trans (rfl : (sgGs P G gl).1 = P.1).symm, (rfl : (sgGs P F gl).2.1 = P.2.1).trans (rfl : (sgGs P G gl).2.1 = P.2.1).symm, (rfl : (sgGs P F gl).2.2.1 = P.2.2.1).trans (rfl : (sgGs P G gl).2.2.1 = P.2.2.1).symm, (rfl : (sgGs P F gl).2.2.2.1 = P.2.2.2.1).trans (rfl : (sgGs P G gl).2.2.2.1 = P.2.2.2.1).symm, (rfl : (sgGs P F gl).2.2.2.2.1 = P.2.2.2.2.1).trans (rfl : (sgGs P G gl).2.2.2.2.1 = P.2.2.2.2.1).symm, (rfl : (sgGs P F gl).2.2.2.2.2.1 = P.2.2.2.2.2.1).trans (rfl : (sgGs P G gl).2.2.2.2.2.1 = P.2.2.2.2.2.1).symm, (rfl : (sgGs P F gl).2.2.2.2.2.2.1 = P.2.2.2.2.2.2.1).trans (rfl : (sgGs P G gl).2.2.2.2.2.2.1 = P.2.2.2.2.2.2.1).symm, (rfl : (sgGs P F gl).2.2.2.2.2.2.2.1 = P.2.2.2.2.2.2.2.1).trans (rfl : (sgGs P G gl).2.2.2.2.2.2.2.1 = P.2.2.2.2.2.2.2.1).symm, (rfl : (sgGs P F gl).2.2.2.2.2.2.2.2.1 = P.2.2.2.2.2.2.2.2.1).trans (rfl : (sgGs P G gl).2.2.2.2.2.2.2.2.1 = P.2.2.2.2.2.2.2.2.1).symm, (rfl : (sgGs P F gl).2.2.2.2.2.2.2.2.2.1 = P.2.2.2.2.2.2.2.2.2.1).trans (rfl : (sgGs P G gl).2.2.2.2.2.2.2.2.2.1 = P.2.2.2.2.2.2.2.2.2.1).symm, (rfl : (sgGs P F gl).2.2.2.2.2.2.2.2.2.2.1 = P.2.2.2.2.2.2.2.2.2.2.1).trans (rfl : (sgGs P G gl).2.2.2.2.2.2.2.2.2.2.1 = P.2.2.2.2.2.2.2.2.2.2.1).symm, (rfl : (sgGs P F gl).2.2.2.2.2.2.2.2.2.2.2.1 = P.2.2.2.2.2.2.2.2.2.2.2.1).trans (rfl : (sgGs P G gl).2.2.2.2.2.2.2.2.2.2.2.1 = P.2.2.2.2.2.2.2.2.2.2.2.1).symm, (rfl : (sgGs P F gl).2.2.2.2.2.2.2.2.2.2.2.2.2.1 = gl).trans (rfl : (sgGs P G gl).2.2.2.2.2.2.2.2.2.2.2.2.2.1 = gl).symm, (rfl : (sgGs P F gl).2.2.2.2.2.2.2.2.2.2.2.2.2.2.1 = P.2.2.2.2.2.2.2.2.2.2.2.2.2.2.1).trans (rfl : (sgGs P G gl).2.2.2.2.2.2.2.2.2.2.2.2.2.2.1 = P.2.2.2.2.2.2.2.2.2.2.2.2.2.2.1).symm, (rfl : (sgGs P F gl).2.2.2.2.2.2.2.2.2.2.2.2.2.2.2.1 = P.2.2.2.2.2.2.2.2.2.2.2.2.2.2.2.1).trans (rfl : (sgGs P G gl).2.2.2.2.2.2.2.2.2.2.2.2.2.2.2.1 = P.2.2.2.2.2.2.2.2.2.2.2.2.2.2.2.1).symm, (rfl : (sgGs P F gl).2.2.2.2.2.2.2.2.2.2.2.2.2.2.2.2.1 = P.2.2.2.2.2.2.2.2.2.2.2.2.2.2.2.2.1).trans (rfl : (sgGs P G gl).2.2.2.2.2.2.2.2.2.2.2.2.2.2.2.2.1 = P.2.2.2.2.2.2.2.2.2.2.2.2.2.2.2.2.1).symm, (rfl : (sgGs P F gl).2.2.2.2.2.2.2.2.2.2.2.2.2.2.2.2.2.1 = P.2.2.2.2.2.2.2.2.2.2.2.2.2.2.2.2.2.1).trans (rfl : (sgGs P G gl).2.2.2.2.2.2.2.2.2.2.2.2.2.2.2.2.2.1 = P.2.2.2.2.2.2.2.2.2.2.2.2.2.2.2.2.2.1).symm, (rfl : (sgGs P F gl).2.2.2.2.2.2.2.2.2.2.2.2.2.2.2.2.2.2.1 = P.2.2.2.2.2.2.2.2.2.2.2.2.2.2.2.2.2.2.1).trans (rfl : (sgGs P G gl).2.2.2.2.2.2.2.2.2.2.2.2.2.2.2.2.2.2.1 = P.2.2.2.2.2.2.2.2.2.2.2.2.2.2.2.2.2.2.1).symm, (rfl : (sgGs P F gl).2.2.2.2.2.2.2.2.2.2.2.2.2.2.2.2.2.2.2.1 = P.2.2.2.2.2.2.2.2.2.2.2.2.2.2.2.2.2.2.2.1).trans (rfl : (sgGs P G gl).2.2.2.2.2.2.2.2.2.2.2.2.2.2.2.2.2.2.2.1 = P.2.2.2.2.2.2.2.2.2.2.2.2.2.2.2.2.2.2.2.1).symm, (rfl : (sgGs P F gl).2.2.2.2.2.2.2.2.2.2.2.2.2.2.2.2.2.2.2.2.1 = P.2.2.2.2.2.2.2.2.2.2.2.2.2.2.2.2.2.2.2.2.1).trans (rfl : (sgGs P G gl).2.2.2.2.2.2.2.2.2.2.2.2.2.2.2.2.2.2.2.2.1 = P.2.2.2.2.2.2.2.2.2.2.2.2.2.2.2.2.2.2.2.2.1).symm, (rfl : (sgGs P F gl).2.2.2.2.2.2.2.2.2.2.2.2.2.2.2.2.2.2.2.2.2 = P.2.2.2.2.2.2.2.2.2.2.2.2.2.2.2.2.2.2.2.2.2).trans (rfl : (sgGs P G gl).2.2.2.2.2.2.2.2.2.2.2.2.2.2.2.2.2.2.2.2.2 = P.2.2.2.2.2.2.2.2.2.2.2.2.2.2.2.2.2.2.2.2.2).symm⟩
theorem gsS_same3 {P : sgPm} {G : Nat → Int} {F gl : Nat → Fin 17} : sgS53 (sgGs P G F) (sgGs P G gl) := ⟨(rfl : (sgGs P G F).1 = P.1).trans (rfl : (sgGs P G gl).1 = P.1).symm, (rfl : (sgGs P G F).2.1 = P.2.1).trans (rfl : (sgGs P G gl).2.1 = P.2.1).symm, (rfl : (sgGs P G F).2.2.1 = P.2.2.1).trans (rfl : (sgGs P G gl).2.2.1 = P.2.2.1).symm, (rfl : (sgGs P G F).2.2.2.1 = P.2.2.2.1).trans (rfl : (sgGs P G gl).2.2.2.1 = P.2.2.2.1).symm, (rfl : (sgGs P G F).2.2.2.2.1 = P.2.2.2.2.1).trans (rfl : (sgGs P G gl).2.2.2.2.1 = P.2.2.2.2.1).symm, (rfl : (sgGs P G F).2.2.2.2.2.1 = P.2.2.2.2.2.1).trans (rfl : (sgGs P G gl).2.2.2.2.2.1 = P.2.2.2.2.2.1).symm, (rfl : (sgGs P G F).2.2.2.2.2.2.1 = P.2.2.2.2.2.2.1).trans (rfl : (sgGs P G gl).2.2.2.2.2.2.1 = P.2.2.2.2.2.2.1).symm, (rfl : (sgGs P G F).2.2.2.2.2.2.2.1 = P.2.2.2.2.2.2.2.1).trans (rfl : (sgGs P G gl).2.2.2.2.2.2.2.1 = P.2.2.2.2.2.2.2.1).symm, (rfl : (sgGs P G F).2.2.2.2.2.2.2.2.1 = P.2.2.2.2.2.2.2.2.1).trans (rfl : (sgGs P G gl).2.2.2.2.2.2.2.2.1 = P.2.2.2.2.2.2.2.2.1).symm, (rfl : (sgGs P G F).2.2.2.2.2.2.2.2.2.1 = P.2.2.2.2.2.2.2.2.2.1).trans (rfl : (sgGs P G gl).2.2.2.2.2.2.2.2.2.1 = P.2.2.2.2.2.2.2.2.2.1).symm, (rfl : (sgGs P G F).2.2.2.2.2.2.2.2.2.2.1 = P.2.2.2.2.2.2.2.2.2.2.1).trans (rfl : (sgGs P G gl).2.2.2.2.2.2.2.2.2.2.1 = P.2.2.2.2.2.2.2.2.2.2.1).symm, (rfl : (sgGs P G F).2.2.2.2.2.2.2.2.2.2.2.1 = P.2.2.2.2.2.2.2.2.2.2.2.1).trans (rfl : (sgGs P G gl).2.2.2.2.2.2.2.2.2.2.2.1 = P.2.2.2.2.2.2.2.2.2.2.2.1).symm, (rfl : (sgGs P G F).2.2.2.2.2.2.2.2.2.2.2.2.1 = G).trans (rfl : (sgGs P G gl).2.2.2.2.2.2.2.2.2.2.2.2.1 = G).symm, (rfl : (sgGs P G F).2.2.2.2.2.2.2.2.2.2.2.2.2.2.1 = P.2.2.2.2.2.2.2.2.2.2.2.2.2.2.1).trans (rfl : (sgGs P G gl).2.2.2.2.2.2.2.2.2.2.2.2.2.2.1 = P.2.2.2.2.2.2.2.2.2.2.2.2.2.2.1).symm, (rfl : (sgGs P G F).2.2.2.2.2.2.2.2.2.2.2.2.2.2.2.1 = P.2.2.2.2.2.2.2.2.2.2.2.2.2.2.2.1).trans (rfl : (sgGs P G gl).2.2.2.2.2.2.2.2.2.2.2.2.2.2.2.1 = P.2.2.2.2.2.2.2.2.2.2.2.2.2.2.2.1).symm, (rfl : (sgGs P G F).2.2.2.2.2.2.2.2.2.2.2.2.2.2.2.2.1 = P.2.2.2.2.2.2.2.2.2.2.2.2.2.2.2.2.1).trans (rfl : (sgGs P G gl).2.2.2.2.2.2.2.2.2.2.2.2.2.2.2.2.1 = P.2.2.2.2.2.2.2.2.2.2.2.2.2.2.2.2.1).symm, (rfl : (sgGs P G F).2.2.2.2.2.2.2.2.2.2.2.2.2.2.2.2.2.1 = P.2.2.2.2.2.2.2.2.2.2.2.2.2.2.2.2.2.1).trans (rfl : (sgGs P G gl).2.2.2.2.2.2.2.2.2.2.2.2.2.2.2.2.2.1 = P.2.2.2.2.2.2.2.2.2.2.2.2.2.2.2.2.2.1).symm, (rfl : (sgGs P G F).2.2.2.2.2.2.2.2.2.2.2.2.2.2.2.2.2.2.1 = P.2.2.2.2.2.2.2.2.2.2.2.2.2.2.2.2.2.2.1).trans (rfl : (sgGs P G gl).2.2.2.2.2.2.2.2.2.2.2.2.2.2.2.2.2.2.1 = P.2.2.2.2.2.2.2.2.2.2.2.2.2.2.2.2.2.2.1).symm, (rfl : (sgGs P G F).2.2.2.2.2.2.2.2.2.2.2.2.2.2.2.2.2.2.2.1 = P.2.2.2.2.2.2.2.2.2.2.2.2.2.2.2.2.2.2.2.1).trans (rfl : (sgGs P G gl).2.2.2.2.2.2.2.2.2.2.2.2.2.2.2.2.2.2.2.1 = P.2.2.2.2.2.2.2.2.2.2.2.2.2.2.2.2.2.2.2.1).symm, (rfl : (sgGs P G F).2.2.2.2.2.2.2.2.2.2.2.2.2.2.2.2.2.2.2.2.1 = P.2.2.2.2.2.2.2.2.2.2.2.2.2.2.2.2.2.2.2.2.1).trans (rfl : (sgGs P G gl).2.2.2.2.2.2.2.2.2.2.2.2.2.2.2.2.2.2.2.2.1 = P.2.2.2.2.2.2.2.2.2.2.2.2.2.2.2.2.2.2.2.2.1).symm, (rfl : (sgGs P G F).2.2.2.2.2.2.2.2.2.2.2.2.2.2.2.2.2.2.2.2.2 = P.2.2.2.2.2.2.2.2.2.2.2.2.2.2.2.2.2.2.2.2.2).trans (rfl : (sgGs P G gl).2.2.2.2.2.2.2.2.2.2.2.2.2.2.2.2.2.2.2.2.2 = P.2.2.2.2.2.2.2.2.2.2.2.2.2.2.2.2.2.2.2.2.2).symm⟩
theorem as_52h {F G : Nat → Int} {gl : Nat → Fin 17} (X : CallFix p m c cc nL s args sg_tbl own) (hK : va_K D vwCl tys s) (hG : sgG (KT (sgGs P G gl)) D vwCl A tys ad ks H) (hS : va_S A H0 H locs) (ha : isK ad ks 52 a) {i x : Int32} (hin : vp_in i 320) (hf : F i.toNatClampNeg = x.toInt) (hf2 : ∀ j : Nat, j ≠ i.toNatClampNeg → F j = G j) (hdg : decode cc pc = .ok (.iastore, 1))
    (kk : ∀ (H1 : Heap) (locs1 : List Loc), sgG (KT (sgGs P F gl)) D vwCl A tys ad ks H1 → va_S A H0 H1 locs1 → W p l e R s m args below meth c H1 locs1 cells slots Q (F0 m (pc + 1) ls rest)) : W p l e R s m args below meth c H locs cells slots Q (F0 m pc ls (.int x :: .int i :: .ref a :: rest)) := by
  refine sg_iast1 (kt' := KT (sgGs P F gl)) X hK hG hS (k := 52) ha (by decide) (n := 320) (el := sg_ga G) (el' := sg_ga F) rfl rfl (KT_but52 (B := sgGs P G gl) gsS_same ⟨rfl, rfl, rfl, rfl, rfl, rfl, rfl, rfl, rfl, rfl, rfl, rfl, rfl, rfl, rfl, rfl, rfl, rfl, rfl, rfl, rfl⟩) hin ?_ ?_ hdg kk
  · unfold sg_ga
    by_cases h : i.toNatClampNeg < 256
    · rw [if_pos h, hf]
      exact ⟨x, rfl, Int.le_refl _, Int.le_refl _⟩
    · rw [if_neg h]
      exact ⟨x, rfl, iv_top x⟩
  · intro j v _ hj hv
    unfold sg_ga at hv ⊢
    rw [hf2 j hj]
    exact hv
theorem as_52g {G : Nat → Int} {gl : Nat → Fin 17} (X : CallFix p m c cc nL s args sg_tbl own) (hK : va_K D vwCl tys s) (hG : sgG (KT (sgGs P G gl)) D vwCl A tys ad ks H) (hS : va_S A H0 H locs) (ha : isK ad ks 52 a) {i x : Int32} (hin : vp_in i 320) (hdg : decode cc pc = .ok (.iastore, 1))
    (kk : ∀ (H1 : Heap) (locs1 : List Loc), sgG (KT (sgGs P (fun j => if j = i.toNatClampNeg then x.toInt else G j) gl)) D vwCl A tys ad ks H1 → va_S A H0 H1 locs1 → W p l e R s m args below meth c H1 locs1 cells slots Q (F0 m (pc + 1) ls rest)) : W p l e R s m args below meth c H locs cells slots Q (F0 m pc ls (.int x :: .int i :: .ref a :: rest)) := as_52h (F := (fun j => if j = i.toNatClampNeg then x.toInt else G j)) X hK hG hS ha hin (if_pos rfl) (fun j hj => if_neg hj) hdg kk
theorem as_53h {G : Nat → Int} {F gl : Nat → Fin 17} (X : CallFix p m c cc nL s args sg_tbl own) (hK : va_K D vwCl tys s) (hG : sgG (KT (sgGs P G gl)) D vwCl A tys ad ks H) (hS : va_S A H0 H locs) (ha : isK ad ks 53 a) {i x : Int32} (hin : vp_in i 5) (hx : iv 0 16 x) (hf : ((F i.toNatClampNeg).val : Int) = x.toInt) (hf2 : ∀ j : Nat, j ≠ i.toNatClampNeg → F j = gl j) (hdg : decode cc pc = .ok (.iastore, 1))
    (kk : ∀ (H1 : Heap) (locs1 : List Loc), sgG (KT (sgGs P G F)) D vwCl A tys ad ks H1 → va_S A H0 H1 locs1 → W p l e R s m args below meth c H1 locs1 cells slots Q (F0 m (pc + 1) ls rest)) : W p l e R s m args below meth c H locs cells slots Q (F0 m pc ls (.int x :: .int i :: .ref a :: rest)) := by
  refine sg_iast1 (kt' := KT (sgGs P G F)) X hK hG hS (k := 53) ha (by decide) (n := 5) (el := sg_gl gl) (el' := sg_gl F) rfl rfl (KT_but53 (B := sgGs P G gl) gsS_same3 ⟨rfl, rfl, rfl, rfl, rfl, rfl, rfl, rfl, rfl, rfl, rfl, rfl, rfl, rfl, rfl, rfl, rfl, rfl, rfl, rfl, rfl⟩) hin ?_ ?_ hdg kk
  · unfold sg_gl
    by_cases h : i.toNatClampNeg < 4
    · rw [if_pos h, hf]
      exact ⟨x, rfl, Int.le_refl _, Int.le_refl _⟩
    · rw [if_neg h]
      exact ⟨x, rfl, hx.1, hx.2⟩
  · intro j v _ hj hv
    unfold sg_gl at hv ⊢
    rw [hf2 j hj]
    exact hv
theorem as_53g {G : Nat → Int} {gl : Nat → Fin 17} (X : CallFix p m c cc nL s args sg_tbl own) (hK : va_K D vwCl tys s) (hG : sgG (KT (sgGs P G gl)) D vwCl A tys ad ks H) (hS : va_S A H0 H locs) (ha : isK ad ks 53 a) {i x : Int32} (hin : vp_in i 5) (hx : iv 0 16 x) (hdg : decode cc pc = .ok (.iastore, 1))
    (kk : ∀ (H1 : Heap) (locs1 : List Loc) (gl' : Nat → Fin 17), sgG (KT (sgGs P G gl')) D vwCl A tys ad ks H1 → va_S A H0 H1 locs1 → W p l e R s m args below meth c H1 locs1 cells slots Q (F0 m (pc + 1) ls rest)) : W p l e R s m args below meth c H locs cells slots Q (F0 m pc ls (.int x :: .int i :: .ref a :: rest)) := by
  have h17 : x.toInt.toNat < 17 := by
    have := hx.1
    have := hx.2
    omega
  refine as_53h (F := fun j => if j = i.toNatClampNeg then ⟨x.toInt.toNat, h17⟩ else gl j) X hK hG hS ha hin hx ?_ (fun j hj => if_neg hj) hdg (fun H1 locs1 => kk H1 locs1 _)
  rw [if_pos rfl]
  exact Int.toNat_of_nonneg hx.1
end
theorem sg_pin3 {n : Fin 5} {x y : Int32} (hx : iv (n.val : Int) (n.val : Int) x) (h3 : iv 0 3 x) (hy : iv (n.val : Int) (n.val : Int) y) : iv 0 3 y := by
  obtain ⟨x1, x2⟩ := hx
  obtain ⟨a1, a2⟩ := h3
  obtain ⟨y1, y2⟩ := hy
  exact ⟨by omega, by omega⟩
theorem sg_elpk {kt : List sgK} {cl : List vw_C} {D : va_G} {A : Nat → Prop} {tys : List (ClassId × FieldType)} {ad ks : List Nat} {H : Heap} {a : Nat} (hG : sgG kt D cl A tys ad ks H) {k : Nat} (ha : isK ad ks k a) {n : Nat} {el : Nat → sgT} (hk : kt[k]? = some (.inr (n, .int, el))) {i : Nat} (hi : i < n) : ∃ x : Int32, ele H a i x ∧ okV ad ks (el i) (.int x) := by
  obtain ⟨ws, hP, hD, hT, hU⟩ := hG
  obtain ⟨j, e, K, w1, w2, w3, w4⟩ := ha.in hT
  rw [hk] at w3
  cases w3
  cases e with
  | inr q => exact w4.elim
  | inl q =>
    obtain ⟨cA, m, z⟩ := q
    obtain ⟨h1, h2, h3, h4⟩ := w4
    dsimp only at h1 h2 h3 h4
    subst h1
    match z, w1, h3, h4 with
    | .inl f, w1, h3, h4 => exact ⟨f i, ele_of (hP j _ w1) hi, h3 i hi⟩
    | .inr (.inl f), w1, h3, h4 => cases h4
    | .inr (.inr (.inl f)), w1, h3, h4 => exact h3.elim
    | .inr (.inr (.inr (.inl f))), w1, h3, h4 => exact h3.elim
    | .inr (.inr (.inr (.inr f))), w1, h3, h4 => obtain ⟨C, h4⟩ := h4; cases h4
theorem iv_ne1 {x : Int32} (h : iv 0 241 x) : ¬ x = -1 := by
  rintro rfl
  have h1 := h.1
  have h2 : (-1 : Int32).toInt = -1 := by decide +kernel
  omega
