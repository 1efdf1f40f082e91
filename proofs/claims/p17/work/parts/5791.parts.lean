/-- PARTS, as the reference reckons them -/
def pf_st (w t n b k : Int32) : Int32 :=
  bif b.toBitVec.toNat.testBit (k.toBitVec.toNat % 32) then
    let x := k - k / w * w
    let b1 := if x ≤ 0 then b else b ||| ((1 <<< ((k - 1) &&& 31)) &&& t)
    let b2 := if w - 1 ≤ x then b1 else b1 ||| ((1 <<< ((k + 1) &&& 31)) &&& t)
    let b3 := if k < w then b2 else b2 ||| ((1 <<< ((k - w) &&& 31)) &&& t)
    if n ≤ k + w then b3 else b3 ||| ((1 <<< ((k + w) &&& 31)) &&& t)
  else b
def pf_row (w t n : Int32) : Nat → Int32 → Int32 → Int32
  | 0, _, b => b
  | m + 1, k, b => pf_row w t n m (k + Int32.ofInt 1) (pf_st w t n b k)
def pf_all (w t n : Int32) : Nat → Int32 → Int32
  | 0, b => b
  | m + 1, b => pf_all w t n m (pf_row w t n n.toInt.toNat 0 b)
def pf_of (w t n c : Int32) : Int32 := pf_all w t n n.toInt.toNat (1 <<< (c &&& 31))
theorem pf_no {w t n b k : Int32} (h : ¬ sgHas b k) : pf_st w t n b k = b := by
  unfold pf_st
  rw [show b.toBitVec.toNat.testBit (k.toBitVec.toNat % 32) = false from Bool.eq_false_iff.mpr h]
  rfl
theorem pf_mk {w t n b k x b1 b2 b3 b4 m1 m2 : Int32} (h : sgHas b k) (ex : x = k - k / w * w) (em : m1 = w - 1) (em2 : m2 = k + w) (h1 : (x ≤ 0 ∧ b1 = b) ∨ (¬ x ≤ 0 ∧ b1 = b ||| ((1 <<< ((k - 1) &&& 31)) &&& t))) (h2 : (m1 ≤ x ∧ b2 = b1) ∨ (¬ m1 ≤ x ∧ b2 = b1 ||| ((1 <<< ((k + 1) &&& 31)) &&& t))) (h3 : (k < w ∧ b3 = b2) ∨ (¬ k < w ∧ b3 = b2 ||| ((1 <<< ((k - w) &&& 31)) &&& t))) (h4 : (n ≤ m2 ∧ b4 = b3) ∨ (¬ n ≤ m2 ∧ b4 = b3 ||| ((1 <<< ((k + w) &&& 31)) &&& t))) : pf_st w t n b k = b4 := by
  subst em em2 ex
  unfold pf_st
  rw [show b.toBitVec.toNat.testBit (k.toBitVec.toNat % 32) = true from h]
  simp only [cond_true]
  rcases h1 with ⟨c1, rfl⟩ | ⟨c1, rfl⟩ <;> rcases h2 with ⟨c2, rfl⟩ | ⟨c2, rfl⟩ <;> rcases h3 with ⟨c3, rfl⟩ | ⟨c3, rfl⟩ <;> rcases h4 with ⟨c4, rfl⟩ | ⟨c4, rfl⟩ <;> simp only [c1, c2, c3, c4, if_true, if_false]
theorem pf_in {w t n k k' b b' R : Int32} {a : Nat} (h : pf_all w t n a (pf_row w t n (n.toInt.toNat - k.toInt.toNat) k b) = R) (hk : k.toInt < n.toInt) (h0 : 0 ≤ k.toInt) (ek : k' = k + Int32.ofInt 1) (ek2 : k'.toInt = k.toInt + 1) (eb : pf_st w t n b k = b') : pf_all w t n a (pf_row w t n (n.toInt.toNat - k'.toInt.toNat) k' b') = R := by
  rw [show n.toInt.toNat - k.toInt.toNat = (n.toInt.toNat - k'.toInt.toNat) + 1 by omega] at h
  rw [← h, ek, ← eb]
  rfl
theorem pf_ex {w t n k b R a a' : Int32} (h : pf_all w t n (n.toInt.toNat - a.toInt.toNat - 1) (pf_row w t n (n.toInt.toNat - k.toInt.toNat) k b) = R) (hk : n.toInt ≤ k.toInt) (h0 : 0 ≤ a.toInt) (ea : a'.toInt = a.toInt + 1) : pf_all w t n (n.toInt.toNat - a'.toInt.toNat) b = R := by
  rw [show n.toInt.toNat - k.toInt.toNat = 0 by omega] at h
  rw [← h, show n.toInt.toNat - a'.toInt.toNat = n.toInt.toNat - a.toInt.toNat - 1 by omega]
  rfl
theorem pf_en {w t n b R a : Int32} (h : pf_all w t n (n.toInt.toNat - a.toInt.toNat) b = R) (ha : a.toInt < n.toInt) (h0 : 0 ≤ a.toInt) : pf_all w t n (n.toInt.toNat - a.toInt.toNat - 1) (pf_row w t n (n.toInt.toNat - (0 : Int32).toInt.toNat) 0 b) = R := by
  rw [show n.toInt.toNat - a.toInt.toNat = (n.toInt.toNat - a.toInt.toNat - 1) + 1 by omega] at h
  rw [← h, show (0 : Int32).toInt.toNat = 0 from by decide +kernel]
  rfl
theorem pf_s0 {w t n b c : Int32} (e : b = 1 <<< (c &&& 31)) : pf_all w t n (n.toInt.toNat - (0 : Int32).toInt.toNat) b = pf_of w t n c := by
  rw [show (0 : Int32).toInt.toNat = 0 from by decide +kernel, e]
  rfl
theorem pf_rt {w t n b R a : Int32} (h : pf_all w t n (n.toInt.toNat - a.toInt.toNat) b = R) (ha : n.toInt ≤ a.toInt) : b = R := by
  rw [show n.toInt.toNat - a.toInt.toNat = 0 by omega] at h
  exact h
def pa (w t n i : Int32) : Nat → Int32 → Int32 → Int32 → Int32
  | 0, _, _, m => if i = -1 then m else -1
  | q + 1, c, s, m => bif t.toBitVec.toNat.testBit (c.toBitVec.toNat % 32) && !s.toBitVec.toNat.testBit (c.toBitVec.toNat % 32) then (if m = i then pf_of w t n c else pa w t n i q (c + Int32.ofInt 1) (s ||| pf_of w t n c) (m + Int32.ofInt 1)) else pa w t n i q (c + Int32.ofInt 1) s m
def paF (w t n i : Int32) : Int32 := pa w t n i n.toInt.toNat 0 0 0
theorem pa_s0 {w t n i : Int32} : pa w t n i (n.toInt.toNat - (0 : Int32).toInt.toNat) 0 0 0 = paF w t n i := by
  rw [show (0 : Int32).toInt.toNat = 0 from by decide +kernel]
  rfl
theorem pa_no {w t n i c c' s m R : Int32} (h : pa w t n i (n.toInt.toNat - c.toInt.toNat) c s m = R) (hc : c.toInt < n.toInt) (h0 : 0 ≤ c.toInt) (ec : c' = c + Int32.ofInt 1) (ec2 : c'.toInt = c.toInt + 1) (hh : ¬ sgHas t c ∨ sgHas s c) : pa w t n i (n.toInt.toNat - c'.toInt.toNat) c' s m = R := by
  rw [show n.toInt.toNat - c.toInt.toNat = (n.toInt.toNat - c'.toInt.toNat) + 1 by omega] at h
  rw [← h, ec]
  show _ = cond _ _ _
  rcases hh with hh | hh
  · rw [show t.toBitVec.toNat.testBit (c.toBitVec.toNat % 32) = false from Bool.eq_false_iff.mpr hh]
    rfl
  · rw [show s.toBitVec.toNat.testBit (c.toBitVec.toNat % 32) = true from hh]
    rw [Bool.not_true, Bool.and_false]
    rfl
theorem pa_ret {w t n i c s m R b : Int32} (h : pa w t n i (n.toInt.toNat - c.toInt.toNat) c s m = R) (hc : c.toInt < n.toInt) (h0 : 0 ≤ c.toInt) (h1 : sgHas t c) (h2 : ¬ sgHas s c) (eb : b = pf_of w t n c) (em : m = i) : b = R := by
  rw [show n.toInt.toNat - c.toInt.toNat = (n.toInt.toNat - c.toInt.toNat - 1) + 1 by omega] at h
  rw [← h, eb]
  show _ = cond _ _ _
  rw [show t.toBitVec.toNat.testBit (c.toBitVec.toNat % 32) = true from h1, show s.toBitVec.toNat.testBit (c.toBitVec.toNat % 32) = false from Bool.eq_false_iff.mpr h2]
  show _ = if m = i then _ else _
  rw [if_pos em]
theorem pa_go {w t n i c c' s s' m m' R b : Int32} (h : pa w t n i (n.toInt.toNat - c.toInt.toNat) c s m = R) (hc : c.toInt < n.toInt) (h0 : 0 ≤ c.toInt) (h1 : sgHas t c) (h2 : ¬ sgHas s c) (eb : b = pf_of w t n c) (em : ¬ m = i) (es : s' = s ||| b) (em2 : m' = m + Int32.ofInt 1) (ec : c' = c + Int32.ofInt 1) (ec2 : c'.toInt = c.toInt + 1) : pa w t n i (n.toInt.toNat - c'.toInt.toNat) c' s' m' = R := by
  rw [show n.toInt.toNat - c.toInt.toNat = (n.toInt.toNat - c'.toInt.toNat) + 1 by omega] at h
  rw [← h, ec, es, em2, eb]
  show _ = cond _ _ _
  rw [show t.toBitVec.toNat.testBit (c.toBitVec.toNat % 32) = true from h1, show s.toBitVec.toNat.testBit (c.toBitVec.toNat % 32) = false from Bool.eq_false_iff.mpr h2]
  show _ = if m = i then _ else _
  rw [if_neg em]
theorem pa_end1 {w t n i c s m R : Int32} (h : pa w t n i (n.toInt.toNat - c.toInt.toNat) c s m = R) (hc : n.toInt ≤ c.toInt) (hi : i = -1) : m = R := by
  rw [show n.toInt.toNat - c.toInt.toNat = 0 by omega] at h
  have h : (if i = -1 then m else -1) = R := h
  rwa [if_pos hi] at h
theorem pa_end0 {w t n i c s m R : Int32} (h : pa w t n i (n.toInt.toNat - c.toInt.toNat) c s m = R) (hc : n.toInt ≤ c.toInt) (hi : ¬ i = -1) : -1 = R := by
  rw [show n.toInt.toNat - c.toInt.toNat = 0 by omega] at h
  have h : (if i = -1 then m else -1) = R := h
  rwa [if_neg hi] at h
/-- with the tufts pinned -/
def sgPs (P : sgPm) (p : Option Int) : sgPm := (P.1, P.2.1, P.2.2.1, P.2.2.2.1, P.2.2.2.2.1, P.2.2.2.2.2.1, P.2.2.2.2.2.2.1, P.2.2.2.2.2.2.2.1, P.2.2.2.2.2.2.2.2.1, P.2.2.2.2.2.2.2.2.2.1, sgN P, sgPl P, sgG0 P, sgGl P, sgRw P, sgNc P, p, sgTp P)
def wP (P : sgPm) : Int32 := Int32.ofInt (max 1 (min (sgW P) 6))
def nP (P : sgPm) : Int32 := Int32.ofInt (max 1 (min (sgNc P) 30))
theorem iv_pin {x : Int32} {a : Int} (h : iv a a x) : x = Int32.ofInt a := by
  have h1 : x.toInt = a := by have := h.1; have := h.2; omega
  rw [← h1]
  exact (Int32.ofInt_toInt x).symm
theorem nP_iv (P : sgPm) : iv 1 30 (nP P) := by
  have h : (nP P).toInt = max 1 (min (sgNc P) 30) := Int32.toInt_ofInt_of_le (by omega) (by omega)
  exact ⟨by omega, by omega⟩
theorem wP_iv (P : sgPm) : iv 1 6 (wP P) := by
  have h : (wP P).toInt = max 1 (min (sgW P) 6) := Int32.toInt_ofInt_of_le (by omega) (by omega)
  exact ⟨by omega, by omega⟩
theorem sg_unpin {p : Option Int} {D : va_G} {A : Nat → Prop} {tys : List (ClassId × FieldType)} {ad ks : List Nat} {H : Heap} {P : sgPm} (hp : sgPin P = none) (hG : sgG (KT (sgPs P p)) D vwCl A tys ad ks H) : sgG (KT P) D vwCl A tys ad ks H := by
  refine sg_kinds hG rfl fun k K e hk he => ?_
  by_cases h : k = 54
  · subst h
    cases hk
    refine ⟨KK54 P, rfl, okE_arr (fun j v hv => ?_) he⟩
    have hv : okV ad ks (sg_nw (sgN P) p j) v := hv
    show okV ad ks (sg_nw (sgN P) (sgPin P) j) v
    rw [hp]
    unfold sg_nw at hv ⊢
    by_cases e : j = 0
    · rw [if_pos e] at hv ⊢
      cases p with
      | none => exact hv
      | some t => obtain ⟨x, h1, -⟩ := hv; exact ⟨x, h1, iv_top x⟩
    · rw [if_neg e] at hv ⊢
      exact hv
  · refine ⟨K, ?_, he⟩
    rw [← hk]
    match k, h with
    | 0, h => rfl
    | 1, h => rfl
    | 2, h => rfl
    | 3, h => rfl
    | 4, h => rfl
    | 5, h => rfl
    | 6, h => rfl
    | 7, h => rfl
    | 8, h => rfl
    | 9, h => rfl
    | 10, h => rfl
    | 11, h => rfl
    | 12, h => rfl
    | 13, h => rfl
    | 14, h => rfl
    | 15, h => rfl
    | 16, h => rfl
    | 17, h => rfl
    | 18, h => rfl
    | 19, h => rfl
    | 20, h => rfl
    | 21, h => rfl
    | 22, h => rfl
    | 23, h => rfl
    | 24, h => rfl
    | 25, h => rfl
    | 26, h => rfl
    | 27, h => rfl
    | 28, h => rfl
    | 29, h => rfl
    | 30, h => rfl
    | 31, h => rfl
    | 32, h => rfl
    | 33, h => rfl
    | 34, h => rfl
    | 35, h => rfl
    | 36, h => rfl
    | 37, h => rfl
    | 38, h => rfl
    | 39, h => rfl
    | 40, h => rfl
    | 41, h => rfl
    | 42, h => rfl
    | 43, h => rfl
    | 44, h => rfl
    | 45, h => rfl
    | 46, h => rfl
    | 47, h => rfl
    | 48, h => rfl
    | 49, h => rfl
    | 50, h => rfl
    | 51, h => rfl
    | 52, h => rfl
    | 53, h => rfl
    | 54, h => exact absurd rfl h
    | 55, h => rfl
    | 56, h => rfl
    | 57, h => rfl
    | 58, h => rfl
    | 59, h => rfl
    | 60, h => rfl
    | 61, h => rfl
    | 62, h => rfl
    | 63, h => rfl
    | 64, h => rfl
    | 65, h => rfl
    | 66, h => rfl
    | 67, h => rfl
    | k + 68, h => rfl
theorem sg_dopin {D : va_G} {A : Nat → Prop} {tys : List (ClassId × FieldType)} {ad ks : List Nat} {H : Heap} {P : sgPm} (hp : sgPin P = none) (hG : sgG (KT P) D vwCl A tys ad ks H) {a : Nat} (h0 : isK ad ks 12 a) : ∃ t : Int32, sgG (KT (sgPs P (some t.toInt))) D vwCl A tys ad ks H := by
  obtain ⟨v, hv, -⟩ := sg_peek hG h0 (k := 12) (ci := 12) rfl (r := (RX12, TX12, 53)) rfl 32 (show 32 < 53 by decide) rfl
  obtain ⟨q, rfl, hq⟩ : ∃ q : Nat, v = .ref q ∧ isK ad ks 54 q := by
    rcases hv with ⟨h1, -⟩ | ⟨x, rfl, hx⟩
    · cases h1
    · exact ⟨_, rfl, hx⟩
  obtain ⟨t, ht, -⟩ := sg_elpk hG hq (k := 54) (n := 249) (el := sg_nw (sgN P) (sgPin P)) rfl (i := 0) (by decide)
  refine ⟨t, sg_strA hG hq (by decide) (k := 54) (n := 249) (el := sg_nw (sgN P) (sgPin P)) (el' := sg_nw (sgN P) (some t.toInt)) rfl rfl (KT_but54 (B := P) ⟨rfl, rfl, rfl, rfl, rfl, rfl, rfl, rfl, rfl, rfl, rfl, rfl, rfl, rfl, rfl, rfl, rfl, rfl, rfl, rfl, rfl⟩ ⟨rfl, rfl, rfl, rfl, rfl, rfl, rfl, rfl, rfl, rfl, rfl, rfl, rfl, rfl, rfl, rfl, rfl, rfl, rfl, rfl, rfl⟩) ht ⟨t, rfl, Int.le_refl _, Int.le_refl _⟩ (fun j v _ hj h => ?_)⟩
  unfold sg_nw at h ⊢
  rw [if_neg hj] at h ⊢
  exact h
theorem sg_pk {D : va_G} {A : Nat → Prop} {tys : List (ClassId × FieldType)} {ad ks : List Nat} {H : Heap} {P : sgPm} (hp4 : P.2.2.2.2.1 = true) {t : Int32} (hpin : sgPin P = some t.toInt) (hG : sgG (KT P) D vwCl A tys ad ks H) {a : Nat} (h0 : isK ad ks 12 a) : ∃ rq nq : Nat, isK ad ks 49 rq ∧ isK ad ks 54 nq ∧ fld D H 12 a 18 (.ref rq) ∧ fld D H 12 a 32 (.ref nq) ∧ fld D H 12 a 23 (.int (nP P)) ∧ ele H rq 0 (wP P) ∧ ele H nq 0 t := by
  obtain ⟨v, hv, f1⟩ := sg_peek hG h0 (k := 12) (ci := 12) rfl (r := (RX12, TX12, 53)) rfl 32 (show 32 < 53 by decide) rfl
  obtain ⟨nq, rfl, hn⟩ : ∃ q : Nat, v = .ref q ∧ isK ad ks 54 q := by
    rcases hv with ⟨h1, -⟩ | ⟨x, rfl, hx⟩
    · cases h1
    · exact ⟨_, rfl, hx⟩
  obtain ⟨v, hv, f2⟩ := sg_peek hG h0 (k := 12) (ci := 12) rfl (r := (RX12, TX12, 53)) rfl 18 (show 18 < 53 by decide) rfl
  obtain ⟨rq, rfl, hr⟩ : ∃ q : Nat, v = .ref q ∧ isK ad ks 49 q := by
    rcases hv with ⟨h1, -⟩ | ⟨x, rfl, hx⟩
    · cases h1
    · exact ⟨_, rfl, hx⟩
  obtain ⟨v, hv, f3⟩ := sg_peek hG h0 (k := 12) (ci := 12) rfl (r := (RX12, TX12, 53)) rfl 23 (show 23 < 53 by decide) rfl
  obtain ⟨c, rfl, hc⟩ := hv
  have hc : c = nP P := by
    have h : iv (sgC1 P) (sgC1 P) c := hc
    rw [iv_pin h]
    unfold sgC1 nP
    rw [hp4]
    rfl
  subst hc
  obtain ⟨t', ht, ht2⟩ := sg_elpk hG hn (k := 54) (n := 249) (el := sg_nw (sgN P) (sgPin P)) rfl (i := 0) (by decide)
  obtain ⟨w, hw, hw2⟩ := sg_elpk hG hr (k := 49) (n := 7) (el := sg_ru P.2.2.2.2.1 (sgRw P)) rfl (i := 0) (by decide)
  have ew : w = wP P := by
    rw [hp4] at hw2
    obtain ⟨y, h1, h2⟩ := hw2
    cases h1
    exact iv_pin h2
  have et : t' = t := by
    rw [hpin] at ht2
    obtain ⟨y, h1, h2⟩ := ht2
    cases h1
    have h3 := h2.1
    have h4 := h2.2
    exact Int32.toInt_inj.mp (by dsimp only at h3 h4; omega)
  rw [ew] at hw
  rw [et] at ht
  exact ⟨rq, nq, hr, hn, f2, f1, f3, hw, ht⟩
theorem pa_few {w t n r i M : Int32} (h : ∀ j : Int32, 0 ≤ j.toInt → j.toInt < M.toInt → sg_pc 32 (paF w t n j).toBitVec.toNat ≤ 12) (er : r = paF w t n i) (h0 : 0 ≤ i.toInt) (hi : i < M) : sg_pc 32 r.toBitVec.toNat ≤ 12 := by
  rw [er]
  exact h i h0 (Int32.lt_iff_toInt_lt.mp hi)
theorem iv_nle {x y : Int32} (h : x ≤ y) : ¬ y < x := fun q => by
  have h1 := Int32.le_iff_toInt_le.mp h
  have h2 := Int32.lt_iff_toInt_lt.mp q
  omega
theorem iv_nlt {x y : Int32} (h : x < y) : ¬ y ≤ x := fun q => by
  have h1 := Int32.lt_iff_toInt_lt.mp h
  have h2 := Int32.le_iff_toInt_le.mp q
  omega
theorem pc_of12 {x r : Int32} (h : r.toInt = (sg_pc 32 x.toBitVec.toNat : Int)) (hr : r ≤ 12) : sg_pc 32 x.toBitVec.toNat ≤ 12 := sg_pop12 h hr
