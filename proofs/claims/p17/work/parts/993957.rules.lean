/-- the first m of the rules are known -/
def sg_rqf (f : Nat → Int) (m : Int) : Nat → sgT := fun i => if (i : Int) < m then .inl (f i, f i) else .inl ((-2147483648), 2147483647)
theorem sg_rf0 {f : Nat → Int} {ad ks : List Nat} {j : Nat} {x : Int32} : okV ad ks (sg_rqf f 0 j) (.int x) := by
  unfold sg_rqf
  rw [if_neg (by omega)]
  exact ⟨x, rfl, iv_top x⟩
theorem sg_rf_up {f : Nat → Int} {ad ks : List Nat} {m : Int} {j i : Nat} {v : Int32} (hi : (i : Int) = m) (hj : j ≠ i) (h : okV ad ks (sg_rqf f m j) (.int v)) : okV ad ks (sg_rqf f (m + 1) j) (.int v) := by
  unfold sg_rqf at h ⊢
  by_cases e : (j : Int) < m
  · rw [if_pos e] at h
    rw [if_pos (by omega)]
    exact h
  · rw [if_neg (by omega)]
    exact ⟨v, rfl, iv_top v⟩
theorem sg_rf_rl {f : Nat → Int} {ad ks : List Nat} {m : Int} {i x : Int32} (hm : i.toInt = m) (h0 : 0 ≤ i.toInt) (h7 : i.toInt < 7) (h : okV ad ks (sg_rqf f 7 i.toNatClampNeg) (.int x)) : okV ad ks (sg_rqf f (m + 1) i.toNatClampNeg) (.int x) := by
  have e : (i.toNatClampNeg : Int) = i.toInt := by show ((i.toInt.toNat : Nat) : Int) = _; omega
  unfold sg_rqf at h ⊢
  rw [if_pos (by omega)] at h
  rw [if_pos (by omega)]
  exact h
theorem sg_rf_at {f : Nat → Int} {ad ks : List Nat} {x i : Int32} {k : Nat} (hk : i.toNatClampNeg = k) (h7 : k < 7) (h : okV ad ks (sg_rqf f 7 i.toNatClampNeg) (.int x)) : x.toInt = f k := by
  subst hk
  unfold sg_rqf at h
  rw [if_pos (by omega)] at h
  obtain ⟨y, e, hy⟩ := h
  cases e
  exact vq_iv hy
def KK50q (f : Nat → Int) (P : sgPm) : sgK := .inr (7, .int, sg_rqf f 7)
def KN (f : Nat → Int) (P : sgPm) : List sgK := [KK0 P, KK1 P, KK2 P, KK3 P, KK4 P, KK5 P, KK6 P, KK7 P, KK8 P, KK9 P, KK10 P, KK11 P, KK12 P, KK13 P, KK14 P, KK15 P, KK16 P, KK17 P, KK18 P, KK19 P, KK20 P, KK21 P, KK22 P, KK23 P, KK24 P, KK25 P, KK26 P, KK27 P, KK28 P, KK29 P, KK30 P, KK31 P, KK32 P, KK33 P, KK34 P, KK35 P, KK36 P, KK37 P, KK38 P, KK39 P, KK40 P, KK41 P, KK42 P, KK43 P, KK44 P, KK45 P, KK46 P, KK47 P, KK48 P, KK49 P, KK50q f P, KK51 P, KK52 P, KK53 P, KK54 P, KK55 P, KK56 P, KK57 P, KK58 P, KK59 P, KK60 P, KK61 P, KK62 P, KK63 P, KK64 P, KK65 P, KK66 P, KK67 P]
def KK12x (P : sgPm) : sgK := .inl (12, [.inl ((-2147483648), 2147483647), .inr (.inl (false, 45)), .inr (.inl (false, 46)), .inr (.inl (false, 47)), .inr (.inl (false, 48)), .inr (.inr true), .inl (sgC240 (sgL2 P), sgC240 (sgL2 P)), .inl ((P.2.2.2.2.2.2.2.2.1.val : Int), (P.2.2.2.2.2.2.2.2.1.val : Int)), .inl ((-2147483648), 2147483647), .inl (0, 240), .inl ((-2147483648), 2147483647), .inl ((-1), 241), .inl (0, 6), .inl ((-2147483648), 2147483647), .inl ((-2147483648), 2147483647), .inr (.inr true), .inr (.inr true), .inl (0, 1), .inr (.inl (false, 49)), .inr (.inl (false, 50)), .inr (.inl (false, 51)), .inr (.inl (false, 52)), .inr (.inl (false, 53)), .inl (0, 30), .inl ((-2147483648), 2147483647), .inl ((-2147483648), 2147483647), .inl ((-2147483648), 2147483647), .inl ((-2147483648), 2147483647), .inl ((-2147483648), 2147483647), .inl ((P.2.2.2.2.2.2.2.2.2.1.val : Int), (P.2.2.2.2.2.2.2.2.2.1.val : Int)), .inl (0, 1), .inl (0, 1), .inr (.inl (false, 54)), .inr (.inl (false, 55)), .inl ((-1), 3), .inl (P.2.2.2.2.2.1, P.2.2.2.2.2.1), .inr (.inl (false, 56)), .inr (.inl (false, 57)), .inr (.inl (false, 58)), .inl (0, 40), .inr (.inr false), .inr (.inl (false, 59)), .inl ((-2147483648), 2147483647), .inl ((-2147483648), 2147483647), .inr (.inl (false, 60)), .inr (.inl (false, 61)), .inr (.inl (false, 62)), .inl (0, 12), .inr (.inl (false, 63)), .inr (.inl (false, 64)), .inl (0, 12), .inr (.inl (false, 65)), .inl (0, 1)])
def KK12y (c : Int) (P : sgPm) : sgK := .inl (12, [.inl ((-2147483648), 2147483647), .inr (.inl (false, 45)), .inr (.inl (false, 46)), .inr (.inl (false, 47)), .inr (.inl (false, 48)), .inr (.inr true), .inl (sgC240 (sgL2 P), sgC240 (sgL2 P)), .inl ((P.2.2.2.2.2.2.2.2.1.val : Int), (P.2.2.2.2.2.2.2.2.1.val : Int)), .inl ((-2147483648), 2147483647), .inl (0, 240), .inl ((-2147483648), 2147483647), .inl ((-1), 241), .inl (0, 6), .inl ((-2147483648), 2147483647), .inl ((-2147483648), 2147483647), .inr (.inr true), .inr (.inr true), .inl (0, 1), .inr (.inl (false, 49)), .inr (.inl (false, 50)), .inr (.inl (false, 51)), .inr (.inl (false, 52)), .inr (.inl (false, 53)), .inl (max 1 (min c 30), max 1 (min c 30)), .inl ((-2147483648), 2147483647), .inl ((-2147483648), 2147483647), .inl ((-2147483648), 2147483647), .inl ((-2147483648), 2147483647), .inl ((-2147483648), 2147483647), .inl ((P.2.2.2.2.2.2.2.2.2.1.val : Int), (P.2.2.2.2.2.2.2.2.2.1.val : Int)), .inl (0, 1), .inl (0, 1), .inr (.inl (false, 54)), .inr (.inl (false, 55)), .inl ((-1), 3), .inl (P.2.2.2.2.2.1, P.2.2.2.2.2.1), .inr (.inl (false, 56)), .inr (.inl (false, 57)), .inr (.inl (false, 58)), .inl (0, 40), .inr (.inr false), .inr (.inl (false, 59)), .inl ((-2147483648), 2147483647), .inl ((-2147483648), 2147483647), .inr (.inl (false, 60)), .inr (.inl (false, 61)), .inr (.inl (false, 62)), .inl (0, 12), .inr (.inl (false, 63)), .inr (.inl (false, 64)), .inl (0, 12), .inr (.inl (false, 65)), .inl (0, 1)])
def KK49x (f : Nat → Int) (m : Int) (P : sgPm) : sgK := .inr (7, .int, sg_rqf f m)
def KX (f : Nat → Int) (m : Int) (P : sgPm) : List sgK := [KK0 P, KK1 P, KK2 P, KK3 P, KK4 P, KK5 P, KK6 P, KK7 P, KK8 P, KK9 P, KK10 P, KK11 P, KK12x P, KK13 P, KK14 P, KK15 P, KK16 P, KK17 P, KK18 P, KK19 P, KK20 P, KK21 P, KK22 P, KK23 P, KK24 P, KK25 P, KK26 P, KK27 P, KK28 P, KK29 P, KK30 P, KK31 P, KK32 P, KK33 P, KK34 P, KK35 P, KK36 P, KK37 P, KK38 P, KK39 P, KK40 P, KK41 P, KK42 P, KK43 P, KK44 P, KK45 P, KK46 P, KK47 P, KK48 P, KK49x f m P, KK50q f P, KK51 P, KK52 P, KK53 P, KK54 P, KK55 P, KK56 P, KK57 P, KK58 P, KK59 P, KK60 P, KK61 P, KK62 P, KK63 P, KK64 P, KK65 P, KK66 P, KK67 P]
def KY (f : Nat → Int) (c : Int) (P : sgPm) : List sgK := [KK0 P, KK1 P, KK2 P, KK3 P, KK4 P, KK5 P, KK6 P, KK7 P, KK8 P, KK9 P, KK10 P, KK11 P, KK12y c P, KK13 P, KK14 P, KK15 P, KK16 P, KK17 P, KK18 P, KK19 P, KK20 P, KK21 P, KK22 P, KK23 P, KK24 P, KK25 P, KK26 P, KK27 P, KK28 P, KK29 P, KK30 P, KK31 P, KK32 P, KK33 P, KK34 P, KK35 P, KK36 P, KK37 P, KK38 P, KK39 P, KK40 P, KK41 P, KK42 P, KK43 P, KK44 P, KK45 P, KK46 P, KK47 P, KK48 P, KK49x f 7 P, KK50q f P, KK51 P, KK52 P, KK53 P, KK54 P, KK55 P, KK56 P, KK57 P, KK58 P, KK59 P, KK60 P, KK61 P, KK62 P, KK63 P, KK64 P, KK65 P, KK66 P, KK67 P]
theorem kx_of {f : Nat → Int} {D : va_G} {A : Nat → Prop} {tys : List (ClassId × FieldType)} {ad ks : List Nat} {H : Heap} {P : sgPm} (hG : sgG (KN f P) D vwCl A tys ad ks H) : sgG (KX f 0 P) D vwCl A tys ad ks H := by
  refine sg_kinds hG rfl fun k K e hk he => ?_
  by_cases h1 : k = 12
  · subst h1
    cases hk
    refine ⟨KK12x P, rfl, ?_⟩
    cases e with
    | inl z => exact he.elim
    | inr q =>
      obtain ⟨h1, h2, h3⟩ := he
      refine ⟨h1, h2, fun j t v ht hv => ?_⟩
      match j, ht with
      | 0, ht => exact h3 0 t v ht hv
      | 1, ht => exact h3 1 t v ht hv
      | 2, ht => exact h3 2 t v ht hv
      | 3, ht => exact h3 3 t v ht hv
      | 4, ht => exact h3 4 t v ht hv
      | 5, ht => exact h3 5 t v ht hv
      | 6, ht => exact h3 6 t v ht hv
      | 7, ht => exact h3 7 t v ht hv
      | 8, ht => exact h3 8 t v ht hv
      | 9, ht => exact h3 9 t v ht hv
      | 10, ht => exact h3 10 t v ht hv
      | 11, ht => exact h3 11 t v ht hv
      | 12, ht => exact h3 12 t v ht hv
      | 13, ht => exact h3 13 t v ht hv
      | 14, ht => exact h3 14 t v ht hv
      | 15, ht => exact h3 15 t v ht hv
      | 16, ht => exact h3 16 t v ht hv
      | 17, ht => exact h3 17 t v ht hv
      | 18, ht => exact h3 18 t v ht hv
      | 19, ht => exact h3 19 t v ht hv
      | 20, ht => exact h3 20 t v ht hv
      | 21, ht => exact h3 21 t v ht hv
      | 22, ht => exact h3 22 t v ht hv
      | 23, ht => cases ht; obtain ⟨x, rfl, g1, g2⟩ := h3 23 _ v rfl hv; exact ⟨x, rfl, Int.le_trans (sgC1_0 P).1 g1, Int.le_trans g2 (sgC1_0 P).2⟩
      | 24, ht => exact h3 24 t v ht hv
      | 25, ht => exact h3 25 t v ht hv
      | 26, ht => exact h3 26 t v ht hv
      | 27, ht => exact h3 27 t v ht hv
      | 28, ht => exact h3 28 t v ht hv
      | 29, ht => exact h3 29 t v ht hv
      | 30, ht => exact h3 30 t v ht hv
      | 31, ht => exact h3 31 t v ht hv
      | 32, ht => exact h3 32 t v ht hv
      | 33, ht => exact h3 33 t v ht hv
      | 34, ht => exact h3 34 t v ht hv
      | 35, ht => exact h3 35 t v ht hv
      | 36, ht => exact h3 36 t v ht hv
      | 37, ht => exact h3 37 t v ht hv
      | 38, ht => exact h3 38 t v ht hv
      | 39, ht => exact h3 39 t v ht hv
      | 40, ht => exact h3 40 t v ht hv
      | 41, ht => exact h3 41 t v ht hv
      | 42, ht => exact h3 42 t v ht hv
      | 43, ht => exact h3 43 t v ht hv
      | 44, ht => exact h3 44 t v ht hv
      | 45, ht => exact h3 45 t v ht hv
      | 46, ht => exact h3 46 t v ht hv
      | 47, ht => exact h3 47 t v ht hv
      | 48, ht => exact h3 48 t v ht hv
      | 49, ht => exact h3 49 t v ht hv
      | 50, ht => exact h3 50 t v ht hv
      | 51, ht => exact h3 51 t v ht hv
      | 52, ht => exact h3 52 t v ht hv
      | j + 53, ht => cases ht
  by_cases h2 : k = 49
  · subst h2
    cases hk
    refine ⟨KK49x f 0 P, rfl, okE_arr (fun j v hv => ?_) he⟩
    have hx : ∃ x : Int32, v = .int x := by
      cases hb : P.2.2.2.2.1 with
      | false =>
        rw [hb] at hv
        obtain ⟨x, h, -⟩ := hv
        exact ⟨x, h⟩
      | true =>
        rw [hb] at hv
        have hv2 : okV ad ks (sg_rl j) v := sg_ru_rl (f := sgRw P) hv
        obtain ⟨b, e⟩ := sg_rl_inl j
        rw [e] at hv2
        obtain ⟨x, h, -⟩ := hv2
        exact ⟨x, h⟩
    obtain ⟨x, rfl⟩ := hx
    exact sg_rf0
  · refine ⟨K, ?_, he⟩
    rw [← hk]
    match k, h1, h2 with
    | 0, h0, h1 => rfl
    | 1, h0, h1 => rfl
    | 2, h0, h1 => rfl
    | 3, h0, h1 => rfl
    | 4, h0, h1 => rfl
    | 5, h0, h1 => rfl
    | 6, h0, h1 => rfl
    | 7, h0, h1 => rfl
    | 8, h0, h1 => rfl
    | 9, h0, h1 => rfl
    | 10, h0, h1 => rfl
    | 11, h0, h1 => rfl
    | 12, h0, h1 => exact absurd rfl h0
    | 13, h0, h1 => rfl
    | 14, h0, h1 => rfl
    | 15, h0, h1 => rfl
    | 16, h0, h1 => rfl
    | 17, h0, h1 => rfl
    | 18, h0, h1 => rfl
    | 19, h0, h1 => rfl
    | 20, h0, h1 => rfl
    | 21, h0, h1 => rfl
    | 22, h0, h1 => rfl
    | 23, h0, h1 => rfl
    | 24, h0, h1 => rfl
    | 25, h0, h1 => rfl
    | 26, h0, h1 => rfl
    | 27, h0, h1 => rfl
    | 28, h0, h1 => rfl
    | 29, h0, h1 => rfl
    | 30, h0, h1 => rfl
    | 31, h0, h1 => rfl
    | 32, h0, h1 => rfl
    | 33, h0, h1 => rfl
    | 34, h0, h1 => rfl
    | 35, h0, h1 => rfl
    | 36, h0, h1 => rfl
    | 37, h0, h1 => rfl
    | 38, h0, h1 => rfl
    | 39, h0, h1 => rfl
    | 40, h0, h1 => rfl
    | 41, h0, h1 => rfl
    | 42, h0, h1 => rfl
    | 43, h0, h1 => rfl
    | 44, h0, h1 => rfl
    | 45, h0, h1 => rfl
    | 46, h0, h1 => rfl
    | 47, h0, h1 => rfl
    | 48, h0, h1 => rfl
    | 49, h0, h1 => exact absurd rfl h1
    | 50, h0, h1 => rfl
    | 51, h0, h1 => rfl
    | 52, h0, h1 => rfl
    | 53, h0, h1 => rfl
    | 54, h0, h1 => rfl
    | 55, h0, h1 => rfl
    | 56, h0, h1 => rfl
    | 57, h0, h1 => rfl
    | 58, h0, h1 => rfl
    | 59, h0, h1 => rfl
    | 60, h0, h1 => rfl
    | 61, h0, h1 => rfl
    | 62, h0, h1 => rfl
    | 63, h0, h1 => rfl
    | 64, h0, h1 => rfl
    | 65, h0, h1 => rfl
    | 66, h0, h1 => rfl
    | 67, h0, h1 => rfl
    | k + 68, h0, h1 => rfl
theorem okE_arrN {ad ks : List Nat} {tys : List (ClassId × FieldType)} {n : Nat} {el el' : Nat → sgT} (h : ∀ (j : Nat) (v : Int32), j < n → okV ad ks (el j) (.int v) → okV ad ks (el' j) (.int v)) {e : va_E} (he : okE ad ks tys (.inr (n, .int, el)) e) : okE ad ks tys (.inr (n, .int, el')) e := by
  match e, he with
  | .inl (c, n1, .inl f), ⟨h1, h2, h3, h4⟩ => exact ⟨h1, h2, fun i hi => h i _ hi (h3 i hi), h4⟩
  | .inl (c, n1, .inr (.inl f)), ⟨h1, h2, h3, h4⟩ => cases h4
  | .inl (c, n1, .inr (.inr (.inl f))), ⟨h1, h2, h3, h4⟩ => exact (show False from h3).elim
  | .inl (c, n1, .inr (.inr (.inr (.inl f)))), ⟨h1, h2, h3, h4⟩ => exact (show False from h3).elim
  | .inl (c, n1, .inr (.inr (.inr (.inr f)))), ⟨h1, h2, h3, h4⟩ => obtain ⟨C, hz⟩ := h4; cases hz
  | .inr q, h => exact (show False from h).elim
theorem rf_ru {f : Nat → Int} {ad ks : List Nat} {j : Nat} {v : Int32} (hr : ruOk f) (hj : j < 7) (h : okV ad ks (sg_rqf f 7 j) (.int v)) : okV ad ks (sg_ru true f j) (.int v) := by
  unfold sg_rqf at h
  rw [if_pos (by omega)] at h
  obtain ⟨y, e, h1, h2⟩ := h
  cases e
  dsimp only at h1 h2
  have hb := hr j hj
  match j, hj, hb, h1, h2 with
  | 0, hj, hb, h1, h2 => have b1 : 1 ≤ f 0 := hb.1; have b2 : f 0 ≤ 6 := hb.2; exact ⟨v, rfl, by show max 1 (min (f 0) 6) ≤ v.toInt; omega, by show v.toInt ≤ max 1 (min (f 0) 6); omega⟩
  | 1, hj, hb, h1, h2 => have b1 : 1 ≤ f 1 := hb.1; have b2 : f 1 ≤ 5 := hb.2; exact ⟨v, rfl, by show max 1 (min (f 1) 5) ≤ v.toInt; omega, by show v.toInt ≤ max 1 (min (f 1) 5); omega⟩
  | 2, hj, hb, h1, h2 => have b1 : 2 ≤ f 2 := hb.1; have b2 : f 2 ≤ 5 := hb.2; exact ⟨v, rfl, by show max 2 (min (f 2) 5) ≤ v.toInt; omega, by show v.toInt ≤ max 2 (min (f 2) 5); omega⟩
  | 3, hj, hb, h1, h2 => have b1 : 1 ≤ f 3 := hb.1; have b2 : f 3 ≤ 5 := hb.2; exact ⟨v, rfl, by show max 1 (min (f 3) 5) ≤ v.toInt; omega, by show v.toInt ≤ max 1 (min (f 3) 5); omega⟩
  | 4, hj, hb, h1, h2 => have b1 : 0 ≤ f 4 := hb.1; have b2 : f 4 ≤ 8 := hb.2; exact ⟨v, rfl, by show max 0 (min (f 4) 8) ≤ v.toInt; omega, by show v.toInt ≤ max 0 (min (f 4) 8); omega⟩
  | 5, hj, hb, h1, h2 => have b1 : 0 ≤ f 5 := hb.1; have b2 : f 5 ≤ 8 := hb.2; exact ⟨v, rfl, by show max 0 (min (f 5) 8) ≤ v.toInt; omega, by show v.toInt ≤ max 0 (min (f 5) 8); omega⟩
  | 6, hj, hb, h1, h2 => have b1 : 0 ≤ f 6 := hb.1; have b2 : f 6 ≤ 1 := hb.2; exact ⟨v, rfl, by show max 0 (min (f 6) 1) ≤ v.toInt; omega, by show v.toInt ≤ max 0 (min (f 6) 1); omega⟩
  | j + 7, hj, hb, h1, h2 => exact absurd hj (by omega)
theorem sg_rf7 {f : Nat → Int} {ad ks : List Nat} {x i : Int32} {lo hi a c : Int} (hr : ruOk f) (h : okV ad ks (sg_rqf f 7 i.toNatClampNeg) (.int x)) (hi0 : iv lo hi i) (hd : decide (0 ≤ lo ∧ lo = hi) = true) (h7 : decide (lo < 7) = true) (he : sg_rl lo.toNat = .inl (a, c)) : iv a c x := by
  have h8 := of_decide_eq_true h7
  rw [sg_cl hi0 hd] at h
  have h := sg_ru_rl (rf_ru hr (by omega) h)
  rw [he] at h
  obtain ⟨y, h3, h4⟩ := h
  cases h3
  exact h4
theorem sg_mulx {f x y : Int32} {a b : Int} (e : f = x * y) (hx : iv 1 6 x) (hy : iv 1 5 y) (ex : x.toInt = a) (ey : y.toInt = b) : f.toInt = a * b := by
  have h1 : x.toInt * y.toInt ≤ 6 * 5 := Int.mul_le_mul hx.2 hy.2 (Int.le_trans (by decide) hy.1) (by decide)
  have h2 : 0 ≤ x.toInt * y.toInt := Int.mul_nonneg (Int.le_trans (by decide) hx.1) (Int.le_trans (by decide) hy.1)
  rw [e, Jvm.Kit.i32_mul (by omega) (by omega), ex, ey]
theorem kx_to {f : Nat → Int} {D : va_G} {A : Nat → Prop} {tys : List (ClassId × FieldType)} {ad ks : List Nat} {H : Heap} {P : sgPm} (hG : sgG (KX f 7 P) D vwCl A tys ad ks H) {a : Nat} (ha : isK ad ks 12 a) {c : Int32} (hf : fld D H 12 a 23 (.int c)) (hc : iv 1 30 c) (hr : ruOk f) : sgG (KT (sgLw P f c.toInt)) D vwCl A tys ad ks H := by
  have h1 : sgG (KY f c.toInt P) D vwCl A tys ad ks H := sg_str1 hG ha (by decide) (k := 12) (ci := 12) rfl rfl (r := (RX12, TX12, 53)) rfl (j := 23) (by decide) rfl rfl (fun i t' hi ht => by match i, hi, ht with
    | 0, hi, ht => cases ht; exact ⟨_, rfl, fun v hv => hv⟩
    | 1, hi, ht => cases ht; exact ⟨_, rfl, fun v hv => hv⟩
    | 2, hi, ht => cases ht; exact ⟨_, rfl, fun v hv => hv⟩
    | 3, hi, ht => cases ht; exact ⟨_, rfl, fun v hv => hv⟩
    | 4, hi, ht => cases ht; exact ⟨_, rfl, fun v hv => hv⟩
    | 5, hi, ht => cases ht; exact ⟨_, rfl, fun v hv => hv⟩
    | 6, hi, ht => cases ht; exact ⟨_, rfl, fun v hv => hv⟩
    | 7, hi, ht => cases ht; exact ⟨_, rfl, fun v hv => hv⟩
    | 8, hi, ht => cases ht; exact ⟨_, rfl, fun v hv => hv⟩
    | 9, hi, ht => cases ht; exact ⟨_, rfl, fun v hv => hv⟩
    | 10, hi, ht => cases ht; exact ⟨_, rfl, fun v hv => hv⟩
    | 11, hi, ht => cases ht; exact ⟨_, rfl, fun v hv => hv⟩
    | 12, hi, ht => cases ht; exact ⟨_, rfl, fun v hv => hv⟩
    | 13, hi, ht => cases ht; exact ⟨_, rfl, fun v hv => hv⟩
    | 14, hi, ht => cases ht; exact ⟨_, rfl, fun v hv => hv⟩
    | 15, hi, ht => cases ht; exact ⟨_, rfl, fun v hv => hv⟩
    | 16, hi, ht => cases ht; exact ⟨_, rfl, fun v hv => hv⟩
    | 17, hi, ht => cases ht; exact ⟨_, rfl, fun v hv => hv⟩
    | 18, hi, ht => cases ht; exact ⟨_, rfl, fun v hv => hv⟩
    | 19, hi, ht => cases ht; exact ⟨_, rfl, fun v hv => hv⟩
    | 20, hi, ht => cases ht; exact ⟨_, rfl, fun v hv => hv⟩
    | 21, hi, ht => cases ht; exact ⟨_, rfl, fun v hv => hv⟩
    | 22, hi, ht => cases ht; exact ⟨_, rfl, fun v hv => hv⟩
    | 23, hi, ht => exact absurd rfl hi
    | 24, hi, ht => cases ht; exact ⟨_, rfl, fun v hv => hv⟩
    | 25, hi, ht => cases ht; exact ⟨_, rfl, fun v hv => hv⟩
    | 26, hi, ht => cases ht; exact ⟨_, rfl, fun v hv => hv⟩
    | 27, hi, ht => cases ht; exact ⟨_, rfl, fun v hv => hv⟩
    | 28, hi, ht => cases ht; exact ⟨_, rfl, fun v hv => hv⟩
    | 29, hi, ht => cases ht; exact ⟨_, rfl, fun v hv => hv⟩
    | 30, hi, ht => cases ht; exact ⟨_, rfl, fun v hv => hv⟩
    | 31, hi, ht => cases ht; exact ⟨_, rfl, fun v hv => hv⟩
    | 32, hi, ht => cases ht; exact ⟨_, rfl, fun v hv => hv⟩
    | 33, hi, ht => cases ht; exact ⟨_, rfl, fun v hv => hv⟩
    | 34, hi, ht => cases ht; exact ⟨_, rfl, fun v hv => hv⟩
    | 35, hi, ht => cases ht; exact ⟨_, rfl, fun v hv => hv⟩
    | 36, hi, ht => cases ht; exact ⟨_, rfl, fun v hv => hv⟩
    | 37, hi, ht => cases ht; exact ⟨_, rfl, fun v hv => hv⟩
    | 38, hi, ht => cases ht; exact ⟨_, rfl, fun v hv => hv⟩
    | 39, hi, ht => cases ht; exact ⟨_, rfl, fun v hv => hv⟩
    | 40, hi, ht => cases ht; exact ⟨_, rfl, fun v hv => hv⟩
    | 41, hi, ht => cases ht; exact ⟨_, rfl, fun v hv => hv⟩
    | 42, hi, ht => cases ht; exact ⟨_, rfl, fun v hv => hv⟩
    | 43, hi, ht => cases ht; exact ⟨_, rfl, fun v hv => hv⟩
    | 44, hi, ht => cases ht; exact ⟨_, rfl, fun v hv => hv⟩
    | 45, hi, ht => cases ht; exact ⟨_, rfl, fun v hv => hv⟩
    | 46, hi, ht => cases ht; exact ⟨_, rfl, fun v hv => hv⟩
    | 47, hi, ht => cases ht; exact ⟨_, rfl, fun v hv => hv⟩
    | 48, hi, ht => cases ht; exact ⟨_, rfl, fun v hv => hv⟩
    | 49, hi, ht => cases ht; exact ⟨_, rfl, fun v hv => hv⟩
    | 50, hi, ht => cases ht; exact ⟨_, rfl, fun v hv => hv⟩
    | 51, hi, ht => cases ht; exact ⟨_, rfl, fun v hv => hv⟩
    | 52, hi, ht => cases ht; exact ⟨_, rfl, fun v hv => hv⟩
    | i + 53, hi, ht => cases ht) (fun i hi => by match i, hi with
    | 0, hi => rfl
    | 1, hi => rfl
    | 2, hi => rfl
    | 3, hi => rfl
    | 4, hi => rfl
    | 5, hi => rfl
    | 6, hi => rfl
    | 7, hi => rfl
    | 8, hi => rfl
    | 9, hi => rfl
    | 10, hi => rfl
    | 11, hi => rfl
    | 12, hi => exact absurd rfl hi
    | 13, hi => rfl
    | 14, hi => rfl
    | 15, hi => rfl
    | 16, hi => rfl
    | 17, hi => rfl
    | 18, hi => rfl
    | 19, hi => rfl
    | 20, hi => rfl
    | 21, hi => rfl
    | 22, hi => rfl
    | 23, hi => rfl
    | 24, hi => rfl
    | 25, hi => rfl
    | 26, hi => rfl
    | 27, hi => rfl
    | 28, hi => rfl
    | 29, hi => rfl
    | 30, hi => rfl
    | 31, hi => rfl
    | 32, hi => rfl
    | 33, hi => rfl
    | 34, hi => rfl
    | 35, hi => rfl
    | 36, hi => rfl
    | 37, hi => rfl
    | 38, hi => rfl
    | 39, hi => rfl
    | 40, hi => rfl
    | 41, hi => rfl
    | 42, hi => rfl
    | 43, hi => rfl
    | 44, hi => rfl
    | 45, hi => rfl
    | 46, hi => rfl
    | 47, hi => rfl
    | 48, hi => rfl
    | 49, hi => rfl
    | 50, hi => rfl
    | 51, hi => rfl
    | 52, hi => rfl
    | 53, hi => rfl
    | 54, hi => rfl
    | 55, hi => rfl
    | 56, hi => rfl
    | 57, hi => rfl
    | 58, hi => rfl
    | 59, hi => rfl
    | 60, hi => rfl
    | 61, hi => rfl
    | 62, hi => rfl
    | 63, hi => rfl
    | 64, hi => rfl
    | 65, hi => rfl
    | 66, hi => rfl
    | 67, hi => rfl
    | i + 68, hi => rfl) hf ⟨c, rfl, by have := hc.1; have := hc.2; show max 1 (min c.toInt 30) ≤ c.toInt; omega, by have := hc.1; have := hc.2; show c.toInt ≤ max 1 (min c.toInt 30); omega⟩
  refine sg_kinds h1 rfl fun k K e hk he => ?_
  by_cases h2 : k = 49
  · subst h2
    cases hk
    exact ⟨KK49 (sgLw P f c.toInt), rfl, okE_arrN (fun j v hj hv => rf_ru hr hj hv) he⟩
  by_cases h3 : k = 50
  · subst h3
    cases hk
    exact ⟨KK50 (sgLw P f c.toInt), rfl, okE_arrN (fun j v hj hv => sg_rr0) he⟩
  refine ⟨K, ?_, he⟩
  rw [← hk]
  match k, h2, h3 with
    | 0, h0, h1 => rfl
    | 1, h0, h1 => rfl
    | 2, h0, h1 => rfl
    | 3, h0, h1 => rfl
    | 4, h0, h1 => rfl
    | 5, h0, h1 => rfl
    | 6, h0, h1 => rfl
    | 7, h0, h1 => rfl
    | 8, h0, h1 => rfl
    | 9, h0, h1 => rfl
    | 10, h0, h1 => rfl
    | 11, h0, h1 => rfl
    | 12, h0, h1 => rfl
    | 13, h0, h1 => rfl
    | 14, h0, h1 => rfl
    | 15, h0, h1 => rfl
    | 16, h0, h1 => rfl
    | 17, h0, h1 => rfl
    | 18, h0, h1 => rfl
    | 19, h0, h1 => rfl
    | 20, h0, h1 => rfl
    | 21, h0, h1 => rfl
    | 22, h0, h1 => rfl
    | 23, h0, h1 => rfl
    | 24, h0, h1 => rfl
    | 25, h0, h1 => rfl
    | 26, h0, h1 => rfl
    | 27, h0, h1 => rfl
    | 28, h0, h1 => rfl
    | 29, h0, h1 => rfl
    | 30, h0, h1 => rfl
    | 31, h0, h1 => rfl
    | 32, h0, h1 => rfl
    | 33, h0, h1 => rfl
    | 34, h0, h1 => rfl
    | 35, h0, h1 => rfl
    | 36, h0, h1 => rfl
    | 37, h0, h1 => rfl
    | 38, h0, h1 => rfl
    | 39, h0, h1 => rfl
    | 40, h0, h1 => rfl
    | 41, h0, h1 => rfl
    | 42, h0, h1 => rfl
    | 43, h0, h1 => rfl
    | 44, h0, h1 => rfl
    | 45, h0, h1 => rfl
    | 46, h0, h1 => rfl
    | 47, h0, h1 => rfl
    | 48, h0, h1 => rfl
    | 49, h0, h1 => exact absurd rfl h0
    | 50, h0, h1 => exact absurd rfl h1
    | 51, h0, h1 => rfl
    | 52, h0, h1 => rfl
    | 53, h0, h1 => rfl
    | 54, h0, h1 => rfl
    | 55, h0, h1 => rfl
    | 56, h0, h1 => rfl
    | 57, h0, h1 => rfl
    | 58, h0, h1 => rfl
    | 59, h0, h1 => rfl
    | 60, h0, h1 => rfl
    | 61, h0, h1 => rfl
    | 62, h0, h1 => rfl
    | 63, h0, h1 => rfl
    | 64, h0, h1 => rfl
    | 65, h0, h1 => rfl
    | 66, h0, h1 => rfl
    | 67, h0, h1 => rfl
    | k + 68, h0, h1 => rfl
theorem sgC1_Lw {P : sgPm} {f : Nat → Int} {c : Int} (h : 1 ≤ c ∧ c ≤ 30) : sgC1 (sgLw P f c) = c := by
  show max 1 (min c 30) = c
  omega
section SGP50
variable {p : Program} {l : Launch} {e : Env} {R : Room} {s : State} {m : MethodId} {args : Array Value} {below : List Frame} {meth : Method} {c : Code} {H : Heap} {locs : List Loc} {cells slots : Nat} {Q : State → Prop} {cc : ByteArray} {nL pc : Nat} {ls : Array Slot} {rest : List Value} {own : String} {D : va_G} {A : Nat → Prop} {tys : List (ClassId × FieldType)} {ad ks : List Nat} {P : sgPm} {H0 : Heap} {index : Nat} {base : Nat} {st0 : List Value} {a : Nat}
theorem as_49x {f : Nat → Int} {mr : Int} (X : CallFix p m c cc nL s args sg_tbl own) (hK : va_K D vwCl tys s) (hG : sgG (KX f mr P) D vwCl A tys ad ks H) (hS : va_S A H0 H locs) (ha : isK ad ks 49 a) {i x : Int32} (hin : vp_in i 7) (hm : i.toInt = mr) (hv : okV ad ks (sg_rqf f (mr + 1) i.toNatClampNeg) (.int x)) (hdg : decode cc pc = .ok (.iastore, 1))
    (kk : ∀ (H1 : Heap) (locs1 : List Loc), sgG (KX f (mr + 1) P) D vwCl A tys ad ks H1 → va_S A H0 H1 locs1 → W p l e R s m args below meth c H1 locs1 cells slots Q (F0 m (pc + 1) ls rest)) : W p l e R s m args below meth c H locs cells slots Q (F0 m pc ls (.int x :: .int i :: .ref a :: rest)) := by
  have hz : 0 ≤ i.toInt := Int.not_lt.mp fun q => hin (Or.inl (Int32.lt_iff_toInt_lt.mpr q))
  exact sg_iast1 (kt' := KX f (mr + 1) P) X hK hG hS (k := 49) ha (by decide) rfl rfl (fun i hi => by match i, hi with
    | 0, hi => rfl
    | 1, hi => rfl
    | 2, hi => rfl
    | 3, hi => rfl
    | 4, hi => rfl
    | 5, hi => rfl
    | 6, hi => rfl
    | 7, hi => rfl
    | 8, hi => rfl
    | 9, hi => rfl
    | 10, hi => rfl
    | 11, hi => rfl
    | 12, hi => rfl
    | 13, hi => rfl
    | 14, hi => rfl
    | 15, hi => rfl
    | 16, hi => rfl
    | 17, hi => rfl
    | 18, hi => rfl
    | 19, hi => rfl
    | 20, hi => rfl
    | 21, hi => rfl
    | 22, hi => rfl
    | 23, hi => rfl
    | 24, hi => rfl
    | 25, hi => rfl
    | 26, hi => rfl
    | 27, hi => rfl
    | 28, hi => rfl
    | 29, hi => rfl
    | 30, hi => rfl
    | 31, hi => rfl
    | 32, hi => rfl
    | 33, hi => rfl
    | 34, hi => rfl
    | 35, hi => rfl
    | 36, hi => rfl
    | 37, hi => rfl
    | 38, hi => rfl
    | 39, hi => rfl
    | 40, hi => rfl
    | 41, hi => rfl
    | 42, hi => rfl
    | 43, hi => rfl
    | 44, hi => rfl
    | 45, hi => rfl
    | 46, hi => rfl
    | 47, hi => rfl
    | 48, hi => rfl
    | 49, hi => exact absurd rfl hi
    | 50, hi => rfl
    | 51, hi => rfl
    | 52, hi => rfl
    | 53, hi => rfl
    | 54, hi => rfl
    | 55, hi => rfl
    | 56, hi => rfl
    | 57, hi => rfl
    | 58, hi => rfl
    | 59, hi => rfl
    | 60, hi => rfl
    | 61, hi => rfl
    | 62, hi => rfl
    | 63, hi => rfl
    | 64, hi => rfl
    | 65, hi => rfl
    | 66, hi => rfl
    | 67, hi => rfl
    | i + 68, hi => rfl) hin hv (fun j v _ hj h => sg_rf_up (by show ((i.toInt.toNat : Nat) : Int) = mr; omega) hj h) hdg kk
end SGP50
theorem kn_eq {f : Nat → Int} {B : sgPm} : ∀ i : Nat, i ≠ 50 → (KN f B)[i]? = (KT B)[i]? := fun i hi => by match i, hi with
    | 0, hi => rfl
    | 1, hi => rfl
    | 2, hi => rfl
    | 3, hi => rfl
    | 4, hi => rfl
    | 5, hi => rfl
    | 6, hi => rfl
    | 7, hi => rfl
    | 8, hi => rfl
    | 9, hi => rfl
    | 10, hi => rfl
    | 11, hi => rfl
    | 12, hi => rfl
    | 13, hi => rfl
    | 14, hi => rfl
    | 15, hi => rfl
    | 16, hi => rfl
    | 17, hi => rfl
    | 18, hi => rfl
    | 19, hi => rfl
    | 20, hi => rfl
    | 21, hi => rfl
    | 22, hi => rfl
    | 23, hi => rfl
    | 24, hi => rfl
    | 25, hi => rfl
    | 26, hi => rfl
    | 27, hi => rfl
    | 28, hi => rfl
    | 29, hi => rfl
    | 30, hi => rfl
    | 31, hi => rfl
    | 32, hi => rfl
    | 33, hi => rfl
    | 34, hi => rfl
    | 35, hi => rfl
    | 36, hi => rfl
    | 37, hi => rfl
    | 38, hi => rfl
    | 39, hi => rfl
    | 40, hi => rfl
    | 41, hi => rfl
    | 42, hi => rfl
    | 43, hi => rfl
    | 44, hi => rfl
    | 45, hi => rfl
    | 46, hi => rfl
    | 47, hi => rfl
    | 48, hi => rfl
    | 49, hi => rfl
    | 50, hi => exact absurd rfl hi
    | 51, hi => rfl
    | 52, hi => rfl
    | 53, hi => rfl
    | 54, hi => rfl
    | 55, hi => rfl
    | 56, hi => rfl
    | 57, hi => rfl
    | 58, hi => rfl
    | 59, hi => rfl
    | 60, hi => rfl
    | 61, hi => rfl
    | 62, hi => rfl
    | 63, hi => rfl
    | 64, hi => rfl
    | 65, hi => rfl
    | 66, hi => rfl
    | 67, hi => rfl
    | i + 68, hi => rfl
theorem KN_but12 {f : Nat → Int} {B P Q : sgPm} (hq : sgS12 Q B) (hp : sgS12 P B) : ∀ i : Nat, i ≠ 12 → (KN f Q)[i]? = (KN f P)[i]? := by
  intro i hi
  by_cases h : i = 50
  · subst h
    rfl
  · rw [kn_eq i h, kn_eq i h]
    exact KT_but12 hq hp i hi
section SGP51
variable {p : Program} {l : Launch} {e : Env} {R : Room} {s : State} {m : MethodId} {args : Array Value} {below : List Frame} {meth : Method} {c : Code} {H : Heap} {locs : List Loc} {cells slots : Nat} {Q : State → Prop} {cc : ByteArray} {nL pc : Nat} {ls : Array Slot} {rest : List Value} {own : String} {D : va_G} {A : Nat → Prop} {tys : List (ClassId × FieldType)} {ad ks : List Nat} {P : sgPm} {H0 : Heap} {index : Nat} {a : Nat} {t1 t2 : Nat → Int} {l1 l2 : Int} {f : Nat → Int}
theorem pf_X12_6gk {x : Int32} {B1 B2 : sgPm} (hb : sgS12 B2 B1) (hb0 : sgS12 B1 B1) (hx : sgL2 B2 = x.toInt) (X : CallFix p m c cc nL s args sg_tbl own) (hK : va_K D vwCl tys s) (hG : sgG (KN f (B1)) D vwCl A tys ad ks H) (hS : va_S A H0 H locs) (ha : isK ad ks 12 a) (hl : Cond.fieldLink own index "LawnAheadModel" "length" "I" ∈ sg_tbl) (hv : iv 0 240 x) (hdg : decode cc pc = .ok (.putfield index, 3))
    (kk : ∀ (H1 : Heap) (locs1 : List Loc), sgG (KN f (B2)) D vwCl A tys ad ks H1 → va_S A H0 H1 locs1 → W p l e R s m args below meth c H1 locs1 cells slots Q (F0 m (pc + 3) ls rest)) : W p l e R s m args below meth c H locs cells slots Q (F0 m pc ls (.int x :: .ref a :: rest)) := by
  have hb2 := hb
  obtain ⟨b0, b1, b2, b3, b4, b5, b6, b7, b8, b9, b10, b11, b12, b13, b14, b15, b16, b17, b18, b19, b21⟩ := hb2
  exact sg_put1 (kt' := KN f B2) X hK hG hS ha (k := 12) (by decide) (ci := 12) (fts := [.inl ((-2147483648), 2147483647), .inr (.inl (false, 45)), .inr (.inl (false, 46)), .inr (.inl (false, 47)), .inr (.inl (false, 48)), .inr (.inr true), .inl (sgC240 (sgL2 B1), sgC240 (sgL2 B1)), .inl ((B1.2.2.2.2.2.2.2.2.1.val : Int), (B1.2.2.2.2.2.2.2.2.1.val : Int)), .inl ((-2147483648), 2147483647), .inl (0, 240), .inl ((-2147483648), 2147483647), .inl ((-1), 241), .inl (0, 6), .inl ((-2147483648), 2147483647), .inl ((-2147483648), 2147483647), .inr (.inr true), .inr (.inr true), .inl (0, 1), .inr (.inl (false, 49)), .inr (.inl (false, 50)), .inr (.inl (false, 51)), .inr (.inl (false, 52)), .inr (.inl (false, 53)), .inl (sgC1 B1, sgC1 B1), .inl ((-2147483648), 2147483647), .inl ((-2147483648), 2147483647), .inl ((-2147483648), 2147483647), .inl ((-2147483648), 2147483647), .inl ((-2147483648), 2147483647), .inl ((B1.2.2.2.2.2.2.2.2.2.1.val : Int), (B1.2.2.2.2.2.2.2.2.2.1.val : Int)), .inl (0, 1), .inl (0, 1), .inr (.inl (false, 54)), .inr (.inl (false, 55)), .inl ((-1), 3), .inl (B1.2.2.2.2.2.1, B1.2.2.2.2.2.1), .inr (.inl (false, 56)), .inr (.inl (false, 57)), .inr (.inl (false, 58)), .inl (0, 40), .inr (.inr false), .inr (.inl (false, 59)), .inl ((-2147483648), 2147483647), .inl ((-2147483648), 2147483647), .inr (.inl (false, 60)), .inr (.inl (false, 61)), .inr (.inl (false, 62)), .inl (0, 12), .inr (.inl (false, 63)), .inr (.inl (false, 64)), .inl (0, 12), .inr (.inl (false, 65)), .inl (0, 1)]) (fts' := [.inl ((-2147483648), 2147483647), .inr (.inl (false, 45)), .inr (.inl (false, 46)), .inr (.inl (false, 47)), .inr (.inl (false, 48)), .inr (.inr true), .inl (sgC240 (sgL2 B2), sgC240 (sgL2 B2)), .inl ((B2.2.2.2.2.2.2.2.2.1.val : Int), (B2.2.2.2.2.2.2.2.2.1.val : Int)), .inl ((-2147483648), 2147483647), .inl (0, 240), .inl ((-2147483648), 2147483647), .inl ((-1), 241), .inl (0, 6), .inl ((-2147483648), 2147483647), .inl ((-2147483648), 2147483647), .inr (.inr true), .inr (.inr true), .inl (0, 1), .inr (.inl (false, 49)), .inr (.inl (false, 50)), .inr (.inl (false, 51)), .inr (.inl (false, 52)), .inr (.inl (false, 53)), .inl (sgC1 B2, sgC1 B2), .inl ((-2147483648), 2147483647), .inl ((-2147483648), 2147483647), .inl ((-2147483648), 2147483647), .inl ((-2147483648), 2147483647), .inl ((-2147483648), 2147483647), .inl ((B2.2.2.2.2.2.2.2.2.2.1.val : Int), (B2.2.2.2.2.2.2.2.2.2.1.val : Int)), .inl (0, 1), .inl (0, 1), .inr (.inl (false, 54)), .inr (.inl (false, 55)), .inl ((-1), 3), .inl (B2.2.2.2.2.2.1, B2.2.2.2.2.2.1), .inr (.inl (false, 56)), .inr (.inl (false, 57)), .inr (.inl (false, 58)), .inl (0, 40), .inr (.inr false), .inr (.inl (false, 59)), .inl ((-2147483648), 2147483647), .inl ((-2147483648), 2147483647), .inr (.inl (false, 60)), .inr (.inl (false, 61)), .inr (.inl (false, 62)), .inl (0, 12), .inr (.inl (false, 63)), .inr (.inl (false, 64)), .inl (0, 12), .inr (.inl (false, 65)), .inl (0, 1)]) rfl rfl (C := RX12) (T := TX12) (N := 53) rfl inL_X12 tyX12 tyX12_ok nmX12 6 (by decide) rfl (t' := .inl (sgC240 (sgL2 B2), sgC240 (sgL2 B2))) rfl (fun i hi => by match i, hi with
    | 0, hi => rfl
    | 1, hi => rfl
    | 2, hi => rfl
    | 3, hi => rfl
    | 4, hi => rfl
    | 5, hi => rfl
    | 6, hi => exact absurd rfl hi
    | 7, hi => simp only [List.getElem?_cons_succ, List.getElem?_cons_zero, sgC1, b0, b1, b2, b3, b4, b5, b6, b7, b8, b9, b10, b11, b12, b13, b14, b15, b16, b17, b18, b19, b21]
    | 8, hi => rfl
    | 9, hi => rfl
    | 10, hi => rfl
    | 11, hi => rfl
    | 12, hi => rfl
    | 13, hi => rfl
    | 14, hi => rfl
    | 15, hi => rfl
    | 16, hi => rfl
    | 17, hi => rfl
    | 18, hi => rfl
    | 19, hi => rfl
    | 20, hi => rfl
    | 21, hi => rfl
    | 22, hi => rfl
    | 23, hi => simp only [List.getElem?_cons_succ, List.getElem?_cons_zero, sgC1, b0, b1, b2, b3, b4, b5, b6, b7, b8, b9, b10, b11, b12, b13, b14, b15, b16, b17, b18, b19, b21]
    | 24, hi => rfl
    | 25, hi => rfl
    | 26, hi => rfl
    | 27, hi => rfl
    | 28, hi => rfl
    | 29, hi => simp only [List.getElem?_cons_succ, List.getElem?_cons_zero, sgC1, b0, b1, b2, b3, b4, b5, b6, b7, b8, b9, b10, b11, b12, b13, b14, b15, b16, b17, b18, b19, b21]
    | 30, hi => rfl
    | 31, hi => rfl
    | 32, hi => rfl
    | 33, hi => rfl
    | 34, hi => rfl
    | 35, hi => simp only [List.getElem?_cons_succ, List.getElem?_cons_zero, sgC1, b0, b1, b2, b3, b4, b5, b6, b7, b8, b9, b10, b11, b12, b13, b14, b15, b16, b17, b18, b19, b21]
    | 36, hi => rfl
    | 37, hi => rfl
    | 38, hi => rfl
    | 39, hi => rfl
    | 40, hi => rfl
    | 41, hi => rfl
    | 42, hi => rfl
    | 43, hi => rfl
    | 44, hi => rfl
    | 45, hi => rfl
    | 46, hi => rfl
    | 47, hi => rfl
    | 48, hi => rfl
    | 49, hi => rfl
    | 50, hi => rfl
    | 51, hi => rfl
    | 52, hi => rfl
    | i + 53, hi => rfl) (KN_but12 (B := B1) hb hb0) hl (fun _ h => h) rfl (ty := .int) rfl rfl rfl ⟨_, rfl, by rw [hx]; exact sgC240_of hv⟩ hdg kk
theorem pf_X12_6qk {x : Int32} (X : CallFix p m c cc nL s args sg_tbl own) (hK : va_K D vwCl tys s) (hG : sgG (KN f (sgSt P t1 l1 t2 l2)) D vwCl A tys ad ks H) (hS : va_S A H0 H locs) (ha : isK ad ks 12 a) (hl : Cond.fieldLink own index "LawnAheadModel" "length" "I" ∈ sg_tbl) (hv : iv 0 240 x) (hdg : decode cc pc = .ok (.putfield index, 3))
    (kk : ∀ (H1 : Heap) (locs1 : List Loc), sgG (KN f (sgSt P t1 l1 t2 x.toInt)) D vwCl A tys ad ks H1 → va_S A H0 H1 locs1 → W p l e R s m args below meth c H1 locs1 cells slots Q (F0 m (pc + 3) ls rest)) : W p l e R s m args below meth c H locs cells slots Q (F0 m pc ls (.int x :: .ref a :: rest)) :=
  pf_X12_6gk (B1 := sgSt P t1 l1 t2 l2) (B2 := sgSt P t1 l1 t2 x.toInt) stS_12 stR_12 (by simp only [sgL2, sgTp, sgSt]) X hK hG hS ha hl hv hdg kk
end SGP51
theorem zq_rf {ad ks : List Nat} {q : sgLwn} {o : sgO} {j : Nat} {v : Value} (h : okV ad ks (.inl ((zQ q o).2.1 j)) v) : okV ad ks (sg_rqf q.1 7 j) v := by
  obtain ⟨x, e, hx⟩ := h
  by_cases hj : j < 7
  · have hx : iv (if j < 7 then (q.1 j, q.1 j) else ((-2147483648), 2147483647)).1 (if j < 7 then (q.1 j, q.1 j) else ((-2147483648), 2147483647)).2 x := hx
    rw [if_pos hj] at hx
    unfold sg_rqf
    rw [if_pos (by omega)]
    exact ⟨x, e, hx⟩
  · unfold sg_rqf
    rw [if_neg (by omega)]
    exact ⟨x, e, iv_top x⟩
theorem ke_toKN {a1 a2 f1 f2 d1 d2 : Int} {q : sgLwn} {o : sgO} {D : va_G} {A : Nat → Prop} {tys : List (ClassId × FieldType)} {ad ks : List Nat} {H : Heap} {P : sgPm} (hG : sgG (KE a1 a2 f1 f2 d1 d2 (zQ q o) P) D vwCl A tys ad ks H) (h3 : -1 ≤ f1) (h4 : f2 ≤ 241) (h5 : 0 ≤ d1) (h6 : d2 ≤ 6) : sgG (KN q.1 P) D vwCl A tys ad ks H := by
  have h1 : sgG (KEb (zQ q o) P) D vwCl A tys ad ks H := sg_weak1 hG (k := 12) rfl rfl rfl (fun i t' ht => by match i, ht with
    | 0, ht => cases ht; exact ⟨_, rfl, fun v hv => hv⟩
    | 1, ht => cases ht; exact ⟨_, rfl, fun v hv => hv⟩
    | 2, ht => cases ht; exact ⟨_, rfl, fun v hv => hv⟩
    | 3, ht => cases ht; exact ⟨_, rfl, fun v hv => hv⟩
    | 4, ht => cases ht; exact ⟨_, rfl, fun v hv => hv⟩
    | 5, ht => cases ht; exact ⟨_, rfl, fun v hv => trivial⟩
    | 6, ht => cases ht; exact ⟨_, rfl, fun v hv => hv⟩
    | 7, ht => cases ht; exact ⟨_, rfl, fun v hv => hv⟩
    | 8, ht => cases ht; exact ⟨_, rfl, fun v hv => by obtain ⟨x, g1, -⟩ := hv; exact ⟨x, g1, iv_top x⟩⟩
    | 9, ht => cases ht; exact ⟨_, rfl, fun v hv => by obtain ⟨x, g1, g2⟩ := hv; exact ⟨x, g1, sgC240_iv g2⟩⟩
    | 10, ht => cases ht; exact ⟨_, rfl, fun v hv => by obtain ⟨x, g1, -⟩ := hv; exact ⟨x, g1, iv_top x⟩⟩
    | 11, ht => cases ht; exact ⟨_, rfl, fun v hv => by obtain ⟨x, g1, g2, g3⟩ := hv; exact ⟨x, g1, Int.le_trans h3 g2, Int.le_trans g3 h4⟩⟩
    | 12, ht => cases ht; exact ⟨_, rfl, fun v hv => by obtain ⟨x, g1, g2, g3⟩ := hv; exact ⟨x, g1, Int.le_trans h5 g2, Int.le_trans g3 h6⟩⟩
    | 13, ht => cases ht; exact ⟨_, rfl, fun v hv => hv⟩
    | 14, ht => cases ht; exact ⟨_, rfl, fun v hv => hv⟩
    | 15, ht => cases ht; exact ⟨_, rfl, fun v hv => hv⟩
    | 16, ht => cases ht; exact ⟨_, rfl, fun v hv => hv⟩
    | 17, ht => cases ht; exact ⟨_, rfl, fun v hv => hv⟩
    | 18, ht => cases ht; exact ⟨_, rfl, fun v hv => hv⟩
    | 19, ht => cases ht; exact ⟨_, rfl, fun v hv => hv⟩
    | 20, ht => cases ht; exact ⟨_, rfl, fun v hv => hv⟩
    | 21, ht => cases ht; exact ⟨_, rfl, fun v hv => hv⟩
    | 22, ht => cases ht; exact ⟨_, rfl, fun v hv => hv⟩
    | 23, ht => cases ht; exact ⟨_, rfl, fun v hv => hv⟩
    | 24, ht => cases ht; exact ⟨_, rfl, fun v hv => hv⟩
    | 25, ht => cases ht; exact ⟨_, rfl, fun v hv => by obtain ⟨x, g1, -⟩ := hv; exact ⟨x, g1, iv_top x⟩⟩
    | 26, ht => cases ht; exact ⟨_, rfl, fun v hv => by obtain ⟨x, g1, -⟩ := hv; exact ⟨x, g1, iv_top x⟩⟩
    | 27, ht => cases ht; exact ⟨_, rfl, fun v hv => by obtain ⟨x, g1, -⟩ := hv; exact ⟨x, g1, iv_top x⟩⟩
    | 28, ht => cases ht; exact ⟨_, rfl, fun v hv => by obtain ⟨x, g1, -⟩ := hv; exact ⟨x, g1, iv_top x⟩⟩
    | 29, ht => cases ht; exact ⟨_, rfl, fun v hv => hv⟩
    | 30, ht => cases ht; exact ⟨_, rfl, fun v hv => by obtain ⟨x, g1, g2, g3⟩ := hv; exact ⟨x, g1, Int.le_trans (Int.le_max_left _ _) g2, Int.le_trans g3 (Int.min_le_left _ _)⟩⟩
    | 31, ht => cases ht; exact ⟨_, rfl, fun v hv => by obtain ⟨x, g1, g2, g3⟩ := hv; exact ⟨x, g1, Int.le_trans (Int.le_max_left _ _) g2, Int.le_trans g3 (Int.min_le_left _ _)⟩⟩
    | 32, ht => cases ht; exact ⟨_, rfl, fun v hv => hv⟩
    | 33, ht => cases ht; exact ⟨_, rfl, fun v hv => hv⟩
    | 34, ht => cases ht; exact ⟨_, rfl, fun v hv => hv⟩
    | 35, ht => cases ht; exact ⟨_, rfl, fun v hv => hv⟩
    | 36, ht => cases ht; exact ⟨_, rfl, fun v hv => hv⟩
    | 37, ht => cases ht; exact ⟨_, rfl, fun v hv => hv⟩
    | 38, ht => cases ht; exact ⟨_, rfl, fun v hv => hv⟩
    | 39, ht => cases ht; exact ⟨_, rfl, fun v hv => hv⟩
    | 40, ht => cases ht; exact ⟨_, rfl, fun v hv => hv⟩
    | 41, ht => cases ht; exact ⟨_, rfl, fun v hv => hv⟩
    | 42, ht => cases ht; exact ⟨_, rfl, fun v hv => hv⟩
    | 43, ht => cases ht; exact ⟨_, rfl, fun v hv => hv⟩
    | 44, ht => cases ht; exact ⟨_, rfl, fun v hv => hv⟩
    | 45, ht => cases ht; exact ⟨_, rfl, fun v hv => hv⟩
    | 46, ht => cases ht; exact ⟨_, rfl, fun v hv => hv⟩
    | 47, ht => cases ht; exact ⟨_, rfl, fun v hv => hv⟩
    | 48, ht => cases ht; exact ⟨_, rfl, fun v hv => hv⟩
    | 49, ht => cases ht; exact ⟨_, rfl, fun v hv => hv⟩
    | 50, ht => cases ht; exact ⟨_, rfl, fun v hv => hv⟩
    | 51, ht => cases ht; exact ⟨_, rfl, fun v hv => hv⟩
    | 52, ht => cases ht; exact ⟨_, rfl, fun v hv => hv⟩
    | i + 53, ht => cases ht) (fun i hi => by match i, hi with
    | 0, hi => rfl
    | 1, hi => rfl
    | 2, hi => rfl
    | 3, hi => rfl
    | 4, hi => rfl
    | 5, hi => rfl
    | 6, hi => rfl
    | 7, hi => rfl
    | 8, hi => rfl
    | 9, hi => rfl
    | 10, hi => rfl
    | 11, hi => rfl
    | 12, hi => exact absurd rfl hi
    | 13, hi => rfl
    | 14, hi => rfl
    | 15, hi => rfl
    | 16, hi => rfl
    | 17, hi => rfl
    | 18, hi => rfl
    | 19, hi => rfl
    | 20, hi => rfl
    | 21, hi => rfl
    | 22, hi => rfl
    | 23, hi => rfl
    | 24, hi => rfl
    | 25, hi => rfl
    | 26, hi => rfl
    | 27, hi => rfl
    | 28, hi => rfl
    | 29, hi => rfl
    | 30, hi => rfl
    | 31, hi => rfl
    | 32, hi => rfl
    | 33, hi => rfl
    | 34, hi => rfl
    | 35, hi => rfl
    | 36, hi => rfl
    | 37, hi => rfl
    | 38, hi => rfl
    | 39, hi => rfl
    | 40, hi => rfl
    | 41, hi => rfl
    | 42, hi => rfl
    | 43, hi => rfl
    | 44, hi => rfl
    | 45, hi => rfl
    | 46, hi => rfl
    | 47, hi => rfl
    | 48, hi => rfl
    | 49, hi => rfl
    | 50, hi => rfl
    | 51, hi => rfl
    | 52, hi => rfl
    | 53, hi => rfl
    | 54, hi => rfl
    | 55, hi => rfl
    | 56, hi => rfl
    | 57, hi => rfl
    | 58, hi => rfl
    | 59, hi => rfl
    | 60, hi => rfl
    | 61, hi => rfl
    | 62, hi => rfl
    | 63, hi => rfl
    | 64, hi => rfl
    | 65, hi => rfl
    | 66, hi => rfl
    | 67, hi => rfl
    | i + 68, hi => rfl)
  have h1a : sgG (KEg (zQ q o) P) D vwCl A tys ad ks H := sg_weakE h1 (k := 52) rfl rfl (fun j v hv => gq_ga hv) (fun i hi => by match i, hi with
    | 0, hi => rfl
    | 1, hi => rfl
    | 2, hi => rfl
    | 3, hi => rfl
    | 4, hi => rfl
    | 5, hi => rfl
    | 6, hi => rfl
    | 7, hi => rfl
    | 8, hi => rfl
    | 9, hi => rfl
    | 10, hi => rfl
    | 11, hi => rfl
    | 12, hi => rfl
    | 13, hi => rfl
    | 14, hi => rfl
    | 15, hi => rfl
    | 16, hi => rfl
    | 17, hi => rfl
    | 18, hi => rfl
    | 19, hi => rfl
    | 20, hi => rfl
    | 21, hi => rfl
    | 22, hi => rfl
    | 23, hi => rfl
    | 24, hi => rfl
    | 25, hi => rfl
    | 26, hi => rfl
    | 27, hi => rfl
    | 28, hi => rfl
    | 29, hi => rfl
    | 30, hi => rfl
    | 31, hi => rfl
    | 32, hi => rfl
    | 33, hi => rfl
    | 34, hi => rfl
    | 35, hi => rfl
    | 36, hi => rfl
    | 37, hi => rfl
    | 38, hi => rfl
    | 39, hi => rfl
    | 40, hi => rfl
    | 41, hi => rfl
    | 42, hi => rfl
    | 43, hi => rfl
    | 44, hi => rfl
    | 45, hi => rfl
    | 46, hi => rfl
    | 47, hi => rfl
    | 48, hi => rfl
    | 49, hi => rfl
    | 50, hi => rfl
    | 51, hi => rfl
    | 52, hi => exact absurd rfl hi
    | 53, hi => rfl
    | 54, hi => rfl
    | 55, hi => rfl
    | 56, hi => rfl
    | 57, hi => rfl
    | 58, hi => rfl
    | 59, hi => rfl
    | 60, hi => rfl
    | 61, hi => rfl
    | 62, hi => rfl
    | 63, hi => rfl
    | 64, hi => rfl
    | 65, hi => rfl
    | 66, hi => rfl
    | 67, hi => rfl
    | i + 68, hi => rfl)
  have h1b : sgG (KEh (zQ q o) P) D vwCl A tys ad ks H := sg_weakE h1a (k := 53) rfl rfl (fun j v hv => gl_gl hv) (fun i hi => by match i, hi with
    | 0, hi => rfl
    | 1, hi => rfl
    | 2, hi => rfl
    | 3, hi => rfl
    | 4, hi => rfl
    | 5, hi => rfl
    | 6, hi => rfl
    | 7, hi => rfl
    | 8, hi => rfl
    | 9, hi => rfl
    | 10, hi => rfl
    | 11, hi => rfl
    | 12, hi => rfl
    | 13, hi => rfl
    | 14, hi => rfl
    | 15, hi => rfl
    | 16, hi => rfl
    | 17, hi => rfl
    | 18, hi => rfl
    | 19, hi => rfl
    | 20, hi => rfl
    | 21, hi => rfl
    | 22, hi => rfl
    | 23, hi => rfl
    | 24, hi => rfl
    | 25, hi => rfl
    | 26, hi => rfl
    | 27, hi => rfl
    | 28, hi => rfl
    | 29, hi => rfl
    | 30, hi => rfl
    | 31, hi => rfl
    | 32, hi => rfl
    | 33, hi => rfl
    | 34, hi => rfl
    | 35, hi => rfl
    | 36, hi => rfl
    | 37, hi => rfl
    | 38, hi => rfl
    | 39, hi => rfl
    | 40, hi => rfl
    | 41, hi => rfl
    | 42, hi => rfl
    | 43, hi => rfl
    | 44, hi => rfl
    | 45, hi => rfl
    | 46, hi => rfl
    | 47, hi => rfl
    | 48, hi => rfl
    | 49, hi => rfl
    | 50, hi => rfl
    | 51, hi => rfl
    | 52, hi => rfl
    | 53, hi => exact absurd rfl hi
    | 54, hi => rfl
    | 55, hi => rfl
    | 56, hi => rfl
    | 57, hi => rfl
    | 58, hi => rfl
    | 59, hi => rfl
    | 60, hi => rfl
    | 61, hi => rfl
    | 62, hi => rfl
    | 63, hi => rfl
    | 64, hi => rfl
    | 65, hi => rfl
    | 66, hi => rfl
    | 67, hi => rfl
    | i + 68, hi => rfl)
  have h2 : sgG (KEd (zQ q o) P) D vwCl A tys ad ks H := sg_weakE h1b (k := 51) rfl rfl (fun j v hv => by obtain ⟨x, rfl, -⟩ := hv; exact ⟨x, rfl, iv_top x⟩) (fun i hi => by match i, hi with
    | 0, hi => rfl
    | 1, hi => rfl
    | 2, hi => rfl
    | 3, hi => rfl
    | 4, hi => rfl
    | 5, hi => rfl
    | 6, hi => rfl
    | 7, hi => rfl
    | 8, hi => rfl
    | 9, hi => rfl
    | 10, hi => rfl
    | 11, hi => rfl
    | 12, hi => rfl
    | 13, hi => rfl
    | 14, hi => rfl
    | 15, hi => rfl
    | 16, hi => rfl
    | 17, hi => rfl
    | 18, hi => rfl
    | 19, hi => rfl
    | 20, hi => rfl
    | 21, hi => rfl
    | 22, hi => rfl
    | 23, hi => rfl
    | 24, hi => rfl
    | 25, hi => rfl
    | 26, hi => rfl
    | 27, hi => rfl
    | 28, hi => rfl
    | 29, hi => rfl
    | 30, hi => rfl
    | 31, hi => rfl
    | 32, hi => rfl
    | 33, hi => rfl
    | 34, hi => rfl
    | 35, hi => rfl
    | 36, hi => rfl
    | 37, hi => rfl
    | 38, hi => rfl
    | 39, hi => rfl
    | 40, hi => rfl
    | 41, hi => rfl
    | 42, hi => rfl
    | 43, hi => rfl
    | 44, hi => rfl
    | 45, hi => rfl
    | 46, hi => rfl
    | 47, hi => rfl
    | 48, hi => rfl
    | 49, hi => rfl
    | 50, hi => rfl
    | 51, hi => exact absurd rfl hi
    | 52, hi => rfl
    | 53, hi => rfl
    | 54, hi => rfl
    | 55, hi => rfl
    | 56, hi => rfl
    | 57, hi => rfl
    | 58, hi => rfl
    | 59, hi => rfl
    | 60, hi => rfl
    | 61, hi => rfl
    | 62, hi => rfl
    | 63, hi => rfl
    | 64, hi => rfl
    | 65, hi => rfl
    | 66, hi => rfl
    | 67, hi => rfl
    | i + 68, hi => rfl)
  exact sg_weakE h2 (k := 50) rfl rfl (fun j v hv => zq_rf hv) (fun i hi => by match i, hi with
    | 0, hi => rfl
    | 1, hi => rfl
    | 2, hi => rfl
    | 3, hi => rfl
    | 4, hi => rfl
    | 5, hi => rfl
    | 6, hi => rfl
    | 7, hi => rfl
    | 8, hi => rfl
    | 9, hi => rfl
    | 10, hi => rfl
    | 11, hi => rfl
    | 12, hi => rfl
    | 13, hi => rfl
    | 14, hi => rfl
    | 15, hi => rfl
    | 16, hi => rfl
    | 17, hi => rfl
    | 18, hi => rfl
    | 19, hi => rfl
    | 20, hi => rfl
    | 21, hi => rfl
    | 22, hi => rfl
    | 23, hi => rfl
    | 24, hi => rfl
    | 25, hi => rfl
    | 26, hi => rfl
    | 27, hi => rfl
    | 28, hi => rfl
    | 29, hi => rfl
    | 30, hi => rfl
    | 31, hi => rfl
    | 32, hi => rfl
    | 33, hi => rfl
    | 34, hi => rfl
    | 35, hi => rfl
    | 36, hi => rfl
    | 37, hi => rfl
    | 38, hi => rfl
    | 39, hi => rfl
    | 40, hi => rfl
    | 41, hi => rfl
    | 42, hi => rfl
    | 43, hi => rfl
    | 44, hi => rfl
    | 45, hi => rfl
    | 46, hi => rfl
    | 47, hi => rfl
    | 48, hi => rfl
    | 49, hi => rfl
    | 50, hi => exact absurd rfl hi
    | 51, hi => rfl
    | 52, hi => rfl
    | 53, hi => rfl
    | 54, hi => rfl
    | 55, hi => rfl
    | 56, hi => rfl
    | 57, hi => rfl
    | 58, hi => rfl
    | 59, hi => rfl
    | 60, hi => rfl
    | 61, hi => rfl
    | 62, hi => rfl
    | 63, hi => rfl
    | 64, hi => rfl
    | 65, hi => rfl
    | 66, hi => rfl
    | 67, hi => rfl
    | i + 68, hi => rfl)
