def sg_rl : Nat → sgT := fun i => if i = 0 then .inl (1, 6) else if i = 1 then .inl (1, 5) else if i = 2 then .inl (2, 5) else if i = 3 then .inl (1, 5) else if i = 6 then .inl (0, 1) else .inl (0, 8)
def sg_now : Nat → sgT := fun i => if i = 2 then .inl (0, 1) else if i = 8 then .inl (0, 60) else .inl ((-2147483648), 2147483647)
/-- the kinds of cells -/
abbrev sgPm : Type := Bool × Bool × Bool × Int × Bool × Int × Fin 5 × Fin 5 × Fin 5 × Fin 5
/-- the droughts of both sides are as they were -/
def sgKeep (P P1 : sgPm) : Prop := P1.2.2.2.1 = P.2.2.2.1 ∧ P1.2.2.2.2.2.1 = P.2.2.2.2.2.1
def KK0 (P : sgPm) : sgK := .inl (0, [.inr (.inl (false, 8)), .inl ((-2147483648), 2147483647), .inl ((-2147483648), 2147483647), .inl ((-2147483648), 2147483647), .inl ((-2147483648), 2147483647)])
def KK1 (P : sgPm) : sgK := .inl (1, [.inr (.inl (false, 13)), .inr (.inl (false, 14)), .inl (0, 12)])
def KK2 (P : sgPm) : sgK := .inl (2, [.inr (.inl (false, 8)), .inr (.inl (false, 15)), .inr (.inl (false, 16)), .inr (.inl (false, 17)), bif P.2.1 then .inr (.inl (false, 18)) else .inr (.inl (true, 999)), bif P.2.2.1 then .inr (.inl (false, 19)) else .inr (.inl (true, 999)), .inl (0, 30), .inl ((-2147483648), 2147483647), .inl (0, 1), .inl (0, 1)])
def KK3 (P : sgPm) : sgK := .inl (3, [.inr (.inl (false, 20)), .inl (0, 16), .inl ((-2147483648), 2147483647)])
def KK4 (P : sgPm) : sgK := .inl (4, [.inr (.inl (false, 21)), .inr (.inl (false, 22)), .inr (.inl (false, 23)), .inr (.inl (false, 24)), .inr (.inl (false, 25)), .inl (0, 30), .inl ((-2147483648), 2147483647), .inl ((-2147483648), 2147483647), .inl ((-2147483648), 2147483647), .inl ((-2147483648), 2147483647), .inl ((-2147483648), 2147483647), .inl (0, 1), .inl (0, 1), .inl ((-2147483648), 2147483647), .inl ((-2147483648), 2147483647)])
def KK5 (P : sgPm) : sgK := .inl (5, [.inr (.inl (false, 26)), .inr (.inl (false, 27)), .inr (.inl (false, 9)), .inr (.inl (false, 28)), .inl ((-2147483648), 2147483647), .inl (0, 39), .inl ((-2147483648), 2147483647), .inl (0, 99), .inl (0, 1), .inl ((-2147483648), 2147483647), .inl (0, 99)])
def KK6 (P : sgPm) : sgK := .inl (6, [.inr (.inl (false, 29)), .inr (.inl (false, 30)), .inr (.inl (false, 31)), .inr (.inl (false, 32)), .inl (0, 240), .inl (0, 64), .inl (0, 1)])
def KK7 (P : sgPm) : sgK := .inl (7, [.inr (.inl (false, 8)), .inr (.inl (false, 33)), .inr (.inl (false, 34)), .inr (.inl (false, 35)), .inr (.inl (false, 3)), .inl ((-2147483648), 2147483647), .inl ((-2147483648), 2147483647), .inl ((-2147483648), 2147483647), .inl ((-2147483648), 2147483647)])
def KK8 (P : sgPm) : sgK := .inl (8, [.inr (.inl (false, 4)), bif P.1 then .inr (.inl (false, 6)) else .inr (.inl (true, 999)), .inr (.inl (false, 36)), .inr (.inl (false, 37)), .inr (.inl (false, 38)), .inr (.inl (false, 39)), .inr (.inl (false, 40)), .inr (.inl (false, 41)), .inl (0, 270)])
def KK9 (P : sgPm) : sgK := .inl (9, [.inl ((-2147483648), 2147483647), .inl ((-2147483648), 2147483647), .inl ((-2147483648), 2147483647), .inl ((-2147483648), 2147483647), .inl ((-2147483648), 2147483647), .inl ((-2147483648), 2147483647), .inl ((-2147483648), 2147483647), .inl (0, 1)])
def KK10 (P : sgPm) : sgK := .inl (10, [.inr (.inl (false, 42)), .inl (0, 240), .inl (0, 240), .inl ((-2147483648), 2147483647)])
def KK11 (P : sgPm) : sgK := .inl (11, [.inr (.inl (false, 10)), .inr (.inl (false, 43)), .inr (.inl (false, 44)), .inr (.inl (false, 9)), .inr (.inl (false, 5)), .inr (.inl (false, 8)), .inr (.inl (false, 7)), .inr (.inl (false, 0)), .inr (.inl (false, 2)), .inr (.inl (false, 1)), .inr (.inl (false, 4)), .inr (.inl (false, 4)), .inl ((P.2.2.2.2.2.2.1.val : Int), (P.2.2.2.2.2.2.1.val : Int)), .inl ((P.2.2.2.2.2.2.2.1.val : Int), (P.2.2.2.2.2.2.2.1.val : Int)), .inl ((-2147483648), 2147483647), .inl (P.2.2.2.1, P.2.2.2.1), .inr (.inr false)])
def KK12 (P : sgPm) : sgK := .inl (12, [.inl ((-2147483648), 2147483647), .inr (.inl (false, 45)), .inr (.inl (false, 46)), .inr (.inl (false, 47)), .inr (.inl (false, 48)), .inr (.inr true), .inl (0, 240), .inl ((P.2.2.2.2.2.2.2.2.1.val : Int), (P.2.2.2.2.2.2.2.2.1.val : Int)), .inl ((-2147483648), 2147483647), .inl (0, 240), .inl ((-2147483648), 2147483647), .inl ((-2147483648), 2147483647), .inl (0, 6), .inl ((-2147483648), 2147483647), .inl ((-2147483648), 2147483647), .inr (.inr true), .inr (.inr true), .inl (0, 1), .inr (.inl (false, 49)), .inr (.inl (false, 50)), .inr (.inl (false, 51)), .inr (.inl (false, 52)), .inr (.inl (false, 53)), .inl (bif P.2.2.2.2.1 then 1 else 0, bif P.2.2.2.2.1 then 30 else 0), .inl ((-2147483648), 2147483647), .inl ((-2147483648), 2147483647), .inl ((-2147483648), 2147483647), .inl ((-2147483648), 2147483647), .inl ((-2147483648), 2147483647), .inl ((P.2.2.2.2.2.2.2.2.2.val : Int), (P.2.2.2.2.2.2.2.2.2.val : Int)), .inl (0, 1), .inl (0, 1), .inr (.inl (false, 54)), .inr (.inl (false, 55)), .inl ((-1), 3), .inl (P.2.2.2.2.2.1, P.2.2.2.2.2.1), .inr (.inl (false, 56)), .inr (.inl (false, 57)), .inr (.inl (false, 58)), .inl (0, 40), .inr (.inr false), .inr (.inl (false, 59)), .inl ((-2147483648), 2147483647), .inl ((-2147483648), 2147483647), .inr (.inl (false, 60)), .inr (.inl (false, 61)), .inr (.inl (false, 62)), .inl (0, 12), .inr (.inl (false, 63)), .inr (.inl (false, 64)), .inl (0, 12), .inr (.inl (false, 65)), .inl (0, 1)])
def KK13 (P : sgPm) : sgK := .inr (12, .int, fun _ => .inl ((-2147483648), 2147483647))
def KK14 (P : sgPm) : sgK := .inr (12, .boolean, fun _ => .inl (0, 1))
def KK15 (P : sgPm) : sgK := .inr (30, .int, fun _ => .inl ((-2147483648), 2147483647))
def KK16 (P : sgPm) : sgK := .inr (30, .int, fun _ => .inl (0, 8256))
def KK17 (P : sgPm) : sgK := .inr (270, .int, fun _ => .inl ((-2147483648), 2147483647))
def KK18 (P : sgPm) : sgK := .inr (8256, .int, fun _ => .inl ((-2147483648), 2147483647))
def KK19 (P : sgPm) : sgK := .inr (4096, .int, fun _ => .inl ((-2147483648), 2147483647))
def KK20 (P : sgPm) : sgK := .inr (16, .int, fun _ => .inl ((-2147483648), 2147483647))
def KK21 (P : sgPm) : sgK := .inr (7, .int, fun i => if i = 0 then .inl (0, 6) else if i = 1 then .inl (0, 5) else if i = 2 then .inl (0, 5) else if i = 3 then .inl (0, 5) else if i = 6 then .inl (0, 1) else .inl (0, 8))
def KK22 (P : sgPm) : sgK := .inr (30, .int, fun _ => .inl ((-2147483648), 2147483647))
def KK23 (P : sgPm) : sgK := .inr (4, .int, fun _ => .inl ((-2147483648), 2147483647))
def KK24 (P : sgPm) : sgK := .inr (4, .int, fun _ => .inl ((-2147483648), 2147483647))
def KK25 (P : sgPm) : sgK := .inr (4, .int, fun _ => .inl ((-2147483648), 2147483647))
def KK26 (P : sgPm) : sgK := .inr (40, .object RX9, fun _ => .inr (.inl (false, 9)))
def KK27 (P : sgPm) : sgK := .inr (100, .int, fun _ => .inl ((-2147483648), 2147483647))
def KK28 (P : sgPm) : sgK := .inr (100, .int, fun _ => .inl ((-2147483648), 2147483647))
def KK29 (P : sgPm) : sgK := .inr (240, .int, fun _ => .inl ((-2147483648), 2147483647))
def KK30 (P : sgPm) : sgK := .inr (32, .int, fun _ => .inl ((-2147483648), 2147483647))
def KK31 (P : sgPm) : sgK := .inr (65, .int, fun _ => .inl (0, 240))
def KK32 (P : sgPm) : sgK := .inr (64, .int, fun _ => .inl (0, 240))
def KK33 (P : sgPm) : sgK := .inr (4, .object RX9, fun _ => .inr (.inl (false, 9)))
def KK34 (P : sgPm) : sgK := .inr (17, .int, fun _ => .inl ((-2147483648), 2147483647))
def KK35 (P : sgPm) : sgK := .inr (17, .int, fun _ => .inl ((-2147483648), 2147483647))
def KK36 (P : sgPm) : sgK := .inr (4, .int, fun _ => .inl ((-2147483648), 2147483647))
def KK37 (P : sgPm) : sgK := .inr (1116, .int, fun _ => .inl ((-2147483648), 2147483647))
def KK38 (P : sgPm) : sgK := .inr (1116, .int, fun _ => .inl ((-2147483648), 2147483647))
def KK39 (P : sgPm) : sgK := .inr (6, .int, fun _ => .inl ((-2147483648), 2147483647))
def KK40 (P : sgPm) : sgK := .inr (270, .int, fun _ => .inl ((-2147483648), 2147483647))
def KK41 (P : sgPm) : sgK := .inr (270, .int, fun _ => .inl ((-2147483648), 2147483647))
def KK42 (P : sgPm) : sgK := .inr (240, .int, fun _ => .inl ((-2147483648), 2147483647))
def KK43 (P : sgPm) : sgK := .inr (5, .object RX6, fun _ => .inr (.inl (false, 6)))
def KK44 (P : sgPm) : sgK := .inr (5, .object RX3, fun _ => .inr (.inl (false, 3)))
def KK45 (P : sgPm) : sgK := .inr (240, .byte, fun _ => .inl ((-2147483648), 2147483647))
def KK46 (P : sgPm) : sgK := .inr (960, .byte, fun _ => .inl ((-2147483648), 2147483647))
def KK47 (P : sgPm) : sgK := .inr (4, .int, fun _ => .inl (0, 240))
def KK48 (P : sgPm) : sgK := .inr (128, .int, fun _ => .inl ((-2147483648), 2147483647))
def KK49 (P : sgPm) : sgK := .inr (7, .int, fun i => bif P.2.2.2.2.1 then sg_rl i else .inl (0, 0))
def KK50 (P : sgPm) : sgK := .inr (7, .int, fun _ => .inl ((-2147483648), 2147483647))
def KK51 (P : sgPm) : sgK := .inr (1, .int, fun _ => .inl ((-2147483648), 2147483647))
def KK52 (P : sgPm) : sgK := .inr (320, .int, fun _ => .inl ((-2147483648), 2147483647))
def KK53 (P : sgPm) : sgK := .inr (5, .int, fun _ => .inl (0, 16))
def KK54 (P : sgPm) : sgK := .inr (249, .int, sg_now)
def KK55 (P : sgPm) : sgK := .inr (249, .int, sg_now)
def KK56 (P : sgPm) : sgK := .inr (8191, .long, fun _ => .inr (.inr false))
def KK57 (P : sgPm) : sgK := .inr (8191, .int, fun _ => .inl ((-2147483648), 2147483647))
def KK58 (P : sgPm) : sgK := .inr (9960, .int, fun i => sg_now (i % 249))
def KK59 (P : sgPm) : sgK := .inr (3, .int, fun _ => .inl ((-2147483648), 2147483647))
def KK60 (P : sgPm) : sgK := .inr (12, .int, fun _ => .inl ((-2147483648), 2147483647))
def KK61 (P : sgPm) : sgK := .inr (4096, .int, fun _ => .inl ((-2147483648), 2147483647))
def KK62 (P : sgPm) : sgK := .inr (4096, .int, fun _ => .inl ((-2147483648), 2147483647))
def KK63 (P : sgPm) : sgK := .inr (12, .int, fun _ => .inl ((-2147483648), 2147483647))
def KK64 (P : sgPm) : sgK := .inr (12, .boolean, fun _ => .inl (0, 1))
def KK65 (P : sgPm) : sgK := .inr (249, .int, sg_now)
def KK10w (P : sgPm) : sgK := .inl (10, [.inr (.inl (false, 42)), .inl (0, 240), .inl (0, 241), .inl ((-2147483648), 2147483647)])
def KTw (P : sgPm) : List sgK := [KK0 P, KK1 P, KK2 P, KK3 P, KK4 P, KK5 P, KK6 P, KK7 P, KK8 P, KK9 P, KK10w P, KK11 P, KK12 P, KK13 P, KK14 P, KK15 P, KK16 P, KK17 P, KK18 P, KK19 P, KK20 P, KK21 P, KK22 P, KK23 P, KK24 P, KK25 P, KK26 P, KK27 P, KK28 P, KK29 P, KK30 P, KK31 P, KK32 P, KK33 P, KK34 P, KK35 P, KK36 P, KK37 P, KK38 P, KK39 P, KK40 P, KK41 P, KK42 P, KK43 P, KK44 P, KK45 P, KK46 P, KK47 P, KK48 P, KK49 P, KK50 P, KK51 P, KK52 P, KK53 P, KK54 P, KK55 P, KK56 P, KK57 P, KK58 P, KK59 P, KK60 P, KK61 P, KK62 P, KK63 P, KK64 P, KK65 P]
def KT (P : sgPm) : List sgK := [KK0 P, KK1 P, KK2 P, KK3 P, KK4 P, KK5 P, KK6 P, KK7 P, KK8 P, KK9 P, KK10 P, KK11 P, KK12 P, KK13 P, KK14 P, KK15 P, KK16 P, KK17 P, KK18 P, KK19 P, KK20 P, KK21 P, KK22 P, KK23 P, KK24 P, KK25 P, KK26 P, KK27 P, KK28 P, KK29 P, KK30 P, KK31 P, KK32 P, KK33 P, KK34 P, KK35 P, KK36 P, KK37 P, KK38 P, KK39 P, KK40 P, KK41 P, KK42 P, KK43 P, KK44 P, KK45 P, KK46 P, KK47 P, KK48 P, KK49 P, KK50 P, KK51 P, KK52 P, KK53 P, KK54 P, KK55 P, KK56 P, KK57 P, KK58 P, KK59 P, KK60 P, KK61 P, KK62 P, KK63 P, KK64 P, KK65 P]
theorem sg_null {kt : List sgK} {D : va_G} {cl : List vw_C} {A : Nat → Prop} {tys : List (ClassId × FieldType)} {ad ks : List Nat} {H : Heap} {v : Value} (h9 : kt[999]? = none) (hG : sgG kt D cl A tys ad ks H) (h : okV ad ks (.inr (.inl (true, 999))) v) : v = .null := by
  rcases h with ⟨-, h⟩ | ⟨a, -, ha⟩
  · exact h
  · obtain ⟨ws, hP, hD, hT, hU⟩ := hG
    obtain ⟨j, e, K, h1, h2, h3, -⟩ := ha.in hT
    rw [h9] at h3
    cases h3
theorem sg_wide {P : sgPm} {D : va_G} {A : Nat → Prop} {tys : List (ClassId × FieldType)} {ad ks : List Nat} {H : Heap} (hG : sgG (KT P) D vwCl A tys ad ks H) : sgG (KTw P) D vwCl A tys ad ks H := by
  refine sg_kinds hG fun k K e hk he => ?_
  by_cases h10 : k = 10
  · subst h10
    cases hk
    refine ⟨KK10w P, rfl, ?_⟩
    cases e with
    | inl z => exact he.elim
    | inr q =>
      obtain ⟨h1, h2, h3⟩ := he
      refine ⟨h1, h2, fun j t v ht hv => ?_⟩
      match j, ht with
      | 0, ht => exact h3 0 t v ht hv
      | 1, ht => exact h3 1 t v ht hv
      | 2, ht =>
        cases ht
        obtain ⟨x, rfl, hx⟩ := h3 2 _ v rfl hv
        exact ⟨x, rfl, iv_of hx (by decide +kernel)⟩
      | 3, ht => exact h3 3 t v ht hv
      | j + 4, ht => cases ht
  · refine ⟨K, ?_, he⟩
    rw [← hk]
    match k, h10 with
    | 0, h => rfl
    | 1, h => rfl
    | 2, h => rfl
    | 3, h => rfl
    | 4, h => rfl
    | 5, h => rfl
    | 6, h => rfl
    | 7, h => rfl
    | 8, h => rfl
    | 9, h => rfl
    | 10, h => exact absurd rfl h
    | 11, h => rfl
    | 12, h => rfl
    | 13, h => rfl
    | 14, h => rfl
    | 15, h => rfl
    | 16, h => rfl
    | 17, h => rfl
    | 18, h => rfl
    | 19, h => rfl
    | 20, h => rfl
    | 21, h => rfl
    | 22, h => rfl
    | 23, h => rfl
    | 24, h => rfl
    | 25, h => rfl
    | 26, h => rfl
    | 27, h => rfl
    | 28, h => rfl
    | 29, h => rfl
    | 30, h => rfl
    | 31, h => rfl
    | 32, h => rfl
    | 33, h => rfl
    | 34, h => rfl
    | 35, h => rfl
    | 36, h => rfl
    | 37, h => rfl
    | 38, h => rfl
    | 39, h => rfl
    | 40, h => rfl
    | 41, h => rfl
    | 42, h => rfl
    | 43, h => rfl
    | 44, h => rfl
    | k + 45, h => rfl
theorem sg_ruleok {ad ks : List Nat} {i x lo hi : Int32} (hi0 : iv 0 6 i) (e1 : lo = ([1, 1, 2, 1, 0, 0, 0] : List Int32).getD i.toNatClampNeg 0) (e2 : hi = ([6, 5, 5, 5, 8, 8, 1] : List Int32).getD i.toNatClampNeg 0) (h : x = -1 ∨ (lo ≤ x ∧ x ≤ hi)) (hn : ¬ x = -1) : okV ad ks ((fun i => if i = 0 then .inl (0, 6) else if i = 1 then .inl (0, 5) else if i = 2 then .inl (0, 5) else if i = 3 then .inl (0, 5) else if i = 6 then .inl (0, 1) else .inl (0, 8) : Nat → sgT) i.toNatClampNeg) (.int x) := by
  obtain ⟨h1, h2⟩ := h.resolve_left hn
  have hc := iv_clamp hi0 (by decide +kernel)
  obtain ⟨b1, b2⟩ := hi0
  rcases (show i.toNatClampNeg = 0 ∨ i.toNatClampNeg = 1 ∨ i.toNatClampNeg = 2 ∨ i.toNatClampNeg = 3 ∨ i.toNatClampNeg = 4 ∨ i.toNatClampNeg = 5 ∨ i.toNatClampNeg = 6 by omega) with q | q | q | q | q | q | q <;> rw [q] at e1 e2 ⊢
  · have e1 : lo = 1 := e1
    have e2 : hi = 6 := e2
    subst e1; subst e2
    have g1 := Int32.le_iff_toInt_le.mp h1
    have g2 := Int32.le_iff_toInt_le.mp h2
    exact ⟨x, rfl, iv_of (a := 1) (b := 6) ⟨g1, g2⟩ (by decide +kernel)⟩
  · have e1 : lo = 1 := e1
    have e2 : hi = 5 := e2
    subst e1; subst e2
    have g1 := Int32.le_iff_toInt_le.mp h1
    have g2 := Int32.le_iff_toInt_le.mp h2
    exact ⟨x, rfl, iv_of (a := 1) (b := 5) ⟨g1, g2⟩ (by decide +kernel)⟩
  · have e1 : lo = 2 := e1
    have e2 : hi = 5 := e2
    subst e1; subst e2
    have g1 := Int32.le_iff_toInt_le.mp h1
    have g2 := Int32.le_iff_toInt_le.mp h2
    exact ⟨x, rfl, iv_of (a := 2) (b := 5) ⟨g1, g2⟩ (by decide +kernel)⟩
  · have e1 : lo = 1 := e1
    have e2 : hi = 5 := e2
    subst e1; subst e2
    have g1 := Int32.le_iff_toInt_le.mp h1
    have g2 := Int32.le_iff_toInt_le.mp h2
    exact ⟨x, rfl, iv_of (a := 1) (b := 5) ⟨g1, g2⟩ (by decide +kernel)⟩
  · have e1 : lo = 0 := e1
    have e2 : hi = 8 := e2
    subst e1; subst e2
    have g1 := Int32.le_iff_toInt_le.mp h1
    have g2 := Int32.le_iff_toInt_le.mp h2
    exact ⟨x, rfl, iv_of (a := 0) (b := 8) ⟨g1, g2⟩ (by decide +kernel)⟩
  · have e1 : lo = 0 := e1
    have e2 : hi = 8 := e2
    subst e1; subst e2
    have g1 := Int32.le_iff_toInt_le.mp h1
    have g2 := Int32.le_iff_toInt_le.mp h2
    exact ⟨x, rfl, iv_of (a := 0) (b := 8) ⟨g1, g2⟩ (by decide +kernel)⟩
  · have e1 : lo = 0 := e1
    have e2 : hi = 1 := e2
    subst e1; subst e2
    have g1 := Int32.le_iff_toInt_le.mp h1
    have g2 := Int32.le_iff_toInt_le.mp h2
    exact ⟨x, rfl, iv_of (a := 0) (b := 1) ⟨g1, g2⟩ (by decide +kernel)⟩
theorem sg_usual {ad ks : List Nat} : ∀ j : Nat, j < 7 → okV ad ks ((fun i => if i = 0 then .inl (0, 6) else if i = 1 then .inl (0, 5) else if i = 2 then .inl (0, 5) else if i = 3 then .inl (0, 5) else if i = 6 then .inl (0, 1) else .inl (0, 8) : Nat → sgT) j) (.int (([5, 4, 3, 2, 0, 8, 0] : List Int32).getD j 0)) := by
  intro j hj
  match j, hj with
  | 0, _ => exact ⟨5, rfl, iv_c _ (by decide +kernel)⟩
  | 1, _ => exact ⟨4, rfl, iv_c _ (by decide +kernel)⟩
  | 2, _ => exact ⟨3, rfl, iv_c _ (by decide +kernel)⟩
  | 3, _ => exact ⟨2, rfl, iv_c _ (by decide +kernel)⟩
  | 4, _ => exact ⟨0, rfl, iv_c _ (by decide +kernel)⟩
  | 5, _ => exact ⟨8, rfl, iv_c _ (by decide +kernel)⟩
  | 6, _ => exact ⟨0, rfl, iv_c _ (by decide +kernel)⟩
  | j + 7, hj => exact absurd hj (by omega)
theorem sg_r0 {ad ks : List Nat} {x i : Int32} {b : Bool} (hb : b = false) (h : okV ad ks (bif b then sg_rl i.toNatClampNeg else .inl (0, 0)) (.int x)) : iv 0 0 x := by
  subst hb
  obtain ⟨y, h1, h2⟩ := h
  cases h1
  exact h2
theorem sg_r1 {ad ks : List Nat} {x i : Int32} {b : Bool} {lo hi a c : Int} (hb : b = true) (h : okV ad ks (bif b then sg_rl i.toNatClampNeg else .inl (0, 0)) (.int x)) (hi0 : iv lo hi i) (hd : decide (0 ≤ lo ∧ lo = hi) = true) (he : sg_rl lo.toNat = .inl (a, c)) : iv a c x := by
  subst hb
  obtain ⟨h1, h2⟩ := of_decide_eq_true hd
  have e : i.toNatClampNeg = lo.toNat := by
    have := hi0.1
    have := hi0.2
    show i.toInt.toNat = lo.toNat
    omega
  have h : okV ad ks (sg_rl i.toNatClampNeg) (.int x) := h
  rw [e, he] at h
  obtain ⟨y, h3, h4⟩ := h
  cases h3
  exact h4
theorem sg_r2 {ad ks : List Nat} {x i : Int32} {b : Bool} (hb : b = true) (h : okV ad ks (bif b then sg_rl i.toNatClampNeg else .inl (0, 0)) (.int x)) : iv 0 8 x := by
  subst hb
  have h : okV ad ks (sg_rl i.toNatClampNeg) (.int x) := h
  generalize i.toNatClampNeg = j at h
  unfold sg_rl at h
  by_cases e0 : j = 0
  · rw [if_pos e0] at h; obtain ⟨y, h1, h2⟩ := h; cases h1; exact iv_of h2 (by decide +kernel)
  rw [if_neg e0] at h
  by_cases e1 : j = 1
  · rw [if_pos e1] at h; obtain ⟨y, h1, h2⟩ := h; cases h1; exact iv_of h2 (by decide +kernel)
  rw [if_neg e1] at h
  by_cases e2 : j = 2
  · rw [if_pos e2] at h; obtain ⟨y, h1, h2⟩ := h; cases h1; exact iv_of h2 (by decide +kernel)
  rw [if_neg e2] at h
  by_cases e3 : j = 3
  · rw [if_pos e3] at h; obtain ⟨y, h1, h2⟩ := h; cases h1; exact iv_of h2 (by decide +kernel)
  rw [if_neg e3] at h
  by_cases e6 : j = 6
  · rw [if_pos e6] at h; obtain ⟨y, h1, h2⟩ := h; cases h1; exact iv_of h2 (by decide +kernel)
  rw [if_neg e6] at h
  obtain ⟨y, h1, h2⟩ := h
  cases h1
  exact iv_of h2 (by decide +kernel)
theorem sg_spa_now {ad ks : List Nat} {x : Int32} {j : Nat} (h : okV ad ks (sg_now j) (.int x)) : iv (-2147483648) 2147483647 x := iv_top x
theorem sg_sp_now {ad ks : List Nat} {x i : Int32} {lo hi a c : Int} (h : okV ad ks (sg_now i.toNatClampNeg) (.int x)) (hi0 : iv lo hi i) (hd : decide (0 ≤ lo ∧ lo = hi) = true) (he : sg_now lo.toNat = .inl (a, c)) : iv a c x := by
  obtain ⟨h1, h2⟩ := of_decide_eq_true hd
  have e : i.toNatClampNeg = lo.toNat := by
    have := hi0.1
    have := hi0.2
    show i.toInt.toNat = lo.toNat
    omega
  rw [e, he] at h
  obtain ⟨y, h3, h4⟩ := h
  cases h3
  exact h4
theorem sg_at_now {ad ks : List Nat} {x i : Int32} {lo hi a b : Int} (hi0 : iv lo hi i) (hd : decide (0 ≤ lo ∧ lo = hi) = true) (he : sg_now lo.toNat = .inl (a, b)) (hx : iv a b x) : okV ad ks (sg_now i.toNatClampNeg) (.int x) := by
  obtain ⟨h1, h2⟩ := of_decide_eq_true hd
  have e : i.toNatClampNeg = lo.toNat := by
    have := hi0.1
    have := hi0.2
    show i.toInt.toNat = lo.toNat
    omega
  rw [e, he]
  exact ⟨x, rfl, hx⟩
theorem sg_off_now {ad ks : List Nat} {x i : Int32} {lo hi : Int} (hi0 : iv lo hi i) (hd : decide (0 ≤ lo ∧ (hi < 2 ∨ (2 < lo ∧ hi < 8) ∨ 8 < lo)) = true) : okV ad ks (sg_now i.toNatClampNeg) (.int x) := by
  have h1 := of_decide_eq_true hd
  have e := iv_clamp hi0 (by simp; omega)
  obtain ⟨b1, b2⟩ := hi0
  unfold sg_now
  rw [if_neg (by omega), if_neg (by omega)]
  exact ⟨x, rfl, iv_top x⟩
theorem inL_X0 : ∀ w ∈ u_ws RX0 TX0 5, w ∈ sg_tbl := by
  intro w hw
  obtain ⟨k, hk, rfl⟩ := List.mem_map.mp hw
  have hk := List.mem_range.mp hk
  match k, hk with
  | 0, _ => exact tb_2 _ (List.mem_of_getElem? (i := 127) (by decide +kernel)) (by decide +kernel)
  | 1, _ => exact tb_2 _ (List.mem_of_getElem? (i := 129) (by decide +kernel)) (by decide +kernel)
  | 2, _ => exact tb_2 _ (List.mem_of_getElem? (i := 131) (by decide +kernel)) (by decide +kernel)
  | 3, _ => exact tb_2 _ (List.mem_of_getElem? (i := 133) (by decide +kernel)) (by decide +kernel)
  | 4, _ => exact tb_2 _ (List.mem_of_getElem? (i := 135) (by decide +kernel)) (by decide +kernel)
  | k + 5, hk => exact absurd hk (by omega)
theorem inL_X1 : ∀ w ∈ u_ws RX1 TX1 3, w ∈ sg_tbl := by
  intro w hw
  obtain ⟨k, hk, rfl⟩ := List.mem_map.mp hw
  have hk := List.mem_range.mp hk
  match k, hk with
  | 0, _ => exact tb_2 _ (List.mem_of_getElem? (i := 187) (by decide +kernel)) (by decide +kernel)
  | 1, _ => exact tb_2 _ (List.mem_of_getElem? (i := 189) (by decide +kernel)) (by decide +kernel)
  | 2, _ => exact tb_2 _ (List.mem_of_getElem? (i := 191) (by decide +kernel)) (by decide +kernel)
  | k + 3, hk => exact absurd hk (by omega)
theorem inL_X2 : ∀ w ∈ u_ws RX2 TX2 10, w ∈ sg_tbl := by
  intro w hw
  obtain ⟨k, hk, rfl⟩ := List.mem_map.mp hw
  have hk := List.mem_range.mp hk
  match k, hk with
  | 0, _ => exact tb_2 _ (List.mem_of_getElem? (i := 156) (by decide +kernel)) (by decide +kernel)
  | 1, _ => exact tb_2 _ (List.mem_of_getElem? (i := 158) (by decide +kernel)) (by decide +kernel)
  | 2, _ => exact tb_2 _ (List.mem_of_getElem? (i := 160) (by decide +kernel)) (by decide +kernel)
  | 3, _ => exact tb_2 _ (List.mem_of_getElem? (i := 162) (by decide +kernel)) (by decide +kernel)
  | 4, _ => exact tb_2 _ (List.mem_of_getElem? (i := 164) (by decide +kernel)) (by decide +kernel)
  | 5, _ => exact tb_2 _ (List.mem_of_getElem? (i := 166) (by decide +kernel)) (by decide +kernel)
  | 6, _ => exact tb_2 _ (List.mem_of_getElem? (i := 168) (by decide +kernel)) (by decide +kernel)
  | 7, _ => exact tb_2 _ (List.mem_of_getElem? (i := 170) (by decide +kernel)) (by decide +kernel)
  | 8, _ => exact tb_2 _ (List.mem_of_getElem? (i := 172) (by decide +kernel)) (by decide +kernel)
  | 9, _ => exact tb_2 _ (List.mem_of_getElem? (i := 174) (by decide +kernel)) (by decide +kernel)
  | k + 10, hk => exact absurd hk (by omega)
theorem inL_X3 : ∀ w ∈ u_ws RX3 TX3 3, w ∈ sg_tbl := by
  intro w hw
  obtain ⟨k, hk, rfl⟩ := List.mem_map.mp hw
  have hk := List.mem_range.mp hk
  match k, hk with
  | 0, _ => exact tb_1 _ (List.mem_of_getElem? (i := 102) (by decide +kernel)) (by decide +kernel)
  | 1, _ => exact tb_1 _ (List.mem_of_getElem? (i := 104) (by decide +kernel)) (by decide +kernel)
  | 2, _ => exact tb_1 _ (List.mem_of_getElem? (i := 106) (by decide +kernel)) (by decide +kernel)
  | k + 3, hk => exact absurd hk (by omega)
theorem inL_X4 : ∀ w ∈ u_ws RX4 TX4 15, w ∈ sg_tbl := by
  intro w hw
  obtain ⟨k, hk, rfl⟩ := List.mem_map.mp hw
  have hk := List.mem_range.mp hk
  match k, hk with
  | 0, _ => exact tb_1 _ (List.mem_of_getElem? (i := 238) (by decide +kernel)) (by decide +kernel)
  | 1, _ => exact tb_2 _ (List.mem_of_getElem? (i := 0) (by decide +kernel)) (by decide +kernel)
  | 2, _ => exact tb_2 _ (List.mem_of_getElem? (i := 2) (by decide +kernel)) (by decide +kernel)
  | 3, _ => exact tb_2 _ (List.mem_of_getElem? (i := 4) (by decide +kernel)) (by decide +kernel)
  | 4, _ => exact tb_2 _ (List.mem_of_getElem? (i := 6) (by decide +kernel)) (by decide +kernel)
  | 5, _ => exact tb_2 _ (List.mem_of_getElem? (i := 8) (by decide +kernel)) (by decide +kernel)
  | 6, _ => exact tb_2 _ (List.mem_of_getElem? (i := 10) (by decide +kernel)) (by decide +kernel)
  | 7, _ => exact tb_2 _ (List.mem_of_getElem? (i := 12) (by decide +kernel)) (by decide +kernel)
  | 8, _ => exact tb_2 _ (List.mem_of_getElem? (i := 14) (by decide +kernel)) (by decide +kernel)
  | 9, _ => exact tb_2 _ (List.mem_of_getElem? (i := 16) (by decide +kernel)) (by decide +kernel)
  | 10, _ => exact tb_2 _ (List.mem_of_getElem? (i := 18) (by decide +kernel)) (by decide +kernel)
  | 11, _ => exact tb_2 _ (List.mem_of_getElem? (i := 20) (by decide +kernel)) (by decide +kernel)
  | 12, _ => exact tb_2 _ (List.mem_of_getElem? (i := 22) (by decide +kernel)) (by decide +kernel)
  | 13, _ => exact tb_2 _ (List.mem_of_getElem? (i := 24) (by decide +kernel)) (by decide +kernel)
  | 14, _ => exact tb_2 _ (List.mem_of_getElem? (i := 26) (by decide +kernel)) (by decide +kernel)
  | k + 15, hk => exact absurd hk (by omega)
theorem inL_X5 : ∀ w ∈ u_ws RX5 TX5 11, w ∈ sg_tbl := by
  intro w hw
  obtain ⟨k, hk, rfl⟩ := List.mem_map.mp hw
  have hk := List.mem_range.mp hk
  match k, hk with
  | 0, _ => exact tb_1 _ (List.mem_of_getElem? (i := 180) (by decide +kernel)) (by decide +kernel)
  | 1, _ => exact tb_1 _ (List.mem_of_getElem? (i := 182) (by decide +kernel)) (by decide +kernel)
  | 2, _ => exact tb_1 _ (List.mem_of_getElem? (i := 184) (by decide +kernel)) (by decide +kernel)
  | 3, _ => exact tb_1 _ (List.mem_of_getElem? (i := 186) (by decide +kernel)) (by decide +kernel)
  | 4, _ => exact tb_1 _ (List.mem_of_getElem? (i := 188) (by decide +kernel)) (by decide +kernel)
  | 5, _ => exact tb_1 _ (List.mem_of_getElem? (i := 190) (by decide +kernel)) (by decide +kernel)
  | 6, _ => exact tb_1 _ (List.mem_of_getElem? (i := 192) (by decide +kernel)) (by decide +kernel)
  | 7, _ => exact tb_1 _ (List.mem_of_getElem? (i := 194) (by decide +kernel)) (by decide +kernel)
  | 8, _ => exact tb_1 _ (List.mem_of_getElem? (i := 196) (by decide +kernel)) (by decide +kernel)
  | 9, _ => exact tb_1 _ (List.mem_of_getElem? (i := 198) (by decide +kernel)) (by decide +kernel)
  | 10, _ => exact tb_1 _ (List.mem_of_getElem? (i := 200) (by decide +kernel)) (by decide +kernel)
  | k + 11, hk => exact absurd hk (by omega)
theorem inL_X6 : ∀ w ∈ u_ws RX6 TX6 7, w ∈ sg_tbl := by
  intro w hw
  obtain ⟨k, hk, rfl⟩ := List.mem_map.mp hw
  have hk := List.mem_range.mp hk
  match k, hk with
  | 0, _ => exact tb_1 _ (List.mem_of_getElem? (i := 74) (by decide +kernel)) (by decide +kernel)
  | 1, _ => exact tb_1 _ (List.mem_of_getElem? (i := 76) (by decide +kernel)) (by decide +kernel)
  | 2, _ => exact tb_1 _ (List.mem_of_getElem? (i := 78) (by decide +kernel)) (by decide +kernel)
  | 3, _ => exact tb_1 _ (List.mem_of_getElem? (i := 80) (by decide +kernel)) (by decide +kernel)
  | 4, _ => exact tb_1 _ (List.mem_of_getElem? (i := 82) (by decide +kernel)) (by decide +kernel)
  | 5, _ => exact tb_1 _ (List.mem_of_getElem? (i := 84) (by decide +kernel)) (by decide +kernel)
  | 6, _ => exact tb_1 _ (List.mem_of_getElem? (i := 86) (by decide +kernel)) (by decide +kernel)
  | k + 7, hk => exact absurd hk (by omega)
theorem inL_X7 : ∀ w ∈ u_ws RX7 TX7 9, w ∈ sg_tbl := by
  intro w hw
  obtain ⟨k, hk, rfl⟩ := List.mem_map.mp hw
  have hk := List.mem_range.mp hk
  match k, hk with
  | 0, _ => exact tb_2 _ (List.mem_of_getElem? (i := 95) (by decide +kernel)) (by decide +kernel)
  | 1, _ => exact tb_2 _ (List.mem_of_getElem? (i := 97) (by decide +kernel)) (by decide +kernel)
  | 2, _ => exact tb_2 _ (List.mem_of_getElem? (i := 99) (by decide +kernel)) (by decide +kernel)
  | 3, _ => exact tb_2 _ (List.mem_of_getElem? (i := 101) (by decide +kernel)) (by decide +kernel)
  | 4, _ => exact tb_2 _ (List.mem_of_getElem? (i := 103) (by decide +kernel)) (by decide +kernel)
  | 5, _ => exact tb_2 _ (List.mem_of_getElem? (i := 105) (by decide +kernel)) (by decide +kernel)
  | 6, _ => exact tb_2 _ (List.mem_of_getElem? (i := 107) (by decide +kernel)) (by decide +kernel)
  | 7, _ => exact tb_2 _ (List.mem_of_getElem? (i := 109) (by decide +kernel)) (by decide +kernel)
  | 8, _ => exact tb_2 _ (List.mem_of_getElem? (i := 111) (by decide +kernel)) (by decide +kernel)
  | k + 9, hk => exact absurd hk (by omega)
theorem inL_X8 : ∀ w ∈ u_ws RX8 TX8 9, w ∈ sg_tbl := by
  intro w hw
  obtain ⟨k, hk, rfl⟩ := List.mem_map.mp hw
  have hk := List.mem_range.mp hk
  match k, hk with
  | 0, _ => exact tb_2 _ (List.mem_of_getElem? (i := 55) (by decide +kernel)) (by decide +kernel)
  | 1, _ => exact tb_2 _ (List.mem_of_getElem? (i := 57) (by decide +kernel)) (by decide +kernel)
  | 2, _ => exact tb_2 _ (List.mem_of_getElem? (i := 59) (by decide +kernel)) (by decide +kernel)
  | 3, _ => exact tb_2 _ (List.mem_of_getElem? (i := 61) (by decide +kernel)) (by decide +kernel)
  | 4, _ => exact tb_2 _ (List.mem_of_getElem? (i := 63) (by decide +kernel)) (by decide +kernel)
  | 5, _ => exact tb_2 _ (List.mem_of_getElem? (i := 65) (by decide +kernel)) (by decide +kernel)
  | 6, _ => exact tb_2 _ (List.mem_of_getElem? (i := 67) (by decide +kernel)) (by decide +kernel)
  | 7, _ => exact tb_2 _ (List.mem_of_getElem? (i := 69) (by decide +kernel)) (by decide +kernel)
  | 8, _ => exact tb_2 _ (List.mem_of_getElem? (i := 71) (by decide +kernel)) (by decide +kernel)
  | k + 9, hk => exact absurd hk (by omega)
theorem inL_X9 : ∀ w ∈ u_ws RX9 TX9 8, w ∈ sg_tbl := by
  intro w hw
  obtain ⟨k, hk, rfl⟩ := List.mem_map.mp hw
  have hk := List.mem_range.mp hk
  match k, hk with
  | 0, _ => exact tb_1 _ (List.mem_of_getElem? (i := 142) (by decide +kernel)) (by decide +kernel)
  | 1, _ => exact tb_1 _ (List.mem_of_getElem? (i := 144) (by decide +kernel)) (by decide +kernel)
  | 2, _ => exact tb_1 _ (List.mem_of_getElem? (i := 146) (by decide +kernel)) (by decide +kernel)
  | 3, _ => exact tb_1 _ (List.mem_of_getElem? (i := 148) (by decide +kernel)) (by decide +kernel)
  | 4, _ => exact tb_1 _ (List.mem_of_getElem? (i := 150) (by decide +kernel)) (by decide +kernel)
  | 5, _ => exact tb_1 _ (List.mem_of_getElem? (i := 152) (by decide +kernel)) (by decide +kernel)
  | 6, _ => exact tb_1 _ (List.mem_of_getElem? (i := 154) (by decide +kernel)) (by decide +kernel)
  | 7, _ => exact tb_1 _ (List.mem_of_getElem? (i := 156) (by decide +kernel)) (by decide +kernel)
  | k + 8, hk => exact absurd hk (by omega)
theorem inL_X10 : ∀ w ∈ u_ws RX10 TX10 4, w ∈ sg_tbl := by
  intro w hw
  obtain ⟨k, hk, rfl⟩ := List.mem_map.mp hw
  have hk := List.mem_range.mp hk
  match k, hk with
  | 0, _ => exact tb_1 _ (List.mem_of_getElem? (i := 47) (by decide +kernel)) (by decide +kernel)
  | 1, _ => exact tb_1 _ (List.mem_of_getElem? (i := 49) (by decide +kernel)) (by decide +kernel)
  | 2, _ => exact tb_1 _ (List.mem_of_getElem? (i := 51) (by decide +kernel)) (by decide +kernel)
  | 3, _ => exact tb_1 _ (List.mem_of_getElem? (i := 53) (by decide +kernel)) (by decide +kernel)
  | k + 4, hk => exact absurd hk (by omega)
theorem inL_X11 : ∀ w ∈ u_ws RX11 TX11 17, w ∈ sg_tbl := by
  intro w hw
  obtain ⟨k, hk, rfl⟩ := List.mem_map.mp hw
  have hk := List.mem_range.mp hk
  match k, hk with
  | 0, _ => exact tb_2 _ (List.mem_of_getElem? (i := 212) (by decide +kernel)) (by decide +kernel)
  | 1, _ => exact tb_2 _ (List.mem_of_getElem? (i := 214) (by decide +kernel)) (by decide +kernel)
  | 2, _ => exact tb_2 _ (List.mem_of_getElem? (i := 216) (by decide +kernel)) (by decide +kernel)
  | 3, _ => exact tb_2 _ (List.mem_of_getElem? (i := 218) (by decide +kernel)) (by decide +kernel)
  | 4, _ => exact tb_2 _ (List.mem_of_getElem? (i := 220) (by decide +kernel)) (by decide +kernel)
  | 5, _ => exact tb_2 _ (List.mem_of_getElem? (i := 222) (by decide +kernel)) (by decide +kernel)
  | 6, _ => exact tb_2 _ (List.mem_of_getElem? (i := 224) (by decide +kernel)) (by decide +kernel)
  | 7, _ => exact tb_2 _ (List.mem_of_getElem? (i := 226) (by decide +kernel)) (by decide +kernel)
  | 8, _ => exact tb_2 _ (List.mem_of_getElem? (i := 228) (by decide +kernel)) (by decide +kernel)
  | 9, _ => exact tb_2 _ (List.mem_of_getElem? (i := 230) (by decide +kernel)) (by decide +kernel)
  | 10, _ => exact tb_2 _ (List.mem_of_getElem? (i := 232) (by decide +kernel)) (by decide +kernel)
  | 11, _ => exact tb_2 _ (List.mem_of_getElem? (i := 234) (by decide +kernel)) (by decide +kernel)
  | 12, _ => exact tb_2 _ (List.mem_of_getElem? (i := 236) (by decide +kernel)) (by decide +kernel)
  | 13, _ => exact tb_2 _ (List.mem_of_getElem? (i := 238) (by decide +kernel)) (by decide +kernel)
  | 14, _ => exact tb_3 _ (List.mem_of_getElem? (i := 0) (by decide +kernel)) (by decide +kernel)
  | 15, _ => exact tb_3 _ (List.mem_of_getElem? (i := 2) (by decide +kernel)) (by decide +kernel)
  | 16, _ => exact tb_3 _ (List.mem_of_getElem? (i := 4) (by decide +kernel)) (by decide +kernel)
  | k + 17, hk => exact absurd hk (by omega)
theorem inL_X12 : ∀ w ∈ u_ws RX12 TX12 53, w ∈ sg_tbl := by
  intro w hw
  obtain ⟨k, hk, rfl⟩ := List.mem_map.mp hw
  have hk := List.mem_range.mp hk
  match k, hk with
  | 0, _ => exact tb_6 _ (List.mem_of_getElem? (i := 231) (by decide +kernel)) (by decide +kernel)
  | 1, _ => exact tb_6 _ (List.mem_of_getElem? (i := 233) (by decide +kernel)) (by decide +kernel)
  | 2, _ => exact tb_6 _ (List.mem_of_getElem? (i := 235) (by decide +kernel)) (by decide +kernel)
  | 3, _ => exact tb_6 _ (List.mem_of_getElem? (i := 237) (by decide +kernel)) (by decide +kernel)
  | 4, _ => exact tb_6 _ (List.mem_of_getElem? (i := 239) (by decide +kernel)) (by decide +kernel)
  | 5, _ => exact tb_7 _ (List.mem_of_getElem? (i := 1) (by decide +kernel)) (by decide +kernel)
  | 6, _ => exact tb_7 _ (List.mem_of_getElem? (i := 3) (by decide +kernel)) (by decide +kernel)
  | 7, _ => exact tb_7 _ (List.mem_of_getElem? (i := 5) (by decide +kernel)) (by decide +kernel)
  | 8, _ => exact tb_7 _ (List.mem_of_getElem? (i := 7) (by decide +kernel)) (by decide +kernel)
  | 9, _ => exact tb_7 _ (List.mem_of_getElem? (i := 9) (by decide +kernel)) (by decide +kernel)
  | 10, _ => exact tb_7 _ (List.mem_of_getElem? (i := 11) (by decide +kernel)) (by decide +kernel)
  | 11, _ => exact tb_7 _ (List.mem_of_getElem? (i := 13) (by decide +kernel)) (by decide +kernel)
  | 12, _ => exact tb_7 _ (List.mem_of_getElem? (i := 15) (by decide +kernel)) (by decide +kernel)
  | 13, _ => exact tb_7 _ (List.mem_of_getElem? (i := 17) (by decide +kernel)) (by decide +kernel)
  | 14, _ => exact tb_7 _ (List.mem_of_getElem? (i := 19) (by decide +kernel)) (by decide +kernel)
  | 15, _ => exact tb_7 _ (List.mem_of_getElem? (i := 21) (by decide +kernel)) (by decide +kernel)
  | 16, _ => exact tb_7 _ (List.mem_of_getElem? (i := 23) (by decide +kernel)) (by decide +kernel)
  | 17, _ => exact tb_7 _ (List.mem_of_getElem? (i := 25) (by decide +kernel)) (by decide +kernel)
  | 18, _ => exact tb_7 _ (List.mem_of_getElem? (i := 27) (by decide +kernel)) (by decide +kernel)
  | 19, _ => exact tb_7 _ (List.mem_of_getElem? (i := 29) (by decide +kernel)) (by decide +kernel)
  | 20, _ => exact tb_7 _ (List.mem_of_getElem? (i := 31) (by decide +kernel)) (by decide +kernel)
  | 21, _ => exact tb_7 _ (List.mem_of_getElem? (i := 33) (by decide +kernel)) (by decide +kernel)
  | 22, _ => exact tb_7 _ (List.mem_of_getElem? (i := 35) (by decide +kernel)) (by decide +kernel)
  | 23, _ => exact tb_7 _ (List.mem_of_getElem? (i := 37) (by decide +kernel)) (by decide +kernel)
  | 24, _ => exact tb_7 _ (List.mem_of_getElem? (i := 39) (by decide +kernel)) (by decide +kernel)
  | 25, _ => exact tb_7 _ (List.mem_of_getElem? (i := 41) (by decide +kernel)) (by decide +kernel)
  | 26, _ => exact tb_7 _ (List.mem_of_getElem? (i := 43) (by decide +kernel)) (by decide +kernel)
  | 27, _ => exact tb_7 _ (List.mem_of_getElem? (i := 45) (by decide +kernel)) (by decide +kernel)
  | 28, _ => exact tb_7 _ (List.mem_of_getElem? (i := 47) (by decide +kernel)) (by decide +kernel)
  | 29, _ => exact tb_7 _ (List.mem_of_getElem? (i := 49) (by decide +kernel)) (by decide +kernel)
  | 30, _ => exact tb_7 _ (List.mem_of_getElem? (i := 51) (by decide +kernel)) (by decide +kernel)
  | 31, _ => exact tb_7 _ (List.mem_of_getElem? (i := 53) (by decide +kernel)) (by decide +kernel)
  | 32, _ => exact tb_7 _ (List.mem_of_getElem? (i := 55) (by decide +kernel)) (by decide +kernel)
  | 33, _ => exact tb_7 _ (List.mem_of_getElem? (i := 57) (by decide +kernel)) (by decide +kernel)
  | 34, _ => exact tb_7 _ (List.mem_of_getElem? (i := 59) (by decide +kernel)) (by decide +kernel)
  | 35, _ => exact tb_7 _ (List.mem_of_getElem? (i := 61) (by decide +kernel)) (by decide +kernel)
  | 36, _ => exact tb_7 _ (List.mem_of_getElem? (i := 63) (by decide +kernel)) (by decide +kernel)
  | 37, _ => exact tb_7 _ (List.mem_of_getElem? (i := 65) (by decide +kernel)) (by decide +kernel)
  | 38, _ => exact tb_7 _ (List.mem_of_getElem? (i := 67) (by decide +kernel)) (by decide +kernel)
  | 39, _ => exact tb_7 _ (List.mem_of_getElem? (i := 69) (by decide +kernel)) (by decide +kernel)
  | 40, _ => exact tb_7 _ (List.mem_of_getElem? (i := 71) (by decide +kernel)) (by decide +kernel)
  | 41, _ => exact tb_7 _ (List.mem_of_getElem? (i := 73) (by decide +kernel)) (by decide +kernel)
  | 42, _ => exact tb_7 _ (List.mem_of_getElem? (i := 75) (by decide +kernel)) (by decide +kernel)
  | 43, _ => exact tb_7 _ (List.mem_of_getElem? (i := 77) (by decide +kernel)) (by decide +kernel)
  | 44, _ => exact tb_7 _ (List.mem_of_getElem? (i := 79) (by decide +kernel)) (by decide +kernel)
  | 45, _ => exact tb_7 _ (List.mem_of_getElem? (i := 81) (by decide +kernel)) (by decide +kernel)
  | 46, _ => exact tb_7 _ (List.mem_of_getElem? (i := 83) (by decide +kernel)) (by decide +kernel)
  | 47, _ => exact tb_7 _ (List.mem_of_getElem? (i := 85) (by decide +kernel)) (by decide +kernel)
  | 48, _ => exact tb_7 _ (List.mem_of_getElem? (i := 87) (by decide +kernel)) (by decide +kernel)
  | 49, _ => exact tb_7 _ (List.mem_of_getElem? (i := 89) (by decide +kernel)) (by decide +kernel)
  | 50, _ => exact tb_7 _ (List.mem_of_getElem? (i := 91) (by decide +kernel)) (by decide +kernel)
  | 51, _ => exact tb_7 _ (List.mem_of_getElem? (i := 93) (by decide +kernel)) (by decide +kernel)
  | 52, _ => exact tb_7 _ (List.mem_of_getElem? (i := 95) (by decide +kernel)) (by decide +kernel)
  | k + 53, hk => exact absurd hk (by omega)
