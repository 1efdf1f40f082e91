theorem sg_ge256 {i : Int32} {lo hi : Int} (h : iv lo hi i) (hd : decide (256 ≤ lo) = true) : 256 ≤ i.toNatClampNeg := by
  have h1 := of_decide_eq_true hd
  have h2 := h.1
  show 256 ≤ i.toInt.toNat
  omega
theorem sg_row {x i : Int32} {k : Nat} (h : i.toInt = x.toInt + (k : Int)) (h0 : 256 ≤ x.toInt) : i.toNatClampNeg = x.toNatClampNeg + k := by
  show i.toInt.toNat = x.toInt.toNat + k
  omega
theorem sg_r256 {x : Int32} {i : Int} (h : x.toInt = 4 * (64 + i)) (h0 : 0 ≤ i) : x.toNatClampNeg = 256 + 4 * i.toNat := by
  show x.toInt.toNat = 256 + 4 * i.toNat
  omega
/-- a move told into a row, what lies ahead of it as it was -/
def zRow (F f : Nat → Int × Int) (r : Nat) (q : sgMq) : Prop := (∀ j : Nat, j < r → f j = F j) ∧ mqAt f r q
theorem zUp_y {f : Nat → Int × Int} {n : Nat} {v : Int} : zUp f n v n = (v, v) := if_pos rfl
theorem zUp_n {f : Nat → Int × Int} {n j : Nat} {v : Int} (h : j ≠ n) : zUp f n v j = f j := if_neg h
theorem zr_4 {F f : Nat → Int × Int} {r : Nat} {a b c d : Int} (h : f = zUp (zUp (zUp (zUp F r a) (r + 1) b) (r + 2) c) (r + 3) d) : zRow F f r (a, b, c, d) := by
  subst h
  refine ⟨fun j hj => ?_, ?_, ?_, ?_, zUp_y⟩
  · rw [zUp_n (by omega), zUp_n (by omega), zUp_n (by omega), zUp_n (by omega)]
  · rw [zUp_n (by omega), zUp_n (by omega), zUp_n (by omega), zUp_y]
  · rw [zUp_n (by omega), zUp_n (by omega), zUp_y]
  · rw [zUp_n (by omega), zUp_y]
theorem zr_5 {F f : Nat → Int × Int} {r : Nat} {a b c d e : Int} (h : f = zUp (zUp (zUp (zUp (zUp F r a) (r + 1) b) (r + 2) c) (r + 3) d) (r + 1) e) : zRow F f r (a, e, c, d) := by
  subst h
  obtain ⟨h1, h2, h3, h4, h5⟩ := zr_4 (F := F) (r := r) (a := a) (b := b) (c := c) (d := d) rfl
  refine ⟨fun j hj => ?_, ?_, zUp_y, ?_, ?_⟩
  · rw [zUp_n (by omega)]
    exact h1 j hj
  · rw [zUp_n (by omega)]
    exact h2
  · rw [zUp_n (by omega)]
    exact h4
  · rw [zUp_n (by omega)]
    exact h5
theorem zr_7 {F f : Nat → Int × Int} {r : Nat} {a b c d e w k : Int} (h : f = zUp (zUp (zUp (zUp (zUp (zUp (zUp F r a) (r + 1) b) (r + 2) c) (r + 3) d) (r + 1) e) (r + 2) w) (r + 3) k) : zRow F f r (a, e, w, k) := by
  subst h
  obtain ⟨h1, h2, h3, h4, h5⟩ := zr_5 (F := F) (r := r) (a := a) (b := b) (c := c) (d := d) (e := e) rfl
  refine ⟨fun j hj => ?_, ?_, ?_, ?_, zUp_y⟩
  · rw [zUp_n (by omega), zUp_n (by omega)]
    exact h1 j hj
  · rw [zUp_n (by omega), zUp_n (by omega)]
    exact h2
  · rw [zUp_n (by omega), zUp_n (by omega)]
    exact h3
  · rw [zUp_n (by omega), zUp_y]
/-- KT with the game that was read -/
def KQ (f : Nat → Int × Int) (c : Int × Int) (P : sgPm) : List sgK := [KK0 P, KK1 P, KK2 P, KK3 P, KK4 P, KK5 P, KK6 P, KK7 P, KK8 P, KK9 P, KK10 P, KK11 P, KK12 P, KK13 P, KK14 P, KK15 P, KK16 P, KK17 P, KK18 P, KK19 P, KK20 P, KK21 P, KK22 P, KK23 P, KK24 P, KK25 P, KK26 P, KK27 P, KK28 P, KK29 P, KK30 P, KK31 P, KK32 P, KK33 P, KK34 P, KK35 P, KK36 P, KK37 P, KK38 P, KK39 P, KK40 P, KK41 P, KK42 P, KK43 P, KK44 P, KK45 P, KK46 P, KK47 P, KK48 P, KK49 P, KK50 P, KK51 P, KK52q f P, KK53q c P, KK54 P, KK55 P, KK56 P, KK57 P, KK58 P, KK59 P, KK60 P, KK61 P, KK62 P, KK63 P, KK64 P, KK65 P, KK66 P, KK67 P]
def KQa (c : Int × Int) (P : sgPm) : List sgK := [KK0 P, KK1 P, KK2 P, KK3 P, KK4 P, KK5 P, KK6 P, KK7 P, KK8 P, KK9 P, KK10 P, KK11 P, KK12 P, KK13 P, KK14 P, KK15 P, KK16 P, KK17 P, KK18 P, KK19 P, KK20 P, KK21 P, KK22 P, KK23 P, KK24 P, KK25 P, KK26 P, KK27 P, KK28 P, KK29 P, KK30 P, KK31 P, KK32 P, KK33 P, KK34 P, KK35 P, KK36 P, KK37 P, KK38 P, KK39 P, KK40 P, KK41 P, KK42 P, KK43 P, KK44 P, KK45 P, KK46 P, KK47 P, KK48 P, KK49 P, KK50 P, KK51 P, KK52 P, KK53q c P, KK54 P, KK55 P, KK56 P, KK57 P, KK58 P, KK59 P, KK60 P, KK61 P, KK62 P, KK63 P, KK64 P, KK65 P, KK66 P, KK67 P]
def KQb (z : sgZt) (P : sgPm) : List sgK := [KK0 P, KK1 P, KK2 P, KK3 P, KK4 P, KK5 P, KK6 P, KK7 P, KK8 P, KK9 P, KK10 P, KK11 P, KK12 P, KK13 P, KK14 P, KK15 P, KK16 P, KK17 P, KK18 P, KK19 P, KK20 P, KK21 P, KK22 P, KK23 P, KK24 P, KK25 P, KK26 P, KK27 P, KK28 P, KK29 P, KK30 P, KK31 P, KK32 P, KK33 P, KK34 P, KK35 P, KK36 P, KK37 P, KK38 P, KK39 P, KK40 P, KK41 P, KK42 P, KK43 P, KK44 P, KK45 P, KK46 P, KK47 P, KK48 P, KK49 P, KK50 P, KK51e z P, KK52q z.2.2.2.1 P, KK53q z.2.2.2.2 P, KK54 P, KK55 P, KK56 P, KK57 P, KK58 P, KK59 P, KK60 P, KK61 P, KK62 P, KK63 P, KK64 P, KK65 P, KK66 P, KK67 P]
theorem ke_toKQ {a1 a2 f1 f2 d1 d2 : Int} {z : sgZt} {D : va_G} {A : Nat → Prop} {tys : List (ClassId × FieldType)} {ad ks : List Nat} {H : Heap} {P : sgPm} (hG : sgG (KE a1 a2 f1 f2 d1 d2 z P) D vwCl A tys ad ks H) (h3 : -1 ≤ f1) (h4 : f2 ≤ 241) (h5 : 0 ≤ d1) (h6 : d2 ≤ 6) : sgG (KQ z.2.2.2.1 z.2.2.2.2 P) D vwCl A tys ad ks H := by
  have h1 : sgG (KEb z P) D vwCl A tys ad ks H := sg_weak1 hG (k := 12) rfl rfl rfl (fun i t' ht => by match i, ht with
    | 0, ht => cases ht; exact ⟨_, rfl, fun v hv => hv⟩
    | 1, ht => cases ht; exact ⟨_, rfl, fun v hv => hv⟩
    | 2, ht => cases ht; exact ⟨_, rfl, fun v hv => hv⟩
    | 3, ht => cases ht; exact ⟨_, rfl, fun v hv => hv⟩
    | 4, ht => cases ht; exact ⟨_, rfl, fun v hv => hv⟩
    | 5, ht => cases ht; exact ⟨_, rfl, fun v hv => trivial⟩
    | 6, ht => cases ht; exact ⟨_, rfl, fun v hv => hv⟩
    | 7, ht => cases ht; exact ⟨_, rfl, fun v hv => hv⟩
    | 8, ht => cases ht; exact ⟨_, rfl, fun v hv => by obtain ⟨x, g1, -⟩ := hv; exact ⟨x, g1, iv_top x⟩⟩
    | 9, ht => cases ht; exact ⟨_, rfl, fun v hv => by obtain ⟨x, g1, g2⟩ := hv; exact ⟨x, g1, sgC240_iv g2⟩⟩
    | 10, ht => cases ht; exact ⟨_, rfl, fun v hv => by obtain ⟨x, g1, -⟩ := hv; exact ⟨x, g1, iv_top x⟩⟩
    | 11, ht => cases ht; exact ⟨_, rfl, fun v hv => by obtain ⟨x, g1, g2, g3⟩ := hv; exact ⟨x, g1, Int.le_trans h3 g2, Int.le_trans g3 h4⟩⟩
    | 12, ht => cases ht; exact ⟨_, rfl, fun v hv => by obtain ⟨x, g1, g2, g3⟩ := hv; exact ⟨x, g1, Int.le_trans h5 g2, Int.le_trans g3 h6⟩⟩
    | 13, ht => cases ht; exact ⟨_, rfl, fun v hv => hv⟩
    | 14, ht => cases ht; exact ⟨_, rfl, fun v hv => hv⟩
    | 15, ht => cases ht; exact ⟨_, rfl, fun v hv => hv⟩
    | 16, ht => cases ht; exact ⟨_, rfl, fun v hv => hv⟩
    | 17, ht => cases ht; exact ⟨_, rfl, fun v hv => hv⟩
    | 18, ht => cases ht; exact ⟨_, rfl, fun v hv => hv⟩
    | 19, ht => cases ht; exact ⟨_, rfl, fun v hv => hv⟩
    | 20, ht => cases ht; exact ⟨_, rfl, fun v hv => hv⟩
    | 21, ht => cases ht; exact ⟨_, rfl, fun v hv => hv⟩
    | 22, ht => cases ht; exact ⟨_, rfl, fun v hv => hv⟩
    | 23, ht => cases ht; exact ⟨_, rfl, fun v hv => hv⟩
    | 24, ht => cases ht; exact ⟨_, rfl, fun v hv => hv⟩
    | 25, ht => cases ht; exact ⟨_, rfl, fun v hv => by obtain ⟨x, g1, -⟩ := hv; exact ⟨x, g1, iv_top x⟩⟩
    | 26, ht => cases ht; exact ⟨_, rfl, fun v hv => by obtain ⟨x, g1, -⟩ := hv; exact ⟨x, g1, iv_top x⟩⟩
    | 27, ht => cases ht; exact ⟨_, rfl, fun v hv => by obtain ⟨x, g1, -⟩ := hv; exact ⟨x, g1, iv_top x⟩⟩
    | 28, ht => cases ht; exact ⟨_, rfl, fun v hv => by obtain ⟨x, g1, -⟩ := hv; exact ⟨x, g1, iv_top x⟩⟩
    | 29, ht => cases ht; exact ⟨_, rfl, fun v hv => hv⟩
    | 30, ht => cases ht; exact ⟨_, rfl, fun v hv => by obtain ⟨x, g1, g2, g3⟩ := hv; exact ⟨x, g1, Int.le_trans (Int.le_max_left _ _) g2, Int.le_trans g3 (Int.min_le_left _ _)⟩⟩
    | 31, ht => cases ht; exact ⟨_, rfl, fun v hv => by obtain ⟨x, g1, g2, g3⟩ := hv; exact ⟨x, g1, Int.le_trans (Int.le_max_left _ _) g2, Int.le_trans g3 (Int.min_le_left _ _)⟩⟩
    | 32, ht => cases ht; exact ⟨_, rfl, fun v hv => hv⟩
    | 33, ht => cases ht; exact ⟨_, rfl, fun v hv => hv⟩
    | 34, ht => cases ht; exact ⟨_, rfl, fun v hv => hv⟩
    | 35, ht => cases ht; exact ⟨_, rfl, fun v hv => hv⟩
    | 36, ht => cases ht; exact ⟨_, rfl, fun v hv => hv⟩
    | 37, ht => cases ht; exact ⟨_, rfl, fun v hv => hv⟩
    | 38, ht => cases ht; exact ⟨_, rfl, fun v hv => hv⟩
    | 39, ht => cases ht; exact ⟨_, rfl, fun v hv => hv⟩
    | 40, ht => cases ht; exact ⟨_, rfl, fun v hv => hv⟩
    | 41, ht => cases ht; exact ⟨_, rfl, fun v hv => hv⟩
    | 42, ht => cases ht; exact ⟨_, rfl, fun v hv => hv⟩
    | 43, ht => cases ht; exact ⟨_, rfl, fun v hv => hv⟩
    | 44, ht => cases ht; exact ⟨_, rfl, fun v hv => hv⟩
    | 45, ht => cases ht; exact ⟨_, rfl, fun v hv => hv⟩
    | 46, ht => cases ht; exact ⟨_, rfl, fun v hv => hv⟩
    | 47, ht => cases ht; exact ⟨_, rfl, fun v hv => hv⟩
    | 48, ht => cases ht; exact ⟨_, rfl, fun v hv => hv⟩
    | 49, ht => cases ht; exact ⟨_, rfl, fun v hv => hv⟩
    | 50, ht => cases ht; exact ⟨_, rfl, fun v hv => hv⟩
    | 51, ht => cases ht; exact ⟨_, rfl, fun v hv => hv⟩
    | 52, ht => cases ht; exact ⟨_, rfl, fun v hv => hv⟩
    | i + 53, ht => cases ht) (fun i hi => by match i, hi with
    | 0, hi => rfl
    | 1, hi => rfl
    | 2, hi => rfl
    | 3, hi => rfl
    | 4, hi => rfl
    | 5, hi => rfl
    | 6, hi => rfl
    | 7, hi => rfl
    | 8, hi => rfl
    | 9, hi => rfl
    | 10, hi => rfl
    | 11, hi => rfl
    | 12, hi => exact absurd rfl hi
    | 13, hi => rfl
    | 14, hi => rfl
    | 15, hi => rfl
    | 16, hi => rfl
    | 17, hi => rfl
    | 18, hi => rfl
    | 19, hi => rfl
    | 20, hi => rfl
    | 21, hi => rfl
    | 22, hi => rfl
    | 23, hi => rfl
    | 24, hi => rfl
    | 25, hi => rfl
    | 26, hi => rfl
    | 27, hi => rfl
    | 28, hi => rfl
    | 29, hi => rfl
    | 30, hi => rfl
    | 31, hi => rfl
    | 32, hi => rfl
    | 33, hi => rfl
    | 34, hi => rfl
    | 35, hi => rfl
    | 36, hi => rfl
    | 37, hi => rfl
    | 38, hi => rfl
    | 39, hi => rfl
    | 40, hi => rfl
    | 41, hi => rfl
    | 42, hi => rfl
    | 43, hi => rfl
    | 44, hi => rfl
    | 45, hi => rfl
    | 46, hi => rfl
    | 47, hi => rfl
    | 48, hi => rfl
    | 49, hi => rfl
    | 50, hi => rfl
    | 51, hi => rfl
    | 52, hi => rfl
    | 53, hi => rfl
    | 54, hi => rfl
    | 55, hi => rfl
    | 56, hi => rfl
    | 57, hi => rfl
    | 58, hi => rfl
    | 59, hi => rfl
    | 60, hi => rfl
    | 61, hi => rfl
    | 62, hi => rfl
    | 63, hi => rfl
    | 64, hi => rfl
    | 65, hi => rfl
    | 66, hi => rfl
    | 67, hi => rfl
    | i + 68, hi => rfl)
  have h2 : sgG (KQb z P) D vwCl A tys ad ks H := sg_weakE h1 (k := 50) rfl rfl (fun j v hv => by obtain ⟨x, rfl, -⟩ := hv; exact sg_rr0) (fun i hi => by match i, hi with
    | 0, hi => rfl
    | 1, hi => rfl
    | 2, hi => rfl
    | 3, hi => rfl
    | 4, hi => rfl
    | 5, hi => rfl
    | 6, hi => rfl
    | 7, hi => rfl
    | 8, hi => rfl
    | 9, hi => rfl
    | 10, hi => rfl
    | 11, hi => rfl
    | 12, hi => rfl
    | 13, hi => rfl
    | 14, hi => rfl
    | 15, hi => rfl
    | 16, hi => rfl
    | 17, hi => rfl
    | 18, hi => rfl
    | 19, hi => rfl
    | 20, hi => rfl
    | 21, hi => rfl
    | 22, hi => rfl
    | 23, hi => rfl
    | 24, hi => rfl
    | 25, hi => rfl
    | 26, hi => rfl
    | 27, hi => rfl
    | 28, hi => rfl
    | 29, hi => rfl
    | 30, hi => rfl
    | 31, hi => rfl
    | 32, hi => rfl
    | 33, hi => rfl
    | 34, hi => rfl
    | 35, hi => rfl
    | 36, hi => rfl
    | 37, hi => rfl
    | 38, hi => rfl
    | 39, hi => rfl
    | 40, hi => rfl
    | 41, hi => rfl
    | 42, hi => rfl
    | 43, hi => rfl
    | 44, hi => rfl
    | 45, hi => rfl
    | 46, hi => rfl
    | 47, hi => rfl
    | 48, hi => rfl
    | 49, hi => rfl
    | 50, hi => exact absurd rfl hi
    | 51, hi => rfl
    | 52, hi => rfl
    | 53, hi => rfl
    | 54, hi => rfl
    | 55, hi => rfl
    | 56, hi => rfl
    | 57, hi => rfl
    | 58, hi => rfl
    | 59, hi => rfl
    | 60, hi => rfl
    | 61, hi => rfl
    | 62, hi => rfl
    | 63, hi => rfl
    | 64, hi => rfl
    | 65, hi => rfl
    | 66, hi => rfl
    | 67, hi => rfl
    | i + 68, hi => rfl)
  exact sg_weakE h2 (k := 51) rfl rfl (fun j v hv => by obtain ⟨x, rfl, -⟩ := hv; exact ⟨x, rfl, iv_top x⟩) (fun i hi => by match i, hi with
    | 0, hi => rfl
    | 1, hi => rfl
    | 2, hi => rfl
    | 3, hi => rfl
    | 4, hi => rfl
    | 5, hi => rfl
    | 6, hi => rfl
    | 7, hi => rfl
    | 8, hi => rfl
    | 9, hi => rfl
    | 10, hi => rfl
    | 11, hi => rfl
    | 12, hi => rfl
    | 13, hi => rfl
    | 14, hi => rfl
    | 15, hi => rfl
    | 16, hi => rfl
    | 17, hi => rfl
    | 18, hi => rfl
    | 19, hi => rfl
    | 20, hi => rfl
    | 21, hi => rfl
    | 22, hi => rfl
    | 23, hi => rfl
    | 24, hi => rfl
    | 25, hi => rfl
    | 26, hi => rfl
    | 27, hi => rfl
    | 28, hi => rfl
    | 29, hi => rfl
    | 30, hi => rfl
    | 31, hi => rfl
    | 32, hi => rfl
    | 33, hi => rfl
    | 34, hi => rfl
    | 35, hi => rfl
    | 36, hi => rfl
    | 37, hi => rfl
    | 38, hi => rfl
    | 39, hi => rfl
    | 40, hi => rfl
    | 41, hi => rfl
    | 42, hi => rfl
    | 43, hi => rfl
    | 44, hi => rfl
    | 45, hi => rfl
    | 46, hi => rfl
    | 47, hi => rfl
    | 48, hi => rfl
    | 49, hi => rfl
    | 50, hi => rfl
    | 51, hi => exact absurd rfl hi
    | 52, hi => rfl
    | 53, hi => rfl
    | 54, hi => rfl
    | 55, hi => rfl
    | 56, hi => rfl
    | 57, hi => rfl
    | 58, hi => rfl
    | 59, hi => rfl
    | 60, hi => rfl
    | 61, hi => rfl
    | 62, hi => rfl
    | 63, hi => rfl
    | 64, hi => rfl
    | 65, hi => rfl
    | 66, hi => rfl
    | 67, hi => rfl
    | i + 68, hi => rfl)
theorem kq_toKT {f : Nat → Int × Int} {c : Int × Int} {D : va_G} {A : Nat → Prop} {tys : List (ClassId × FieldType)} {ad ks : List Nat} {H : Heap} {P : sgPm} (hG : sgG (KQ f c P) D vwCl A tys ad ks H) : sgG (KT P) D vwCl A tys ad ks H := by
  have h1 : sgG (KQa c P) D vwCl A tys ad ks H := sg_weakE hG (k := 52) rfl rfl (fun j v hv => gq_ga hv) (fun i hi => by match i, hi with
    | 0, hi => rfl
    | 1, hi => rfl
    | 2, hi => rfl
    | 3, hi => rfl
    | 4, hi => rfl
    | 5, hi => rfl
    | 6, hi => rfl
    | 7, hi => rfl
    | 8, hi => rfl
    | 9, hi => rfl
    | 10, hi => rfl
    | 11, hi => rfl
    | 12, hi => rfl
    | 13, hi => rfl
    | 14, hi => rfl
    | 15, hi => rfl
    | 16, hi => rfl
    | 17, hi => rfl
    | 18, hi => rfl
    | 19, hi => rfl
    | 20, hi => rfl
    | 21, hi => rfl
    | 22, hi => rfl
    | 23, hi => rfl
    | 24, hi => rfl
    | 25, hi => rfl
    | 26, hi => rfl
    | 27, hi => rfl
    | 28, hi => rfl
    | 29, hi => rfl
    | 30, hi => rfl
    | 31, hi => rfl
    | 32, hi => rfl
    | 33, hi => rfl
    | 34, hi => rfl
    | 35, hi => rfl
    | 36, hi => rfl
    | 37, hi => rfl
    | 38, hi => rfl
    | 39, hi => rfl
    | 40, hi => rfl
    | 41, hi => rfl
    | 42, hi => rfl
    | 43, hi => rfl
    | 44, hi => rfl
    | 45, hi => rfl
    | 46, hi => rfl
    | 47, hi => rfl
    | 48, hi => rfl
    | 49, hi => rfl
    | 50, hi => rfl
    | 51, hi => rfl
    | 52, hi => exact absurd rfl hi
    | 53, hi => rfl
    | 54, hi => rfl
    | 55, hi => rfl
    | 56, hi => rfl
    | 57, hi => rfl
    | 58, hi => rfl
    | 59, hi => rfl
    | 60, hi => rfl
    | 61, hi => rfl
    | 62, hi => rfl
    | 63, hi => rfl
    | 64, hi => rfl
    | 65, hi => rfl
    | 66, hi => rfl
    | 67, hi => rfl
    | i + 68, hi => rfl)
  exact sg_weakE h1 (k := 53) rfl rfl (fun j v hv => gl_gl hv) (fun i hi => by match i, hi with
    | 0, hi => rfl
    | 1, hi => rfl
    | 2, hi => rfl
    | 3, hi => rfl
    | 4, hi => rfl
    | 5, hi => rfl
    | 6, hi => rfl
    | 7, hi => rfl
    | 8, hi => rfl
    | 9, hi => rfl
    | 10, hi => rfl
    | 11, hi => rfl
    | 12, hi => rfl
    | 13, hi => rfl
    | 14, hi => rfl
    | 15, hi => rfl
    | 16, hi => rfl
    | 17, hi => rfl
    | 18, hi => rfl
    | 19, hi => rfl
    | 20, hi => rfl
    | 21, hi => rfl
    | 22, hi => rfl
    | 23, hi => rfl
    | 24, hi => rfl
    | 25, hi => rfl
    | 26, hi => rfl
    | 27, hi => rfl
    | 28, hi => rfl
    | 29, hi => rfl
    | 30, hi => rfl
    | 31, hi => rfl
    | 32, hi => rfl
    | 33, hi => rfl
    | 34, hi => rfl
    | 35, hi => rfl
    | 36, hi => rfl
    | 37, hi => rfl
    | 38, hi => rfl
    | 39, hi => rfl
    | 40, hi => rfl
    | 41, hi => rfl
    | 42, hi => rfl
    | 43, hi => rfl
    | 44, hi => rfl
    | 45, hi => rfl
    | 46, hi => rfl
    | 47, hi => rfl
    | 48, hi => rfl
    | 49, hi => rfl
    | 50, hi => rfl
    | 51, hi => rfl
    | 52, hi => rfl
    | 53, hi => exact absurd rfl hi
    | 54, hi => rfl
    | 55, hi => rfl
    | 56, hi => rfl
    | 57, hi => rfl
    | 58, hi => rfl
    | 59, hi => rfl
    | 60, hi => rfl
    | 61, hi => rfl
    | 62, hi => rfl
    | 63, hi => rfl
    | 64, hi => rfl
    | 65, hi => rfl
    | 66, hi => rfl
    | 67, hi => rfl
    | i + 68, hi => rfl)
theorem kq_eq {f : Nat → Int × Int} {c : Int × Int} {B : sgPm} : ∀ i : Nat, i ≠ 52 → i ≠ 53 → (KQ f c B)[i]? = (KT B)[i]? := fun i hi hj => by match i, hi, hj with
    | 0, hi, hj => rfl
    | 1, hi, hj => rfl
    | 2, hi, hj => rfl
    | 3, hi, hj => rfl
    | 4, hi, hj => rfl
    | 5, hi, hj => rfl
    | 6, hi, hj => rfl
    | 7, hi, hj => rfl
    | 8, hi, hj => rfl
    | 9, hi, hj => rfl
    | 10, hi, hj => rfl
    | 11, hi, hj => rfl
    | 12, hi, hj => rfl
    | 13, hi, hj => rfl
    | 14, hi, hj => rfl
    | 15, hi, hj => rfl
    | 16, hi, hj => rfl
    | 17, hi, hj => rfl
    | 18, hi, hj => rfl
    | 19, hi, hj => rfl
    | 20, hi, hj => rfl
    | 21, hi, hj => rfl
    | 22, hi, hj => rfl
    | 23, hi, hj => rfl
    | 24, hi, hj => rfl
    | 25, hi, hj => rfl
    | 26, hi, hj => rfl
    | 27, hi, hj => rfl
    | 28, hi, hj => rfl
    | 29, hi, hj => rfl
    | 30, hi, hj => rfl
    | 31, hi, hj => rfl
    | 32, hi, hj => rfl
    | 33, hi, hj => rfl
    | 34, hi, hj => rfl
    | 35, hi, hj => rfl
    | 36, hi, hj => rfl
    | 37, hi, hj => rfl
    | 38, hi, hj => rfl
    | 39, hi, hj => rfl
    | 40, hi, hj => rfl
    | 41, hi, hj => rfl
    | 42, hi, hj => rfl
    | 43, hi, hj => rfl
    | 44, hi, hj => rfl
    | 45, hi, hj => rfl
    | 46, hi, hj => rfl
    | 47, hi, hj => rfl
    | 48, hi, hj => rfl
    | 49, hi, hj => rfl
    | 50, hi, hj => rfl
    | 51, hi, hj => rfl
    | 52, hi, hj => exact absurd rfl hi
    | 53, hi, hj => exact absurd rfl hj
    | 54, hi, hj => rfl
    | 55, hi, hj => rfl
    | 56, hi, hj => rfl
    | 57, hi, hj => rfl
    | 58, hi, hj => rfl
    | 59, hi, hj => rfl
    | 60, hi, hj => rfl
    | 61, hi, hj => rfl
    | 62, hi, hj => rfl
    | 63, hi, hj => rfl
    | 64, hi, hj => rfl
    | 65, hi, hj => rfl
    | 66, hi, hj => rfl
    | 67, hi, hj => rfl
    | i + 68, hi, hj => rfl
theorem stG_St {P : sgPm} {a c : Nat → Int} {b d : Int} : sgG0 (sgSt P a b c d) = sgG0 P ∧ sgGl (sgSt P a b c d) = sgGl P := by simp only [sgG0, sgGl, sgSt, and_self]
theorem KQ_but12 {f : Nat → Int × Int} {c : Int × Int} {B P Q : sgPm} (hq : sgS12 Q B) (hp : sgS12 P B) : ∀ i : Nat, i ≠ 12 → (KQ f c Q)[i]? = (KQ f c P)[i]? := by
  have h0 : sgG0 Q = sgG0 P := hq.2.2.2.2.2.2.2.2.2.2.2.2.1.trans hp.2.2.2.2.2.2.2.2.2.2.2.2.1.symm
  have hl : sgGl Q = sgGl P := hq.2.2.2.2.2.2.2.2.2.2.2.2.2.1.trans hp.2.2.2.2.2.2.2.2.2.2.2.2.2.1.symm
  intro i hi
  by_cases h : i = 52
  · subst h
    show some (KK52q f Q) = some (KK52q f P)
    unfold KK52q
    rw [h0]
  · by_cases h' : i = 53
    · subst h'
      show some (KK53q c Q) = some (KK53q c P)
      unfold KK53q
      rw [hl]
    · rw [kq_eq i h h', kq_eq i h h']
      exact KT_but12 hq hp i hi
section SGP61
variable {p : Program} {l : Launch} {e : Env} {R : Room} {s : State} {m : MethodId} {args : Array Value} {below : List Frame} {meth : Method} {c : Code} {H : Heap} {locs : List Loc} {cells slots : Nat} {Q : State → Prop} {cc : ByteArray} {nL pc : Nat} {ls : Array Slot} {rest : List Value} {own : String} {D : va_G} {A : Nat → Prop} {tys : List (ClassId × FieldType)} {ad ks : List Nat} {P : sgPm} {H0 : Heap} {index : Nat} {a : Nat} {t1 t2 : Nat → Int} {l1 l2 : Int} {f : Nat → Int × Int} {cc0 : Int × Int}
theorem pf_X12_6gj {x : Int32} {B1 B2 : sgPm} (hb : sgS12 B2 B1) (hb0 : sgS12 B1 B1) (hx : sgL2 B2 = x.toInt) (X : CallFix p m c cc nL s args sg_tbl own) (hK : va_K D vwCl tys s) (hG : sgG (KQ f cc0 (B1)) D vwCl A tys ad ks H) (hS : va_S A H0 H locs) (ha : isK ad ks 12 a) (hl : Cond.fieldLink own index "LawnAheadModel" "length" "I" ∈ sg_tbl) (hv : iv 0 240 x) (hdg : decode cc pc = .ok (.putfield index, 3))
    (kk : ∀ (H1 : Heap) (locs1 : List Loc), sgG (KQ f cc0 (B2)) D vwCl A tys ad ks H1 → va_S A H0 H1 locs1 → W p l e R s m args below meth c H1 locs1 cells slots Q (F0 m (pc + 3) ls rest)) : W p l e R s m args below meth c H locs cells slots Q (F0 m pc ls (.int x :: .ref a :: rest)) := by
  have hb2 := hb
  obtain ⟨b0, b1, b2, b3, b4, b5, b6, b7, b8, b9, b10, b11, b12, b13, b14, b15, b16, b17, b18, b19, b21⟩ := hb2
  exact sg_put1 (kt' := KQ f cc0 B2) X hK hG hS ha (k := 12) (by decide) (ci := 12) (fts := [.inl ((-2147483648), 2147483647), .inr (.inl (false, 45)), .inr (.inl (false, 46)), .inr (.inl (false, 47)), .inr (.inl (false, 48)), .inr (.inr true), .inl (sgC240 (sgL2 B1), sgC240 (sgL2 B1)), .inl ((B1.2.2.2.2.2.2.2.2.1.val : Int), (B1.2.2.2.2.2.2.2.2.1.val : Int)), .inl ((-2147483648), 2147483647), .inl (0, 240), .inl ((-2147483648), 2147483647), .inl ((-1), 241), .inl (0, 6), .inl ((-2147483648), 2147483647), .inl ((-2147483648), 2147483647), .inr (.inr true), .inr (.inr true), .inl (0, 1), .inr (.inl (false, 49)), .inr (.inl (false, 50)), .inr (.inl (false, 51)), .inr (.inl (false, 52)), .inr (.inl (false, 53)), .inl (sgC1 B1, sgC1 B1), .inl ((-2147483648), 2147483647), .inl ((-2147483648), 2147483647), .inl ((-2147483648), 2147483647), .inl ((-2147483648), 2147483647), .inl ((-2147483648), 2147483647), .inl ((B1.2.2.2.2.2.2.2.2.2.1.val : Int), (B1.2.2.2.2.2.2.2.2.2.1.val : Int)), .inl (0, 1), .inl (0, 1), .inr (.inl (false, 54)), .inr (.inl (false, 55)), .inl ((-1), 3), .inl (B1.2.2.2.2.2.1, B1.2.2.2.2.2.1), .inr (.inl (false, 56)), .inr (.inl (false, 57)), .inr (.inl (false, 58)), .inl (0, 40), .inr (.inr false), .inr (.inl (false, 59)), .inl ((-2147483648), 2147483647), .inl ((-2147483648), 2147483647), .inr (.inl (false, 60)), .inr (.inl (false, 61)), .inr (.inl (false, 62)), .inl (0, 12), .inr (.inl (false, 63)), .inr (.inl (false, 64)), .inl (0, 12), .inr (.inl (false, 65)), .inl (0, 1)]) (fts' := [.inl ((-2147483648), 2147483647), .inr (.inl (false, 45)), .inr (.inl (false, 46)), .inr (.inl (false, 47)), .inr (.inl (false, 48)), .inr (.inr true), .inl (sgC240 (sgL2 B2), sgC240 (sgL2 B2)), .inl ((B2.2.2.2.2.2.2.2.2.1.val : Int), (B2.2.2.2.2.2.2.2.2.1.val : Int)), .inl ((-2147483648), 2147483647), .inl (0, 240), .inl ((-2147483648), 2147483647), .inl ((-1), 241), .inl (0, 6), .inl ((-2147483648), 2147483647), .inl ((-2147483648), 2147483647), .inr (.inr true), .inr (.inr true), .inl (0, 1), .inr (.inl (false, 49)), .inr (.inl (false, 50)), .inr (.inl (false, 51)), .inr (.inl (false, 52)), .inr (.inl (false, 53)), .inl (sgC1 B2, sgC1 B2), .inl ((-2147483648), 2147483647), .inl ((-2147483648), 2147483647), .inl ((-2147483648), 2147483647), .inl ((-2147483648), 2147483647), .inl ((-2147483648), 2147483647), .inl ((B2.2.2.2.2.2.2.2.2.2.1.val : Int), (B2.2.2.2.2.2.2.2.2.2.1.val : Int)), .inl (0, 1), .inl (0, 1), .inr (.inl (false, 54)), .inr (.inl (false, 55)), .inl ((-1), 3), .inl (B2.2.2.2.2.2.1, B2.2.2.2.2.2.1), .inr (.inl (false, 56)), .inr (.inl (false, 57)), .inr (.inl (false, 58)), .inl (0, 40), .inr (.inr false), .inr (.inl (false, 59)), .inl ((-2147483648), 2147483647), .inl ((-2147483648), 2147483647), .inr (.inl (false, 60)), .inr (.inl (false, 61)), .inr (.inl (false, 62)), .inl (0, 12), .inr (.inl (false, 63)), .inr (.inl (false, 64)), .inl (0, 12), .inr (.inl (false, 65)), .inl (0, 1)]) rfl rfl (C := RX12) (T := TX12) (N := 53) rfl inL_X12 tyX12 tyX12_ok nmX12 6 (by decide) rfl (t' := .inl (sgC240 (sgL2 B2), sgC240 (sgL2 B2))) rfl (fun i hi => by match i, hi with
    | 0, hi => rfl
    | 1, hi => rfl
    | 2, hi => rfl
    | 3, hi => rfl
    | 4, hi => rfl
    | 5, hi => rfl
    | 6, hi => exact absurd rfl hi
    | 7, hi => simp only [List.getElem?_cons_succ, List.getElem?_cons_zero, sgC1, b0, b1, b2, b3, b4, b5, b6, b7, b8, b9, b10, b11, b12, b13, b14, b15, b16, b17, b18, b19, b21]
    | 8, hi => rfl
    | 9, hi => rfl
    | 10, hi => rfl
    | 11, hi => rfl
    | 12, hi => rfl
    | 13, hi => rfl
    | 14, hi => rfl
    | 15, hi => rfl
    | 16, hi => rfl
    | 17, hi => rfl
    | 18, hi => rfl
    | 19, hi => rfl
    | 20, hi => rfl
    | 21, hi => rfl
    | 22, hi => rfl
    | 23, hi => simp only [List.getElem?_cons_succ, List.getElem?_cons_zero, sgC1, b0, b1, b2, b3, b4, b5, b6, b7, b8, b9, b10, b11, b12, b13, b14, b15, b16, b17, b18, b19, b21]
    | 24, hi => rfl
    | 25, hi => rfl
    | 26, hi => rfl
    | 27, hi => rfl
    | 28, hi => rfl
    | 29, hi => simp only [List.getElem?_cons_succ, List.getElem?_cons_zero, sgC1, b0, b1, b2, b3, b4, b5, b6, b7, b8, b9, b10, b11, b12, b13, b14, b15, b16, b17, b18, b19, b21]
    | 30, hi => rfl
    | 31, hi => rfl
    | 32, hi => rfl
    | 33, hi => rfl
    | 34, hi => rfl
    | 35, hi => simp only [List.getElem?_cons_succ, List.getElem?_cons_zero, sgC1, b0, b1, b2, b3, b4, b5, b6, b7, b8, b9, b10, b11, b12, b13, b14, b15, b16, b17, b18, b19, b21]
    | 36, hi => rfl
    | 37, hi => rfl
    | 38, hi => rfl
    | 39, hi => rfl
    | 40, hi => rfl
    | 41, hi => rfl
    | 42, hi => rfl
    | 43, hi => rfl
    | 44, hi => rfl
    | 45, hi => rfl
    | 46, hi => rfl
    | 47, hi => rfl
    | 48, hi => rfl
    | 49, hi => rfl
    | 50, hi => rfl
    | 51, hi => rfl
    | 52, hi => rfl
    | i + 53, hi => rfl) (KQ_but12 (B := B1) hb hb0) hl (fun _ h => h) rfl (ty := .int) rfl rfl rfl ⟨_, rfl, by rw [hx]; exact sgC240_of hv⟩ hdg kk
theorem pf_X12_6qj {x : Int32} (X : CallFix p m c cc nL s args sg_tbl own) (hK : va_K D vwCl tys s) (hG : sgG (KQ f cc0 (sgSt P t1 l1 t2 l2)) D vwCl A tys ad ks H) (hS : va_S A H0 H locs) (ha : isK ad ks 12 a) (hl : Cond.fieldLink own index "LawnAheadModel" "length" "I" ∈ sg_tbl) (hv : iv 0 240 x) (hdg : decode cc pc = .ok (.putfield index, 3))
    (kk : ∀ (H1 : Heap) (locs1 : List Loc), sgG (KQ f cc0 (sgSt P t1 l1 t2 x.toInt)) D vwCl A tys ad ks H1 → va_S A H0 H1 locs1 → W p l e R s m args below meth c H1 locs1 cells slots Q (F0 m (pc + 3) ls rest)) : W p l e R s m args below meth c H locs cells slots Q (F0 m pc ls (.int x :: .ref a :: rest)) :=
  pf_X12_6gj (B1 := sgSt P t1 l1 t2 l2) (B2 := sgSt P t1 l1 t2 x.toInt) stS_12 stR_12 (by simp only [sgL2, sgTp, sgSt]) X hK hG hS ha hl hv hdg kk
end SGP61
theorem gq_low {ad ks : List Nat} {G : Nat → Int} {f : Nat → Int × Int} {i : Nat} {x : Int32} (h : i < 256) : okV ad ks (sg_gq (fun j => if j = i then x.toInt else G j) f i) (.int x) := by
  unfold sg_gq
  rw [if_pos h]
  show okV ad ks (.inl ((if i = i then x.toInt else G i), (if i = i then x.toInt else G i))) (.int x)
  rw [if_pos rfl]
  exact ⟨x, rfl, Int.le_refl _, Int.le_refl _⟩
theorem gq_lof {ad ks : List Nat} {G : Nat → Int} {f : Nat → Int × Int} {i j : Nat} {y : Int} {v : Value} (hj : j ≠ i) (h : okV ad ks (sg_gq G f j) v) : okV ad ks (sg_gq (fun j => if j = i then y else G j) f j) v := by
  unfold sg_gq at h ⊢
  show okV ad ks (if j < 256 then .inl ((if j = i then y else G j), (if j = i then y else G j)) else .inl (f j)) v
  rw [if_neg hj]
  exact h
theorem glq_low {ad ks : List Nat} {g : Nat → Fin 17} {c : Int × Int} {i : Nat} {x : Int32} {n : Fin 17} (h : i < 4) (hx : x.toInt = (n.val : Int)) : okV ad ks (sg_glq (fun j => if j = i then n else g j) c i) (.int x) := by
  unfold sg_glq
  rw [if_pos h]
  show okV ad ks (.inl (((if i = i then n else g i).val : Int), ((if i = i then n else g i).val : Int))) (.int x)
  rw [if_pos rfl]
  exact ⟨x, rfl, Int.le_of_eq hx.symm, Int.le_of_eq hx⟩
theorem glq_lof {ad ks : List Nat} {g : Nat → Fin 17} {c : Int × Int} {i j : Nat} {n : Fin 17} {v : Value} (hj : j ≠ i) (h : okV ad ks (sg_glq g c j) v) : okV ad ks (sg_glq (fun j => if j = i then n else g j) c j) v := by
  unfold sg_glq at h ⊢
  show okV ad ks (if j < 4 then .inl (((if j = i then n else g j).val : Int), ((if j = i then n else g j).val : Int)) else .inl (max 0 c.1, min 16 c.2)) v
  rw [if_neg hj]
  exact h
theorem gq_rd {ad ks : List Nat} {G : Nat → Int} {f : Nat → Int × Int} {i : Nat} {x : Int32} (h : okV ad ks (sg_gq G f i) (.int x)) (hi : 256 ≤ i) {t : Int} (e : f i = (t, t)) : x.toInt = t := by
  unfold sg_gq at h
  rw [if_neg (by omega), e] at h
  obtain ⟨y, e1, h1, h2⟩ := h
  cases e1
  exact Int.le_antisymm h2 h1
theorem glq_rd {ad ks : List Nat} {g : Nat → Fin 17} {c : Int × Int} {i : Nat} {x : Int32} (h : okV ad ks (sg_glq g c i) (.int x)) (hi : i = 4) {k : Nat} (hk : k ≤ 16) (e : c = ((k : Int), (k : Int))) : x.toInt = (k : Int) := by
  unfold sg_glq at h
  rw [if_neg (by omega), e] at h
  obtain ⟨y, e1, h1, h2⟩ := h
  cases e1
  have h1 : max 0 (k : Int) ≤ x.toInt := h1
  have h2 : x.toInt ≤ min 16 (k : Int) := h2
  omega
theorem KQ_but52 {f : Nat → Int × Int} {c : Int × Int} {B P Q : sgPm} (hq : sgS52 Q B) (hp : sgS52 P B) (hl : sgGl Q = sgGl P) : ∀ i : Nat, i ≠ 52 → (KQ f c Q)[i]? = (KQ f c P)[i]? := by
  intro i hi
  by_cases h' : i = 53
  · subst h'
    show some (KK53q c Q) = some (KK53q c P)
    unfold KK53q
    rw [hl]
  · rw [kq_eq i hi h', kq_eq i hi h']
    exact KT_but52 hq hp i hi
theorem KQ_but53 {f : Nat → Int × Int} {c : Int × Int} {B P Q : sgPm} (hq : sgS53 Q B) (hp : sgS53 P B) (hl : sgG0 Q = sgG0 P) : ∀ i : Nat, i ≠ 53 → (KQ f c Q)[i]? = (KQ f c P)[i]? := by
  intro i hi
  by_cases h' : i = 52
  · subst h'
    show some (KK52q f Q) = some (KK52q f P)
    unfold KK52q
    rw [hl]
  · rw [kq_eq i h' hi, kq_eq i h' hi]
    exact KT_but53 hq hp i hi
section SGP62
variable {p : Program} {l : Launch} {e : Env} {R : Room} {s : State} {m : MethodId} {args : Array Value} {below : List Frame} {meth : Method} {c : Code} {H : Heap} {locs : List Loc} {cells slots : Nat} {Q : State → Prop} {cc : ByteArray} {nL pc : Nat} {ls : Array Slot} {rest : List Value} {own : String} {D : va_G} {A : Nat → Prop} {tys : List (ClassId × FieldType)} {ad ks : List Nat} {P : sgPm} {H0 : Heap} {index : Nat} {base : Nat} {st0 : List Value} {a : Nat}
theorem as_52Q {f : Nat → Int × Int} {cc0 : Int × Int} {G : Nat → Int} {gl : Nat → Fin 17} (X : CallFix p m c cc nL s args sg_tbl own) (hK : va_K D vwCl tys s) (hG : sgG (KQ f cc0 (sgGs P G gl)) D vwCl A tys ad ks H) (hS : va_S A H0 H locs) (ha : isK ad ks 52 a) {i x : Int32} (hin : vp_in i 320) (hlo : i.toNatClampNeg < 256) (hdg : decode cc pc = .ok (.iastore, 1))
    (kk : ∀ (H1 : Heap) (locs1 : List Loc), sgG (KQ f cc0 (sgGs P (fun j => if j = i.toNatClampNeg then x.toInt else G j) gl)) D vwCl A tys ad ks H1 → va_S A H0 H1 locs1 → W p l e R s m args below meth c H1 locs1 cells slots Q (F0 m (pc + 1) ls rest)) : W p l e R s m args below meth c H locs cells slots Q (F0 m pc ls (.int x :: .int i :: .ref a :: rest)) :=
  sg_iast1 (kt' := KQ f cc0 (sgGs P (fun j => if j = i.toNatClampNeg then x.toInt else G j) gl)) X hK hG hS (k := 52) ha (by decide) (n := 320) (el := sg_gq G f) (el' := sg_gq (fun j => if j = i.toNatClampNeg then x.toInt else G j) f) rfl rfl (KQ_but52 (B := sgGs P G gl) gsS_same ⟨rfl, rfl, rfl, rfl, rfl, rfl, rfl, rfl, rfl, rfl, rfl, rfl, rfl, rfl, rfl, rfl, rfl, rfl, rfl, rfl, rfl⟩ (by simp only [sgGl, sgGs])) hin (gq_low hlo) (fun j v _ hj h => gq_lof hj h) hdg kk
theorem as_53Q {f : Nat → Int × Int} {cc0 : Int × Int} {G : Nat → Int} {gl : Nat → Fin 17} (X : CallFix p m c cc nL s args sg_tbl own) (hK : va_K D vwCl tys s) (hG : sgG (KQ f cc0 (sgGs P G gl)) D vwCl A tys ad ks H) (hS : va_S A H0 H locs) (ha : isK ad ks 53 a) {i x : Int32} (hin : vp_in i 5) (hlo : i.toNatClampNeg < 4) {n : Fin 17} (hx : x.toInt = (n.val : Int)) (hdg : decode cc pc = .ok (.iastore, 1))
    (kk : ∀ (H1 : Heap) (locs1 : List Loc), sgG (KQ f cc0 (sgGs P G (fun j => if j = i.toNatClampNeg then n else gl j))) D vwCl A tys ad ks H1 → va_S A H0 H1 locs1 → W p l e R s m args below meth c H1 locs1 cells slots Q (F0 m (pc + 1) ls rest)) : W p l e R s m args below meth c H locs cells slots Q (F0 m pc ls (.int x :: .int i :: .ref a :: rest)) :=
  sg_iast1 (kt' := KQ f cc0 (sgGs P G (fun j => if j = i.toNatClampNeg then n else gl j))) X hK hG hS (k := 53) ha (by decide) (n := 5) (el := sg_glq gl cc0) (el' := sg_glq (fun j => if j = i.toNatClampNeg then n else gl j) cc0) rfl rfl (KQ_but53 (B := sgGs P G gl) gsS_same3 ⟨rfl, rfl, rfl, rfl, rfl, rfl, rfl, rfl, rfl, rfl, rfl, rfl, rfl, rfl, rfl, rfl, rfl, rfl, rfl, rfl, rfl⟩ (by simp only [sgG0, sgGs])) hin (glq_low hlo hx) (fun j v _ hj h => glq_lof hj h) hdg kk
end SGP62
theorem sg_exq {m g k i : Int32} {n : Nat} (em : m = 64 * g) (ei : i = m + k) (hg : iv (n : Int) (n : Int) g) (h3 : iv 0 3 g) (hk : iv 0 63 k) : i.toNatClampNeg = 64 * n + k.toNatClampNeg := by
  have x1 : m.toInt = 64 * g.toInt := sg_exmul em (iv_c 64 (a := 64) (b := 64) (by decide +kernel)) h3 (by decide +kernel) (by decide +kernel) rfl
  have x2 : i.toInt = 64 * g.toInt + k.toInt := sg_exadd ei (iv_mul (a' := 0) (b' := 192) em (iv_c 64 (a := 64) (b := 64) (by decide +kernel)) h3 (by decide +kernel)) hk (by decide +kernel) x1 rfl
  have x3 := vq_iv hg
  have x4 := hk.1
  show i.toInt.toNat = 64 * n + k.toInt.toNat
  omega
theorem sg_exr {k i : Int32} (ei : i = 256 + k) (hk : iv 0 63 k) : i.toNatClampNeg = 256 + k.toNatClampNeg := by
  have x2 : i.toInt = 256 + k.toInt := sg_exadd ei (iv_c 256 (a := 256) (b := 256) (by decide +kernel)) hk (by decide +kernel) (by decide +kernel) rfl
  have x4 := hk.1
  show i.toInt.toNat = 256 + k.toInt.toNat
  omega
theorem sg_lt256 {i : Int32} {lo hi : Int} (h : iv lo hi i) (hd : decide (0 ≤ lo ∧ hi < 256) = true) : i.toNatClampNeg < 256 := by
  obtain ⟨h1, h2⟩ := of_decide_eq_true hd
  have h3 := h.1
  have h4 := h.2
  show i.toInt.toNat < 256
  omega
theorem sg_lt4 {i : Int32} {lo hi : Int} (h : iv lo hi i) (hd : decide (0 ≤ lo ∧ hi < 4) = true) : i.toNatClampNeg < 4 := by
  obtain ⟨h1, h2⟩ := of_decide_eq_true hd
  have h3 := h.1
  have h4 := h.2
  show i.toInt.toNat < 4
  omega
theorem kq_gsof {f : Nat → Int × Int} {c : Int × Int} {B : sgPm} {D : va_G} {A : Nat → Prop} {tys : List (ClassId × FieldType)} {ad ks : List Nat} {H : Heap} (hG : sgG (KQ f c B) D vwCl A tys ad ks H) : sgG (KQ f c (sgGs B (sgG0 B) (sgGl B))) D vwCl A tys ad ks H := hG
theorem kq_st {f : Nat → Int × Int} {c : Int × Int} {P : sgPm} {D : va_G} {A : Nat → Prop} {tys : List (ClassId × FieldType)} {ad ks : List Nat} {H : Heap} (hG : sgG (KQ f c P) D vwCl A tys ad ks H) : sgG (KQ f c (sgSt P (sgT1 P) (sgL1 P) (sgT2 P) (sgL2 P))) D vwCl A tys ad ks H := hG
/-- a game copied to its place, so far -/
def gCp (G0 G : Nat → Int) (f : Nat → Int × Int) (g : Nat) (k : Int) : Prop := (∀ j : Nat, j < 64 * g → G j = G0 j) ∧ ∀ j : Nat, (j : Int) < k → j < 64 → ∀ t : Int, f (256 + j) = (t, t) → G (64 * g + j) = t
theorem gCp_0 {G0 G : Nat → Int} {f : Nat → Int × Int} {g : Nat} {k : Int} (hk : k = 0) (hG : G = G0) : gCp G0 G f g k := by
  subst hk
  subst hG
  exact ⟨fun j hj => rfl, fun j hj => absurd hj (by omega)⟩
theorem gCp_s {G0 G : Nat → Int} {f : Nat → Int × Int} {g : Nat} {k i x y : Int32} (h : gCp G0 G f g k.toInt) (h0 : 0 ≤ k.toInt) (hi : i.toNatClampNeg = 64 * g + k.toNatClampNeg) (hx : ∀ t : Int, f (256 + k.toNatClampNeg) = (t, t) → x.toInt = t) (hy : y.toInt = k.toInt + 1) : gCp G0 (fun j => if j = (i : Int32).toNatClampNeg then (x : Int32).toInt else G j) f g y.toInt := by
  obtain ⟨h1, h2⟩ := h
  have hkn : k.toNatClampNeg = k.toInt.toNat := rfl
  refine ⟨fun j hj => ?_, fun j hj h64 t ht => ?_⟩
  · show (if j = i.toNatClampNeg then x.toInt else G j) = G0 j
    rw [if_neg (by omega)]
    exact h1 j hj
  · show (if 64 * g + j = i.toNatClampNeg then x.toInt else G (64 * g + j)) = t
    by_cases c : j = k.toNatClampNeg
    · rw [if_pos (by omega)]
      rw [c] at ht
      exact hx t ht
    · rw [if_neg (by omega)]
      exact h2 j (by omega) h64 t ht
/-- a game told: the elder ones as they were -/
def gTold (G0 : Nat → Int) (l0 : Nat → Fin 17) (G : Nat → Int) (l : Nat → Fin 17) (g k : Nat) (T : Nat → sgMq) : Prop := (∀ j : Nat, j < 64 * g → G j = G0 j) ∧ (∀ j : Nat, j < g → l j = l0 j) ∧ (l g).val = k ∧ ∀ i : Nat, i < k → G (64 * g + 4 * i) = (T i).1 ∧ G (64 * g + (4 * i + 1)) = (T i).2.1 ∧ G (64 * g + (4 * i + 2)) = (T i).2.2.1 ∧ G (64 * g + (4 * i + 3)) = (T i).2.2.2
theorem gTold_of {G0 G : Nat → Int} {l0 l : Nat → Fin 17} {f : Nat → Int × Int} {g k ix : Nat} {kk : Int} {T : Nat → sgMq} {n : Fin 17} (h : gCp G0 G f g kk) (hk : 64 ≤ kk) (h16 : k ≤ 16) (hm : ∀ j : Nat, j < k → mqAt f (256 + 4 * j) (T j)) (hix : ix = g) (hn : n.val = k) (hl : l = fun j => if j = ix then n else l0 j) : gTold G0 l0 G l g k T := by
  obtain ⟨h1, h2⟩ := h
  subst hix
  subst hl
  refine ⟨h1, fun j hj => if_neg (by omega), ?_, fun i hi => ?_⟩
  · show (if ix = ix then n else l0 ix).val = k
    rw [if_pos rfl]
    exact hn
  · obtain ⟨m1, m2, m3, m4⟩ := hm i hi
    exact ⟨h2 _ (by omega) (by omega) _ m1, h2 _ (by omega) (by omega) _ m2, h2 _ (by omega) (by omega) _ m3, h2 _ (by omega) (by omega) _ m4⟩
/-- the games as they were -/
def sgGk (P P1 : sgPm) : Prop := sgG0 P1 = sgG0 P ∧ sgGl P1 = sgGl P
theorem sgGk_rf {P : sgPm} : sgGk P P := ⟨rfl, rfl⟩
/-- one more told to the reference -/
def sgTo2 (P P1 : sgPm) : Prop := ∃ k : Nat, gK (sgU2 P) (sgL2 P) k ∧ gTold (sgG0 P) (sgGl P) (sgG0 P1) (sgGl P1) P.2.2.2.2.2.2.2.2.2.1.val k (gmT (sgU2 P) (sgL2 P))
