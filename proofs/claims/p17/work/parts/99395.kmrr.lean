theorem zq_rr {ad ks : List Nat} {q : sgLwn} {o : sgO} {j : Nat} {v : Value} (hq : ruOk q.1) (h : okV ad ks (.inl ((zQ q o).2.1 j)) v) : okV ad ks (sg_rr 7 j) v := by
  obtain ⟨x, e, hx⟩ := h
  by_cases hj : j < 7
  · have hx : iv (if j < 7 then (q.1 j, q.1 j) else ((-2147483648), 2147483647)).1 (if j < 7 then (q.1 j, q.1 j) else ((-2147483648), 2147483647)).2 x := hx
    rw [if_pos hj] at hx
    have hx : iv (q.1 j) (q.1 j) x := hx
    unfold sg_rr
    rw [if_pos (by omega)]
    have hb := hq j hj
    match j, hj, hx, hb with
    | 0, hj, hx, hb => exact ⟨x, e, Int.le_trans hb.1 hx.1, Int.le_trans hx.2 hb.2⟩
    | 1, hj, hx, hb => exact ⟨x, e, Int.le_trans hb.1 hx.1, Int.le_trans hx.2 hb.2⟩
    | 2, hj, hx, hb => exact ⟨x, e, Int.le_trans hb.1 hx.1, Int.le_trans hx.2 hb.2⟩
    | 3, hj, hx, hb => exact ⟨x, e, Int.le_trans hb.1 hx.1, Int.le_trans hx.2 hb.2⟩
    | 4, hj, hx, hb => exact ⟨x, e, Int.le_trans hb.1 hx.1, Int.le_trans hx.2 hb.2⟩
    | 5, hj, hx, hb => exact ⟨x, e, Int.le_trans hb.1 hx.1, Int.le_trans hx.2 hb.2⟩
    | 6, hj, hx, hb => exact ⟨x, e, Int.le_trans hb.1 hx.1, Int.le_trans hx.2 hb.2⟩
    | j + 7, hj, hx, hb => exact absurd hj (by omega)
  · unfold sg_rr
    rw [if_neg (by omega)]
    exact ⟨x, e, iv_top x⟩
def KEd (z : sgZt) (P : sgPm) : List sgK := [KK0 P, KK1 P, KK2 P, KK3 P, KK4 P, KK5 P, KK6 P, KK7 P, KK8 P, KK9 P, KK10 P, KK11 P, KK12 P, KK13 P, KK14 P, KK15 P, KK16 P, KK17 P, KK18 P, KK19 P, KK20 P, KK21 P, KK22 P, KK23 P, KK24 P, KK25 P, KK26 P, KK27 P, KK28 P, KK29 P, KK30 P, KK31 P, KK32 P, KK33 P, KK34 P, KK35 P, KK36 P, KK37 P, KK38 P, KK39 P, KK40 P, KK41 P, KK42 P, KK43 P, KK44 P, KK45 P, KK46 P, KK47 P, KK48 P, KK49 P, KK50e z P, KK51 P, KK52 P, KK53 P, KK54 P, KK55 P, KK56 P, KK57 P, KK58 P, KK59 P, KK60 P, KK61 P, KK62 P, KK63 P, KK64 P, KK65 P, KK66 P, KK67 P]
theorem ke_toKM {a1 a2 f1 f2 d1 d2 : Int} {q : sgLwn} {o : sgO} {D : va_G} {A : Nat → Prop} {tys : List (ClassId × FieldType)} {ad ks : List Nat} {H : Heap} {P : sgPm} (hG : sgG (KE a1 a2 f1 f2 d1 d2 (zQ q o) P) D vwCl A tys ad ks H) (h3 : -1 ≤ f1) (h4 : f2 ≤ 241) (h5 : 0 ≤ d1) (h6 : d2 ≤ 6) (hq : ruOk q.1) : sgG (KM 7 P) D vwCl A tys ad ks H := by
  have h1 : sgG (KEb (zQ q o) P) D vwCl A tys ad ks H := sg_weak1 hG (k := 12) rfl rfl rfl (fun i t' ht => by match i, ht with
    | 0, ht => cases ht; exact ⟨_, rfl, fun v hv => hv⟩
    | 1, ht => cases ht; exact ⟨_, rfl, fun v hv => hv⟩
    | 2, ht => cases ht; exact ⟨_, rfl, fun v hv => hv⟩
    | 3, ht => cases ht; exact ⟨_, rfl, fun v hv => hv⟩
    | 4, ht => cases ht; exact ⟨_, rfl, fun v hv => hv⟩
    | 5, ht => cases ht; exact ⟨_, rfl, fun v hv => trivial⟩
    | 6, ht => cases ht; exact ⟨_, rfl, fun v hv => hv⟩
    | 7, ht => cases ht; exact ⟨_, rfl, fun v hv => hv⟩
    | 8, ht => cases ht; exact ⟨_, rfl, fun v hv => by obtain ⟨x, g1, -⟩ := hv; exact ⟨x, g1, iv_top x⟩⟩
    | 9, ht => cases ht; exact ⟨_, rfl, fun v hv => by obtain ⟨x, g1, g2⟩ := hv; exact ⟨x, g1, sgC240_iv g2⟩⟩
    | 10, ht => cases ht; exact ⟨_, rfl, fun v hv => by obtain ⟨x, g1, -⟩ := hv; exact ⟨x, g1, iv_top x⟩⟩
    | 11, ht => cases ht; exact ⟨_, rfl, fun v hv => by obtain ⟨x, g1, g2, g3⟩ := hv; exact ⟨x, g1, Int.le_trans h3 g2, Int.le_trans g3 h4⟩⟩
    | 12, ht => cases ht; exact ⟨_, rfl, fun v hv => by obtain ⟨x, g1, g2, g3⟩ := hv; exact ⟨x, g1, Int.le_trans h5 g2, Int.le_trans g3 h6⟩⟩
    | 13, ht => cases ht; exact ⟨_, rfl, fun v hv => hv⟩
    | 14, ht => cases ht; exact ⟨_, rfl, fun v hv => hv⟩
    | 15, ht => cases ht; exact ⟨_, rfl, fun v hv => hv⟩
    | 16, ht => cases ht; exact ⟨_, rfl, fun v hv => hv⟩
    | 17, ht => cases ht; exact ⟨_, rfl, fun v hv => hv⟩
    | 18, ht => cases ht; exact ⟨_, rfl, fun v hv => hv⟩
    | 19, ht => cases ht; exact ⟨_, rfl, fun v hv => hv⟩
    | 20, ht => cases ht; exact ⟨_, rfl, fun v hv => hv⟩
    | 21, ht => cases ht; exact ⟨_, rfl, fun v hv => hv⟩
    | 22, ht => cases ht; exact ⟨_, rfl, fun v hv => hv⟩
    | 23, ht => cases ht; exact ⟨_, rfl, fun v hv => hv⟩
    | 24, ht => cases ht; exact ⟨_, rfl, fun v hv => hv⟩
    | 25, ht => cases ht; exact ⟨_, rfl, fun v hv => by obtain ⟨x, g1, -⟩ := hv; exact ⟨x, g1, iv_top x⟩⟩
    | 26, ht => cases ht; exact ⟨_, rfl, fun v hv => by obtain ⟨x, g1, -⟩ := hv; exact ⟨x, g1, iv_top x⟩⟩
    | 27, ht => cases ht; exact ⟨_, rfl, fun v hv => by obtain ⟨x, g1, -⟩ := hv; exact ⟨x, g1, iv_top x⟩⟩
    | 28, ht => cases ht; exact ⟨_, rfl, fun v hv => by obtain ⟨x, g1, -⟩ := hv; exact ⟨x, g1, iv_top x⟩⟩
    | 29, ht => cases ht; exact ⟨_, rfl, fun v hv => hv⟩
    | 30, ht => cases ht; exact ⟨_, rfl, fun v hv => by obtain ⟨x, g1, g2, g3⟩ := hv; exact ⟨x, g1, Int.le_trans (Int.le_max_left _ _) g2, Int.le_trans g3 (Int.min_le_left _ _)⟩⟩
    | 31, ht => cases ht; exact ⟨_, rfl, fun v hv => by obtain ⟨x, g1, g2, g3⟩ := hv; exact ⟨x, g1, Int.le_trans (Int.le_max_left _ _) g2, Int.le_trans g3 (Int.min_le_left _ _)⟩⟩
    | 32, ht => cases ht; exact ⟨_, rfl, fun v hv => hv⟩
    | 33, ht => cases ht; exact ⟨_, rfl, fun v hv => hv⟩
    | 34, ht => cases ht; exact ⟨_, rfl, fun v hv => hv⟩
    | 35, ht => cases ht; exact ⟨_, rfl, fun v hv => hv⟩
    | 36, ht => cases ht; exact ⟨_, rfl, fun v hv => hv⟩
    | 37, ht => cases ht; exact ⟨_, rfl, fun v hv => hv⟩
    | 38, ht => cases ht; exact ⟨_, rfl, fun v hv => hv⟩
    | 39, ht => cases ht; exact ⟨_, rfl, fun v hv => hv⟩
    | 40, ht => cases ht; exact ⟨_, rfl, fun v hv => hv⟩
    | 41, ht => cases ht; exact ⟨_, rfl, fun v hv => hv⟩
    | 42, ht => cases ht; exact ⟨_, rfl, fun v hv => hv⟩
    | 43, ht => cases ht; exact ⟨_, rfl, fun v hv => hv⟩
    | 44, ht => cases ht; exact ⟨_, rfl, fun v hv => hv⟩
    | 45, ht => cases ht; exact ⟨_, rfl, fun v hv => hv⟩
    | 46, ht => cases ht; exact ⟨_, rfl, fun v hv => hv⟩
    | 47, ht => cases ht; exact ⟨_, rfl, fun v hv => hv⟩
    | 48, ht => cases ht; exact ⟨_, rfl, fun v hv => hv⟩
    | 49, ht => cases ht; exact ⟨_, rfl, fun v hv => hv⟩
    | 50, ht => cases ht; exact ⟨_, rfl, fun v hv => hv⟩
    | 51, ht => cases ht; exact ⟨_, rfl, fun v hv => hv⟩
    | 52, ht => cases ht; exact ⟨_, rfl, fun v hv => hv⟩
    | i + 53, ht => cases ht) (fun i hi => by match i, hi with
    | 0, hi => rfl
    | 1, hi => rfl
    | 2, hi => rfl
    | 3, hi => rfl
    | 4, hi => rfl
    | 5, hi => rfl
    | 6, hi => rfl
    | 7, hi => rfl
    | 8, hi => rfl
    | 9, hi => rfl
    | 10, hi => rfl
    | 11, hi => rfl
    | 12, hi => exact absurd rfl hi
    | 13, hi => rfl
    | 14, hi => rfl
    | 15, hi => rfl
    | 16, hi => rfl
    | 17, hi => rfl
    | 18, hi => rfl
    | 19, hi => rfl
    | 20, hi => rfl
    | 21, hi => rfl
    | 22, hi => rfl
    | 23, hi => rfl
    | 24, hi => rfl
    | 25, hi => rfl
    | 26, hi => rfl
    | 27, hi => rfl
    | 28, hi => rfl
    | 29, hi => rfl
    | 30, hi => rfl
    | 31, hi => rfl
    | 32, hi => rfl
    | 33, hi => rfl
    | 34, hi => rfl
    | 35, hi => rfl
    | 36, hi => rfl
    | 37, hi => rfl
    | 38, hi => rfl
    | 39, hi => rfl
    | 40, hi => rfl
    | 41, hi => rfl
    | 42, hi => rfl
    | 43, hi => rfl
    | 44, hi => rfl
    | 45, hi => rfl
    | 46, hi => rfl
    | 47, hi => rfl
    | 48, hi => rfl
    | 49, hi => rfl
    | 50, hi => rfl
    | 51, hi => rfl
    | 52, hi => rfl
    | 53, hi => rfl
    | 54, hi => rfl
    | 55, hi => rfl
    | 56, hi => rfl
    | 57, hi => rfl
    | 58, hi => rfl
    | 59, hi => rfl
    | 60, hi => rfl
    | 61, hi => rfl
    | 62, hi => rfl
    | 63, hi => rfl
    | 64, hi => rfl
    | 65, hi => rfl
    | 66, hi => rfl
    | 67, hi => rfl
    | i + 68, hi => rfl)
  have h1a : sgG (KEg (zQ q o) P) D vwCl A tys ad ks H := sg_weakE h1 (k := 52) rfl rfl (fun j v hv => gq_ga hv) (fun i hi => by match i, hi with
    | 0, hi => rfl
    | 1, hi => rfl
    | 2, hi => rfl
    | 3, hi => rfl
    | 4, hi => rfl
    | 5, hi => rfl
    | 6, hi => rfl
    | 7, hi => rfl
    | 8, hi => rfl
    | 9, hi => rfl
    | 10, hi => rfl
    | 11, hi => rfl
    | 12, hi => rfl
    | 13, hi => rfl
    | 14, hi => rfl
    | 15, hi => rfl
    | 16, hi => rfl
    | 17, hi => rfl
    | 18, hi => rfl
    | 19, hi => rfl
    | 20, hi => rfl
    | 21, hi => rfl
    | 22, hi => rfl
    | 23, hi => rfl
    | 24, hi => rfl
    | 25, hi => rfl
    | 26, hi => rfl
    | 27, hi => rfl
    | 28, hi => rfl
    | 29, hi => rfl
    | 30, hi => rfl
    | 31, hi => rfl
    | 32, hi => rfl
    | 33, hi => rfl
    | 34, hi => rfl
    | 35, hi => rfl
    | 36, hi => rfl
    | 37, hi => rfl
    | 38, hi => rfl
    | 39, hi => rfl
    | 40, hi => rfl
    | 41, hi => rfl
    | 42, hi => rfl
    | 43, hi => rfl
    | 44, hi => rfl
    | 45, hi => rfl
    | 46, hi => rfl
    | 47, hi => rfl
    | 48, hi => rfl
    | 49, hi => rfl
    | 50, hi => rfl
    | 51, hi => rfl
    | 52, hi => exact absurd rfl hi
    | 53, hi => rfl
    | 54, hi => rfl
    | 55, hi => rfl
    | 56, hi => rfl
    | 57, hi => rfl
    | 58, hi => rfl
    | 59, hi => rfl
    | 60, hi => rfl
    | 61, hi => rfl
    | 62, hi => rfl
    | 63, hi => rfl
    | 64, hi => rfl
    | 65, hi => rfl
    | 66, hi => rfl
    | 67, hi => rfl
    | i + 68, hi => rfl)
  have h1b : sgG (KEh (zQ q o) P) D vwCl A tys ad ks H := sg_weakE h1a (k := 53) rfl rfl (fun j v hv => gl_gl hv) (fun i hi => by match i, hi with
    | 0, hi => rfl
    | 1, hi => rfl
    | 2, hi => rfl
    | 3, hi => rfl
    | 4, hi => rfl
    | 5, hi => rfl
    | 6, hi => rfl
    | 7, hi => rfl
    | 8, hi => rfl
    | 9, hi => rfl
    | 10, hi => rfl
    | 11, hi => rfl
    | 12, hi => rfl
    | 13, hi => rfl
    | 14, hi => rfl
    | 15, hi => rfl
    | 16, hi => rfl
    | 17, hi => rfl
    | 18, hi => rfl
    | 19, hi => rfl
    | 20, hi => rfl
    | 21, hi => rfl
    | 22, hi => rfl
    | 23, hi => rfl
    | 24, hi => rfl
    | 25, hi => rfl
    | 26, hi => rfl
    | 27, hi => rfl
    | 28, hi => rfl
    | 29, hi => rfl
    | 30, hi => rfl
    | 31, hi => rfl
    | 32, hi => rfl
    | 33, hi => rfl
    | 34, hi => rfl
    | 35, hi => rfl
    | 36, hi => rfl
    | 37, hi => rfl
    | 38, hi => rfl
    | 39, hi => rfl
    | 40, hi => rfl
    | 41, hi => rfl
    | 42, hi => rfl
    | 43, hi => rfl
    | 44, hi => rfl
    | 45, hi => rfl
    | 46, hi => rfl
    | 47, hi => rfl
    | 48, hi => rfl
    | 49, hi => rfl
    | 50, hi => rfl
    | 51, hi => rfl
    | 52, hi => rfl
    | 53, hi => exact absurd rfl hi
    | 54, hi => rfl
    | 55, hi => rfl
    | 56, hi => rfl
    | 57, hi => rfl
    | 58, hi => rfl
    | 59, hi => rfl
    | 60, hi => rfl
    | 61, hi => rfl
    | 62, hi => rfl
    | 63, hi => rfl
    | 64, hi => rfl
    | 65, hi => rfl
    | 66, hi => rfl
    | 67, hi => rfl
    | i + 68, hi => rfl)
  have h2 : sgG (KEd (zQ q o) P) D vwCl A tys ad ks H := sg_weakE h1b (k := 51) rfl rfl (fun j v hv => by obtain ⟨x, rfl, -⟩ := hv; exact ⟨x, rfl, iv_top x⟩) (fun i hi => by match i, hi with
    | 0, hi => rfl
    | 1, hi => rfl
    | 2, hi => rfl
    | 3, hi => rfl
    | 4, hi => rfl
    | 5, hi => rfl
    | 6, hi => rfl
    | 7, hi => rfl
    | 8, hi => rfl
    | 9, hi => rfl
    | 10, hi => rfl
    | 11, hi => rfl
    | 12, hi => rfl
    | 13, hi => rfl
    | 14, hi => rfl
    | 15, hi => rfl
    | 16, hi => rfl
    | 17, hi => rfl
    | 18, hi => rfl
    | 19, hi => rfl
    | 20, hi => rfl
    | 21, hi => rfl
    | 22, hi => rfl
    | 23, hi => rfl
    | 24, hi => rfl
    | 25, hi => rfl
    | 26, hi => rfl
    | 27, hi => rfl
    | 28, hi => rfl
    | 29, hi => rfl
    | 30, hi => rfl
    | 31, hi => rfl
    | 32, hi => rfl
    | 33, hi => rfl
    | 34, hi => rfl
    | 35, hi => rfl
    | 36, hi => rfl
    | 37, hi => rfl
    | 38, hi => rfl
    | 39, hi => rfl
    | 40, hi => rfl
    | 41, hi => rfl
    | 42, hi => rfl
    | 43, hi => rfl
    | 44, hi => rfl
    | 45, hi => rfl
    | 46, hi => rfl
    | 47, hi => rfl
    | 48, hi => rfl
    | 49, hi => rfl
    | 50, hi => rfl
    | 51, hi => exact absurd rfl hi
    | 52, hi => rfl
    | 53, hi => rfl
    | 54, hi => rfl
    | 55, hi => rfl
    | 56, hi => rfl
    | 57, hi => rfl
    | 58, hi => rfl
    | 59, hi => rfl
    | 60, hi => rfl
    | 61, hi => rfl
    | 62, hi => rfl
    | 63, hi => rfl
    | 64, hi => rfl
    | 65, hi => rfl
    | 66, hi => rfl
    | 67, hi => rfl
    | i + 68, hi => rfl)
  exact sg_weakE h2 (k := 50) rfl rfl (fun j v hv => zq_rr hq hv) (fun i hi => by match i, hi with
    | 0, hi => rfl
    | 1, hi => rfl
    | 2, hi => rfl
    | 3, hi => rfl
    | 4, hi => rfl
    | 5, hi => rfl
    | 6, hi => rfl
    | 7, hi => rfl
    | 8, hi => rfl
    | 9, hi => rfl
    | 10, hi => rfl
    | 11, hi => rfl
    | 12, hi => rfl
    | 13, hi => rfl
    | 14, hi => rfl
    | 15, hi => rfl
    | 16, hi => rfl
    | 17, hi => rfl
    | 18, hi => rfl
    | 19, hi => rfl
    | 20, hi => rfl
    | 21, hi => rfl
    | 22, hi => rfl
    | 23, hi => rfl
    | 24, hi => rfl
    | 25, hi => rfl
    | 26, hi => rfl
    | 27, hi => rfl
    | 28, hi => rfl
    | 29, hi => rfl
    | 30, hi => rfl
    | 31, hi => rfl
    | 32, hi => rfl
    | 33, hi => rfl
    | 34, hi => rfl
    | 35, hi => rfl
    | 36, hi => rfl
    | 37, hi => rfl
    | 38, hi => rfl
    | 39, hi => rfl
    | 40, hi => rfl
    | 41, hi => rfl
    | 42, hi => rfl
    | 43, hi => rfl
    | 44, hi => rfl
    | 45, hi => rfl
    | 46, hi => rfl
    | 47, hi => rfl
    | 48, hi => rfl
    | 49, hi => rfl
    | 50, hi => exact absurd rfl hi
    | 51, hi => rfl
    | 52, hi => rfl
    | 53, hi => rfl
    | 54, hi => rfl
    | 55, hi => rfl
    | 56, hi => rfl
    | 57, hi => rfl
    | 58, hi => rfl
    | 59, hi => rfl
    | 60, hi => rfl
    | 61, hi => rfl
    | 62, hi => rfl
    | 63, hi => rfl
    | 64, hi => rfl
    | 65, hi => rfl
    | 66, hi => rfl
    | 67, hi => rfl
    | i + 68, hi => rfl)
theorem vq_so1 {v l m : Int64} {x : Int32} {b c : Int} (h : l.toInt ≤ v.toInt ∧ v.toInt ≤ m.toInt) (e : v = x.toInt64) (hl : l.toInt = b) (hm : m.toInt = c) : b ≤ x.toInt ∧ x.toInt ≤ c := by
  rw [e, hl, hm, Int32.toInt_toInt64] at h
  exact h
theorem vq_so0 {v l m : Int64} {x : Int32} {b c : Int} (h : v.toInt < l.toInt ∨ m.toInt < v.toInt) (e : v = x.toInt64) (hl : l.toInt = b) (hm : m.toInt = c) : x.toInt < b ∨ c < x.toInt := by
  rw [e, hl, hm, Int32.toInt_toInt64] at h
  exact h
