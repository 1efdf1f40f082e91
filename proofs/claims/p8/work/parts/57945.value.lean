/-- what was told, read: the byte at a place (0: none), the next place that is no blank -/
def vC (b : Nat → Int) (n a : Int) : Int := if 0 ≤ a ∧ a < n then b a.toNat else 0
theorem vC_in {b : Nat → Int} {n a : Int} (h0 : 0 ≤ a) (h : a < n) : vC b n a = b a.toNat := if_pos ⟨h0, h⟩
theorem vC_out {b : Nat → Int} {n a : Int} (h : n ≤ a) : vC b n a = 0 := if_neg (by omega)
theorem vC_lt {b : Nat → Int} {n a : Int} (h : vC b n a ≠ 0) : 0 ≤ a ∧ a < n := by
  unfold vC at h
  by_cases c : 0 ≤ a ∧ a < n
  · exact c
  · rw [if_neg c] at h
    exact absurd rfl h
def vX (b : Nat → Int) (n a : Int) : Int := if h : vC b n a = 32 then vX b n (a + 1) else a
termination_by (n - a).toNat
decreasing_by
  have := vC_lt (b := b) (n := n) (a := a) (by omega)
  omega
theorem vX_on {b : Nat → Int} {n a : Int} (h : vC b n a = 32) : vX b n a = vX b n (a + 1) := by
  conv => lhs; unfold vX
  rw [dif_pos h]
theorem vX_at {b : Nat → Int} {n a : Int} (h : ¬ vC b n a = 32) : vX b n a = a := by
  unfold vX
  rw [dif_neg h]
theorem vX_ge (b : Nat → Int) (n a : Int) : a ≤ vX b n a ∧ (a ≤ n → vX b n a ≤ n) ∧ vC b n (vX b n a) ≠ 32 := by
  by_cases h : vC b n a = 32
  · have h1 := vC_lt (b := b) (n := n) (a := a) (by omega)
    have h2 := vX_ge b n (a + 1)
    rw [vX_on h]
    exact ⟨by omega, fun _ => h2.2.1 (by omega), h2.2.2⟩
  · rw [vX_at h]
    exact ⟨Int.le_refl _, fun h => h, h⟩
termination_by (n - a).toNat
decreasing_by omega
theorem vX_idem (b : Nat → Int) (n a : Int) : vX b n (vX b n a) = vX b n a := vX_at (vX_ge b n a).2.2
/-- what a reader says: taken, and where it stands behind; or where the FAULT is -/
abbrev Rs : Type := Bool × Int
def vB (r : Rs) (f : Int → Rs) : Rs := bif r.1 then f r.2 else r
theorem vB_t {a : Int} {f : Int → Rs} : vB (true, a) f = f a := rfl
theorem vB_f {a : Int} {f : Int → Rs} : vB (false, a) f = (false, a) := rfl
def vD (b : Nat → Int) (n c a : Int) : Rs := if vC b n a = c then (true, vX b n (a + 1)) else (false, a)
def vEn (b : Nat → Int) (n a : Int) : Rs := if vC b n a = 0 then (true, a) else (false, a)
/-- a loop: while one of the signs stands there, a step and once more -/
def vL (f : Int → Rs) (op : Int → Bool) (b : Nat → Int) (n a : Int) : Rs :=
  if op (vC b n a) = true then
    (if h : (f (vX b n (a + 1))).1 = true ∧ a < (f (vX b n (a + 1))).2 ∧ a < n then vL f op b n (f (vX b n (a + 1))).2 else (false, (f (vX b n (a + 1))).2))
  else (true, a)
termination_by (n - a).toNat
decreasing_by
  have := h.2
  omega
theorem vL_stop {f : Int → Rs} {op : Int → Bool} {b : Nat → Int} {n a : Int} (h : op (vC b n a) = false) : vL f op b n a = (true, a) := by
  unfold vL
  rw [h]
  rfl
theorem vL_step {f : Int → Rs} {op : Int → Bool} {b : Nat → Int} {n a a1 : Int} (h : op (vC b n a) = true) (hf : f (vX b n (a + 1)) = (true, a1)) (h1 : a < a1) (h2 : a < n) : vL f op b n a = vL f op b n a1 := by
  conv => lhs; unfold vL
  rw [if_pos h, hf, dif_pos ⟨rfl, h1, h2⟩]
theorem vL_bad {f : Int → Rs} {op : Int → Bool} {b : Nat → Int} {n a w : Int} (h : op (vC b n a) = true) (hf : f (vX b n (a + 1)) = (false, w)) : vL f op b n a = (false, w) := by
  unfold vL
  rw [if_pos h, hf, dif_neg (fun q => by cases q.1)]
/-- a number of at most so many digits, within bounds: taken, where, how much -/
def vNd (b : Nat → Int) (n lo hi : Int) : Nat → Bool → Int → Int → Bool × Int × Int
  | k, sme, v, a => if 48 ≤ vC b n a ∧ vC b n a ≤ 57 then (match k with
      | 0 => (false, a, 0)
      | k + 1 => vNd b n lo hi k true (v * 10 + vC b n a - 48) (a + 1))
    else if sme = false then (false, a, 0) else if v < lo ∨ hi < v then (false, a - 1, 0) else (true, vX b n a, v)
def vNu (b : Nat → Int) (n lo hi : Int) (k : Nat) (a : Int) : Rs := ((vNd b n lo hi k false 0 a).1, (vNd b n lo hi k false 0 a).2.1)
theorem vNd_more {b : Nat → Int} {n lo hi v a : Int} {k : Nat} {sme : Bool} (h1 : 48 ≤ vC b n a) (h2 : vC b n a ≤ 57) : vNd b n lo hi (k + 1) sme v a = vNd b n lo hi k true (v * 10 + vC b n a - 48) (a + 1) := by
  conv => lhs; unfold vNd
  rw [if_pos ⟨h1, h2⟩]
theorem vNd_many {b : Nat → Int} {n lo hi v a : Int} {sme : Bool} (h1 : 48 ≤ vC b n a) (h2 : vC b n a ≤ 57) : vNd b n lo hi 0 sme v a = (false, a, 0) := by
  unfold vNd
  rw [if_pos ⟨h1, h2⟩]
theorem vNd_none {b : Nat → Int} {n lo hi v a : Int} {k : Nat} (h : vC b n a < 48 ∨ 57 < vC b n a) : vNd b n lo hi k false v a = (false, a, 0) := by
  unfold vNd
  rw [if_neg (by omega), if_pos rfl]
theorem vNd_out {b : Nat → Int} {n lo hi v a : Int} {k : Nat} (h : vC b n a < 48 ∨ 57 < vC b n a) (h2 : v < lo ∨ hi < v) : vNd b n lo hi k true v a = (false, a - 1, 0) := by
  unfold vNd
  rw [if_neg (by omega), if_neg (by decide), if_pos h2]
theorem vNd_ok {b : Nat → Int} {n lo hi v a : Int} {k : Nat} (h : vC b n a < 48 ∨ 57 < vC b n a) (h2 : lo ≤ v) (h3 : v ≤ hi) : vNd b n lo hi k true v a = (true, vX b n a, v) := by
  unfold vNd
  rw [if_neg (by omega), if_neg (by decide), if_neg (by omega)]
/-- of an int and what it is -/
theorem vq_lt {x y : Int32} {a b : Int} (h : x < y) (hx : x.toInt = a) (hy : y.toInt = b) : a < b := by have := Int32.lt_iff_toInt_lt.mp h; omega
theorem vq_le {x y : Int32} {a b : Int} (h : x ≤ y) (hx : x.toInt = a) (hy : y.toInt = b) : ¬ b < a := by have := Int32.le_iff_toInt_le.mp h; omega
theorem vq_eq {x y : Int32} {a b : Int} (h : x = y) (hx : x.toInt = a) (hy : y.toInt = b) : a = b := by rw [← hx, ← hy, h]
theorem vq_ne {x y : Int32} {a b : Int} (h : ¬ x = y) (hx : x.toInt = a) (hy : y.toInt = b) : ¬ a = b := fun q => h (Int32.toInt_inj.mp (by omega))
theorem vq_iv {x : Int32} {a : Int} (h : iv a a x) : x.toInt = a := Int.le_antisymm h.2 h.1
theorem vq_of {x : Int32} {a lo hi : Int} (h : x.toInt = a) (h0 : lo ≤ a ∧ a ≤ hi) : iv lo hi x := ⟨by omega, by omega⟩
theorem vq_tp {ad ks : List Nat} {f : Nat → Int} {n a : Int} {i x : Int32} (h : okV ad ks (sg_tp f i.toNatClampNeg) (.int x)) (hi : i.toInt = a) (h0 : 0 ≤ a) (h1 : a < n) : x.toInt = vC f n a := by
  obtain ⟨y, h2, h3, h4⟩ := h
  cases h2
  dsimp only at h3 h4
  rw [vC_in h0 h1, ← hi]
  show x.toInt = f i.toInt.toNat
  exact Int.le_antisymm h4 h3
/-- the signs of a comparison, the letters of a sum, where a sign stands in a text -/
def vCm (c : Int) : Int := if c = 61 then -14 else if c = 60 then -15 else if c = 62 then -16 else 0
theorem vCm_ne {c : Int} (h : ¬ vCm c = 0) : c ≠ 0 := fun q => h (by rw [q]; decide)
def vIx (tb : List Int32) (c : Int) : Nat → Nat → Int
  | 0, _ => -1
  | n + 1, k => if (tb.getD k 0).toInt = c then (k : Int) else vIx tb c n (k + 1)
def vLet (c : Int) : Int := vIx [116, 114, 99, 98, 100, 111] c 6 0
theorem vLet_ne {c : Int} (h : ¬ vLet c < 0) : c ≠ 0 := fun q => h (by rw [q]; decide +kernel)
def KK10a (a1 a2 w1 w2 : Int) (P : sgPm) : sgK := .inl (10, [.inr (.inl (false, 42)), .inl (sgC240 (sgL1 P), sgC240 (sgL1 P)), .inl (a1, a2), .inl (w1, w2)])
/-- the class: where its tape stands, and the fault -/
def KA (a1 a2 w1 w2 : Int) (P : sgPm) : List sgK := [KK0 P, KK1 P, KK2 P, KK3 P, KK4 P, KK5 P, KK6 P, KK7 P, KK8 P, KK9 P, KK10a a1 a2 w1 w2 P, KK11 P, KK12 P, KK13 P, KK14 P, KK15 P, KK16 P, KK17 P, KK18 P, KK19 P, KK20 P, KK21 P, KK22 P, KK23 P, KK24 P, KK25 P, KK26 P, KK27 P, KK28 P, KK29 P, KK30 P, KK31 P, KK32 P, KK33 P, KK34 P, KK35 P, KK36 P, KK37 P, KK38 P, KK39 P, KK40 P, KK41 P, KK42 P, KK43 P, KK44 P, KK45 P, KK46 P, KK47 P, KK48 P, KK49 P, KK50 P, KK51 P, KK52 P, KK53 P, KK54 P, KK55 P, KK56 P, KK57 P, KK58 P, KK59 P, KK60 P, KK61 P, KK62 P, KK63 P, KK64 P, KK65 P, KK66 P]
theorem ka_of {D : va_G} {A : Nat → Prop} {tys : List (ClassId × FieldType)} {ad ks : List Nat} {H : Heap} {P : sgPm} (hG : sgG (KT P) D vwCl A tys ad ks H) : sgG (KA 0 240 (-2147483648) 2147483647 P) D vwCl A tys ad ks H := hG
theorem ka_weak {a1 a2 w1 w2 b1 b2 c1 c2 : Int} {D : va_G} {A : Nat → Prop} {tys : List (ClassId × FieldType)} {ad ks : List Nat} {H : Heap} {P : sgPm} (hG : sgG (KA a1 a2 w1 w2 P) D vwCl A tys ad ks H) (h1 : b1 ≤ a1) (h2 : a2 ≤ b2) (h3 : c1 ≤ w1) (h4 : w2 ≤ c2) : sgG (KA b1 b2 c1 c2 P) D vwCl A tys ad ks H := by
  refine sg_weak1 hG (k := 10) rfl rfl rfl (fun i t' ht => by match i, ht with
    | 0, ht => cases ht; exact ⟨_, rfl, fun v hv => hv⟩
    | 1, ht => cases ht; exact ⟨_, rfl, fun v hv => hv⟩
    | 2, ht => cases ht; exact ⟨_, rfl, fun v hv => by obtain ⟨x, g1, g2, g3⟩ := hv; exact ⟨x, g1, Int.le_trans h1 g2, Int.le_trans g3 h2⟩⟩
    | 3, ht => cases ht; exact ⟨_, rfl, fun v hv => by obtain ⟨x, g1, g2, g3⟩ := hv; exact ⟨x, g1, Int.le_trans h3 g2, Int.le_trans g3 h4⟩⟩
    | i + 4, ht => cases ht) (fun i hi => by match i, hi with
    | 0, hi => rfl
    | 1, hi => rfl
    | 2, hi => rfl
    | 3, hi => rfl
    | 4, hi => rfl
    | 5, hi => rfl
    | 6, hi => rfl
    | 7, hi => rfl
    | 8, hi => rfl
    | 9, hi => rfl
    | 10, hi => exact absurd rfl hi
    | 11, hi => rfl
    | 12, hi => rfl
    | 13, hi => rfl
    | 14, hi => rfl
    | 15, hi => rfl
    | 16, hi => rfl
    | 17, hi => rfl
    | 18, hi => rfl
    | 19, hi => rfl
    | 20, hi => rfl
    | 21, hi => rfl
    | 22, hi => rfl
    | 23, hi => rfl
    | 24, hi => rfl
    | 25, hi => rfl
    | 26, hi => rfl
    | 27, hi => rfl
    | 28, hi => rfl
    | 29, hi => rfl
    | 30, hi => rfl
    | 31, hi => rfl
    | 32, hi => rfl
    | 33, hi => rfl
    | 34, hi => rfl
    | 35, hi => rfl
    | 36, hi => rfl
    | 37, hi => rfl
    | 38, hi => rfl
    | 39, hi => rfl
    | 40, hi => rfl
    | 41, hi => rfl
    | 42, hi => rfl
    | 43, hi => rfl
    | 44, hi => rfl
    | 45, hi => rfl
    | 46, hi => rfl
    | 47, hi => rfl
    | 48, hi => rfl
    | 49, hi => rfl
    | 50, hi => rfl
    | 51, hi => rfl
    | 52, hi => rfl
    | 53, hi => rfl
    | 54, hi => rfl
    | 55, hi => rfl
    | 56, hi => rfl
    | 57, hi => rfl
    | 58, hi => rfl
    | 59, hi => rfl
    | 60, hi => rfl
    | 61, hi => rfl
    | 62, hi => rfl
    | 63, hi => rfl
    | 64, hi => rfl
    | 65, hi => rfl
    | 66, hi => rfl
    | i + 67, hi => rfl)
theorem ka_w {a1 a2 w1 w2 : Int} {D : va_G} {A : Nat → Prop} {tys : List (ClassId × FieldType)} {ad ks : List Nat} {H : Heap} {P : sgPm} (hG : sgG (KA a1 a2 w1 w2 P) D vwCl A tys ad ks H) : sgG (KA a1 a2 (max w1 (-2147483648)) (min w2 2147483647) P) D vwCl A tys ad ks H := by
  refine sg_weak1 hG (k := 10) rfl rfl rfl (fun i t' ht => by match i, ht with
    | 0, ht => cases ht; exact ⟨_, rfl, fun v hv => hv⟩
    | 1, ht => cases ht; exact ⟨_, rfl, fun v hv => hv⟩
    | 2, ht => cases ht; exact ⟨_, rfl, fun v hv => hv⟩
    | 3, ht => cases ht; exact ⟨_, rfl, fun v hv => by obtain ⟨x, g1, g2, g3⟩ := hv; have := iv_top x; exact ⟨x, g1, Int.max_le.mpr ⟨g2, this.1⟩, Int.le_min.mpr ⟨g3, this.2⟩⟩⟩
    | i + 4, ht => cases ht) (fun i hi => by match i, hi with
    | 0, hi => rfl
    | 1, hi => rfl
    | 2, hi => rfl
    | 3, hi => rfl
    | 4, hi => rfl
    | 5, hi => rfl
    | 6, hi => rfl
    | 7, hi => rfl
    | 8, hi => rfl
    | 9, hi => rfl
    | 10, hi => exact absurd rfl hi
    | 11, hi => rfl
    | 12, hi => rfl
    | 13, hi => rfl
    | 14, hi => rfl
    | 15, hi => rfl
    | 16, hi => rfl
    | 17, hi => rfl
    | 18, hi => rfl
    | 19, hi => rfl
    | 20, hi => rfl
    | 21, hi => rfl
    | 22, hi => rfl
    | 23, hi => rfl
    | 24, hi => rfl
    | 25, hi => rfl
    | 26, hi => rfl
    | 27, hi => rfl
    | 28, hi => rfl
    | 29, hi => rfl
    | 30, hi => rfl
    | 31, hi => rfl
    | 32, hi => rfl
    | 33, hi => rfl
    | 34, hi => rfl
    | 35, hi => rfl
    | 36, hi => rfl
    | 37, hi => rfl
    | 38, hi => rfl
    | 39, hi => rfl
    | 40, hi => rfl
    | 41, hi => rfl
    | 42, hi => rfl
    | 43, hi => rfl
    | 44, hi => rfl
    | 45, hi => rfl
    | 46, hi => rfl
    | 47, hi => rfl
    | 48, hi => rfl
    | 49, hi => rfl
    | 50, hi => rfl
    | 51, hi => rfl
    | 52, hi => rfl
    | 53, hi => rfl
    | 54, hi => rfl
    | 55, hi => rfl
    | 56, hi => rfl
    | 57, hi => rfl
    | 58, hi => rfl
    | 59, hi => rfl
    | 60, hi => rfl
    | 61, hi => rfl
    | 62, hi => rfl
    | 63, hi => rfl
    | 64, hi => rfl
    | 65, hi => rfl
    | 66, hi => rfl
    | i + 67, hi => rfl)
theorem ka_toKT {a1 a2 w1 w2 : Int} {D : va_G} {A : Nat → Prop} {tys : List (ClassId × FieldType)} {ad ks : List Nat} {H : Heap} {P : sgPm} (hG : sgG (KA a1 a2 w1 w2 P) D vwCl A tys ad ks H) (h1 : 0 ≤ a1) (h2 : a2 ≤ 240) : sgG (KT P) D vwCl A tys ad ks H := by
  have h := ka_w hG
  have h := ka_weak (b1 := 0) (b2 := 240) (c1 := -2147483648) (c2 := 2147483647) h h1 h2 (Int.le_max_right _ _) (Int.min_le_right _ _)
  exact h
section SGA
variable {p : Program} {l : Launch} {e : Env} {R : Room} {s : State} {m : MethodId} {args : Array Value} {below : List Frame} {meth : Method} {c : Code} {H : Heap} {locs : List Loc} {cells slots : Nat} {Q : State → Prop} {cc : ByteArray} {nL pc : Nat} {ls : Array Slot} {rest : List Value} {own : String} {D : va_G} {A : Nat → Prop} {tys : List (ClassId × FieldType)} {ad ks : List Nat} {P : sgPm} {H0 : Heap} {index : Nat} {a : Nat} {x : Int32} {a1 a2 w1 w2 b1 b2 : Int}
theorem pf_X10_2A (X : CallFix p m c cc nL s args sg_tbl own) (hK : va_K D vwCl tys s) (hG : sgG (KA a1 a2 w1 w2 P) D vwCl A tys ad ks H) (hS : va_S A H0 H locs) (ha : isK ad ks 10 a) (hl : Cond.fieldLink own index "LawnAhead$Tape" "at" "I" ∈ sg_tbl) (hv : iv b1 b2 x) (hdg : decode cc pc = .ok (.putfield index, 3))
    (kk : ∀ (H1 : Heap) (locs1 : List Loc), sgG (KA b1 b2 w1 w2 P) D vwCl A tys ad ks H1 → va_S A H0 H1 locs1 → W p l e R s m args below meth c H1 locs1 cells slots Q (F0 m (pc + 3) ls rest)) : W p l e R s m args below meth c H locs cells slots Q (F0 m pc ls (.int x :: .ref a :: rest)) :=
  sg_put1 (kt' := KA b1 b2 w1 w2 P) X hK hG hS ha (k := 10) (by decide) (ci := 10) (fts := [.inr (.inl (false, 42)), .inl (sgC240 (sgL1 P), sgC240 (sgL1 P)), .inl (a1, a2), .inl (w1, w2)]) (fts' := [.inr (.inl (false, 42)), .inl (sgC240 (sgL1 P), sgC240 (sgL1 P)), .inl (b1, b2), .inl (w1, w2)]) rfl rfl (C := RX10) (T := TX10) (N := 4) rfl inL_X10 tyX10 tyX10_ok nmX10 2 (by decide) rfl (t' := .inl (b1, b2)) rfl (fun i hi => by match i, hi with
    | 0, hi => rfl
    | 1, hi => rfl
    | 2, hi => exact absurd rfl hi
    | 3, hi => rfl
    | i + 4, hi => rfl) (fun i hi => by match i, hi with
    | 0, hi => rfl
    | 1, hi => rfl
    | 2, hi => rfl
    | 3, hi => rfl
    | 4, hi => rfl
    | 5, hi => rfl
    | 6, hi => rfl
    | 7, hi => rfl
    | 8, hi => rfl
    | 9, hi => rfl
    | 10, hi => exact absurd rfl hi
    | 11, hi => rfl
    | 12, hi => rfl
    | 13, hi => rfl
    | 14, hi => rfl
    | 15, hi => rfl
    | 16, hi => rfl
    | 17, hi => rfl
    | 18, hi => rfl
    | 19, hi => rfl
    | 20, hi => rfl
    | 21, hi => rfl
    | 22, hi => rfl
    | 23, hi => rfl
    | 24, hi => rfl
    | 25, hi => rfl
    | 26, hi => rfl
    | 27, hi => rfl
    | 28, hi => rfl
    | 29, hi => rfl
    | 30, hi => rfl
    | 31, hi => rfl
    | 32, hi => rfl
    | 33, hi => rfl
    | 34, hi => rfl
    | 35, hi => rfl
    | 36, hi => rfl
    | 37, hi => rfl
    | 38, hi => rfl
    | 39, hi => rfl
    | 40, hi => rfl
    | 41, hi => rfl
    | 42, hi => rfl
    | 43, hi => rfl
    | 44, hi => rfl
    | 45, hi => rfl
    | 46, hi => rfl
    | 47, hi => rfl
    | 48, hi => rfl
    | 49, hi => rfl
    | 50, hi => rfl
    | 51, hi => rfl
    | 52, hi => rfl
    | 53, hi => rfl
    | 54, hi => rfl
    | 55, hi => rfl
    | 56, hi => rfl
    | 57, hi => rfl
    | 58, hi => rfl
    | 59, hi => rfl
    | 60, hi => rfl
    | 61, hi => rfl
    | 62, hi => rfl
    | 63, hi => rfl
    | 64, hi => rfl
    | 65, hi => rfl
    | 66, hi => rfl
    | i + 67, hi => rfl) hl (fun _ h => h) rfl (ty := .int) rfl rfl rfl ⟨_, rfl, hv⟩ hdg kk
theorem gf_X10_2a (X : CallFix p m c cc nL s args sg_tbl own) (hK : va_K D vwCl tys s) (hG : sgG (KA a1 a2 w1 w2 P) D vwCl A tys ad ks H) (ha : isK ad ks 10 a) (hl : Cond.fieldLink own index "LawnAhead$Tape" "at" "I" ∈ sg_tbl) (hdg : decode cc pc = .ok (.getfield index, 3)) (kk : ∀ x : Int32, iv a1 a2 x → W p l e R s m args below meth c H locs cells slots Q (F0 m (pc + 3) ls (.int x :: rest))) : W p l e R s m args below meth c H locs cells slots Q (F0 m pc ls (.ref a :: rest)) :=
  sg_get X hK hG ha (k := 10) (ci := 10) rfl (C := RX10) (T := TX10) (N := 4) rfl inL_X10 2 (by decide) rfl hl (fun _ h => h) hdg (fun v hv hf => by obtain ⟨x, rfl, hx⟩ := hv; exact kk x hx)
theorem pf_X10_3A (X : CallFix p m c cc nL s args sg_tbl own) (hK : va_K D vwCl tys s) (hG : sgG (KA a1 a2 w1 w2 P) D vwCl A tys ad ks H) (hS : va_S A H0 H locs) (ha : isK ad ks 10 a) (hl : Cond.fieldLink own index "LawnAhead$Tape" "wrongAt" "I" ∈ sg_tbl) (hv : iv b1 b2 x) (hdg : decode cc pc = .ok (.putfield index, 3))
    (kk : ∀ (H1 : Heap) (locs1 : List Loc), sgG (KA a1 a2 b1 b2 P) D vwCl A tys ad ks H1 → va_S A H0 H1 locs1 → W p l e R s m args below meth c H1 locs1 cells slots Q (F0 m (pc + 3) ls rest)) : W p l e R s m args below meth c H locs cells slots Q (F0 m pc ls (.int x :: .ref a :: rest)) :=
  sg_put1 (kt' := KA a1 a2 b1 b2 P) X hK hG hS ha (k := 10) (by decide) (ci := 10) (fts := [.inr (.inl (false, 42)), .inl (sgC240 (sgL1 P), sgC240 (sgL1 P)), .inl (a1, a2), .inl (w1, w2)]) (fts' := [.inr (.inl (false, 42)), .inl (sgC240 (sgL1 P), sgC240 (sgL1 P)), .inl (a1, a2), .inl (b1, b2)]) rfl rfl (C := RX10) (T := TX10) (N := 4) rfl inL_X10 tyX10 tyX10_ok nmX10 3 (by decide) rfl (t' := .inl (b1, b2)) rfl (fun i hi => by match i, hi with
    | 0, hi => rfl
    | 1, hi => rfl
    | 2, hi => rfl
    | 3, hi => exact absurd rfl hi
    | i + 4, hi => rfl) (fun i hi => by match i, hi with
    | 0, hi => rfl
    | 1, hi => rfl
    | 2, hi => rfl
    | 3, hi => rfl
    | 4, hi => rfl
    | 5, hi => rfl
    | 6, hi => rfl
    | 7, hi => rfl
    | 8, hi => rfl
    | 9, hi => rfl
    | 10, hi => exact absurd rfl hi
    | 11, hi => rfl
    | 12, hi => rfl
    | 13, hi => rfl
    | 14, hi => rfl
    | 15, hi => rfl
    | 16, hi => rfl
    | 17, hi => rfl
    | 18, hi => rfl
    | 19, hi => rfl
    | 20, hi => rfl
    | 21, hi => rfl
    | 22, hi => rfl
    | 23, hi => rfl
    | 24, hi => rfl
    | 25, hi => rfl
    | 26, hi => rfl
    | 27, hi => rfl
    | 28, hi => rfl
    | 29, hi => rfl
    | 30, hi => rfl
    | 31, hi => rfl
    | 32, hi => rfl
    | 33, hi => rfl
    | 34, hi => rfl
    | 35, hi => rfl
    | 36, hi => rfl
    | 37, hi => rfl
    | 38, hi => rfl
    | 39, hi => rfl
    | 40, hi => rfl
    | 41, hi => rfl
    | 42, hi => rfl
    | 43, hi => rfl
    | 44, hi => rfl
    | 45, hi => rfl
    | 46, hi => rfl
    | 47, hi => rfl
    | 48, hi => rfl
    | 49, hi => rfl
    | 50, hi => rfl
    | 51, hi => rfl
    | 52, hi => rfl
    | 53, hi => rfl
    | 54, hi => rfl
    | 55, hi => rfl
    | 56, hi => rfl
    | 57, hi => rfl
    | 58, hi => rfl
    | 59, hi => rfl
    | 60, hi => rfl
    | 61, hi => rfl
    | 62, hi => rfl
    | 63, hi => rfl
    | 64, hi => rfl
    | 65, hi => rfl
    | 66, hi => rfl
    | i + 67, hi => rfl) hl (fun _ h => h) rfl (ty := .int) rfl rfl rfl ⟨_, rfl, hv⟩ hdg kk
theorem gf_X10_3a (X : CallFix p m c cc nL s args sg_tbl own) (hK : va_K D vwCl tys s) (hG : sgG (KA a1 a2 w1 w2 P) D vwCl A tys ad ks H) (ha : isK ad ks 10 a) (hl : Cond.fieldLink own index "LawnAhead$Tape" "wrongAt" "I" ∈ sg_tbl) (hdg : decode cc pc = .ok (.getfield index, 3)) (kk : ∀ x : Int32, iv w1 w2 x → W p l e R s m args below meth c H locs cells slots Q (F0 m (pc + 3) ls (.int x :: rest))) : W p l e R s m args below meth c H locs cells slots Q (F0 m pc ls (.ref a :: rest)) :=
  sg_get X hK hG ha (k := 10) (ci := 10) rfl (C := RX10) (T := TX10) (N := 4) rfl inL_X10 3 (by decide) rfl hl (fun _ h => h) hdg (fun v hv hf => by obtain ⟨x, rfl, hx⟩ := hv; exact kk x hx)
end SGA
