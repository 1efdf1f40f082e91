theorem sg_emp {D : va_G} {cl : List vw_C} {A : Nat → Prop} {tys : List (ClassId × FieldType)} {H : Heap} {kt : List sgK} : sgG kt D cl A tys [] [] H :=
  ⟨[], fun k q h => (by cases h), ⟨fun i j p q h => (by cases h), fun k q h => (by cases h)⟩, ⟨rfl, rfl, fun j q k h => (by cases h)⟩, fun k _ i j h => (by cases h), fun j q k h => (by cases h)⟩
/-- the class's lawn while it is read -/
def zG (q : sgLwn) (o : sgZg) : sgZg := fun a j => if a = 0 then (if j = 9 then (q.2.1.toInt, q.2.1.toInt) else if j = 10 then (q.2.2.1.toInt, q.2.2.1.toInt) else if j = 11 then ((bif q.2.2.2.2.2.1 then 1 else 0), (bif q.2.2.2.2.2.1 then 1 else 0)) else if j = 12 then ((bif q.2.2.2.2.2.2 then 1 else 0), (bif q.2.2.2.2.2.2 then 1 else 0)) else if j = 13 then (q.2.2.2.1, q.2.2.2.1) else if j = 14 then (q.2.2.2.2.1, q.2.2.2.2.1) else o 0 j) else if a = 1 then (q.1 j, q.1 j) else o a j
def zUs (z : sgZg) : sgZg := fun a j => if a = 1 then (vUsu j, vUsu j) else z a j
theorem zgq_9 {q : sgLwn} {o : sgZg} {v : Int32} : zSet (zG q o) 0 9 v.toInt = zG (q.1, v, q.2.2) o := by
  funext a j
  by_cases h : a = 0
  · subst h
    by_cases h9 : j = 9
    · subst h9
      simp [zSet, zG]
    by_cases h10 : j = 10
    · subst h10
      simp [zSet, zG]
    by_cases h11 : j = 11
    · subst h11
      simp [zSet, zG]
    by_cases h12 : j = 12
    · subst h12
      simp [zSet, zG]
    by_cases h13 : j = 13
    · subst h13
      simp [zSet, zG]
    by_cases h14 : j = 14
    · subst h14
      simp [zSet, zG]
    simp [zSet, zG, h9, h10, h11, h12, h13, h14]
  · simp [zSet, zG, h]
theorem zgq_10 {q : sgLwn} {o : sgZg} {v : Int32} : zSet (zG q o) 0 10 v.toInt = zG (q.1, q.2.1, v, q.2.2.2) o := by
  funext a j
  by_cases h : a = 0
  · subst h
    by_cases h10 : j = 10
    · subst h10
      simp [zSet, zG]
    by_cases h9 : j = 9
    · subst h9
      simp [zSet, zG]
    by_cases h11 : j = 11
    · subst h11
      simp [zSet, zG]
    by_cases h12 : j = 12
    · subst h12
      simp [zSet, zG]
    by_cases h13 : j = 13
    · subst h13
      simp [zSet, zG]
    by_cases h14 : j = 14
    · subst h14
      simp [zSet, zG]
    simp [zSet, zG, h9, h10, h11, h12, h13, h14]
  · simp [zSet, zG, h]
theorem zgq_11 {q : sgLwn} {o : sgZg} {v : Bool} : zSet (zG q o) 0 11 (bif v then 1 else 0) = zG (q.1, q.2.1, q.2.2.1, q.2.2.2.1, q.2.2.2.2.1, v, q.2.2.2.2.2.2) o := by
  funext a j
  by_cases h : a = 0
  · subst h
    by_cases h11 : j = 11
    · subst h11
      simp [zSet, zG]
    by_cases h9 : j = 9
    · subst h9
      simp [zSet, zG]
    by_cases h10 : j = 10
    · subst h10
      simp [zSet, zG]
    by_cases h12 : j = 12
    · subst h12
      simp [zSet, zG]
    by_cases h13 : j = 13
    · subst h13
      simp [zSet, zG]
    by_cases h14 : j = 14
    · subst h14
      simp [zSet, zG]
    simp [zSet, zG, h9, h10, h11, h12, h13, h14]
  · simp [zSet, zG, h]
theorem zgq_12 {q : sgLwn} {o : sgZg} {v : Bool} : zSet (zG q o) 0 12 (bif v then 1 else 0) = zG (q.1, q.2.1, q.2.2.1, q.2.2.2.1, q.2.2.2.2.1, q.2.2.2.2.2.1, v) o := by
  funext a j
  by_cases h : a = 0
  · subst h
    by_cases h12 : j = 12
    · subst h12
      simp [zSet, zG]
    by_cases h9 : j = 9
    · subst h9
      simp [zSet, zG]
    by_cases h10 : j = 10
    · subst h10
      simp [zSet, zG]
    by_cases h11 : j = 11
    · subst h11
      simp [zSet, zG]
    by_cases h13 : j = 13
    · subst h13
      simp [zSet, zG]
    by_cases h14 : j = 14
    · subst h14
      simp [zSet, zG]
    simp [zSet, zG, h9, h10, h11, h12, h13, h14]
  · simp [zSet, zG, h]
theorem zgq_13 {q : sgLwn} {o : sgZg} {v : Int} : zSet (zG q o) 0 13 v = zG (q.1, q.2.1, q.2.2.1, v, q.2.2.2.2) o := by
  funext a j
  by_cases h : a = 0
  · subst h
    by_cases h13 : j = 13
    · subst h13
      simp [zSet, zG]
    by_cases h9 : j = 9
    · subst h9
      simp [zSet, zG]
    by_cases h10 : j = 10
    · subst h10
      simp [zSet, zG]
    by_cases h11 : j = 11
    · subst h11
      simp [zSet, zG]
    by_cases h12 : j = 12
    · subst h12
      simp [zSet, zG]
    by_cases h14 : j = 14
    · subst h14
      simp [zSet, zG]
    simp [zSet, zG, h9, h10, h11, h12, h13, h14]
  · simp [zSet, zG, h]
theorem zgq_14 {q : sgLwn} {o : sgZg} {v : Int} : zSet (zG q o) 0 14 v = zG (q.1, q.2.1, q.2.2.1, q.2.2.2.1, v, q.2.2.2.2.2) o := by
  funext a j
  by_cases h : a = 0
  · subst h
    by_cases h14 : j = 14
    · subst h14
      simp [zSet, zG]
    by_cases h9 : j = 9
    · subst h9
      simp [zSet, zG]
    by_cases h10 : j = 10
    · subst h10
      simp [zSet, zG]
    by_cases h11 : j = 11
    · subst h11
      simp [zSet, zG]
    by_cases h12 : j = 12
    · subst h12
      simp [zSet, zG]
    by_cases h13 : j = 13
    · subst h13
      simp [zSet, zG]
    simp [zSet, zG, h9, h10, h11, h12, h13, h14]
  · simp [zSet, zG, h]
theorem zgq_r {q : sgLwn} {o : sgZg} {i : Nat} {v : Int} : zSet (zG q o) 1 i v = zG (fnUp q.1 i v, q.2) o := by
  funext a j
  by_cases h : a = 1
  · subst h
    by_cases hi : j = i
    · subst hi
      simp [zSet, zG, fnUp]
    · simp [zSet, zG, fnUp, hi]
  · simp [zSet, zG, h]
theorem zg_start {z : sgZg} : zSet (zSet (zSet (zSet (zSet (zSet (zUs z) 0 9 0) 0 10 0) 0 11 0) 0 12 0) 0 13 0) 0 14 0 = zG lw0 z := by
  funext a j
  by_cases h : a = 0
  · subst h
    by_cases h9 : j = 9
    · subst h9
      simp [zSet, zG, lw0]
    by_cases h10 : j = 10
    · subst h10
      simp [zSet, zG, lw0]
    by_cases h11 : j = 11
    · subst h11
      simp [zSet, zG, lw0]
    by_cases h12 : j = 12
    · subst h12
      simp [zSet, zG, lw0]
    by_cases h13 : j = 13
    · subst h13
      simp [zSet, zG, lw0]
    by_cases h14 : j = 14
    · subst h14
      simp [zSet, zG, lw0]
    simp [zSet, zG, zUs, h9, h10, h11, h12, h13, h14]
  · by_cases h1 : a = 1
    · subst h1
      simp [zSet, zG, zUs, lw0]
    · simp [zSet, zG, zUs, h, h1]
theorem zgg_9 {q : sgLwn} {o : sgZg} {x : Int32} (h : iv (zG q o 0 9).1 (zG q o 0 9).2 x) : x = q.2.1 := Int32.toInt_inj.mp (vq_iv (show iv q.2.1.toInt q.2.1.toInt x from h))
theorem zgg_10 {q : sgLwn} {o : sgZg} {x : Int32} (h : iv (zG q o 0 10).1 (zG q o 0 10).2 x) : x = q.2.2.1 := Int32.toInt_inj.mp (vq_iv (show iv q.2.2.1.toInt q.2.2.1.toInt x from h))
theorem zgg_13 {q : sgLwn} {o : sgZg} {x : Int32} (h : iv (zG q o 0 13).1 (zG q o 0 13).2 x) : x.toInt = q.2.2.2.1 := vq_iv (show iv (q.2.2.2.1) (q.2.2.2.1) x from h)
theorem zgg_14 {q : sgLwn} {o : sgZg} {x : Int32} (h : iv (zG q o 0 14).1 (zG q o 0 14).2 x) : x.toInt = q.2.2.2.2.1 := vq_iv (show iv (q.2.2.2.2.1) (q.2.2.2.2.1) x from h)
theorem zgg_11 {q : sgLwn} {o : sgZg} {x : Int32} (h : iv (max 0 (zG q o 0 11).1) (min 1 (zG q o 0 11).2) x) : x.toInt = (bif q.2.2.2.2.2.1 then 1 else 0) := by
  have h : iv (max 0 (bif q.2.2.2.2.2.1 then 1 else 0)) (min 1 (bif q.2.2.2.2.2.1 then 1 else 0)) x := h
  obtain ⟨h1, h2⟩ := h
  cases hb : q.2.2.2.2.2.1 with
  | false => rw [hb] at h1 h2; exact Int.le_antisymm (Int.le_trans h2 (by decide)) (Int.le_trans (by decide) h1)
  | true => rw [hb] at h1 h2; exact Int.le_antisymm (Int.le_trans h2 (by decide)) (Int.le_trans (by decide) h1)
theorem zgg_12 {q : sgLwn} {o : sgZg} {x : Int32} (h : iv (max 0 (zG q o 0 12).1) (min 1 (zG q o 0 12).2) x) : x.toInt = (bif q.2.2.2.2.2.2 then 1 else 0) := by
  have h : iv (max 0 (bif q.2.2.2.2.2.2 then 1 else 0)) (min 1 (bif q.2.2.2.2.2.2 then 1 else 0)) x := h
  obtain ⟨h1, h2⟩ := h
  cases hb : q.2.2.2.2.2.2 with
  | false => rw [hb] at h1 h2; exact Int.le_antisymm (Int.le_trans h2 (by decide)) (Int.le_trans (by decide) h1)
  | true => rw [hb] at h1 h2; exact Int.le_antisymm (Int.le_trans h2 (by decide)) (Int.le_trans (by decide) h1)
theorem zgg_r {q : sgLwn} {o : sgZg} {i x : Int32} {k : Nat} (hk : i.toNatClampNeg = k) (h : iv (zG q o 1 i.toNatClampNeg).1 (zG q o 1 i.toNatClampNeg).2 x) : x.toInt = q.1 k := by
  rw [hk] at h
  exact vq_iv (show iv (q.1 k) (q.1 k) x from h)
theorem zg_usk {a1 a2 w1 w2 : Int} {z : sgZg} {P : sgPm} : ∀ i : Nat, i ≠ 50 → (KG a1 a2 w1 w2 (zUs z) P)[i]? = (KG a1 a2 w1 w2 z P)[i]? := fun i hi => by match i, hi with
    | 0, hi => rfl
    | 1, hi => rfl
    | 2, hi => rfl
    | 3, hi => rfl
    | 4, hi => rfl
    | 5, hi => rfl
    | 6, hi => rfl
    | 7, hi => rfl
    | 8, hi => rfl
    | 9, hi => rfl
    | 10, hi => rfl
    | 11, hi => rfl
    | 12, hi => rfl
    | 13, hi => rfl
    | 14, hi => rfl
    | 15, hi => rfl
    | 16, hi => rfl
    | 17, hi => rfl
    | 18, hi => rfl
    | 19, hi => rfl
    | 20, hi => rfl
    | 21, hi => rfl
    | 22, hi => rfl
    | 23, hi => rfl
    | 24, hi => rfl
    | 25, hi => rfl
    | 26, hi => rfl
    | 27, hi => rfl
    | 28, hi => rfl
    | 29, hi => rfl
    | 30, hi => rfl
    | 31, hi => rfl
    | 32, hi => rfl
    | 33, hi => rfl
    | 34, hi => rfl
    | 35, hi => rfl
    | 36, hi => rfl
    | 37, hi => rfl
    | 38, hi => rfl
    | 39, hi => rfl
    | 40, hi => rfl
    | 41, hi => rfl
    | 42, hi => rfl
    | 43, hi => rfl
    | 44, hi => rfl
    | 45, hi => rfl
    | 46, hi => rfl
    | 47, hi => rfl
    | 48, hi => rfl
    | 49, hi => rfl
    | 50, hi => exact absurd rfl hi
    | 51, hi => rfl
    | 52, hi => rfl
    | 53, hi => rfl
    | 54, hi => rfl
    | 55, hi => rfl
    | 56, hi => rfl
    | 57, hi => rfl
    | 58, hi => rfl
    | 59, hi => rfl
    | 60, hi => rfl
    | 61, hi => rfl
    | 62, hi => rfl
    | 63, hi => rfl
    | 64, hi => rfl
    | 65, hi => rfl
    | 66, hi => rfl
    | 67, hi => rfl
    | i + 68, hi => rfl
theorem zg_uso {ad ks : List Nat} {z : sgZg} : ∀ j : Nat, j < 7 → okV ad ks ((fun i => .inl (zUs z 1 i) : Nat → sgT) j) (.int (([5, 4, 3, 2, 0, 8, 0] : List Int32).getD j 0)) := fun j hj => by match j, hj with
    | 0, hj => exact ⟨_, rfl, iv_c 5 (a := 5) (b := 5) (by decide +kernel)⟩
    | 1, hj => exact ⟨_, rfl, iv_c 4 (a := 4) (b := 4) (by decide +kernel)⟩
    | 2, hj => exact ⟨_, rfl, iv_c 3 (a := 3) (b := 3) (by decide +kernel)⟩
    | 3, hj => exact ⟨_, rfl, iv_c 2 (a := 2) (b := 2) (by decide +kernel)⟩
    | 4, hj => exact ⟨_, rfl, iv_c 0 (a := 0) (b := 0) (by decide +kernel)⟩
    | 5, hj => exact ⟨_, rfl, iv_c 8 (a := 8) (b := 8) (by decide +kernel)⟩
    | 6, hj => exact ⟨_, rfl, iv_c 0 (a := 0) (b := 0) (by decide +kernel)⟩
    | j + 7, hj => exact absurd hj (by omega)
/-- a spot, as the class reads it -/
def vSpC (b : Nat → Int) (n a : Int) : Bool × Int × Int :=
  if vC b n a = 99 then (if (vNd b n 0 29 2 false 0 (vX b n (a + 1))).1 = true then vNd b n 0 29 2 false 0 (vX b n (a + 1)) else (false, (vNd b n 0 29 2 false 0 (vX b n (a + 1))).2.1, 0))
  else (true, a, 0)
theorem vSpC_0 {b : Nat → Int} {n a : Int} (h : (vC b n a = 99) = False) : vSpC b n a = (true, a, 0) := if_neg (of_eq_false h)
theorem vSpC_b {b : Nat → Int} {n a w x : Int} (h : vC b n a = 99) (hn : vNd b n 0 29 2 false 0 (vX b n (a + 1)) = (false, w, x)) : vSpC b n a = (false, w, 0) := by
  unfold vSpC
  rw [if_pos h, hn, if_neg Bool.false_ne_true]
theorem vSpC_t {b : Nat → Int} {n a a1 v : Int} (h : vC b n a = 99) (hn : vNd b n 0 29 2 false 0 (vX b n (a + 1)) = (true, a1, v)) : vSpC b n a = (true, a1, v) := by
  unfold vSpC
  rw [if_pos h, hn, if_pos rfl]
/-- a clause, as the class reads it -/
def vLcC (b : Nat → Int) (n : Int) (q : sgLwn) (a : Int) : Bool × Int × sgLwn :=
  if vC b n a = 115 ∧ q.2.2.2.2.2.1 = false then
    ((vRuM b n 0 q.1 (vX b n (a + 1))).1, (vRuM b n 0 q.1 (vX b n (a + 1))).2.1, ((vRuM b n 0 q.1 (vX b n (a + 1))).2.2, q.2.1, q.2.2.1, q.2.2.2.1, q.2.2.2.2.1, true, q.2.2.2.2.2.2))
  else if (vC b n a = 116 ∧ q.2.2.2.1 < 12) ∨ (vC b n a = 98 ∧ q.2.2.2.2.1 < 8) then
    ((vSpC b n (vX b n (a + 1))).1, (vSpC b n (vX b n (a + 1))).2.1, lwPut (vC b n a == 116) (vSpC b n (vX b n (a + 1))).2.2 q)
  else (false, a, q)
theorem vLcC_s {b : Nat → Int} {n a a1 : Int} {q : sgLwn} {ok : Bool} {f : Nat → Int} (h : vC b n a = 115) (h2 : q.2.2.2.2.2.1 = false) (hp : vRuM b n 0 q.1 (vX b n (a + 1)) = (ok, a1, f)) : vLcC b n q a = (ok, a1, (f, q.2.1, q.2.2.1, q.2.2.2.1, q.2.2.2.2.1, true, q.2.2.2.2.2.2)) := by
  unfold vLcC
  rw [if_pos ⟨h, h2⟩, hp]
theorem vLcC_p {b : Nat → Int} {n a a1 v : Int} {q : sgLwn} {ok : Bool} (h0 : ¬ vC b n a = 115) (h : (vC b n a = 116 ∧ q.2.2.2.1 < 12) ∨ (vC b n a = 98 ∧ q.2.2.2.2.1 < 8)) (hp : vSpC b n (vX b n (a + 1)) = (ok, a1, v)) : vLcC b n q a = (ok, a1, lwPut (vC b n a == 116) v q) := by
  unfold vLcC
  rw [if_neg (fun z => h0 z.1), if_pos h, hp]
theorem vLcC_n {b : Nat → Int} {n a : Int} {q : sgLwn} (h1 : ¬ (vC b n a = 115 ∧ q.2.2.2.2.2.1 = false)) (h : ¬ ((vC b n a = 116 ∧ q.2.2.2.1 < 12) ∨ (vC b n a = 98 ∧ q.2.2.2.2.1 < 8))) : vLcC b n q a = (false, a, q) := by
  unfold vLcC
  rw [if_neg h1, if_neg h]
def vLnC (b : Nat → Int) (n : Int) (q : sgLwn) (a : Int) : Bool × Int × sgLwn :=
  if h : (vLcC b n q a).1 = true ∧ vC b n (vLcC b n q a).2.1 = 59 ∧ a < (vLcC b n q a).2.1 ∧ a < n then vLnC b n (vLcC b n q a).2.2 (vX b n ((vLcC b n q a).2.1 + 1))
  else vLcC b n q a
termination_by (n - a).toNat
decreasing_by
  have h1 := h.2.2
  have h2 := (vX_ge b n ((vLcC b n q a).2.1 + 1)).1
  omega
theorem vLnC_end {b : Nat → Int} {n a a1 : Int} {q q1 : sgLwn} {ok : Bool} (hp : vLcC b n q a = (ok, a1, q1)) (h : ok = false ∨ (vC b n a1 = 59) = False) : vLnC b n q a = (ok, a1, q1) := by
  unfold vLnC
  rw [hp, dif_neg]
  rintro ⟨g1, g2, -⟩
  rcases h with h | h
  · rw [h] at g1
    cases g1
  · exact of_eq_false h g2
theorem vLnC_step {b : Nat → Int} {n a a1 : Int} {q q1 : sgLwn} (hp : vLcC b n q a = (true, a1, q1)) (h : vC b n a1 = 59) (h1 : a < a1) : vLnC b n q a = vLnC b n q1 (vX b n (a1 + 1)) := by
  have h2 := vC_lt (b := b) (n := n) (a := a1) (by rw [h]; decide)
  conv => lhs; unfold vLnC
  rw [hp, dif_pos ⟨rfl, h, h1, by omega⟩]
/-- a clause is the same on both sides, but where a cell is told twice: the class stops behind it -/
theorem vLc_cm {b : Nat → Int} {n a : Int} {q : sgLwn} (hq : q.2.2.2.2.2.1 = false → q.1 = vUsu) : vLcC b n q a = vLcM b n q a ∨ ((vLcM b n q a).1 = false ∧ vC b n (vLcC b n q a).2.1 = 99) := by
  by_cases h1 : vC b n a = 115 ∧ q.2.2.2.2.2.1 = false
  · left
    unfold vLcC vLcM
    rw [if_pos h1, if_pos h1, hq h1.2]
  · by_cases h2 : (vC b n a = 116 ∧ q.2.2.2.1 < 12) ∨ (vC b n a = 98 ∧ q.2.2.2.2.1 < 8)
    · have e1 : vLcC b n q a = ((vSpC b n (vX b n (a + 1))).1, (vSpC b n (vX b n (a + 1))).2.1, lwPut (vC b n a == 116) (vSpC b n (vX b n (a + 1))).2.2 q) := by
        unfold vLcC
        rw [if_neg h1, if_pos h2]
      have e2 : vLcM b n q a = ((vSpM b n (vX b n (a + 1))).1, (vSpM b n (vX b n (a + 1))).2.1, lwPut (vC b n a == 116) (vSpM b n (vX b n (a + 1))).2.2 q) := by
        unfold vLcM
        rw [if_neg h1, if_pos h2]
      have h3 : vSpC b n (vX b n (a + 1)) = vSpM b n (vX b n (a + 1)) ∨ ((vSpM b n (vX b n (a + 1))).1 = false ∧ vC b n (vSpC b n (vX b n (a + 1))).2.1 = 99) := by
        by_cases h4 : vC b n (vX b n (a + 1)) = 99
        · cases hn : vNd b n 0 29 2 false 0 (vX b n (vX b n (a + 1) + 1)) with
          | mk ok r =>
            obtain ⟨y, v⟩ := r
            cases ok with
            | false => left; rw [vSpC_b h4 hn, vSpM_b h4 hn]
            | true =>
              by_cases h5 : vC b n y = 99
              · right
                rw [vSpC_t h4 hn, vSpM_2 h4 hn h5]
                exact ⟨rfl, h5⟩
              · left
                rw [vSpC_t h4 hn, vSpM_t h4 hn (eq_false h5)]
        · left
          rw [vSpC_0 (eq_false h4), vSpM_0 (eq_false h4)]
      rw [e1, e2]
      rcases h3 with h3 | h3
      · left
        rw [h3]
      · right
        exact h3
    · left
      unfold vLcC vLcM
      rw [if_neg h1, if_neg h2, if_neg h1, if_neg h2]
theorem vLcM_us {b : Nat → Int} {n a : Int} {q : sgLwn} (hq : q.2.2.2.2.2.1 = false → q.1 = vUsu) : (vLcM b n q a).2.2.2.2.2.2.2.1 = false → (vLcM b n q a).2.2.1 = vUsu := by
  unfold vLcM
  split
  · intro h
    cases h
  · split
    · unfold lwPut
      cases (vC b n a == 116) with
      | true => exact hq
      | false => exact hq
    · exact hq
theorem vLn_cm {b : Nat → Int} {n : Int} (q : sgLwn) (a : Int) (hq : q.2.2.2.2.2.1 = false → q.1 = vUsu) (a1 : Int) (q1 : sgLwn) : (vLnC b n q a = (true, a1, q1) ∧ vC b n a1 = 0) ↔ (vLnM b n q a = (true, a1, q1) ∧ vC b n a1 = 0) := by
  rcases vLc_cm (b := b) (n := n) (a := a) hq with h | ⟨h1, h2⟩
  · by_cases hs : (vLcM b n q a).1 = true ∧ vC b n (vLcM b n q a).2.1 = 59 ∧ a < (vLcM b n q a).2.1 ∧ a < n
    · have e1 : vLnM b n q a = vLnM b n (vLcM b n q a).2.2 (vX b n ((vLcM b n q a).2.1 + 1)) := by
        conv => lhs; unfold vLnM
        rw [dif_pos hs]
      have e2 : vLnC b n q a = vLnC b n (vLcM b n q a).2.2 (vX b n ((vLcM b n q a).2.1 + 1)) := by
        conv => lhs; unfold vLnC
        rw [h, dif_pos hs]
      have h3 := hs.2.2
      have h4 := (vX_ge b n ((vLcM b n q a).2.1 + 1)).1
      rw [e1, e2]
      exact vLn_cm _ _ (vLcM_us hq) a1 q1
    · have e1 : vLnM b n q a = vLcM b n q a := by
        unfold vLnM
        rw [dif_neg hs]
      have e2 : vLnC b n q a = vLcM b n q a := by
        unfold vLnC
        rw [h, dif_neg hs]
      rw [e1, e2]
  · have e1 : vLnM b n q a = vLcM b n q a := by
      unfold vLnM
      rw [dif_neg (fun z => by rw [h1] at z; cases z.1)]
    have e2 : vLnC b n q a = vLcC b n q a := by
      unfold vLnC
      rw [dif_neg (fun z => by rw [h2] at z; exact absurd z.2.1 (by decide))]
    rw [e1, e2]
    constructor
    · rintro ⟨g1, g2⟩
      rw [g1] at h2
      rw [show (true, a1, q1).2.1 = a1 from rfl, g2] at h2
      exact absurd h2 (by decide)
    · rintro ⟨g1, -⟩
      rw [g1] at h1
      cases h1
termination_by (n - a).toNat
decreasing_by omega
