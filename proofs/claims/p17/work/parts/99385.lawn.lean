/-- a lawn that is being read: rules, tufts, beds, how many of each, rules told, told twice -/
abbrev sgLwn : Type := (Nat → Int) × Int32 × Int32 × Int × Int × Bool × Bool
def fnUp (f : Nat → Int) (i : Nat) (v : Int) : Nat → Int := fun j => if j = i then v else f j
def vUsu (i : Nat) : Int := if i = 0 then 5 else if i = 1 then 4 else if i = 2 then 3 else if i = 3 then 2 else if i = 5 then 8 else 0
def vLst (i : Nat) : Int := if i = 0 then 1 else if i = 1 then 1 else if i = 2 then 2 else if i = 3 then 1 else 0
def vMst (i : Nat) : Int := if i = 0 then 6 else if i = 1 then 5 else if i = 2 then 5 else if i = 3 then 5 else if i = 6 then 1 else 8
def zQ (q : sgLwn) (o : sgO) : sgZt := (fun j => if j = 25 then (q.2.1.toInt, q.2.1.toInt) else if j = 26 then (q.2.2.1.toInt, q.2.2.1.toInt) else if j = 27 then (q.2.2.2.1, q.2.2.2.1) else if j = 28 then (q.2.2.2.2.1, q.2.2.2.2.1) else if j = 30 then ((bif q.2.2.2.2.2.1 then 1 else 0), (bif q.2.2.2.2.2.1 then 1 else 0)) else if j = 31 then ((bif q.2.2.2.2.2.2 then 1 else 0), (bif q.2.2.2.2.2.2 then 1 else 0)) else ((-2147483648), 2147483647), fun i => if i < 7 then (q.1 i, q.1 i) else ((-2147483648), 2147483647), o)
theorem zq_25 {q : sgLwn} {o : sgO} {v : Int32} : ((zUp (zQ q o).1 25 v.toInt, (zQ q o).2) : sgZt) = zQ (q.1, v, q.2.2) o := by
  refine Prod.ext ?_ rfl
  funext j
  show zUp (zQ q o).1 25 v.toInt j = (zQ (q.1, v, q.2.2) o).1 j
  unfold zUp
  by_cases h : j = 25
  · rw [if_pos h]
    subst h
    simp [zQ]
  · rw [if_neg h]
    by_cases h26 : j = 26
    · subst h26
      simp [zQ]
    by_cases h27 : j = 27
    · subst h27
      simp [zQ]
    by_cases h28 : j = 28
    · subst h28
      simp [zQ]
    by_cases h30 : j = 30
    · subst h30
      simp [zQ]
    by_cases h31 : j = 31
    · subst h31
      simp [zQ]
    simp only [zQ, if_neg h, if_neg h26, if_neg h27, if_neg h28, if_neg h30, if_neg h31]
theorem zq_26 {q : sgLwn} {o : sgO} {v : Int32} : ((zUp (zQ q o).1 26 v.toInt, (zQ q o).2) : sgZt) = zQ (q.1, q.2.1, v, q.2.2.2) o := by
  refine Prod.ext ?_ rfl
  funext j
  show zUp (zQ q o).1 26 v.toInt j = (zQ (q.1, q.2.1, v, q.2.2.2) o).1 j
  unfold zUp
  by_cases h : j = 26
  · rw [if_pos h]
    subst h
    simp [zQ]
  · rw [if_neg h]
    by_cases h25 : j = 25
    · subst h25
      simp [zQ]
    by_cases h27 : j = 27
    · subst h27
      simp [zQ]
    by_cases h28 : j = 28
    · subst h28
      simp [zQ]
    by_cases h30 : j = 30
    · subst h30
      simp [zQ]
    by_cases h31 : j = 31
    · subst h31
      simp [zQ]
    simp only [zQ, if_neg h, if_neg h25, if_neg h27, if_neg h28, if_neg h30, if_neg h31]
theorem zq_27 {q : sgLwn} {o : sgO} {v : Int} : ((zUp (zQ q o).1 27 v, (zQ q o).2) : sgZt) = zQ (q.1, q.2.1, q.2.2.1, v, q.2.2.2.2) o := by
  refine Prod.ext ?_ rfl
  funext j
  show zUp (zQ q o).1 27 v j = (zQ (q.1, q.2.1, q.2.2.1, v, q.2.2.2.2) o).1 j
  unfold zUp
  by_cases h : j = 27
  · rw [if_pos h]
    subst h
    simp [zQ]
  · rw [if_neg h]
    by_cases h25 : j = 25
    · subst h25
      simp [zQ]
    by_cases h26 : j = 26
    · subst h26
      simp [zQ]
    by_cases h28 : j = 28
    · subst h28
      simp [zQ]
    by_cases h30 : j = 30
    · subst h30
      simp [zQ]
    by_cases h31 : j = 31
    · subst h31
      simp [zQ]
    simp only [zQ, if_neg h, if_neg h25, if_neg h26, if_neg h28, if_neg h30, if_neg h31]
theorem zq_28 {q : sgLwn} {o : sgO} {v : Int} : ((zUp (zQ q o).1 28 v, (zQ q o).2) : sgZt) = zQ (q.1, q.2.1, q.2.2.1, q.2.2.2.1, v, q.2.2.2.2.2) o := by
  refine Prod.ext ?_ rfl
  funext j
  show zUp (zQ q o).1 28 v j = (zQ (q.1, q.2.1, q.2.2.1, q.2.2.2.1, v, q.2.2.2.2.2) o).1 j
  unfold zUp
  by_cases h : j = 28
  · rw [if_pos h]
    subst h
    simp [zQ]
  · rw [if_neg h]
    by_cases h25 : j = 25
    · subst h25
      simp [zQ]
    by_cases h26 : j = 26
    · subst h26
      simp [zQ]
    by_cases h27 : j = 27
    · subst h27
      simp [zQ]
    by_cases h30 : j = 30
    · subst h30
      simp [zQ]
    by_cases h31 : j = 31
    · subst h31
      simp [zQ]
    simp only [zQ, if_neg h, if_neg h25, if_neg h26, if_neg h27, if_neg h30, if_neg h31]
theorem zq_30 {q : sgLwn} {o : sgO} {v : Bool} : ((zUp (zQ q o).1 30 (bif v then 1 else 0), (zQ q o).2) : sgZt) = zQ (q.1, q.2.1, q.2.2.1, q.2.2.2.1, q.2.2.2.2.1, v, q.2.2.2.2.2.2) o := by
  refine Prod.ext ?_ rfl
  funext j
  show zUp (zQ q o).1 30 (bif v then 1 else 0) j = (zQ (q.1, q.2.1, q.2.2.1, q.2.2.2.1, q.2.2.2.2.1, v, q.2.2.2.2.2.2) o).1 j
  unfold zUp
  by_cases h : j = 30
  · rw [if_pos h]
    subst h
    simp [zQ]
  · rw [if_neg h]
    by_cases h25 : j = 25
    · subst h25
      simp [zQ]
    by_cases h26 : j = 26
    · subst h26
      simp [zQ]
    by_cases h27 : j = 27
    · subst h27
      simp [zQ]
    by_cases h28 : j = 28
    · subst h28
      simp [zQ]
    by_cases h31 : j = 31
    · subst h31
      simp [zQ]
    simp only [zQ, if_neg h, if_neg h25, if_neg h26, if_neg h27, if_neg h28, if_neg h31]
theorem zq_31 {q : sgLwn} {o : sgO} {v : Bool} : ((zUp (zQ q o).1 31 (bif v then 1 else 0), (zQ q o).2) : sgZt) = zQ (q.1, q.2.1, q.2.2.1, q.2.2.2.1, q.2.2.2.2.1, q.2.2.2.2.2.1, v) o := by
  refine Prod.ext ?_ rfl
  funext j
  show zUp (zQ q o).1 31 (bif v then 1 else 0) j = (zQ (q.1, q.2.1, q.2.2.1, q.2.2.2.1, q.2.2.2.2.1, q.2.2.2.2.2.1, v) o).1 j
  unfold zUp
  by_cases h : j = 31
  · rw [if_pos h]
    subst h
    simp [zQ]
  · rw [if_neg h]
    by_cases h25 : j = 25
    · subst h25
      simp [zQ]
    by_cases h26 : j = 26
    · subst h26
      simp [zQ]
    by_cases h27 : j = 27
    · subst h27
      simp [zQ]
    by_cases h28 : j = 28
    · subst h28
      simp [zQ]
    by_cases h30 : j = 30
    · subst h30
      simp [zQ]
    simp only [zQ, if_neg h, if_neg h25, if_neg h26, if_neg h27, if_neg h28, if_neg h30]
theorem zg_25 {q : sgLwn} {o : sgO} {x : Int32} (h : iv ((zQ q o).1 25).1 ((zQ q o).1 25).2 x) : x = q.2.1 := Int32.toInt_inj.mp (vq_iv h)
theorem zg_26 {q : sgLwn} {o : sgO} {x : Int32} (h : iv ((zQ q o).1 26).1 ((zQ q o).1 26).2 x) : x = q.2.2.1 := Int32.toInt_inj.mp (vq_iv h)
theorem zg_27 {q : sgLwn} {o : sgO} {x : Int32} (h : iv ((zQ q o).1 27).1 ((zQ q o).1 27).2 x) : x.toInt = q.2.2.2.1 := vq_iv h
theorem zg_28 {q : sgLwn} {o : sgO} {x : Int32} (h : iv ((zQ q o).1 28).1 ((zQ q o).1 28).2 x) : x.toInt = q.2.2.2.2.1 := vq_iv h
theorem zg_30 {q : sgLwn} {o : sgO} {x : Int32} (h : iv (max 0 ((zQ q o).1 30).1) (min 1 ((zQ q o).1 30).2) x) : x.toInt = (bif q.2.2.2.2.2.1 then 1 else 0) := by
  have h : iv (max 0 (bif q.2.2.2.2.2.1 then 1 else 0)) (min 1 (bif q.2.2.2.2.2.1 then 1 else 0)) x := h
  obtain ⟨h1, h2⟩ := h
  cases hb : q.2.2.2.2.2.1 with
  | false => rw [hb] at h1 h2; exact Int.le_antisymm (Int.le_trans h2 (by decide)) (Int.le_trans (by decide) h1)
  | true => rw [hb] at h1 h2; exact Int.le_antisymm (Int.le_trans h2 (by decide)) (Int.le_trans (by decide) h1)
theorem zg_31 {q : sgLwn} {o : sgO} {x : Int32} (h : iv (max 0 ((zQ q o).1 31).1) (min 1 ((zQ q o).1 31).2) x) : x.toInt = (bif q.2.2.2.2.2.2 then 1 else 0) := by
  have h : iv (max 0 (bif q.2.2.2.2.2.2 then 1 else 0)) (min 1 (bif q.2.2.2.2.2.2 then 1 else 0)) x := h
  obtain ⟨h1, h2⟩ := h
  cases hb : q.2.2.2.2.2.2 with
  | false => rw [hb] at h1 h2; exact Int.le_antisymm (Int.le_trans h2 (by decide)) (Int.le_trans (by decide) h1)
  | true => rw [hb] at h1 h2; exact Int.le_antisymm (Int.le_trans h2 (by decide)) (Int.le_trans (by decide) h1)
theorem zq_r {q : sgLwn} {o : sgO} {i : Nat} {v : Int} (hi : i < 7) : (((zQ q o).1, zUp (zQ q o).2.1 i v, (zQ q o).2.2) : sgZt) = zQ (fnUp q.1 i v, q.2) o := by
  refine Prod.ext rfl (Prod.ext ?_ rfl)
  funext j
  show zUp (zQ q o).2.1 i v j = (if j < 7 then (fnUp q.1 i v j, fnUp q.1 i v j) else _)
  unfold zUp fnUp
  by_cases h : j = i
  · rw [if_pos h, if_pos (by omega), if_pos h]
  · rw [if_neg h, if_neg h]
    rfl
def zO (v : Int) (o : sgO) : sgO := ((v, v), o.2)
theorem zq_o {q : sgLwn} {o : sgO} {v : Int} : (((zQ q o).1, (zQ q o).2.1, (v, v), (zQ q o).2.2.2) : sgZt) = zQ q (zO v o) := rfl
theorem zO_zO {v w : Int} {o : sgO} : zO v (zO w o) = zO v o := rfl
theorem zg_r {q : sgLwn} {o : sgO} {i x : Int32} {k : Nat} (hk : i.toNatClampNeg = k) (h7 : k < 7) (h : iv ((zQ q o).2.1 i.toNatClampNeg).1 ((zQ q o).2.1 i.toNatClampNeg).2 x) : x.toInt = q.1 k := by
  rw [hk] at h
  have h : iv (if k < 7 then (q.1 k, q.1 k) else ((-2147483648), 2147483647)).1 (if k < 7 then (q.1 k, q.1 k) else ((-2147483648), 2147483647)).2 x := h
  rw [if_pos h7] at h
  exact vq_iv h
/-- from nothing known to the start -/
def lw0 : sgLwn := (vUsu, 0, 0, 0, 0, false, false)
def lwBit (v : Int) : Int32 := (1 : Int32) <<< (Int32.ofInt v &&& 31)
def lwHas (s : Int32) (v : Int) : Bool := (s >>> (Int32.ofInt v &&& 31)) &&& 1 == 1
def lwPut (t : Bool) (v : Int) (q : sgLwn) : sgLwn :=
  bif t then (q.1, q.2.1 ||| lwBit v, q.2.2.1, q.2.2.2.1 + 1, q.2.2.2.2.1, q.2.2.2.2.2.1, q.2.2.2.2.2.2 || lwHas (q.2.1 ||| q.2.2.1) v)
  else (q.1, q.2.1, q.2.2.1 ||| lwBit v, q.2.2.2.1, q.2.2.2.2.1 + 1, q.2.2.2.2.2.1, q.2.2.2.2.2.2 || lwHas (q.2.1 ||| q.2.2.1) v)
/-- the rules, told by their letters: the reference's loop -/
def vRuM (b : Nat → Int) (n : Int) (told : Int32) (f : Nat → Int) (a : Int) : Bool × Int × (Nat → Int) :=
  if vRul (vC b n a) < 0 then (true, a, f)
  else if lwHas told (vRul (vC b n a)) = true then (false, a, f)
  else if h : (vNd b n (vLst (vRul (vC b n a)).toNat) (vMst (vRul (vC b n a)).toNat) 2 false 0 (vX b n (a + 1))).1 = true ∧ a < (vNd b n (vLst (vRul (vC b n a)).toNat) (vMst (vRul (vC b n a)).toNat) 2 false 0 (vX b n (a + 1))).2.1 ∧ a < n then
    vRuM b n (told ||| lwBit (vRul (vC b n a))) (fnUp f (vRul (vC b n a)).toNat (vNd b n (vLst (vRul (vC b n a)).toNat) (vMst (vRul (vC b n a)).toNat) 2 false 0 (vX b n (a + 1))).2.2) (vNd b n (vLst (vRul (vC b n a)).toNat) (vMst (vRul (vC b n a)).toNat) 2 false 0 (vX b n (a + 1))).2.1
  else (false, (vNd b n (vLst (vRul (vC b n a)).toNat) (vMst (vRul (vC b n a)).toNat) 2 false 0 (vX b n (a + 1))).2.1, f)
termination_by (n - a).toNat
decreasing_by
  have := h.2
  omega
/-- a spot: its cell, where one is told -/
def vSpM (b : Nat → Int) (n a : Int) : Bool × Int × Int :=
  if vC b n a = 99 then (if (vNd b n 0 29 2 false 0 (vX b n (a + 1))).1 = true then (if vC b n (vNd b n 0 29 2 false 0 (vX b n (a + 1))).2.1 = 99 then (false, (vNd b n 0 29 2 false 0 (vX b n (a + 1))).2.1, 0) else vNd b n 0 29 2 false 0 (vX b n (a + 1))) else (false, (vNd b n 0 29 2 false 0 (vX b n (a + 1))).2.1, 0))
  else (true, a, 0)
/-- a clause of the lawn's text, and the lawn behind it -/
def vLcM (b : Nat → Int) (n : Int) (q : sgLwn) (a : Int) : Bool × Int × sgLwn :=
  if vC b n a = 115 ∧ q.2.2.2.2.2.1 = false then
    ((vRuM b n 0 vUsu (vX b n (a + 1))).1, (vRuM b n 0 vUsu (vX b n (a + 1))).2.1, ((vRuM b n 0 vUsu (vX b n (a + 1))).2.2, q.2.1, q.2.2.1, q.2.2.2.1, q.2.2.2.2.1, true, q.2.2.2.2.2.2))
  else if (vC b n a = 116 ∧ q.2.2.2.1 < 12) ∨ (vC b n a = 98 ∧ q.2.2.2.2.1 < 8) then
    ((vSpM b n (vX b n (a + 1))).1, (vSpM b n (vX b n (a + 1))).2.1, lwPut (vC b n a == 116) (vSpM b n (vX b n (a + 1))).2.2 q)
  else (false, a, q)
theorem vq_oi {x : Int32} {a : Int} (h : x.toInt = a) : x = Int32.ofInt a := by rw [← h, Int32.ofInt_toInt]
theorem zb_t {x : Int32} {b : Bool} (h : x.toInt = (bif b then 1 else 0)) (c : ¬ x = 0) : b = true := by
  cases b
  · exact absurd (Int32.toInt_inj.mp h) c
  · rfl
theorem zb_f {x : Int32} {b : Bool} (h : x.toInt = (bif b then 1 else 0)) (c : x = 0) : b = false := by
  cases b
  · rfl
  · rw [c] at h
    exact absurd h (by decide)
theorem zb_01 {x : Int32} {b : Bool} (h : x.toInt = (bif b then 1 else 0)) : iv 0 1 x := by
  cases b
  · exact ⟨Int.le_of_eq h.symm, by have : x.toInt = 0 := h; omega⟩
  · exact ⟨by have : x.toInt = 1 := h; omega, Int.le_of_eq h⟩
theorem zq_us {f : Nat → Int} {r : Int32 × Int32 × Int × Int × Bool × Bool} {o : sgO} : zQ (fnUp (fnUp (fnUp (fnUp (fnUp (fnUp (fnUp f 0 5) 1 4) 2 3) 3 2) 4 0) 5 8) 6 0, r) o = zQ (vUsu, r) o := by
  refine Prod.ext rfl (Prod.ext ?_ rfl)
  funext i
  show (if i < 7 then _ else _) = (if i < 7 then _ else _)
  match i with
  | 0 => rfl
  | 1 => rfl
  | 2 => rfl
  | 3 => rfl
  | 4 => rfl
  | 5 => rfl
  | 6 => rfl
  | i + 7 => rw [if_neg (by omega), if_neg (by omega)]
theorem lwHas_t {s : Int32} {v : Int} (h : (s >>> (Int32.ofInt v &&& 31)) &&& 1 = 1) : lwHas s v = true := by unfold lwHas; rw [h]; rfl
theorem lwHas_f {s : Int32} {v : Int} (h : ((s >>> (Int32.ofInt v &&& 31)) &&& 1 = 1) = False) : lwHas s v = false := beq_false_of_ne (of_eq_false h)
theorem vRuM_no {b : Nat → Int} {n a : Int} {t : Int32} {f : Nat → Int} (h : vRul (vC b n a) < 0) : vRuM b n t f a = (true, a, f) := by
  unfold vRuM
  rw [if_pos h]
theorem vRuM_dup {b : Nat → Int} {n a : Int} {t : Int32} {f : Nat → Int} (h : ¬ vRul (vC b n a) < 0) (h2 : lwHas t (vRul (vC b n a)) = true) : vRuM b n t f a = (false, a, f) := by
  unfold vRuM
  rw [if_neg h, if_pos h2]
theorem vRuM_bad {b : Nat → Int} {n a w x k : Int} {t : Int32} {f : Nat → Int} (hk : vRul (vC b n a) = k) (h : 0 ≤ k) (h2 : lwHas t (vRul (vC b n a)) = false) (hn : vNd b n (vLst k.toNat) (vMst k.toNat) 2 false 0 (vX b n (a + 1)) = (false, w, x)) : vRuM b n t f a = (false, w, f) := by
  subst hk
  unfold vRuM
  rw [if_neg (by omega), if_neg (by rw [h2]; decide), hn, dif_neg (fun q => by cases q.1)]
theorem vRuM_step {b : Nat → Int} {n a a1 v k : Int} {t : Int32} {f : Nat → Int} (hk : vRul (vC b n a) = k) (h : 0 ≤ k) (h2 : lwHas t (vRul (vC b n a)) = false) (hn : vNd b n (vLst k.toNat) (vMst k.toNat) 2 false 0 (vX b n (a + 1)) = (true, a1, v)) (h3 : a < a1) (h4 : a < n) : vRuM b n t f a = vRuM b n (t ||| lwBit (vRul (vC b n a))) (fnUp f k.toNat v) a1 := by
  subst hk
  conv => lhs; unfold vRuM
  rw [if_neg (by omega), if_neg (by rw [h2]; decide), hn, dif_pos ⟨rfl, h3, h4⟩]
theorem vC1_t {c : Int} (h : vC1 c = 0) : c = 99 := by
  by_cases q : c = 99
  · exact q
  · have e : vC1 c = -1 := by
      unfold vC1
      have e1 : (([99] : List Int32).getD 0 0).toInt = 99 := by decide +kernel
      simp only [vIx, e1]
      rw [if_neg (fun z => q z.symm)]
    rw [e] at h
    exact absurd h (by decide)
theorem vC1_f {c : Int} (h : vC1 c = -1) : (c = 99) = False := eq_false fun q => by rw [q] at h; exact absurd h (by decide +kernel)
theorem vSpM_0 {b : Nat → Int} {n a : Int} (h : (vC b n a = 99) = False) : vSpM b n a = (true, a, 0) := if_neg (of_eq_false h)
theorem vSpM_b {b : Nat → Int} {n a w x : Int} (h : vC b n a = 99) (hn : vNd b n 0 29 2 false 0 (vX b n (a + 1)) = (false, w, x)) : vSpM b n a = (false, w, 0) := by
  unfold vSpM
  rw [if_pos h, hn, if_neg Bool.false_ne_true]
theorem vSpM_t {b : Nat → Int} {n a a1 v : Int} (h : vC b n a = 99) (hn : vNd b n 0 29 2 false 0 (vX b n (a + 1)) = (true, a1, v)) (h2 : (vC b n a1 = 99) = False) : vSpM b n a = (true, a1, v) := by
  unfold vSpM
  rw [if_pos h, hn, if_pos rfl, if_neg (of_eq_false h2)]
theorem vSpM_2 {b : Nat → Int} {n a a1 v : Int} (h : vC b n a = 99) (hn : vNd b n 0 29 2 false 0 (vX b n (a + 1)) = (true, a1, v)) (h2 : vC b n a1 = 99) : vSpM b n a = (false, a1, 0) := by
  unfold vSpM
  rw [if_pos h, hn, if_pos rfl, if_pos h2]
theorem vLcM_s {b : Nat → Int} {n a a1 : Int} {q : sgLwn} {ok : Bool} {f : Nat → Int} (h : vC b n a = 115) (h2 : q.2.2.2.2.2.1 = false) (hp : vRuM b n 0 vUsu (vX b n (a + 1)) = (ok, a1, f)) : vLcM b n q a = (ok, a1, (f, q.2.1, q.2.2.1, q.2.2.2.1, q.2.2.2.2.1, true, q.2.2.2.2.2.2)) := by
  unfold vLcM
  rw [if_pos ⟨h, h2⟩, hp]
theorem vLcM_p {b : Nat → Int} {n a a1 v : Int} {q : sgLwn} {ok : Bool} (h0 : ¬ vC b n a = 115) (h : (vC b n a = 116 ∧ q.2.2.2.1 < 12) ∨ (vC b n a = 98 ∧ q.2.2.2.2.1 < 8)) (hp : vSpM b n (vX b n (a + 1)) = (ok, a1, v)) : vLcM b n q a = (ok, a1, lwPut (vC b n a == 116) v q) := by
  unfold vLcM
  rw [if_neg (fun z => h0 z.1), if_pos h, hp]
theorem vLcM_n {b : Nat → Int} {n a : Int} {q : sgLwn} (h1 : ¬ (vC b n a = 115 ∧ q.2.2.2.2.2.1 = false)) (h : ¬ ((vC b n a = 116 ∧ q.2.2.2.1 < 12) ∨ (vC b n a = 98 ∧ q.2.2.2.2.1 < 8))) : vLcM b n q a = (false, a, q) := by
  unfold vLcM
  rw [if_neg h1, if_neg h]
theorem lwPut_t {v : Int} {q : sgLwn} {d : Bool} {c : Int} (hc : c = 116) (hd : (q.2.2.2.2.2.2 || lwHas (q.2.1 ||| q.2.2.1) v) = d) : lwPut (c == 116) v q = (q.1, q.2.1 ||| lwBit v, q.2.2.1, q.2.2.2.1 + 1, q.2.2.2.2.1, q.2.2.2.2.2.1, d) := by
  subst hc
  subst hd
  rfl
theorem lwPut_b {v : Int} {q : sgLwn} {d : Bool} {c : Int} (hc : c = 98) (hd : (q.2.2.2.2.2.2 || lwHas (q.2.1 ||| q.2.2.1) v) = d) : lwPut (c == 116) v q = (q.1, q.2.1, q.2.2.1 ||| lwBit v, q.2.2.2.1, q.2.2.2.2.1 + 1, q.2.2.2.2.2.1, d) := by
  subst hc
  subst hd
  rfl
theorem lw_d1 {a b : Bool} (h : a = true) : (a || b) = true := by rw [h]; rfl
theorem lw_d2 {a b : Bool} (h : b = true) : (a || b) = true := by rw [h, Bool.or_true]
theorem lw_d3 {a b : Bool} (h : a = false) (h2 : b = false) : (a || b) = false := by rw [h, h2]; rfl
theorem vRuM_bad2 {b : Nat → Int} {n a w x : Int} {t : Int32} {f : Nat → Int} (h : ¬ vRul (vC b n a) < 0) (h2 : lwHas t (vRul (vC b n a)) = false) (hn : vNd b n (vLst (vRul (vC b n a)).toNat) (vMst (vRul (vC b n a)).toNat) 2 false 0 (vX b n (a + 1)) = (false, w, x)) : vRuM b n t f a = (false, w, f) := vRuM_bad rfl (Int.not_lt.mp h) h2 hn
theorem vRuM_step2 {b : Nat → Int} {n a a1 v : Int} {t : Int32} {f : Nat → Int} (h : ¬ vRul (vC b n a) < 0) (h2 : lwHas t (vRul (vC b n a)) = false) (hn : vNd b n (vLst (vRul (vC b n a)).toNat) (vMst (vRul (vC b n a)).toNat) 2 false 0 (vX b n (a + 1)) = (true, a1, v)) (h3 : a < a1) (h4 : a < n) : vRuM b n t f a = vRuM b n (t ||| lwBit (vRul (vC b n a))) (fnUp f (vRul (vC b n a)).toNat v) a1 := vRuM_step rfl (Int.not_lt.mp h) h2 hn h3 h4
theorem vq_ix7 {x : Int32} {k : Int} (h : x.toInt = k) : x.toNatClampNeg = k.toNat := by
  show x.toInt.toNat = _
  rw [h]
theorem vq_neg {x : Int32} {k : Int} (h : x.toInt = k) (hx : iv 0 6 x) : ¬ k < 0 ∧ k.toNat < 7 := by
  have h1 := hx.1
  have h2 := hx.2
  omega
