/-- what a move says: what, its cell, the way, how many -/
abbrev sgMq : Type := Int × Int × Int × Int
def pkI (a b c d : Int) : Int := (((((a * 31) + b) + 1) * 2) + c) * 6 + d
def pkQ (q : sgMq) : Int := pkI q.1 q.2.1 q.2.2.1 q.2.2.2
def vCw (b : Nat → Int) (n a : Int) : Int := if vC b n a = 100 then 1 else 0
def vCk (b : Nat → Int) (n a : Int) : Int := vC b n (vX b n (a + 1)) - 48
def vMq (b : Nat → Int) (n a : Int) : sgMq :=
  if vC b n a = 103 then (if vC b n (vX b n (a + 1)) = 63 then (0, -1, 0, 0) else (0, (vNd b n 0 29 2 false 0 (vX b n (a + 1))).2.2, 0, 0))
  else if vC b n a = 99 then (1, (vNd b n 0 29 2 false 0 (vX b n (a + 1))).2.2, vCw b n (vNd b n 0 29 2 false 0 (vX b n (a + 1))).2.1, vCk b n (vNd b n 0 29 2 false 0 (vX b n (a + 1))).2.1)
  else if vC b n a = 109 then (2, (vNd b n 0 29 2 false 0 (vX b n (a + 1))).2.2, 0, 0) else (3, -1, 0, 0)
/-- where the i-th move stands, what it says -/
def vGa (b : Nat → Int) (n : Int) : Nat → Int
  | 0 => vX b n 0
  | i + 1 => vX b n ((vMv b n (vGa b n i)).2 + 1)
def gmT (b : Nat → Int) (n : Int) (i : Nat) : sgMq := vMq b n (vGa b n i)
/-- so many moves there are -/
def gK (b : Nat → Int) (n : Int) (k : Nat) : Prop := (∀ j : Nat, j + 1 < k → vC b n (vMv b n (vGa b n j)).2 = 59) ∧ 1 ≤ k ∧ k ≤ 16 ∧ ¬ vC b n (vMv b n (vGa b n (k - 1))).2 = 59
theorem gK_fun {b : Nat → Int} {n : Int} {k k' : Nat} (h : gK b n k) (h' : gK b n k') : k = k' := by
  obtain ⟨h1, h2, h3, h4⟩ := h
  obtain ⟨g1, g2, g3, g4⟩ := h'
  rcases Nat.lt_trichotomy k k' with q | q | q
  · exact absurd (g1 (k - 1) (by omega)) h4
  · exact q
  · exact absurd (h1 (k' - 1) (by omega)) g4
section GCF
variable {b b2 : Nat → Int} {n : Int}
theorem vMq_cf (hc : vC b n = vC b2 n) : vMq b n = vMq b2 n := by
  funext a
  unfold vMq vCw vCk
  rw [hc, vX_cf hc, vNd_cf hc]
theorem vGa_cf (hc : vC b n = vC b2 n) : ∀ i : Nat, vGa b n i = vGa b2 n i := by
  intro i
  induction i with
  | zero =>
    show vX b n 0 = vX b2 n 0
    rw [vX_cf hc]
  | succ i ih =>
    show vX b n ((vMv b n (vGa b n i)).2 + 1) = vX b2 n ((vMv b2 n (vGa b2 n i)).2 + 1)
    rw [ih, vX_cf hc, vMv_cf hc]
theorem gmT_cf (hc : vC b n = vC b2 n) (i : Nat) : gmT b n i = gmT b2 n i := by
  unfold gmT
  rw [vMq_cf hc, vGa_cf hc]
theorem gK_cf (hc : vC b n = vC b2 n) {k : Nat} (h : gK b n k) : gK b2 n k := by
  obtain ⟨h1, h2, h3, h4⟩ := h
  refine ⟨fun j hj => ?_, h2, h3, ?_⟩
  · rw [← hc, ← vMv_cf hc, ← vGa_cf hc]
    exact h1 j hj
  · rw [← hc, ← vMv_cf hc, ← vGa_cf hc]
    exact h4
end GCF
theorem pk_of {r x0 x1 x2 x3 : Int32} {t0 t1 t2 t3 : Int} (h : r.toInt = pkI x0.toInt x1.toInt x2.toInt x3.toInt) (h0 : x0.toInt = t0) (h1 : x1.toInt = t1) (h2 : x2.toInt = t2) (h3 : x3.toInt = t3) : r.toInt = pkI t0 t1 t2 t3 := by rw [h, h0, h1, h2, h3]
/-- a number taken apart -/
def unI (m k : Int) : Int := if k = 0 then m / 12 / 31 else if k = 1 then m / 12 % 31 - 1 else if k = 2 then m / 6 % 2 else m % 6
def qAt (q : sgMq) (k : Int) : Int := if k = 0 then q.1 else if k = 1 then q.2.1 else if k = 2 then q.2.2.1 else q.2.2.2
def mqOk (q : sgMq) : Prop := (0 ≤ q.1 ∧ q.1 ≤ 3) ∧ (-1 ≤ q.2.1 ∧ q.2.1 ≤ 29) ∧ (0 ≤ q.2.2.1 ∧ q.2.2.1 ≤ 1) ∧ (0 ≤ q.2.2.2 ∧ q.2.2.2 ≤ 5)
theorem un_pk4 {a b c d : Int} (h : 0 ≤ a) (h3 : -1 ≤ b) (h4 : b ≤ 29) (h5 : 0 ≤ c) (h6 : c ≤ 1) (h7 : 0 ≤ d) (h8 : d ≤ 5) (k : Int) : unI (pkI a b c d) k = if k = 0 then a else if k = 1 then b else if k = 2 then c else d := by
  have e0 : pkI a b c d / 12 / 31 = a := by unfold pkI; omega
  have e1 : pkI a b c d / 12 % 31 - 1 = b := by unfold pkI; omega
  have e2 : pkI a b c d / 6 % 2 = c := by unfold pkI; omega
  have e3 : pkI a b c d % 6 = d := by unfold pkI; omega
  unfold unI
  rw [e0, e1, e2, e3]
theorem un_pk {q : sgMq} (h : mqOk q) (k : Int) : unI (pkQ q) k = qAt q k := by
  obtain ⟨⟨h1, h2⟩, ⟨h3, h4⟩, ⟨h5, h6⟩, h7, h8⟩ := h
  exact un_pk4 h1 h3 h4 h5 h6 h7 h8 k
theorem vNd_w {b : Nat → Int} {n lo hi : Int} {k : Nat} {s : Bool} {v a : Int} (h0 : lo ≤ 0) (h1 : 0 ≤ hi) (hd : vC b n a < 48 ∨ 57 < vC b n a) : lo ≤ (vNd b n lo hi k s v a).2.2 ∧ (vNd b n lo hi k s v a).2.2 ≤ hi := by
  cases s with
  | false =>
    rw [vNd_none hd]
    exact ⟨h0, h1⟩
  | true =>
    by_cases c : v < lo ∨ hi < v
    · rw [vNd_out hd c]
      exact ⟨h0, h1⟩
    · rw [vNd_ok hd (by omega) (by omega)]
      exact ⟨by show lo ≤ v; omega, by show v ≤ hi; omega⟩
theorem vNd_v {b : Nat → Int} {n lo hi : Int} (h0 : lo ≤ 0) (h1 : 0 ≤ hi) : ∀ (k : Nat) (s : Bool) (v a : Int), lo ≤ (vNd b n lo hi k s v a).2.2 ∧ (vNd b n lo hi k s v a).2.2 ≤ hi := by
  intro k
  induction k with
  | zero =>
    intro s v a
    by_cases c : vC b n a < 48 ∨ 57 < vC b n a
    · exact vNd_w h0 h1 c
    · rw [vNd_many (by omega) (by omega)]
      exact ⟨h0, h1⟩
  | succ k ih =>
    intro s v a
    by_cases c : vC b n a < 48 ∨ 57 < vC b n a
    · exact vNd_w h0 h1 c
    · rw [vNd_more (by omega) (by omega)]
      exact ih _ _ _
theorem mqOk_of {a b c d : Int} (h1 : 0 ≤ a ∧ a ≤ 3) (h2 : -1 ≤ b ∧ b ≤ 29) (h3 : 0 ≤ c ∧ c ≤ 1) (h4 : 0 ≤ d ∧ d ≤ 5) : mqOk (a, b, c, d) := ⟨h1, h2, h3, h4⟩
theorem vCut1_k {b : Nat → Int} {n x a1 : Int} (h : vCut1 b n x = (true, a1)) : 0 ≤ vC b n x - 48 ∧ vC b n x - 48 ≤ 5 := by
  by_cases c1 : vC b n x - 48 < 1
  · unfold vCut1 at h
    rw [if_pos c1] at h
    cases h
  · by_cases c2 : 5 < vC b n x - 48
    · unfold vCut1 at h
      rw [if_neg c1, if_pos c2] at h
      cases h
    · omega
theorem vCut_k {b : Nat → Int} {n x a1 : Int} (h : vCut b n x = (true, a1)) : 0 ≤ vCk b n x ∧ vCk b n x ≤ 5 := by
  unfold vCut at h
  unfold vCk
  by_cases c1 : vC b n x = 114
  · rw [if_pos c1] at h
    exact vCut1_k h
  · by_cases c2 : vC b n x = 100
    · rw [if_neg c1, if_pos c2] at h
      exact vCut1_k h
    · rw [if_neg c1, if_neg c2] at h
      cases h
theorem vCw_k {b : Nat → Int} {n x : Int} : 0 ≤ vCw b n x ∧ vCw b n x ≤ 1 := by
  unfold vCw
  split
  · exact ⟨by decide, by decide⟩
  · exact ⟨by decide, by decide⟩
theorem vB_y {r : Rs} {f : Int → Rs} {a : Int} (h : vB r f = (true, a)) : r.1 = true ∧ f r.2 = (true, a) := by
  obtain ⟨ok, x⟩ := r
  cases ok with
  | false =>
    have h : ((false, x) : Rs) = (true, a) := h
    cases h
  | true => exact ⟨rfl, h⟩
theorem mq_ok {b : Nat → Int} {n a a1 : Int} (h : vMv b n a = (true, a1)) : mqOk (vMq b n a) := by
  have hv := vNd_v (b := b) (n := n) (lo := 0) (hi := 29) (Int.le_refl 0) (by decide) 2 false 0 (vX b n (a + 1))
  have z1 : (0 : Int) ≤ 0 ∧ (0 : Int) ≤ 1 := by decide
  have z5 : (0 : Int) ≤ 0 ∧ (0 : Int) ≤ 5 := by decide
  have hw : -1 ≤ (vNd b n 0 29 2 false 0 (vX b n (a + 1))).2.2 ∧ (vNd b n 0 29 2 false 0 (vX b n (a + 1))).2.2 ≤ 29 := ⟨by omega, hv.2⟩
  unfold vMv at h
  unfold vMq
  by_cases h1 : vC b n a = 103
  · rw [if_pos h1]
    split
    · exact mqOk_of (by decide) (by decide) z1 z5
    · exact mqOk_of (by decide) hw z1 z5
  · rw [if_neg h1]
    rw [if_neg h1] at h
    by_cases h2 : vC b n a = 99
    · rw [if_pos h2]
      rw [if_pos h2] at h
      exact mqOk_of (by decide) hw vCw_k (vCut_k (vB_y h).2)
    · rw [if_neg h2]
      split
      · exact mqOk_of (by decide) hw z1 z5
      · exact mqOk_of (by decide) (by decide) z1 z5
theorem vGc_0 {c : Int} (h : vGc c = 0) : c = 103 := by
  by_cases q : c = 103
  · exact q
  by_cases q2 : c = 99
  · rw [q2] at h; exact absurd h (by decide +kernel)
  by_cases q3 : c = 109
  · rw [q3] at h; exact absurd h (by decide +kernel)
  by_cases q4 : c = 120
  · rw [q4] at h; exact absurd h (by decide +kernel)
  rw [vGc_no q q2 q3 q4] at h
  exact absurd h (by decide)
theorem vGc_1 {c : Int} (h : vGc c = 1) : c = 99 := by
  by_cases q2 : c = 99
  · exact q2
  by_cases q : c = 103
  · rw [q] at h; exact absurd h (by decide +kernel)
  by_cases q3 : c = 109
  · rw [q3] at h; exact absurd h (by decide +kernel)
  by_cases q4 : c = 120
  · rw [q4] at h; exact absurd h (by decide +kernel)
  rw [vGc_no q q2 q3 q4] at h
  exact absurd h (by decide)
theorem vGc_3 {c : Int} (h : vGc c = 3) : c = 120 := by
  by_cases q4 : c = 120
  · exact q4
  by_cases q : c = 103
  · rw [q] at h; exact absurd h (by decide +kernel)
  by_cases q2 : c = 99
  · rw [q2] at h; exact absurd h (by decide +kernel)
  by_cases q3 : c = 109
  · rw [q3] at h; exact absurd h (by decide +kernel)
  rw [vGc_no q q2 q3 q4] at h
  exact absurd h (by decide)
theorem vGc_2 {c : Int} (h1 : ¬ vGc c = -1) (h3 : ¬ vGc c = 3) (h0 : ¬ vGc c = 0) (h2 : ¬ vGc c = 1) : c = 109 ∧ vGc c = 2 := by
  by_cases q3 : c = 109
  · exact ⟨q3, by rw [q3]; decide +kernel⟩
  by_cases q : c = 103
  · rw [q] at h0; exact absurd (by decide +kernel) h0
  by_cases q2 : c = 99
  · rw [q2] at h2; exact absurd (by decide +kernel) h2
  by_cases q4 : c = 120
  · rw [q4] at h3; exact absurd (by decide +kernel) h3
  exact absurd (vGc_no q q2 q3 q4) h1
theorem vRd_w {c : Int} (h : ¬ vRd c = -1) : vRd c = (if c = 100 then 1 else 0) := by
  by_cases q : c = 100
  · rw [if_pos q, q]
    decide +kernel
  · rw [if_neg q]
    by_cases q2 : c = 114
    · rw [q2]
      decide +kernel
    · exact absurd (vRd_no q2 q) h
theorem mq_x {b : Nat → Int} {n a : Int} (h : vGc (vC b n a) = 3) : vMq b n a = (3, -1, 0, 0) := by
  have h := vGc_3 h
  unfold vMq
  rw [if_neg (by rw [h]; decide), if_neg (by rw [h]; decide), if_neg (by rw [h]; decide)]
theorem mq_q {b : Nat → Int} {n a : Int} (h : vGc (vC b n a) = 0) (h2 : vC b n (vX b n (a + 1)) = 63) : vMq b n a = (0, -1, 0, 0) := by
  unfold vMq
  rw [if_pos (vGc_0 h), if_pos h2]
theorem mq_g {b : Nat → Int} {n a a1 v : Int} (h : vGc (vC b n a) = 0) (h2 : ¬ vC b n (vX b n (a + 1)) = 63) (hn : vNd b n 0 29 2 false 0 (vX b n (a + 1)) = (true, a1, v)) : vMq b n a = (0, v, 0, 0) := by
  unfold vMq
  rw [if_pos (vGc_0 h), if_neg h2, hn] <;> rfl
theorem mq_m {b : Nat → Int} {n a a1 v : Int} (h : vC b n a = 109) (hn : vNd b n 0 29 2 false 0 (vX b n (a + 1)) = (true, a1, v)) : vMq b n a = (2, v, 0, 0) := by
  unfold vMq
  rw [if_neg (by rw [h]; decide), if_neg (by rw [h]; decide), if_pos h, hn] <;> rfl
theorem mq_c {b : Nat → Int} {n a a1 v w k : Int} (h : vGc (vC b n a) = 1) (hn : vNd b n 0 29 2 false 0 (vX b n (a + 1)) = (true, a1, v)) (hw : ¬ vRd (vC b n a1) = -1) (ew : w = vRd (vC b n a1)) (ek : k = vC b n (vX b n (a1 + 1)) - 48) : vMq b n a = (1, v, w, k) := by
  have h := vGc_1 h
  subst ew
  subst ek
  unfold vMq vCw vCk
  rw [if_neg (by rw [h]; decide), if_pos h, hn, vRd_w hw] <;> rfl
/-- what the class has told so far of a GAME -/
def gmI (b : Nat → Int) (n i a : Int) (f : Nat → Int × Int) : Prop := a = vGa b n i.toNat ∧ ∀ j : Nat, (j : Int) < i → vC b n (vMv b n (vGa b n j)).2 = 59 ∧ f j = (pkQ (gmT b n j), pkQ (gmT b n j)) ∧ mqOk (gmT b n j)
theorem gmI_0 {b : Nat → Int} {n i : Int} {f : Nat → Int × Int} (hi : i = 0) : gmI b n i (vX b n 0) f := by
  subst hi
  exact ⟨rfl, fun j hj => absurd hj (by omega)⟩
theorem gmI_s {b : Nat → Int} {n i y a a1 : Int} {f f2 : Nat → Int × Int} {k : Nat} (h : gmI b n i a f) (h0 : 0 ≤ i) (hm : vMv b n a = (true, a1)) (hc : vC b n a1 = 59) (hy : y = i + 1) (hk : k = i.toNat) (h1 : ∀ j : Nat, j ≠ k → f2 j = f j) (h2 : f2 k = (pkQ (vMq b n a), pkQ (vMq b n a))) : gmI b n y (vX b n (a1 + 1)) f2 := by
  obtain ⟨e, g⟩ := h
  subst hk
  subst hy
  have e1 : (i + 1).toNat = i.toNat + 1 := by omega
  refine ⟨?_, fun j hj => ?_⟩
  · rw [e1]
    show _ = vX b n ((vMv b n (vGa b n i.toNat)).2 + 1)
    rw [← e, hm]
  · by_cases c : j = i.toNat
    · subst c
      unfold gmT
      rw [← e, hm]
      exact ⟨hc, h2, mq_ok hm⟩
    · rw [h1 j c]
      exact g j (by omega)
theorem gmI_e {b : Nat → Int} {n i a a1 : Int} {f f2 : Nat → Int × Int} {k : Nat} (h : gmI b n i a f) (h0 : 0 ≤ i) (h16 : i < 16) (hm : vMv b n a = (true, a1)) (hc : ¬ vC b n a1 = 59) (hk : k = i.toNat) (h1 : ∀ j : Nat, j ≠ k → f2 j = f j) (h2 : f2 k = (pkQ (vMq b n a), pkQ (vMq b n a))) : gK b n (k + 1) ∧ ∀ j : Nat, j < k + 1 → f2 j = (pkQ (gmT b n j), pkQ (gmT b n j)) ∧ mqOk (gmT b n j) := by
  obtain ⟨e, g⟩ := h
  subst hk
  refine ⟨⟨fun j hj => (g j (by omega)).1, by omega, by omega, ?_⟩, fun j hj => ?_⟩
  · rw [Nat.add_sub_cancel, ← e, hm]
    exact hc
  · by_cases c : j = i.toNat
    · subst c
      unfold gmT
      rw [← e]
      exact ⟨h2, mq_ok hm⟩
    · rw [h1 j c]
      exact (g j (by omega)).2
/-- what the reference has told so far -/
def mqAt (f : Nat → Int × Int) (r : Nat) (q : sgMq) : Prop := f r = (q.1, q.1) ∧ f (r + 1) = (q.2.1, q.2.1) ∧ f (r + 2) = (q.2.2.1, q.2.2.1) ∧ f (r + 3) = (q.2.2.2, q.2.2.2)
theorem mqAt_sm {f f2 : Nat → Int × Int} {r m : Nat} {q : sgMq} (h : mqAt f r q) (hr : r + 3 < m) (hs : ∀ j : Nat, j < m → f2 j = f j) : mqAt f2 r q := by
  obtain ⟨h1, h2, h3, h4⟩ := h
  exact ⟨(hs _ (by omega)).trans h1, (hs _ (by omega)).trans h2, (hs _ (by omega)).trans h3, (hs _ hr).trans h4⟩
def gmJ (b : Nat → Int) (n i a : Int) (f : Nat → Int × Int) : Prop := vX b n a = vGa b n i.toNat ∧ ∀ j : Nat, (j : Int) < i → vC b n (vMv b n (vGa b n j)).2 = 59 ∧ mqAt f (256 + 4 * j) (gmT b n j)
theorem gmJ_0 {b : Nat → Int} {n i a : Int} {f : Nat → Int × Int} (hi : i = 0) (ha : vX b n a = vX b n 0) : gmJ b n i a f := by
  subst hi
  exact ⟨ha, fun j hj => absurd hj (by omega)⟩
theorem gmJ_s {b : Nat → Int} {n i y a x1 : Int} {f f2 : Nat → Int × Int} {r : Nat} (h : gmJ b n i a f) (h0 : 0 ≤ i) (hm : vMv b n (vX b n a) = (true, x1)) (hc : vC b n x1 = 59) (hy : y = i + 1) (hr : r = 256 + 4 * i.toNat) (h1 : ∀ j : Nat, j < r → f2 j = f j) (h2 : mqAt f2 r (vMq b n (vX b n a))) : gmJ b n y (x1 + 1) f2 := by
  obtain ⟨e, g⟩ := h
  subst hr
  subst hy
  have e1 : (i + 1).toNat = i.toNat + 1 := by omega
  refine ⟨?_, fun j hj => ?_⟩
  · rw [e1]
    show _ = vX b n ((vMv b n (vGa b n i.toNat)).2 + 1)
    rw [← e, hm]
  · by_cases c : j = i.toNat
    · subst c
      unfold gmT
      rw [← e, hm]
      exact ⟨hc, h2⟩
    · exact ⟨(g j (by omega)).1, mqAt_sm (g j (by omega)).2 (by omega) h1⟩
theorem gmJ_e {b : Nat → Int} {n i a x1 : Int} {f f2 : Nat → Int × Int} {r : Nat} (h : gmJ b n i a f) (h0 : 0 ≤ i) (h16 : i < 16) (hm : vMv b n (vX b n a) = (true, x1)) (hc : ¬ vC b n x1 = 59) (hr : r = 256 + 4 * i.toNat) (h1 : ∀ j : Nat, j < r → f2 j = f j) (h2 : mqAt f2 r (vMq b n (vX b n a))) : gK b n (i.toNat + 1) ∧ ∀ j : Nat, j < i.toNat + 1 → mqAt f2 (256 + 4 * j) (gmT b n j) := by
  obtain ⟨e, g⟩ := h
  subst hr
  refine ⟨⟨fun j hj => (g j (by omega)).1, by omega, by omega, ?_⟩, fun j hj => ?_⟩
  · rw [Nat.add_sub_cancel, ← e, hm]
    exact hc
  · by_cases c : j = i.toNat
    · subst c
      unfold gmT
      rw [← e]
      exact h2
    · exact mqAt_sm (g j (by omega)).2 (by omega) h1
