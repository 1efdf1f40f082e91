/-- how far a row of tufts goes from a cell on, one way -/
def rwF (s : Int32) (w h dx dy : Int) : Nat → Int → Int → Int
  | 0, _, _ => 0
  | k + 1, x, y => if 0 ≤ x ∧ x < w ∧ y < h ∧ lwHas s (y * w + x) = true then 1 + rwF s w h dx dy k (x + dx) (y + dy) else 0
def rwDx (way : Int) : Int := if way = 0 then 1 else if way = 2 then 1 else if way = 3 then -1 else 0
def rwDy (way : Int) : Int := if way = 0 then 0 else 1
def rwV (s : Int32) (w h c way : Int) : Int := rwF s w h (rwDx way) (rwDy way) 12 (c % w) (c / w)
theorem rwF_s {s : Int32} {w h dx dy x y : Int} {k m : Nat} (hm : m = k + 1) (h1 : ¬ x < 0) (h2 : x < w) (h3 : y < h) (h4 : lwHas s (y * w + x) = true) : rwF s w h dx dy m x y = 1 + rwF s w h dx dy k (x + dx) (y + dy) := by
  subst hm
  show (if _ then _ else _) = _
  rw [if_pos ⟨Int.not_lt.mp h1, h2, h3, h4⟩]
theorem rwF_n {s : Int32} {w h dx dy x y : Int} {m : Nat} (hm : 0 < m) (hc : x < 0 ∨ ¬ x < w ∨ ¬ y < h ∨ lwHas s (y * w + x) = false) : rwF s w h dx dy m x y = 0 := by
  obtain ⟨k, rfl⟩ : ∃ k, m = k + 1 := ⟨m - 1, by omega⟩
  show (if _ then _ else _) = _
  rw [if_neg]
  rintro ⟨g1, g2, g3, g4⟩
  rcases hc with q | q | q | q
  · omega
  · exact q g2
  · exact q g3
  · rw [q] at g4
    cases g4
theorem vq_rem {f x y : Int32} {a b c d tx ty : Int} (e : f = x - x / y * y) (hx : iv a b x) (hy : iv c d y) (hd : decide (0 ≤ a ∧ 0 < c) = true) (e1 : x.toInt = tx) (e2 : y.toInt = ty) : f.toInt = tx % ty := by
  obtain ⟨h0, h1⟩ := of_decide_eq_true hd
  have := hx.1
  have h : (x - x / y * y).toInt = x.toInt % y.toInt := (i32_rem' x y).trans (Int.tmod_eq_emod_of_nonneg (by omega))
  rw [e, h, e1, e2]
theorem vq_div {f x y : Int32} {a b c d tx ty : Int} (e : f = x / y) (hx : iv a b x) (hy : iv c d y) (hd : decide (0 ≤ a ∧ 0 < c) = true) (e1 : x.toInt = tx) (e2 : y.toInt = ty) : f.toInt = tx / ty := by
  obtain ⟨h0, h1⟩ := of_decide_eq_true hd
  have x1 := hx.1
  have x2 := (iv_top x).2
  have y1 := hy.1
  have l0 : x.toInt.tdiv y.toInt = x.toInt / y.toInt := Int.tdiv_eq_ediv_of_nonneg (by omega)
  have l1 : 0 ≤ x.toInt / y.toInt := Int.ediv_nonneg (by omega) (by omega)
  have l3 : x.toInt / y.toInt ≤ x.toInt := Int.ediv_le_self _ (by omega)
  have h : (x / y).toInt = x.toInt / y.toInt := by
    rw [Int32.toInt_div, l0]
    exact Jvm.Kit.bmod32 (by omega) (by omega)
  rw [e, h, e1, e2]
/-- the longest so far is at least as long as each before a cell and a way, and one of them -/
def lgP (s : Int32) (w h m c way : Int) : Prop := ∀ L : Int, 1 ≤ L → (L ≤ m ↔ ∃ c1 w1 : Int, 0 ≤ c1 ∧ 0 ≤ w1 ∧ w1 < 4 ∧ (c1 < c ∨ (c1 = c ∧ w1 < way)) ∧ L ≤ rwV s w h c1 w1)
theorem lgP_0 {s : Int32} {w h : Int} : lgP s w h 0 0 0 := by
  intro L hL
  constructor
  · intro q
    omega
  · rintro ⟨c1, w1, h1, h2, h3, h4 | ⟨h4, h5⟩, h6⟩ <;> omega
theorem lgP_s {s : Int32} {w h m c way m2 : Int} (hp : lgP s w h m c way) (hc : 0 ≤ c) (h0 : 0 ≤ way) (h4 : way < 4) (hm : m2 = max m (rwV s w h c way)) : lgP s w h m2 c (way + 1) := by
  intro L hL
  have h1 := hp L hL
  constructor
  · intro q
    by_cases q1 : L ≤ m
    · obtain ⟨c1, w1, g1, g2, g3, g4, g5⟩ := h1.mp q1
      have h2 : c1 < c ∨ (c1 = c ∧ w1 < way + 1) := by
        clear h1
        omega
      exact ⟨c1, w1, g1, g2, g3, h2, g5⟩
    · have h2 : L ≤ rwV s w h c way := by
        clear h1
        omega
      have h3 : way < way + 1 := by
        clear h1
        omega
      exact ⟨c, way, hc, h0, h4, Or.inr ⟨rfl, h3⟩, h2⟩
  · rintro ⟨c1, w1, g1, g2, g3, g4, g5⟩
    by_cases q1 : c1 = c ∧ w1 = way
    · obtain ⟨rfl, rfl⟩ := q1
      rw [hm]
      exact Int.le_trans g5 (Int.le_max_right _ _)
    · have h2 : c1 < c ∨ (c1 = c ∧ w1 < way) := by
        clear h1
        omega
      rw [hm]
      exact Int.le_trans (h1.mpr ⟨c1, w1, g1, g2, g3, h2, g5⟩) (Int.le_max_left _ _)
theorem lgP_c {s : Int32} {w h m c : Int} (hp : lgP s w h m c 4) : lgP s w h m (c + 1) 0 := by
  intro L hL
  refine (hp L hL).trans ?_
  constructor
  · rintro ⟨c1, w1, g1, g2, g3, g4, g5⟩
    exact ⟨c1, w1, g1, g2, g3, by omega, g5⟩
  · rintro ⟨c1, w1, g1, g2, g3, g4, g5⟩
    exact ⟨c1, w1, g1, g2, g3, by omega, g5⟩
/-- there is a row as long -/
def lwLine (s : Int32) (w h L : Int) : Prop := ∃ c1 w1 : Int, 0 ≤ c1 ∧ c1 < w * h ∧ 0 ≤ w1 ∧ w1 < 4 ∧ L ≤ rwV s w h c1 w1
theorem lgP_e {s : Int32} {w h m c L : Int} (hp : lgP s w h m c 0) (hc : ¬ c < w * h) (hc2 : c ≤ w * h) (hL : 1 ≤ L) : L ≤ m ↔ lwLine s w h L := by
  have : c = w * h := by omega
  subst this
  refine (hp L hL).trans ?_
  constructor
  · rintro ⟨c1, w1, g1, g2, g3, g4, g5⟩
    exact ⟨c1, w1, g1, by omega, g2, g3, g5⟩
  · rintro ⟨c1, w1, g1, g2, g3, g4, g5⟩
    exact ⟨c1, w1, g1, g3, g4, by omega, g5⟩
/-- the lawn's text, clause by clause -/
def vLnM (b : Nat → Int) (n : Int) (q : sgLwn) (a : Int) : Bool × Int × sgLwn :=
  if h : (vLcM b n q a).1 = true ∧ vC b n (vLcM b n q a).2.1 = 59 ∧ a < (vLcM b n q a).2.1 ∧ a < n then vLnM b n (vLcM b n q a).2.2 (vX b n ((vLcM b n q a).2.1 + 1))
  else vLcM b n q a
termination_by (n - a).toNat
decreasing_by
  have h1 := h.2.2
  have h2 := (vX_ge b n ((vLcM b n q a).2.1 + 1)).1
  omega
theorem vLnM_end {b : Nat → Int} {n a a1 : Int} {q q1 : sgLwn} {ok : Bool} (hp : vLcM b n q a = (ok, a1, q1)) (h : ok = false ∨ (vC b n a1 = 59) = False) : vLnM b n q a = (ok, a1, q1) := by
  unfold vLnM
  rw [hp, dif_neg]
  rintro ⟨g1, g2, -⟩
  rcases h with h | h
  · rw [h] at g1
    cases g1
  · exact of_eq_false h g2
theorem vLnM_step {b : Nat → Int} {n a a1 : Int} {q q1 : sgLwn} (hp : vLcM b n q a = (true, a1, q1)) (h : vC b n a1 = 59) (h1 : a < a1) : vLnM b n q a = vLnM b n q1 (vX b n (a1 + 1)) := by
  have h2 := vC_lt (b := b) (n := n) (a := a1) (by rw [h]; decide)
  conv => lhs; unfold vLnM
  rw [hp, dif_pos ⟨rfl, h, h1, by omega⟩]
/-- is the lawn whole -/
def lwOk (q : sgLwn) : Prop := q.2.2.2.2.2.2 = false ∧ (q.2.1 ||| q.2.2.1) >>> (Int32.ofInt (q.1 0 * q.1 1) &&& 31) = 0 ∧ q.1 4 ≤ q.1 5 ∧ ¬ lwLine q.2.1 (q.1 0) (q.1 1) (q.1 2)
theorem lwOk_y {q : sgLwn} (h1 : q.2.2.2.2.2.2 = false) (h2 : (q.2.1 ||| q.2.2.1) >>> (Int32.ofInt (q.1 0 * q.1 1) &&& 31) = 0) (h3 : ¬ q.1 5 < q.1 4) (h4 : ¬ lwLine q.2.1 (q.1 0) (q.1 1) (q.1 2)) : lwOk q := ⟨h1, h2, Int.not_lt.mp h3, h4⟩
