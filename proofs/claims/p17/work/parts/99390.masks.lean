/-- shifted to the right, nothing let in -/
def vShr (x y : Int32) : Int32 := (x.toUInt32 >>> (y.toUInt32 &&& Int32.toUInt32 31)).toInt32
def vNl (w : Int) : Nat → Int32
  | 0 => 0
  | c + 1 => if (c : Int) % w < w - 1 then vNl w c ||| lwBit c else vNl w c
def vNf (w : Int) : Nat → Int32
  | 0 => 0
  | c + 1 => if 0 < (c : Int) % w then vNf w c ||| lwBit c else vNf w c
/-- where a line may begin, one way -/
def vSw (f d : Int32) : Nat → Int32 → Int32
  | 0, s => s
  | k + 1, s => f &&& vShr (vSw f d k s) d
/-- where a line begins whose cells are all there -/
def vSb (s : Int32) (d : Int) (b : Int32) : Nat → Int32
  | 0 => s
  | k + 1 => vSb s d b k &&& vShr b (Int32.ofInt ((k : Int) * d))
def vAll (c : Int) : Int32 := ((1 : Int32) <<< (Int32.ofInt c &&& 31)) - 1
def vSd (w : Int) (k : Nat) : Int := if k = 0 then 1 else if k = 1 then w else if k = 2 then w + 1 else w - 1
def vFr (w c : Int) (k : Nat) : Int32 := if k = 1 then vAll c else if k = 3 then vNf w c.toNat else vNl w c.toNat
def vLs (w c L : Int) (k : Nat) : Int32 := vSw (vFr w c k) (Int32.ofInt (vSd w k)) (L - 1).toNat (vAll c)
def lnC (s : Int32) (w c L : Int) : Prop := ∃ k : Nat, k < 4 ∧ ¬ vSb (vLs w c L k) (vSd w k) s L.toNat = 0
def lwOkC (q : sgLwn) : Prop := q.2.2.2.2.2.2 = false ∧ (q.2.1 ||| q.2.2.1) &&& (vAll (q.1 0 * q.1 1) ^^^ (-1)) = 0 ∧ ¬ q.1 5 < q.1 4 ∧ ¬ lnC q.2.1 (q.1 0) (q.1 0 * q.1 1) (q.1 2)
theorem and0 (x : Int32) : (0 : Int32) &&& x = 0 := by
  apply Int32.toBitVec_inj.mp
  apply BitVec.eq_of_toNat_eq
  have e0 : (0 : Int32).toBitVec.toNat = 0 := by decide +kernel
  rw [show ((0 : Int32) &&& x : Int32).toBitVec.toNat = (0 : Int32).toBitVec.toNat &&& x.toBitVec.toNat from BitVec.toNat_and .., e0, Nat.zero_and]
theorem vSb_z {s b : Int32} {d : Int} {i j : Nat} (h : vSb s d b i = 0) (hij : i ≤ j) : vSb s d b j = 0 := by
  induction j with
  | zero =>
    rw [show i = 0 by omega] at h
    exact h
  | succ j ih =>
    by_cases e : i = j + 1
    · rw [← e]
      exact h
    · show vSb s d b j &&& _ = 0
      rw [ih (by omega), and0]
theorem vSw_s {f d s z z' : Int32} {i i' : Int32} (h : z = vSw f d (i.toInt - 1).toNat s) (hi : 1 ≤ i.toInt) (ei : i'.toInt = i.toInt + 1) (e : z' = f &&& vShr z d) : z' = vSw f d (i'.toInt - 1).toNat s := by
  rw [e, h, show (i'.toInt - 1).toNat = (i.toInt - 1).toNat + 1 by omega]
  rfl
theorem vSb_s {s b z z' : Int32} {d : Int} {i i' : Int32} (h : z = vSb s d b i.toInt.toNat) (hi : 0 ≤ i.toInt) (ei : i'.toInt = i.toInt + 1) (e : z' = z &&& vShr b (Int32.ofInt (i.toInt * d))) : z' = vSb s d b i'.toInt.toNat := by
  rw [e, h, show i'.toInt.toNat = i.toInt.toNat + 1 by omega]
  show _ = _ &&& vShr b (Int32.ofInt ((i.toInt.toNat : Int) * d))
  rw [show ((i.toInt.toNat : Nat) : Int) = i.toInt by omega]
theorem vNl_s {w : Int} {i i' z z' : Int32} (h : z = vNl w i.toInt.toNat) (hi : 0 ≤ i.toInt) (ei : i'.toInt = i.toInt + 1) (hz : (i.toInt % w < w - 1 ∧ z' = z ||| lwBit i.toInt) ∨ (¬ i.toInt % w < w - 1 ∧ z' = z)) : z' = vNl w i'.toInt.toNat := by
  rw [show i'.toInt.toNat = i.toInt.toNat + 1 by omega]
  unfold vNl
  rw [show ((i.toInt.toNat : Nat) : Int) = i.toInt by omega]
  rcases hz with ⟨g, e⟩ | ⟨g, e⟩
  · rw [if_pos g, e, h]
  · rw [if_neg g, e, h]
theorem vNf_s {w : Int} {i i' z z' : Int32} (h : z = vNf w i.toInt.toNat) (hi : 0 ≤ i.toInt) (ei : i'.toInt = i.toInt + 1) (hz : (0 < i.toInt % w ∧ z' = z ||| lwBit i.toInt) ∨ (¬ 0 < i.toInt % w ∧ z' = z)) : z' = vNf w i'.toInt.toNat := by
  rw [show i'.toInt.toNat = i.toInt.toNat + 1 by omega]
  unfold vNf
  rw [show ((i.toInt.toNat : Nat) : Int) = i.toInt by omega]
  rcases hz with ⟨g, e⟩ | ⟨g, e⟩
  · rw [if_pos g, e, h]
  · rw [if_neg g, e, h]
theorem lwBit_x {x : Int32} : (1 : Int32) <<< (x &&& 31) = lwBit x.toInt := by
  unfold lwBit
  rw [Int32.ofInt_toInt]
theorem zk_at {z : sgZg} {a k : Nat} {i x : Int32} (hk : i.toNatClampNeg = k) (h : iv (z a i.toNatClampNeg).1 (z a i.toNatClampNeg).2 x) : iv (z a k).1 (z a k).2 x := by
  rw [hk] at h
  exact h
theorem vq_pin {p : Int × Int} {t : Int} {x : Int32} (e : p = (t, t)) (h : iv p.1 p.2 x) : x.toInt = t := by
  rw [e] at h
  exact vq_iv h
theorem vq_n4 {x : Int32} (h : iv 0 3 x) : x.toNatClampNeg < 4 := by
  have h1 := h.1
  have h2 := h.2
  show x.toInt.toNat < 4
  omega
theorem vSd_iv {w : Int} {k : Nat} (h : 1 ≤ w ∧ w ≤ 6) : 0 ≤ vSd w k ∧ vSd w k ≤ 7 := by
  unfold vSd
  split
  · omega
  · split
    · omega
    · split
      · omega
      · omega
theorem vq_mod5 {a w : Int} (h : 1 ≤ w ∧ w ≤ 6) : 0 ≤ a % w ∧ a % w ≤ 5 := by
  have h1 := Int.emod_nonneg a (show w ≠ 0 by omega)
  have h2 := Int.emod_lt_of_pos a (show 0 < w by omega)
  omega
theorem ln_step {w c L : Int} {b z z' : Int32} (h : ∀ k : Nat, (k : Int) < z.toInt → vSb (vLs w c L k) (vSd w k) b L.toNat = 0) (e : z'.toInt = z.toInt + 1) (h0 : 0 ≤ z.toInt) (hz : vSb (vLs w c L z.toNatClampNeg) (vSd w z.toNatClampNeg) b L.toNat = 0) : ∀ k : Nat, (k : Int) < z'.toInt → vSb (vLs w c L k) (vSd w k) b L.toNat = 0 := by
  intro k hk
  by_cases q : (k : Int) < z.toInt
  · exact h k q
  · have e2 : z.toNatClampNeg = k := by
      show z.toInt.toNat = k
      omega
    rw [e2] at hz
    exact hz
theorem vq_c30 {w h : Int} (hw : 1 ≤ w ∧ w ≤ 6) (hh : 1 ≤ h ∧ h ≤ 5) : 1 ≤ w * h ∧ w * h ≤ 30 := by
  have h1 : w = 1 ∨ w = 2 ∨ w = 3 ∨ w = 4 ∨ w = 5 ∨ w = 6 := by omega
  rcases h1 with rfl | rfl | rfl | rfl | rfl | rfl <;> omega
theorem vq_r1 {a a1 : Int} (h : a + 1 ≤ a1) : a < a1 := by omega
theorem vEn_t {b : Nat → Int} {n a a1 : Int} (h : vEn b n a = (true, a1)) : vC b n a = 0 := by
  unfold vEn at h
  split at h
  · assumption
  · cases h
theorem vEn_f {b : Nat → Int} {n a w : Int} (h : vEn b n a = (false, w)) : ¬ vC b n a = 0 ∧ w = a := by
  unfold vEn at h
  split at h
  · cases h
  · rename_i g
    exact ⟨g, by cases h; rfl⟩
theorem vq_l3 {x y a1 : Int} (h1 : x + 1 ≤ y) (h2 : y + 1 ≤ a1) : x < a1 := by omega
theorem zgg_bb {b : Bool} {x : Int32} (h : iv (max 0 (bif b then 1 else 0)) (min 1 (bif b then 1 else 0)) x) : x.toInt = (bif b then 1 else 0) := by
  obtain ⟨h1, h2⟩ := h
  cases hb : b with
  | false => rw [hb] at h1 h2; exact Int.le_antisymm (Int.le_trans h2 (by decide)) (Int.le_trans (by decide) h1)
  | true => rw [hb] at h1 h2; exact Int.le_antisymm (Int.le_trans h2 (by decide)) (Int.le_trans (by decide) h1)
