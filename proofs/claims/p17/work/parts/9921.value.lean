/-- what was told, read: the byte at a place (0: none), the next place that is no blank -/
def vC (b : Nat → Int) (n a : Int) : Int := if 0 ≤ a ∧ a < n then b a.toNat else 0
theorem vC_in {b : Nat → Int} {n a : Int} (h0 : 0 ≤ a) (h : a < n) : vC b n a = b a.toNat := if_pos ⟨h0, h⟩
theorem vC_out {b : Nat → Int} {n a : Int} (h : n ≤ a) : vC b n a = 0 := if_neg (by omega)
theorem vC_lt {b : Nat → Int} {n a : Int} (h : vC b n a ≠ 0) : 0 ≤ a ∧ a < n := by
  unfold vC at h
  by_cases c : 0 ≤ a ∧ a < n
  · exact c
  · rw [if_neg c] at h
    exact absurd rfl h
def vX (b : Nat → Int) (n a : Int) : Int := if h : vC b n a = 32 then vX b n (a + 1) else a
termination_by (n - a).toNat
decreasing_by
  have := vC_lt (b := b) (n := n) (a := a) (by omega)
  omega
theorem vX_on {b : Nat → Int} {n a : Int} (h : vC b n a = 32) : vX b n a = vX b n (a + 1) := by
  conv => lhs; unfold vX
  rw [dif_pos h]
theorem vX_at {b : Nat → Int} {n a : Int} (h : ¬ vC b n a = 32) : vX b n a = a := by
  unfold vX
  rw [dif_neg h]
theorem vX_ge (b : Nat → Int) (n a : Int) : a ≤ vX b n a ∧ (a ≤ n → vX b n a ≤ n) ∧ vC b n (vX b n a) ≠ 32 := by
  by_cases h : vC b n a = 32
  · have h1 := vC_lt (b := b) (n := n) (a := a) (by omega)
    have h2 := vX_ge b n (a + 1)
    rw [vX_on h]
    exact ⟨by omega, fun _ => h2.2.1 (by omega), h2.2.2⟩
  · rw [vX_at h]
    exact ⟨Int.le_refl _, fun h => h, h⟩
termination_by (n - a).toNat
decreasing_by omega
theorem vX_idem (b : Nat → Int) (n a : Int) : vX b n (vX b n a) = vX b n a := vX_at (vX_ge b n a).2.2
/-- what a reader says: taken, and where it stands behind; or where the FAULT is -/
abbrev Rs : Type := Bool × Int
def vB (r : Rs) (f : Int → Rs) : Rs := bif r.1 then f r.2 else r
theorem vB_t {a : Int} {f : Int → Rs} : vB (true, a) f = f a := rfl
theorem vB_f {a : Int} {f : Int → Rs} : vB (false, a) f = (false, a) := rfl
def vD (b : Nat → Int) (n c a : Int) : Rs := if vC b n a = c then (true, vX b n (a + 1)) else (false, a)
def vEn (b : Nat → Int) (n a : Int) : Rs := if vC b n a = 0 then (true, a) else (false, a)
/-- a loop: while one of the signs stands there, a step and once more -/
def vL (f : Int → Rs) (op : Int → Bool) (b : Nat → Int) (n a : Int) : Rs :=
  if op (vC b n a) = true then
    (if h : (f (vX b n (a + 1))).1 = true ∧ a < (f (vX b n (a + 1))).2 ∧ a < n then vL f op b n (f (vX b n (a + 1))).2 else (false, (f (vX b n (a + 1))).2))
  else (true, a)
termination_by (n - a).toNat
decreasing_by
  have := h.2
  omega
theorem vL_stop {f : Int → Rs} {op : Int → Bool} {b : Nat → Int} {n a : Int} (h : op (vC b n a) = false) : vL f op b n a = (true, a) := by
  unfold vL
  rw [h]
  rfl
theorem vL_step {f : Int → Rs} {op : Int → Bool} {b : Nat → Int} {n a a1 : Int} (h : op (vC b n a) = true) (hf : f (vX b n (a + 1)) = (true, a1)) (h1 : a < a1) (h2 : a < n) : vL f op b n a = vL f op b n a1 := by
  conv => lhs; unfold vL
  rw [if_pos h, hf, dif_pos ⟨rfl, h1, h2⟩]
theorem vL_bad {f : Int → Rs} {op : Int → Bool} {b : Nat → Int} {n a w : Int} (h : op (vC b n a) = true) (hf : f (vX b n (a + 1)) = (false, w)) : vL f op b n a = (false, w) := by
  unfold vL
  rw [if_pos h, hf, dif_neg (fun q => by cases q.1)]
/-- a number of at most so many digits, within bounds: taken, where, how much -/
def vNd (b : Nat → Int) (n lo hi : Int) : Nat → Bool → Int → Int → Bool × Int × Int
  | k, sme, v, a => if 48 ≤ vC b n a ∧ vC b n a ≤ 57 then (match k with
      | 0 => (false, a, 0)
      | k + 1 => vNd b n lo hi k true (v * 10 + vC b n a - 48) (a + 1))
    else if sme = false then (false, a, 0) else if v < lo ∨ hi < v then (false, a - 1, 0) else (true, vX b n a, v)
def vNu (b : Nat → Int) (n lo hi : Int) (k : Nat) (a : Int) : Rs := ((vNd b n lo hi k false 0 a).1, (vNd b n lo hi k false 0 a).2.1)
theorem vNd_more {b : Nat → Int} {n lo hi v a : Int} {k : Nat} {sme : Bool} (h1 : 48 ≤ vC b n a) (h2 : vC b n a ≤ 57) : vNd b n lo hi (k + 1) sme v a = vNd b n lo hi k true (v * 10 + vC b n a - 48) (a + 1) := by
  conv => lhs; unfold vNd
  rw [if_pos ⟨h1, h2⟩]
theorem vNd_many {b : Nat → Int} {n lo hi v a : Int} {sme : Bool} (h1 : 48 ≤ vC b n a) (h2 : vC b n a ≤ 57) : vNd b n lo hi 0 sme v a = (false, a, 0) := by
  unfold vNd
  rw [if_pos ⟨h1, h2⟩]
theorem vNd_none {b : Nat → Int} {n lo hi v a : Int} {k : Nat} (h : vC b n a < 48 ∨ 57 < vC b n a) : vNd b n lo hi k false v a = (false, a, 0) := by
  unfold vNd
  rw [if_neg (by omega), if_pos rfl]
theorem vNd_out {b : Nat → Int} {n lo hi v a : Int} {k : Nat} (h : vC b n a < 48 ∨ 57 < vC b n a) (h2 : v < lo ∨ hi < v) : vNd b n lo hi k true v a = (false, a - 1, 0) := by
  unfold vNd
  rw [if_neg (by omega), if_neg (by decide), if_pos h2]
theorem vNd_ok {b : Nat → Int} {n lo hi v a : Int} {k : Nat} (h : vC b n a < 48 ∨ 57 < vC b n a) (h2 : lo ≤ v) (h3 : v ≤ hi) : vNd b n lo hi k true v a = (true, vX b n a, v) := by
  unfold vNd
  rw [if_neg (by omega), if_neg (by decide), if_neg (by omega)]
/-- of an int and what it is -/
theorem vq_lt {x y : Int32} {a b : Int} (h : x < y) (hx : x.toInt = a) (hy : y.toInt = b) : a < b := by have := Int32.lt_iff_toInt_lt.mp h; omega
theorem vq_le {x y : Int32} {a b : Int} (h : x ≤ y) (hx : x.toInt = a) (hy : y.toInt = b) : ¬ b < a := by have := Int32.le_iff_toInt_le.mp h; omega
theorem vq_eq {x y : Int32} {a b : Int} (h : x = y) (hx : x.toInt = a) (hy : y.toInt = b) : a = b := by rw [← hx, ← hy, h]
theorem vq_ne {x y : Int32} {a b : Int} (h : ¬ x = y) (hx : x.toInt = a) (hy : y.toInt = b) : (a = b) = False := eq_false fun q => h (Int32.toInt_inj.mp (by omega))
theorem vq_iv {x : Int32} {a : Int} (h : iv a a x) : x.toInt = a := Int.le_antisymm h.2 h.1
theorem vq_of {x : Int32} {a lo hi : Int} (h : x.toInt = a) (h0 : lo ≤ a ∧ a ≤ hi) : iv lo hi x := ⟨by omega, by omega⟩
theorem vq_tp {ad ks : List Nat} {f : Nat → Int} {n a : Int} {i x : Int32} (h : okV ad ks (sg_tp f i.toNatClampNeg) (.int x)) (hi : i.toInt = a) (h0 : 0 ≤ a) (h1 : a < n) : x.toInt = vC f n a := by
  obtain ⟨y, h2, h3, h4⟩ := h
  cases h2
  dsimp only at h3 h4
  rw [vC_in h0 h1, ← hi]
  show x.toInt = f i.toInt.toNat
  exact Int.le_antisymm h4 h3
/-- the signs of a comparison, the letters of a sum, where a sign stands in a text -/
def vCm (c : Int) : Int := if c = 61 then -14 else if c = 60 then -15 else if c = 62 then -16 else 0
theorem vCm_ne {c : Int} (h : ¬ vCm c = 0) : c ≠ 0 := fun q => h (by rw [q]; decide)
def vIx (tb : List Int32) (c : Int) : Nat → Nat → Int
  | 0, _ => -1
  | n + 1, k => if (tb.getD k 0).toInt = c then (k : Int) else vIx tb c n (k + 1)
def vLet (c : Int) : Int := vIx [116, 114, 99, 98, 100, 111] c 6 0
theorem vCm_ne' {c : Int} (h : (vCm c = 0) = False) : c ≠ 0 := vCm_ne (of_eq_false h)
theorem vLet_ne {c : Int} (h : ¬ vLet c < 0) : c ≠ 0 := fun q => h (by rw [q]; decide +kernel)
/-- behind the digits -/
def vNe (b : Nat → Int) (n lo hi read v a : Int) : Bool × Int × Int := if read = 0 then (false, a, 0) else if v < lo ∨ hi < v then (false, a - 1, 0) else (true, vX b n a, v)
theorem vNd_end0 {b : Nat → Int} {n lo hi v v' a : Int} {k : Nat} (h : vC b n a < 48 ∨ 57 < vC b n a) : vNd b n lo hi k false v a = vNe b n lo hi 0 v' a := by
  rw [vNd_none h]
  unfold vNe
  rw [if_pos rfl]
theorem vNd_end1 {b : Nat → Int} {n lo hi r v a : Int} {k : Nat} (h : vC b n a < 48 ∨ 57 < vC b n a) (hr : 0 < r) : vNd b n lo hi k true v a = vNe b n lo hi r v a := by
  unfold vNd vNe
  rw [if_neg (by omega), if_neg (by decide), if_neg (show ¬ r = 0 by omega)]
theorem vq_240 {L a : Int} {x : Int32} (hl : 0 ≤ L ∧ L ≤ 240) (hb : 0 ≤ a ∧ a ≤ L) (hx : x.toInt = a) : iv 0 240 x := ⟨by omega, by omega⟩
theorem vq_239 {L a : Int} {x : Int32} (hl : 0 ≤ L ∧ L ≤ 240) (hb : 0 ≤ a ∧ a ≤ L) (h : a < L) (hx : x.toInt = a) : iv 0 239 x := ⟨by omega, by omega⟩
theorem vq_bd1 {L a : Int} (hb : 0 ≤ a ∧ a ≤ L) (h : a < L) : 0 ≤ (a + 1) ∧ (a + 1) ≤ L := by omega
theorem vq_pg0 (a : Int) : a + 0 ≤ a := by omega
theorem vq_pg {a k k2 x y m : Int} (h : a + k ≤ x) (hx : x + m ≤ y) (hk : k2 = k + m) : a + k2 ≤ y := by omega
theorem vq_pgw {a k k2 x : Int} (h : a + k ≤ x) (hk : decide (k2 ≤ k) = true) : a + k2 ≤ x := by have := of_decide_eq_true hk; omega
theorem vq_bd2 {L a a1 k : Int} (hb : 0 ≤ a ∧ a ≤ L) (hk : decide (0 ≤ k) = true) (h : a + k ≤ a1) (h1 : a1 ≤ L) : 0 ≤ a1 ∧ a1 ≤ L := by have := of_decide_eq_true hk; omega
theorem vq_bdX {b : Nat → Int} {L a : Int} (hb : 0 ≤ a ∧ a < L) : 0 ≤ vX b L (a + 1) ∧ vX b L (a + 1) ≤ L := by
  have h := vX_ge b L (a + 1)
  exact ⟨by have := h.1; omega, h.2.1 (by omega)⟩
theorem vq_bd0 {b : Nat → Int} {L : Int} (hb : 0 ≤ L) : 0 ≤ vX b L 0 ∧ vX b L 0 ≤ L := by
  have h := vX_ge b L 0
  exact ⟨h.1, h.2.1 hb⟩
theorem vq_57 {a : Int} {x : Int32} (hx : x.toInt = a) (h1 : ¬ a < 48) (h2 : ¬ 57 < a) : iv 48 57 x := ⟨by omega, by omega⟩
theorem vq_n48 {c : Int} (h : c = 0) : c < 48 ∨ 57 < c := by omega
theorem vC_by {b : Nat → Int} {n : Int} (h : ∀ j : Nat, (j : Int) < n → 1 ≤ b j ∧ b j ≤ 255) (a : Int) : 0 ≤ vC b n a ∧ vC b n a ≤ 255 := by
  unfold vC
  by_cases c : 0 ≤ a ∧ a < n
  · rw [if_pos c]
    have := h a.toNat (by omega)
    omega
  · rw [if_neg c]
    omega
theorem vq_255 {b : Nat → Int} {n a : Int} {x : Int32} (hx : x.toInt = vC b n a) (h : ∀ j : Nat, (j : Int) < n → 1 ≤ b j ∧ b j ≤ 255) : iv 0 255 x := by
  have := vC_by h a
  exact ⟨by omega, by omega⟩
theorem vq_i2c {f x : Int32} (e : f = (x.toUInt32 % 65536).toInt32) (h : iv 0 255 x) : f = x := by
  have h1 : ∀ n : Nat, n < 256 → ((Int32.ofNat n).toUInt32 % 65536).toInt32 = Int32.ofNat n := by decide +kernel
  obtain ⟨a, b⟩ := h
  have h2 := h1 x.toInt.toNat (by omega)
  have e2 : Int32.ofNat x.toInt.toNat = x := by
    apply Int32.toInt_inj.mp
    have h3 : (Int32.ofNat x.toInt.toNat).toInt = (x.toInt.toNat : Int) := Int32.toInt_ofNat_of_lt (by omega)
    omega
  rw [e2] at h2
  rw [e, h2]
/-- a byte of a text against a sign that was made a byte -/
theorem vq_b1 {f x y : Int32} (e : f = x.toInt8.toInt32) (hx : iv 0 255 x) (hy : iv 0 127 y) : y = f ↔ y.toInt = x.toInt := by
  have h1 : ∀ n : Nat, n < 256 → (Int32.ofNat n).toInt8.toInt32.toInt = if n < 128 then (n : Int) else (n : Int) - 256 := by decide +kernel
  obtain ⟨a, b⟩ := hx
  have h2 := h1 x.toInt.toNat (by omega)
  have e2 : Int32.ofNat x.toInt.toNat = x := by
    apply Int32.toInt_inj.mp
    have h3 : (Int32.ofNat x.toInt.toNat).toInt = (x.toInt.toNat : Int) := Int32.toInt_ofNat_of_lt (by omega)
    omega
  rw [e2, ← e] at h2
  obtain ⟨c, d⟩ := hy
  constructor
  · intro q
    rw [q] at c d ⊢
    split at h2 <;> omega
  · intro q
    apply Int32.toInt_inj.mp
    rw [h2, if_pos (by omega)]
    omega
theorem vq_beq {f x y : Int32} {a b : Int} (h : y = f) (e : f = x.toInt8.toInt32) (hx : iv 0 255 x) (hy : iv 0 127 y) (ha : y.toInt = a) (hb : x.toInt = b) : a = b := by
  rw [← ha, ← hb]
  exact (vq_b1 e hx hy).mp h
theorem vq_bne {f x y : Int32} {a b : Int} (h : ¬ y = f) (e : f = x.toInt8.toInt32) (hx : iv 0 255 x) (hy : iv 0 127 y) (ha : y.toInt = a) (hb : x.toInt = b) : (a = b) = False := by
  rw [← ha, ← hb]
  exact eq_false fun q => h ((vq_b1 e hx hy).mpr q)
def vRul (c : Int) : Int := vIx [119, 104, 113, 107, 108, 117, 120] c 7 0
/-- the reader of a LAW: an atom, a sum, a comparison, a unit, a condition, by how deep it may go still -/
def opS (c : Int) : Bool := c == 42 || c == 47 || c == 43 || c == 45
def opC (c : Int) : Bool := c == 38 || c == 124
def op59 (c : Int) : Bool := c == 59
theorem opS_42 {c : Int} (h : c = 42) : opS c = true := by rw [h]; rfl
theorem opS_47 {c : Int} (h : c = 47) : opS c = true := by rw [h]; rfl
theorem opS_43 {c : Int} (h : c = 43) : opS c = true := by rw [h]; rfl
theorem opS_45 {c : Int} (h : c = 45) : opS c = true := by rw [h]; rfl
theorem opS_no {c : Int} (h1 : (c = 42) = False) (h2 : (c = 47) = False) (h3 : (c = 43) = False) (h4 : (c = 45) = False) : opS c = false := by
  unfold opS
  rw [beq_false_of_ne (of_eq_false h1), beq_false_of_ne (of_eq_false h2), beq_false_of_ne (of_eq_false h3), beq_false_of_ne (of_eq_false h4)]
  rfl
theorem opC_38 {c : Int} (h : c = 38) : opC c = true := by rw [h]; rfl
theorem opC_124 {c : Int} (h : c = 124) : opC c = true := by rw [h]; rfl
theorem opC_no {c : Int} (h1 : (c = 38) = False) (h2 : (c = 124) = False) : opC c = false := by
  unfold opC
  rw [beq_false_of_ne (of_eq_false h1), beq_false_of_ne (of_eq_false h2)]
  rfl
def vAtom (b : Nat → Int) (n : Int) (rec : Int → Rs) (deep : Bool) (a : Int) : Rs :=
  if vC b n a = 91 then (bif deep then (false, a) else vB (rec (vX b n (a + 1))) (vD b n 93))
  else if vLet (vC b n a) < 0 then vNu b n 0 9999 4 a else (true, vX b n (a + 1))
def vAt (b : Nat → Int) (n : Int) : Nat → Int → Rs
  | 0, a => vAtom b n (fun a => (false, a)) true a
  | k + 1, a => vAtom b n (fun a => vB (vAt b n k a) (vL (vAt b n k) opS b n)) false a
def vSum (b : Nat → Int) (n : Int) (k : Nat) (a : Int) : Rs := vB (vAt b n k a) (vL (vAt b n k) opS b n)
def vCmp (b : Nat → Int) (n : Int) (k : Nat) (a : Int) : Rs := if vCm (vC b n a) = 0 then (false, a) else vSum b n k (vX b n (a + 1))
def vUn (b : Nat → Int) (n : Int) : Nat → Int → Rs
  | 0, a => if vC b n a = 33 then (false, a) else if vC b n a = 40 then (false, a) else vB (vSum b n 0 a) (vCmp b n 0)
  | k + 1, a => if vC b n a = 33 then vUn b n k (vX b n (a + 1)) else if vC b n a = 40 then vB (vB (vUn b n k (vX b n (a + 1))) (vL (vUn b n k) opC b n)) (vD b n 41) else vB (vSum b n (k + 1) a) (vCmp b n (k + 1))
def vCon (b : Nat → Int) (n : Int) (k : Nat) (a : Int) : Rs := vB (vUn b n k a) (vL (vUn b n k) opC b n)
def vCo (b : Nat → Int) (n : Int) (a : Int) : Rs := vB (vCon b n 6 a) fun a => vB (vD b n 63 a) (vSum b n 6)
def vCl (b : Nat → Int) (n : Int) (a : Int) : Rs := vB (vD b n 121 a) fun a => vB (vD b n 58 a) fun a =>
  if vC b n a = 33 then vCo b n a else if vC b n a = 40 then vCo b n a else vB (vSum b n 6 a) fun a => if vCm (vC b n a) = 0 then (true, a) else vB (vCmp b n 6 a) fun a => vB (vL (vUn b n 6) opC b n a) fun a => vB (vD b n 63 a) (vSum b n 6)
/-- so many at most, a sign between them -/
def vM (f : Int → Rs) (op : Int → Bool) (b : Nat → Int) (n : Int) : Nat → Int → Rs
  | 0, a => (true, a)
  | k + 1, a => vB (f a) fun a => bif op (vC b n a) then vM f op b n k (vX b n (a + 1)) else (true, a)
def vLaw (b : Nat → Int) (n : Int) : Rs := vB (vM (vCl b n) op59 b n 64 (vX b n 0)) (vEn b n)
theorem vAt_1 {b : Nat → Int} {n a : Int} : vAt b n 1 a = vAtom b n (vSum b n 0) false a := rfl
theorem vUn_1 {b : Nat → Int} {n a : Int} : vUn b n 1 a = if vC b n a = 33 then vUn b n 0 (vX b n (a + 1)) else if vC b n a = 40 then vB (vCon b n 0 (vX b n (a + 1))) (vD b n 41) else vB (vSum b n 1 a) (vCmp b n 1) := rfl
theorem vAt_2 {b : Nat → Int} {n a : Int} : vAt b n 2 a = vAtom b n (vSum b n 1) false a := rfl
theorem vUn_2 {b : Nat → Int} {n a : Int} : vUn b n 2 a = if vC b n a = 33 then vUn b n 1 (vX b n (a + 1)) else if vC b n a = 40 then vB (vCon b n 1 (vX b n (a + 1))) (vD b n 41) else vB (vSum b n 2 a) (vCmp b n 2) := rfl
theorem vAt_3 {b : Nat → Int} {n a : Int} : vAt b n 3 a = vAtom b n (vSum b n 2) false a := rfl
theorem vUn_3 {b : Nat → Int} {n a : Int} : vUn b n 3 a = if vC b n a = 33 then vUn b n 2 (vX b n (a + 1)) else if vC b n a = 40 then vB (vCon b n 2 (vX b n (a + 1))) (vD b n 41) else vB (vSum b n 3 a) (vCmp b n 3) := rfl
theorem vAt_4 {b : Nat → Int} {n a : Int} : vAt b n 4 a = vAtom b n (vSum b n 3) false a := rfl
theorem vUn_4 {b : Nat → Int} {n a : Int} : vUn b n 4 a = if vC b n a = 33 then vUn b n 3 (vX b n (a + 1)) else if vC b n a = 40 then vB (vCon b n 3 (vX b n (a + 1))) (vD b n 41) else vB (vSum b n 4 a) (vCmp b n 4) := rfl
theorem vAt_5 {b : Nat → Int} {n a : Int} : vAt b n 5 a = vAtom b n (vSum b n 4) false a := rfl
theorem vUn_5 {b : Nat → Int} {n a : Int} : vUn b n 5 a = if vC b n a = 33 then vUn b n 4 (vX b n (a + 1)) else if vC b n a = 40 then vB (vCon b n 4 (vX b n (a + 1))) (vD b n 41) else vB (vSum b n 5 a) (vCmp b n 5) := rfl
theorem vAt_6 {b : Nat → Int} {n a : Int} : vAt b n 6 a = vAtom b n (vSum b n 5) false a := rfl
theorem vUn_6 {b : Nat → Int} {n a : Int} : vUn b n 6 a = if vC b n a = 33 then vUn b n 5 (vX b n (a + 1)) else if vC b n a = 40 then vB (vCon b n 5 (vX b n (a + 1))) (vD b n 41) else vB (vSum b n 6 a) (vCmp b n 6) := rfl
theorem vAt_0 {b : Nat → Int} {n a : Int} : vAt b n 0 a = vAtom b n (fun a => (false, a)) true a := rfl
theorem vUn_0 {b : Nat → Int} {n a : Int} : vUn b n 0 a = if vC b n a = 33 then (false, a) else if vC b n a = 40 then (false, a) else vB (vSum b n 0 a) (vCmp b n 0) := rfl
theorem vq_z0 {a x : Int} (h : a + 1 ≤ x) (h0 : 0 ≤ a) : (0 : Int32).toInt + 1 ≤ x := by have : (0 : Int32).toInt = 0 := (by decide +kernel); omega
theorem vq_l1 {a x y : Int} (h : a + 1 ≤ x) (h1 : x + 1 ≤ y) : a < y := by omega
theorem vq_z1 {z y : Int32} {a x a1 : Int} (h : z.toInt + 1 ≤ a) (hy : y.toInt = z.toInt + 1) (h1 : a + 1 ≤ x) (h2 : x + 1 ≤ a1) : y.toInt + 1 ≤ a1 := by omega
theorem vq_y0 {x : Int} (h0 : 0 ≤ x) : 2 * (0 : Int32).toInt ≤ x := by have : (0 : Int32).toInt = 0 := (by decide +kernel); omega
theorem vq_y1 {z y : Int32} {a x a1 : Int} (h : 2 * z.toInt ≤ a) (hy : y.toInt = z.toInt + 1) (h1 : a + 1 ≤ x) (h2 : x + 1 ≤ a1) : 2 * y.toInt ≤ a1 := by omega
theorem vq_w0 {x : Int} (h0 : 0 ≤ x) : 4 * (0 : Int32).toInt ≤ x := by have : (0 : Int32).toInt = 0 := (by decide +kernel); omega
theorem vq_w1 {z y : Int32} {a x a1 : Int} (h : 4 * z.toInt ≤ a) (hy : y.toInt = z.toInt + 1) (h1 : a + 3 ≤ a1) (h2 : a1 + 1 ≤ x) : 4 * y.toInt ≤ x := by omega
theorem vq_dead {z : Int32} {L a : Int} (hb : 0 ≤ a ∧ a ≤ L) (hl : 0 ≤ L ∧ L ≤ 240) (h : ¬ z.toInt < 240) : ¬ z.toInt + 1 ≤ a := by omega
theorem vq_deadc {z : Int32} {L a : Int} (hb : 0 ≤ a ∧ a ≤ L) (hl : 0 ≤ L ∧ L ≤ 240) (h : ¬ z.toInt < 240) : ¬ 2 * z.toInt ≤ a := by omega
theorem vq_dead77 {z : Int32} {L a : Int} (hb : 0 ≤ a ∧ a ≤ L) (hl : 0 ≤ L ∧ L ≤ 240) (h : ¬ z.toInt < 64) : ¬ 4 * z.toInt ≤ a := by omega
theorem op59_no {c : Int} (h : (c = 59) = False) : op59 c = false := beq_false_of_ne (of_eq_false h)
theorem vM_bad {f : Int → Rs} {op : Int → Bool} {b : Nat → Int} {n a z m w : Int} (hz : z < m) (hf : f a = (false, w)) : vM f op b n (m - z).toNat a = (false, w) := by
  obtain ⟨k, hk⟩ : ∃ k, (m - z).toNat = k + 1 := ⟨(m - z).toNat - 1, by omega⟩
  rw [hk]
  show vB (f a) _ = _
  rw [hf]
  rfl
theorem vM_end {f : Int → Rs} {op : Int → Bool} {b : Nat → Int} {n a z m a1 : Int} (hz : z < m) (hf : f a = (true, a1)) (ho : op (vC b n a1) = false) : vM f op b n (m - z).toNat a = (true, a1) := by
  obtain ⟨k, hk⟩ : ∃ k, (m - z).toNat = k + 1 := ⟨(m - z).toNat - 1, by omega⟩
  rw [hk]
  show vB (f a) _ = _
  rw [hf, vB_t, ho]
  rfl
theorem vM_step {f : Int → Rs} {op : Int → Bool} {b : Nat → Int} {n a z m a1 : Int} {k1 : Nat} (hz : z < m) (hf : f a = (true, a1)) (ho : op (vC b n a1) = true) (hk1 : k1 = (m - z).toNat - 1) : vM f op b n (m - z).toNat a = vM f op b n k1 (vX b n (a1 + 1)) := by
  obtain ⟨k, hk⟩ : ∃ k, (m - z).toNat = k + 1 := ⟨(m - z).toNat - 1, by omega⟩
  rw [hk1, hk]
  show vB (f a) _ = _
  rw [hf, vB_t, ho]
  rfl
theorem vq_k64 {z y : Int32} {m : Int} (hz : z.toInt < m) (hy : y.toInt = z.toInt + 1) : (m - y.toInt).toNat = (m - z.toInt).toNat - 1 := by omega
/-- the reader of a GAME -/
def vCut1 (b : Nat → Int) (n a : Int) : Rs := if vC b n a - 48 < 1 then (false, a) else if 5 < vC b n a - 48 then (false, a) else (true, vX b n (a + 1))
def vCut (b : Nat → Int) (n a : Int) : Rs := if vC b n a = 114 then vCut1 b n (vX b n (a + 1)) else if vC b n a = 100 then vCut1 b n (vX b n (a + 1)) else (false, a)
def vMv (b : Nat → Int) (n a : Int) : Rs :=
  if vC b n a = 103 then (if vC b n (vX b n (a + 1)) = 63 then (true, vX b n (vX b n (a + 1) + 1)) else vNu b n 0 29 2 (vX b n (a + 1)))
  else if vC b n a = 99 then vB (vNu b n 0 29 2 (vX b n (a + 1))) (vCut b n)
  else if vC b n a = 109 then vNu b n 0 29 2 (vX b n (a + 1)) else if vC b n a = 120 then (true, vX b n (a + 1)) else (false, a)
def vGm (b : Nat → Int) (n : Int) : Nat → Int → Rs
  | 0, a => (true, a)
  | k + 1, a => vB (vMv b n a) fun a => if vC b n a = 59 ∧ k ≠ 0 then vGm b n k (vX b n (a + 1)) else (true, a)
def vGame (b : Nat → Int) (n : Int) : Rs := vB (vGm b n 16 (vX b n 0)) (vEn b n)
theorem vG_k {z m : Int} (hz : z < m) : ∃ k, (m - z).toNat = k + 1 := ⟨(m - z).toNat - 1, by omega⟩
theorem vG_bad {b : Nat → Int} {n a z m w : Int} (hz : z < m) (hf : vMv b n a = (false, w)) : vGm b n (m - z).toNat a = (false, w) := by
  obtain ⟨k, hk⟩ := vG_k hz
  rw [hk]
  show vB (vMv b n a) _ = _
  rw [hf]
  rfl
theorem vG_end {b : Nat → Int} {n a z m a1 : Int} (hz : z < m) (hf : vMv b n a = (true, a1)) (ho : (vC b n a1 = 59) = False ∨ z + 1 = m) : vGm b n (m - z).toNat a = (true, a1) := by
  obtain ⟨k, hk⟩ := vG_k hz
  rw [hk]
  show vB (vMv b n a) _ = _
  rw [hf, vB_t, if_neg]
  rintro ⟨h1, h2⟩
  rcases ho with h | h
  · exact of_eq_false h h1
  · omega
theorem vG_step {b : Nat → Int} {n a z m a1 : Int} {k1 : Nat} (hz : z < m) (hn : (z + 1 = m) = False) (hf : vMv b n a = (true, a1)) (ho : vC b n a1 = 59) (hk1 : k1 = (m - z).toNat - 1) : vGm b n (m - z).toNat a = vGm b n k1 (vX b n (a1 + 1)) := by
  obtain ⟨k, hk⟩ := vG_k hz
  have hn2 := of_eq_false hn
  rw [hk1, hk]
  show vB (vMv b n a) _ = _
  rw [hf, vB_t, if_pos ⟨ho, by omega⟩]
  rfl
theorem vq_g0 : (0 : Int32).toInt < 16 := by decide +kernel
theorem vq_g1 {z : Int} {y : Int32} (hz : z < 16) (hn : (z + 1 = 16) = False) (hy : y.toInt = z + 1) : y.toInt < 16 := by have := of_eq_false hn; omega
def KK10a (a1 a2 w1 w2 : Int) (P : sgPm) : sgK := .inl (10, [.inr (.inl (false, 42)), .inl (sgC240 (sgL1 P), sgC240 (sgL1 P)), .inl (a1, a2), .inl (w1, w2)])
/-- the class: where its tape stands, and the fault -/
def KA (a1 a2 w1 w2 : Int) (P : sgPm) : List sgK := [KK0 P, KK1 P, KK2 P, KK3 P, KK4 P, KK5 P, KK6 P, KK7 P, KK8 P, KK9 P, KK10a a1 a2 w1 w2 P, KK11 P, KK12 P, KK13 P, KK14 P, KK15 P, KK16 P, KK17 P, KK18 P, KK19 P, KK20 P, KK21 P, KK22 P, KK23 P, KK24 P, KK25 P, KK26 P, KK27 P, KK28 P, KK29 P, KK30 P, KK31 P, KK32 P, KK33 P, KK34 P, KK35 P, KK36 P, KK37 P, KK38 P, KK39 P, KK40 P, KK41 P, KK42 P, KK43 P, KK44 P, KK45 P, KK46 P, KK47 P, KK48 P, KK49 P, KK50 P, KK51 P, KK52 P, KK53 P, KK54 P, KK55 P, KK56 P, KK57 P, KK58 P, KK59 P, KK60 P, KK61 P, KK62 P, KK63 P, KK64 P, KK65 P, KK66 P, KK67 P]
theorem ka_of {D : va_G} {A : Nat → Prop} {tys : List (ClassId × FieldType)} {ad ks : List Nat} {H : Heap} {P : sgPm} (hG : sgG (KT P) D vwCl A tys ad ks H) : sgG (KA 0 240 (-2147483648) 2147483647 P) D vwCl A tys ad ks H := hG
theorem ka_weak {a1 a2 w1 w2 b1 b2 c1 c2 : Int} {D : va_G} {A : Nat → Prop} {tys : List (ClassId × FieldType)} {ad ks : List Nat} {H : Heap} {P : sgPm} (hG : sgG (KA a1 a2 w1 w2 P) D vwCl A tys ad ks H) (h1 : b1 ≤ a1) (h2 : a2 ≤ b2) (h3 : c1 ≤ w1) (h4 : w2 ≤ c2) : sgG (KA b1 b2 c1 c2 P) D vwCl A tys ad ks H := by
  refine sg_weak1 hG (k := 10) rfl rfl rfl (fun i t' ht => by match i, ht with
    | 0, ht => cases ht; exact ⟨_, rfl, fun v hv => hv⟩
    | 1, ht => cases ht; exact ⟨_, rfl, fun v hv => hv⟩
    | 2, ht => cases ht; exact ⟨_, rfl, fun v hv => by obtain ⟨x, g1, g2, g3⟩ := hv; exact ⟨x, g1, Int.le_trans h1 g2, Int.le_trans g3 h2⟩⟩
    | 3, ht => cases ht; exact ⟨_, rfl, fun v hv => by obtain ⟨x, g1, g2, g3⟩ := hv; exact ⟨x, g1, Int.le_trans h3 g2, Int.le_trans g3 h4⟩⟩
    | i + 4, ht => cases ht) (fun i hi => by match i, hi with
    | 0, hi => rfl
    | 1, hi => rfl
    | 2, hi => rfl
    | 3, hi => rfl
    | 4, hi => rfl
    | 5, hi => rfl
    | 6, hi => rfl
    | 7, hi => rfl
    | 8, hi => rfl
    | 9, hi => rfl
    | 10, hi => exact absurd rfl hi
    | 11, hi => rfl
    | 12, hi => rfl
    | 13, hi => rfl
    | 14, hi => rfl
    | 15, hi => rfl
    | 16, hi => rfl
    | 17, hi => rfl
    | 18, hi => rfl
    | 19, hi => rfl
    | 20, hi => rfl
    | 21, hi => rfl
    | 22, hi => rfl
    | 23, hi => rfl
    | 24, hi => rfl
    | 25, hi => rfl
    | 26, hi => rfl
    | 27, hi => rfl
    | 28, hi => rfl
    | 29, hi => rfl
    | 30, hi => rfl
    | 31, hi => rfl
    | 32, hi => rfl
    | 33, hi => rfl
    | 34, hi => rfl
    | 35, hi => rfl
    | 36, hi => rfl
    | 37, hi => rfl
    | 38, hi => rfl
    | 39, hi => rfl
    | 40, hi => rfl
    | 41, hi => rfl
    | 42, hi => rfl
    | 43, hi => rfl
    | 44, hi => rfl
    | 45, hi => rfl
    | 46, hi => rfl
    | 47, hi => rfl
    | 48, hi => rfl
    | 49, hi => rfl
    | 50, hi => rfl
    | 51, hi => rfl
    | 52, hi => rfl
    | 53, hi => rfl
    | 54, hi => rfl
    | 55, hi => rfl
    | 56, hi => rfl
    | 57, hi => rfl
    | 58, hi => rfl
    | 59, hi => rfl
    | 60, hi => rfl
    | 61, hi => rfl
    | 62, hi => rfl
    | 63, hi => rfl
    | 64, hi => rfl
    | 65, hi => rfl
    | 66, hi => rfl
    | 67, hi => rfl
    | i + 68, hi => rfl)
theorem ka_w {a1 a2 w1 w2 : Int} {D : va_G} {A : Nat → Prop} {tys : List (ClassId × FieldType)} {ad ks : List Nat} {H : Heap} {P : sgPm} (hG : sgG (KA a1 a2 w1 w2 P) D vwCl A tys ad ks H) : sgG (KA a1 a2 (max w1 (-2147483648)) (min w2 2147483647) P) D vwCl A tys ad ks H := by
  refine sg_weak1 hG (k := 10) rfl rfl rfl (fun i t' ht => by match i, ht with
    | 0, ht => cases ht; exact ⟨_, rfl, fun v hv => hv⟩
    | 1, ht => cases ht; exact ⟨_, rfl, fun v hv => hv⟩
    | 2, ht => cases ht; exact ⟨_, rfl, fun v hv => hv⟩
    | 3, ht => cases ht; exact ⟨_, rfl, fun v hv => by obtain ⟨x, g1, g2, g3⟩ := hv; have := iv_top x; exact ⟨x, g1, Int.max_le.mpr ⟨g2, this.1⟩, Int.le_min.mpr ⟨g3, this.2⟩⟩⟩
    | i + 4, ht => cases ht) (fun i hi => by match i, hi with
    | 0, hi => rfl
    | 1, hi => rfl
    | 2, hi => rfl
    | 3, hi => rfl
    | 4, hi => rfl
    | 5, hi => rfl
    | 6, hi => rfl
    | 7, hi => rfl
    | 8, hi => rfl
    | 9, hi => rfl
    | 10, hi => exact absurd rfl hi
    | 11, hi => rfl
    | 12, hi => rfl
    | 13, hi => rfl
    | 14, hi => rfl
    | 15, hi => rfl
    | 16, hi => rfl
    | 17, hi => rfl
    | 18, hi => rfl
    | 19, hi => rfl
    | 20, hi => rfl
    | 21, hi => rfl
    | 22, hi => rfl
    | 23, hi => rfl
    | 24, hi => rfl
    | 25, hi => rfl
    | 26, hi => rfl
    | 27, hi => rfl
    | 28, hi => rfl
    | 29, hi => rfl
    | 30, hi => rfl
    | 31, hi => rfl
    | 32, hi => rfl
    | 33, hi => rfl
    | 34, hi => rfl
    | 35, hi => rfl
    | 36, hi => rfl
    | 37, hi => rfl
    | 38, hi => rfl
    | 39, hi => rfl
    | 40, hi => rfl
    | 41, hi => rfl
    | 42, hi => rfl
    | 43, hi => rfl
    | 44, hi => rfl
    | 45, hi => rfl
    | 46, hi => rfl
    | 47, hi => rfl
    | 48, hi => rfl
    | 49, hi => rfl
    | 50, hi => rfl
    | 51, hi => rfl
    | 52, hi => rfl
    | 53, hi => rfl
    | 54, hi => rfl
    | 55, hi => rfl
    | 56, hi => rfl
    | 57, hi => rfl
    | 58, hi => rfl
    | 59, hi => rfl
    | 60, hi => rfl
    | 61, hi => rfl
    | 62, hi => rfl
    | 63, hi => rfl
    | 64, hi => rfl
    | 65, hi => rfl
    | 66, hi => rfl
    | 67, hi => rfl
    | i + 68, hi => rfl)
theorem ka_toKT {a1 a2 w1 w2 : Int} {D : va_G} {A : Nat → Prop} {tys : List (ClassId × FieldType)} {ad ks : List Nat} {H : Heap} {P : sgPm} (hG : sgG (KA a1 a2 w1 w2 P) D vwCl A tys ad ks H) (h1 : 0 ≤ a1) (h2 : a2 ≤ 240) : sgG (KT P) D vwCl A tys ad ks H := by
  have h := ka_w hG
  have h := ka_weak (b1 := 0) (b2 := 240) (c1 := -2147483648) (c2 := 2147483647) h h1 h2 (Int.le_max_right _ _) (Int.min_le_right _ _)
  exact h
section SGA
variable {p : Program} {l : Launch} {e : Env} {R : Room} {s : State} {m : MethodId} {args : Array Value} {below : List Frame} {meth : Method} {c : Code} {H : Heap} {locs : List Loc} {cells slots : Nat} {Q : State → Prop} {cc : ByteArray} {nL pc : Nat} {ls : Array Slot} {rest : List Value} {own : String} {D : va_G} {A : Nat → Prop} {tys : List (ClassId × FieldType)} {ad ks : List Nat} {P : sgPm} {H0 : Heap} {index : Nat} {a : Nat} {x : Int32} {a1 a2 w1 w2 b1 b2 : Int}
theorem pf_X10_2A (X : CallFix p m c cc nL s args sg_tbl own) (hK : va_K D vwCl tys s) (hG : sgG (KA a1 a2 w1 w2 P) D vwCl A tys ad ks H) (hS : va_S A H0 H locs) (ha : isK ad ks 10 a) (hl : Cond.fieldLink own index "LawnAhead$Tape" "at" "I" ∈ sg_tbl) (hv : iv b1 b2 x) (hdg : decode cc pc = .ok (.putfield index, 3))
    (kk : ∀ (H1 : Heap) (locs1 : List Loc), sgG (KA b1 b2 w1 w2 P) D vwCl A tys ad ks H1 → va_S A H0 H1 locs1 → W p l e R s m args below meth c H1 locs1 cells slots Q (F0 m (pc + 3) ls rest)) : W p l e R s m args below meth c H locs cells slots Q (F0 m pc ls (.int x :: .ref a :: rest)) :=
  sg_put1 (kt' := KA b1 b2 w1 w2 P) X hK hG hS ha (k := 10) (by decide) (ci := 10) (fts := [.inr (.inl (false, 42)), .inl (sgC240 (sgL1 P), sgC240 (sgL1 P)), .inl (a1, a2), .inl (w1, w2)]) (fts' := [.inr (.inl (false, 42)), .inl (sgC240 (sgL1 P), sgC240 (sgL1 P)), .inl (b1, b2), .inl (w1, w2)]) rfl rfl (C := RX10) (T := TX10) (N := 4) rfl inL_X10 tyX10 tyX10_ok nmX10 2 (by decide) rfl (t' := .inl (b1, b2)) rfl (fun i hi => by match i, hi with
    | 0, hi => rfl
    | 1, hi => rfl
    | 2, hi => exact absurd rfl hi
    | 3, hi => rfl
    | i + 4, hi => rfl) (fun i hi => by match i, hi with
    | 0, hi => rfl
    | 1, hi => rfl
    | 2, hi => rfl
    | 3, hi => rfl
    | 4, hi => rfl
    | 5, hi => rfl
    | 6, hi => rfl
    | 7, hi => rfl
    | 8, hi => rfl
    | 9, hi => rfl
    | 10, hi => exact absurd rfl hi
    | 11, hi => rfl
    | 12, hi => rfl
    | 13, hi => rfl
    | 14, hi => rfl
    | 15, hi => rfl
    | 16, hi => rfl
    | 17, hi => rfl
    | 18, hi => rfl
    | 19, hi => rfl
    | 20, hi => rfl
    | 21, hi => rfl
    | 22, hi => rfl
    | 23, hi => rfl
    | 24, hi => rfl
    | 25, hi => rfl
    | 26, hi => rfl
    | 27, hi => rfl
    | 28, hi => rfl
    | 29, hi => rfl
    | 30, hi => rfl
    | 31, hi => rfl
    | 32, hi => rfl
    | 33, hi => rfl
    | 34, hi => rfl
    | 35, hi => rfl
    | 36, hi => rfl
    | 37, hi => rfl
    | 38, hi => rfl
    | 39, hi => rfl
    | 40, hi => rfl
    | 41, hi => rfl
    | 42, hi => rfl
    | 43, hi => rfl
    | 44, hi => rfl
    | 45, hi => rfl
    | 46, hi => rfl
    | 47, hi => rfl
    | 48, hi => rfl
    | 49, hi => rfl
    | 50, hi => rfl
    | 51, hi => rfl
    | 52, hi => rfl
    | 53, hi => rfl
    | 54, hi => rfl
    | 55, hi => rfl
    | 56, hi => rfl
    | 57, hi => rfl
    | 58, hi => rfl
    | 59, hi => rfl
    | 60, hi => rfl
    | 61, hi => rfl
    | 62, hi => rfl
    | 63, hi => rfl
    | 64, hi => rfl
    | 65, hi => rfl
    | 66, hi => rfl
    | 67, hi => rfl
    | i + 68, hi => rfl) hl (fun _ h => h) rfl (ty := .int) rfl rfl rfl ⟨_, rfl, hv⟩ hdg kk
theorem gf_X10_2a (X : CallFix p m c cc nL s args sg_tbl own) (hK : va_K D vwCl tys s) (hG : sgG (KA a1 a2 w1 w2 P) D vwCl A tys ad ks H) (ha : isK ad ks 10 a) (hl : Cond.fieldLink own index "LawnAhead$Tape" "at" "I" ∈ sg_tbl) (hdg : decode cc pc = .ok (.getfield index, 3)) (kk : ∀ x : Int32, iv a1 a2 x → W p l e R s m args below meth c H locs cells slots Q (F0 m (pc + 3) ls (.int x :: rest))) : W p l e R s m args below meth c H locs cells slots Q (F0 m pc ls (.ref a :: rest)) :=
  sg_get X hK hG ha (k := 10) (ci := 10) rfl (C := RX10) (T := TX10) (N := 4) rfl inL_X10 2 (by decide) rfl hl (fun _ h => h) hdg (fun v hv hf => by obtain ⟨x, rfl, hx⟩ := hv; exact kk x hx)
theorem pf_X10_3A (X : CallFix p m c cc nL s args sg_tbl own) (hK : va_K D vwCl tys s) (hG : sgG (KA a1 a2 w1 w2 P) D vwCl A tys ad ks H) (hS : va_S A H0 H locs) (ha : isK ad ks 10 a) (hl : Cond.fieldLink own index "LawnAhead$Tape" "wrongAt" "I" ∈ sg_tbl) (hv : iv b1 b2 x) (hdg : decode cc pc = .ok (.putfield index, 3))
    (kk : ∀ (H1 : Heap) (locs1 : List Loc), sgG (KA a1 a2 b1 b2 P) D vwCl A tys ad ks H1 → va_S A H0 H1 locs1 → W p l e R s m args below meth c H1 locs1 cells slots Q (F0 m (pc + 3) ls rest)) : W p l e R s m args below meth c H locs cells slots Q (F0 m pc ls (.int x :: .ref a :: rest)) :=
  sg_put1 (kt' := KA a1 a2 b1 b2 P) X hK hG hS ha (k := 10) (by decide) (ci := 10) (fts := [.inr (.inl (false, 42)), .inl (sgC240 (sgL1 P), sgC240 (sgL1 P)), .inl (a1, a2), .inl (w1, w2)]) (fts' := [.inr (.inl (false, 42)), .inl (sgC240 (sgL1 P), sgC240 (sgL1 P)), .inl (a1, a2), .inl (b1, b2)]) rfl rfl (C := RX10) (T := TX10) (N := 4) rfl inL_X10 tyX10 tyX10_ok nmX10 3 (by decide) rfl (t' := .inl (b1, b2)) rfl (fun i hi => by match i, hi with
    | 0, hi => rfl
    | 1, hi => rfl
    | 2, hi => rfl
    | 3, hi => exact absurd rfl hi
    | i + 4, hi => rfl) (fun i hi => by match i, hi with
    | 0, hi => rfl
    | 1, hi => rfl
    | 2, hi => rfl
    | 3, hi => rfl
    | 4, hi => rfl
    | 5, hi => rfl
    | 6, hi => rfl
    | 7, hi => rfl
    | 8, hi => rfl
    | 9, hi => rfl
    | 10, hi => exact absurd rfl hi
    | 11, hi => rfl
    | 12, hi => rfl
    | 13, hi => rfl
    | 14, hi => rfl
    | 15, hi => rfl
    | 16, hi => rfl
    | 17, hi => rfl
    | 18, hi => rfl
    | 19, hi => rfl
    | 20, hi => rfl
    | 21, hi => rfl
    | 22, hi => rfl
    | 23, hi => rfl
    | 24, hi => rfl
    | 25, hi => rfl
    | 26, hi => rfl
    | 27, hi => rfl
    | 28, hi => rfl
    | 29, hi => rfl
    | 30, hi => rfl
    | 31, hi => rfl
    | 32, hi => rfl
    | 33, hi => rfl
    | 34, hi => rfl
    | 35, hi => rfl
    | 36, hi => rfl
    | 37, hi => rfl
    | 38, hi => rfl
    | 39, hi => rfl
    | 40, hi => rfl
    | 41, hi => rfl
    | 42, hi => rfl
    | 43, hi => rfl
    | 44, hi => rfl
    | 45, hi => rfl
    | 46, hi => rfl
    | 47, hi => rfl
    | 48, hi => rfl
    | 49, hi => rfl
    | 50, hi => rfl
    | 51, hi => rfl
    | 52, hi => rfl
    | 53, hi => rfl
    | 54, hi => rfl
    | 55, hi => rfl
    | 56, hi => rfl
    | 57, hi => rfl
    | 58, hi => rfl
    | 59, hi => rfl
    | 60, hi => rfl
    | 61, hi => rfl
    | 62, hi => rfl
    | 63, hi => rfl
    | 64, hi => rfl
    | 65, hi => rfl
    | 66, hi => rfl
    | 67, hi => rfl
    | i + 68, hi => rfl) hl (fun _ h => h) rfl (ty := .int) rfl rfl rfl ⟨_, rfl, hv⟩ hdg kk
theorem gf_X10_3a (X : CallFix p m c cc nL s args sg_tbl own) (hK : va_K D vwCl tys s) (hG : sgG (KA a1 a2 w1 w2 P) D vwCl A tys ad ks H) (ha : isK ad ks 10 a) (hl : Cond.fieldLink own index "LawnAhead$Tape" "wrongAt" "I" ∈ sg_tbl) (hdg : decode cc pc = .ok (.getfield index, 3)) (kk : ∀ x : Int32, iv w1 w2 x → W p l e R s m args below meth c H locs cells slots Q (F0 m (pc + 3) ls (.int x :: rest))) : W p l e R s m args below meth c H locs cells slots Q (F0 m pc ls (.ref a :: rest)) :=
  sg_get X hK hG ha (k := 10) (ci := 10) rfl (C := RX10) (T := TX10) (N := 4) rfl inL_X10 3 (by decide) rfl hl (fun _ h => h) hdg (fun v hv hf => by obtain ⟨x, rfl, hx⟩ := hv; exact kk x hx)
end SGA
