/-- a GAME while it is read: what is known of it -/
theorem zc_1 {z : sgZg} {c : Int} {x f : Int32} (h : iv (max 0 (zSet z 5 1 c 5 1).1) (min 16 (zSet z 5 1 c 5 1).2) x) (h1 : iv 0 16 f) (h2 : f.toInt = c) : x.toInt = c := by
  have h : iv (max 0 c) (min 16 c) x := h
  obtain ⟨a1, a2⟩ := h
  obtain ⟨b1, b2⟩ := h1
  omega
theorem zc_2 {z : sgZg} {k : Nat} {v : Int} {i : Int32} (h0 : 0 ≤ i.toInt) : zSet (zSet z 6 k v) 5 1 (i.toInt + 1) 5 1 = (((i.toNatClampNeg + 1 : Nat) : Int), ((i.toNatClampNeg + 1 : Nat) : Int)) := by
  have e : ((i.toNatClampNeg + 1 : Nat) : Int) = i.toInt + 1 := by
    show ((i.toInt.toNat + 1 : Nat) : Int) = i.toInt + 1
    omega
  rw [e]
  rfl
theorem zs_n {z : sgZg} {k j : Nat} {v c : Int} (h : j ≠ k) : zSet (zSet z 6 k v) 5 1 c 6 j = z 6 j := by
  show (if j = k then (v, v) else z 6 j) = z 6 j
  rw [if_neg h]
theorem zs_y {z : sgZg} {k : Nat} {v c : Int} : zSet (zSet z 6 k v) 5 1 c 6 k = (v, v) := by
  show (if k = k then (v, v) else z 6 k) = (v, v)
  rw [if_pos rfl]
theorem vCw_1 {b : Nat → Int} {n a : Int} (h : vC b n a = 100) : vCw b n a = 1 := by
  unfold vCw
  rw [if_pos h]
theorem vCw_0 {b : Nat → Int} {n a : Int} (h : vC b n a = 114) : vCw b n a = 0 := by
  unfold vCw
  rw [if_neg (by rw [h]; decide)]
