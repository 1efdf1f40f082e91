theorem vq_max {f x y : Int32} {a b : Int} (e : f = if x < y then y else x) (hx : x.toInt = a) (hy : y.toInt = b) : f.toInt = max a b := by
  rw [e]
  split
  · rename_i h
    have := Int32.lt_iff_toInt_lt.mp h
    omega
  · rename_i h
    have := Int32.le_iff_toInt_le.mp (iv_ge_of h)
    omega
