theorem sg_und1 {N : Nat} {ad ks : List Nat} {k j : Int32} {v : Value} (hk : iv 0 9710 k) (e : j = k + 249) (h : okV ad ks (sg_now N (j.toNatClampNeg % 249)) v) : okV ad ks (sg_now N (k.toNatClampNeg % 249)) v := by
  have hj := iv_add (a' := 249) (b' := 9959) e hk (iv_c 249 (a := 249) (b := 249) (by decide +kernel)) (by decide +kernel)
  have c1 := iv_clamp hk (by decide +kernel)
  have c2 := iv_clamp hj (by decide +kernel)
  have s2 : (249 : Int32).toInt = 249 := by decide +kernel
  have s1 : (k + 249).toInt = k.toInt + (249 : Int32).toInt := Jvm.Kit.i32_add (by rw [s2]; have := hk.1; have := hk.2; omega) (by rw [s2]; have := hk.1; have := hk.2; omega)
  rw [← e] at s1
  have e2 : j.toNatClampNeg % 249 = k.toNatClampNeg % 249 := by omega
  rwa [e2] at h
theorem sg_und2 {N : Nat} {ad ks : List Nat} {a m k j : Int32} {v : Value} (ha : iv 0 39 a) (em : m = 249 * a) (hk : iv 0 248 k) (ej : j = m + k) (h : okV ad ks (sg_now N k.toNatClampNeg) v) : okV ad ks (sg_now N (j.toNatClampNeg % 249)) v := by
  have hm := iv_mul (a' := 0) (b' := 9711) em (iv_c 249 (a := 249) (b := 249) (by decide +kernel)) ha (by decide +kernel)
  have hj := iv_add (a' := 0) (b' := 9959) ej hm hk (by decide +kernel)
  have c1 := iv_clamp hk (by decide +kernel)
  have c2 := iv_clamp hj (by decide +kernel)
  have s2 : (249 : Int32).toInt = 249 := by decide +kernel
  have s1 : (249 * a).toInt = (249 : Int32).toInt * a.toInt := Jvm.Kit.i32_mul (by rw [s2]; have := ha.1; have := ha.2; omega) (by rw [s2]; have := ha.1; have := ha.2; omega)
  rw [← em, s2] at s1
  have s3 : (m + k).toInt = m.toInt + k.toInt := Jvm.Kit.i32_add (by have := hk.1; have := hm.1; omega) (by have := hk.2; have := hm.2; omega)
  rw [← ej] at s3
  have b1 := hk.1
  have b2 := hk.2
  have b3 := ha.1
  have e2 : j.toNatClampNeg % 249 = k.toNatClampNeg := by omega
  rwa [e2]
theorem sg_und3 {N : Nat} {ad ks : List Nat} {a m k j : Int32} {v : Value} (ha : iv 0 39 a) (em : m = 249 * a) (hk : iv 0 248 k) (ej : j = m + k) (h : okV ad ks (sg_now N (j.toNatClampNeg % 249)) v) : okV ad ks (sg_now N k.toNatClampNeg) v := by
  have hm := iv_mul (a' := 0) (b' := 9711) em (iv_c 249 (a := 249) (b := 249) (by decide +kernel)) ha (by decide +kernel)
  have hj := iv_add (a' := 0) (b' := 9959) ej hm hk (by decide +kernel)
  have c1 := iv_clamp hk (by decide +kernel)
  have c2 := iv_clamp hj (by decide +kernel)
  have s2 : (249 : Int32).toInt = 249 := by decide +kernel
  have s1 : (249 * a).toInt = (249 : Int32).toInt * a.toInt := Jvm.Kit.i32_mul (by rw [s2]; have := ha.1; have := ha.2; omega) (by rw [s2]; have := ha.1; have := ha.2; omega)
  rw [← em, s2] at s1
  have s3 : (m + k).toInt = m.toInt + k.toInt := Jvm.Kit.i32_add (by have := hk.1; have := hm.1; omega) (by have := hk.2; have := hm.2; omega)
  rw [← ej] at s3
  have b1 := hk.1
  have b2 := hk.2
  have b3 := ha.1
  have e2 : j.toNatClampNeg % 249 = k.toNatClampNeg := by omega
  rwa [← e2]
