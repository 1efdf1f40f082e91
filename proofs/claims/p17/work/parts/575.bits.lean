/-- how many bits are set -/
theorem pc_split (k : Nat) {h l M m : Nat} (hl : l < 2 ^ k) (hm : m < 2 ^ k) : (2 ^ k * h + l) &&& (2 ^ k * M + m) = 2 ^ k * (h &&& M) + (l &&& m) := by
  apply Nat.eq_of_testBit_eq
  intro i
  rw [Nat.testBit_and, Nat.testBit_two_pow_mul_add _ hl, Nat.testBit_two_pow_mul_add _ hm, Nat.testBit_two_pow_mul_add _ (Nat.and_lt_two_pow _ hm)]
  by_cases hi : i < k
  · rw [if_pos hi, if_pos hi, if_pos hi, Nat.testBit_and]
  · rw [if_neg hi, if_neg hi, if_neg hi, Nat.testBit_and]
theorem pc_lo (k : Nat) {q r m : Nat} (hr : r < 2 ^ k) (hm : m < 2 ^ k) : (2 ^ k * q + r) &&& m = r &&& m := by
  have h := pc_split k (h := q) (M := 0) hr hm
  rw [Nat.mul_zero, Nat.zero_add, Nat.and_zero, Nat.mul_zero, Nat.zero_add] at h
  exact h
theorem sg_pc_split (K h l : Nat) (hl : l < 2 ^ K) : ∀ k : Nat, sg_pc (K + k) (2 ^ K * h + l) = sg_pc k h + sg_pc K l := by
  intro k
  induction k with
  | zero =>
    have h1 : ∀ n : Nat, n ≤ K → sg_pc n (2 ^ K * h + l) = sg_pc n l := by
      intro n
      induction n with
      | zero => intro _; rfl
      | succ n ih =>
        intro hn
        have e : (2 ^ K * h + l).testBit n = l.testBit n := by
          rw [Nat.testBit_two_pow_mul_add _ hl]
          exact if_pos (by omega)
        show sg_pc n _ + _ = sg_pc n l + _
        rw [ih (by omega), e]
    show sg_pc K _ = 0 + _
    rw [h1 K (Nat.le_refl _), Nat.zero_add]
  | succ k ih =>
    have e : (2 ^ K * h + l).testBit (K + k) = h.testBit k := by
      rw [Nat.testBit_two_pow_mul_add _ hl, if_neg (by omega), show K + k - K = k by omega]
    show sg_pc (K + k) (2 ^ K * h + l) + (if (2 ^ K * h + l).testBit (K + k) = true then 1 else 0) = (sg_pc k h + (if h.testBit k = true then 1 else 0)) + sg_pc K l
    rw [ih, e]
    omega
-- eight bits
def pd_a (l : Nat) : Nat := l - (l / 2 &&& 0x55)
def pd_b (l : Nat) : Nat := (pd_a l &&& 0x33) + (pd_a l / 4 &&& 0x33)
def pd_c (l : Nat) : Nat := (pd_b l + pd_b l / 16) &&& 0x0f
theorem pd_all : ∀ b : Nat, b < 256 → (decide (pd_b b % 16 ≤ 6) && decide (pd_b b ≤ 0x66) && decide (pd_c b ≤ 8) && decide (pd_c b = sg_pc 8 b)) = true := by decide +kernel
theorem pd_of {l : Nat} (h : l < 256) : pd_b l % 16 ≤ 6 ∧ pd_b l ≤ 0x66 ∧ pd_c l ≤ 8 ∧ pd_c l = sg_pc 8 l := by
  have h1 := pd_all l h
  simp only [Bool.and_eq_true, decide_eq_true_eq] at h1
  obtain ⟨⟨⟨q1, q2⟩, q3⟩, q4⟩ := h1
  exact ⟨q1, q2, q3, q4⟩
theorem pd_aL {l : Nat} (hl : l < 256) : pd_a l < 256 := by unfold pd_a; omega
-- sixteen
def pc_a (l : Nat) : Nat := l - (l / 2 &&& 0x5555)
def pc_b (l : Nat) : Nat := (pc_a l &&& 0x3333) + (pc_a l / 4 &&& 0x3333)
def pc_c (l : Nat) : Nat := (pc_b l + pc_b l / 16) &&& 0x0f0f
theorem pd_stA {h l : Nat} (hl : l < 256) : pc_a (256 * h + l) = 256 * (h - (h / 2 &&& 0x55)) + pd_a l := by
  have e1 : (256 * h + l) / 2 = 2 ^ 8 * (h / 2) + (2 ^ 7 * (h % 2) + l / 2) := by omega
  have e2 : (2 ^ 7 * (h % 2) + l / 2) &&& 0x55 = l / 2 &&& 0x55 := pc_lo 7 (by omega) (by decide)
  have e3 := pc_split 8 (h := h / 2) (l := 2 ^ 7 * (h % 2) + l / 2) (M := 0x55) (m := 0x55) (by omega) (by decide)
  rw [e2] at e3
  have l1 : (h / 2 &&& 0x55) ≤ h / 2 := Nat.and_le_left
  have l2 : (l / 2 &&& 0x55) ≤ l / 2 := Nat.and_le_left
  unfold pc_a pd_a
  rw [e1, show (0x5555 : Nat) = 2 ^ 8 * 0x55 + 0x55 from rfl, e3]
  omega
theorem pd_stB {h l : Nat} (hl : l < 256) : pc_b (256 * h + l) = 256 * pd_b h + pd_b l := by
  have ha := pd_aL hl
  have e0 := pc_split 8 (h := pd_a h) (l := pd_a l) (M := 0x33) (m := 0x33) (by omega) (by decide)
  have e1 : (256 * pd_a h + pd_a l) / 4 = 2 ^ 8 * (pd_a h / 4) + (2 ^ 6 * (pd_a h % 4) + pd_a l / 4) := by omega
  have e2 : (2 ^ 6 * (pd_a h % 4) + pd_a l / 4) &&& 0x33 = pd_a l / 4 &&& 0x33 := pc_lo 6 (by omega) (by decide)
  have e3 := pc_split 8 (h := pd_a h / 4) (l := 2 ^ 6 * (pd_a h % 4) + pd_a l / 4) (M := 0x33) (m := 0x33) (by omega) (by decide)
  rw [e2] at e3
  have ea : pc_a (256 * h + l) = 256 * pd_a h + pd_a l := pd_stA hl
  unfold pc_b
  rw [ea, e1, show (0x3333 : Nat) = 2 ^ 8 * 0x33 + 0x33 from rfl, e3, show (256 * pd_a h + pd_a l) = 2 ^ 8 * pd_a h + pd_a l from rfl, e0]
  unfold pd_b
  omega
theorem pd_stC {h l : Nat} (hh : h < 256) (hl : l < 256) : pc_c (256 * h + l) = 256 * pd_c h + pd_c l := by
  obtain ⟨h1, h2, -⟩ := pd_of hh
  obtain ⟨h3, h4, -⟩ := pd_of hl
  have eb := pd_stB (h := h) hl
  have e1 : (256 * pd_b h + pd_b l) + (256 * pd_b h + pd_b l) / 16 = 2 ^ 8 * (pd_b h + pd_b h / 16) + (2 ^ 4 * (pd_b h % 16 + (pd_b l + pd_b l / 16) / 16) + (pd_b l + pd_b l / 16) % 16) := by omega
  have e2 : (2 ^ 4 * (pd_b h % 16 + (pd_b l + pd_b l / 16) / 16) + (pd_b l + pd_b l / 16) % 16) &&& 0x0f = (pd_b l + pd_b l / 16) % 16 &&& 0x0f := pc_lo 4 (by omega) (by decide)
  have e4 : (2 ^ 4 * ((pd_b l + pd_b l / 16) / 16) + (pd_b l + pd_b l / 16) % 16) &&& 0x0f = (pd_b l + pd_b l / 16) % 16 &&& 0x0f := pc_lo 4 (by omega) (by decide)
  have e5 : 2 ^ 4 * ((pd_b l + pd_b l / 16) / 16) + (pd_b l + pd_b l / 16) % 16 = pd_b l + pd_b l / 16 := by omega
  rw [e5] at e4
  have e3 := pc_split 8 (h := pd_b h + pd_b h / 16) (l := 2 ^ 4 * (pd_b h % 16 + (pd_b l + pd_b l / 16) / 16) + (pd_b l + pd_b l / 16) % 16) (M := 0x0f) (m := 0x0f) (by omega) (by decide)
  rw [e2, ← e4] at e3
  unfold pc_c
  rw [eb, e1, show (0x0f0f : Nat) = 2 ^ 8 * 0x0f + 0x0f from rfl, e3]
  rfl
theorem pd_x {p a b : Nat} (h : p = 256 * a + b) (hb : b < 256) : p / 256 = a ∧ p % 256 = b := by omega
theorem pd_y {p a b : Nat} (h : p = 256 * a + b) : p % 16 = b % 16 := by omega
theorem pc_of {l : Nat} (h : l < 65536) : pc_b l % 16 ≤ 6 ∧ pc_b l ≤ 0x6666 ∧ pc_c l % 256 ≤ 8 ∧ pc_c l / 256 ≤ 8 ∧ pc_c l % 256 + pc_c l / 256 = sg_pc 16 l := by
  have hh : l / 256 < 256 := by omega
  have hl : l % 256 < 256 := by omega
  have en : 256 * (l / 256) + l % 256 = l := by omega
  have hb := pd_stB (h := l / 256) hl
  have hc := pd_stC hh hl
  rw [en] at hb hc
  obtain ⟨p1, p2, p3, p4⟩ := pd_of hh
  obtain ⟨q1, q2, q3, q4⟩ := pd_of hl
  have hs := sg_pc_split 8 (l / 256) (l % 256) hl 8
  rw [show 2 ^ 8 * (l / 256) + l % 256 = l by omega] at hs
  have hs : sg_pc 16 l = sg_pc 8 (l / 256) + sg_pc 8 (l % 256) := hs
  obtain ⟨x1, x2⟩ := pd_x hc (by omega)
  rw [hs, x1, x2, pd_y hb, ← p4, ← q4]
  refine ⟨q1, ?_, q3, p3, by omega⟩
  rw [hb]
  omega
theorem pc_stA {h l : Nat} (hl : l < 65536) : (65536 * h + l) - ((65536 * h + l) / 2 &&& 0x55555555) = 65536 * pc_a h + pc_a l := by
  have e1 : (65536 * h + l) / 2 = 2 ^ 16 * (h / 2) + (2 ^ 15 * (h % 2) + l / 2) := by omega
  have e2 : (2 ^ 15 * (h % 2) + l / 2) &&& 0x5555 = l / 2 &&& 0x5555 := pc_lo 15 (by omega) (by decide)
  have e3 := pc_split 16 (h := h / 2) (l := 2 ^ 15 * (h % 2) + l / 2) (M := 0x5555) (m := 0x5555) (by omega) (by decide)
  rw [e2] at e3
  have l1 : (h / 2 &&& 0x5555) ≤ h / 2 := Nat.and_le_left
  have l2 : (l / 2 &&& 0x5555) ≤ l / 2 := Nat.and_le_left
  rw [e1, show (0x55555555 : Nat) = 2 ^ 16 * 0x5555 + 0x5555 from rfl, e3]
  unfold pc_a
  omega
theorem pc_aL {l : Nat} (hl : l < 65536) : pc_a l < 65536 := by unfold pc_a; omega
theorem pc_stB {h l : Nat} (hl : l < 65536) : ((65536 * pc_a h + pc_a l) &&& 0x33333333) + ((65536 * pc_a h + pc_a l) / 4 &&& 0x33333333) = 65536 * pc_b h + pc_b l := by
  have ha := pc_aL hl
  have e0 := pc_split 16 (h := pc_a h) (l := pc_a l) (M := 0x3333) (m := 0x3333) (by omega) (by decide)
  have e1 : (65536 * pc_a h + pc_a l) / 4 = 2 ^ 16 * (pc_a h / 4) + (2 ^ 14 * (pc_a h % 4) + pc_a l / 4) := by omega
  have e2 : (2 ^ 14 * (pc_a h % 4) + pc_a l / 4) &&& 0x3333 = pc_a l / 4 &&& 0x3333 := pc_lo 14 (by omega) (by decide)
  have e3 := pc_split 16 (h := pc_a h / 4) (l := 2 ^ 14 * (pc_a h % 4) + pc_a l / 4) (M := 0x3333) (m := 0x3333) (by omega) (by decide)
  rw [e2] at e3
  rw [e1, show (0x33333333 : Nat) = 2 ^ 16 * 0x3333 + 0x3333 from rfl, e3, show (65536 * pc_a h + pc_a l) = 2 ^ 16 * pc_a h + pc_a l from rfl, e0]
  unfold pc_b
  omega
theorem pc_stC {h l : Nat} (hh : h < 65536) (hl : l < 65536) : ((65536 * pc_b h + pc_b l) + (65536 * pc_b h + pc_b l) / 16) &&& 0x0f0f0f0f = 65536 * pc_c h + pc_c l := by
  obtain ⟨h1, h2, -⟩ := pc_of hh
  obtain ⟨h3, h4, -⟩ := pc_of hl
  have e1 : (65536 * pc_b h + pc_b l) + (65536 * pc_b h + pc_b l) / 16 = 2 ^ 16 * (pc_b h + pc_b h / 16) + (2 ^ 12 * (pc_b h % 16 + (pc_b l + pc_b l / 16) / 4096) + (pc_b l + pc_b l / 16) % 4096) := by omega
  have e2 : (2 ^ 12 * (pc_b h % 16 + (pc_b l + pc_b l / 16) / 4096) + (pc_b l + pc_b l / 16) % 4096) &&& 0x0f0f = (pc_b l + pc_b l / 16) % 4096 &&& 0x0f0f := pc_lo 12 (by omega) (by decide)
  have e4 : (2 ^ 12 * ((pc_b l + pc_b l / 16) / 4096) + (pc_b l + pc_b l / 16) % 4096) &&& 0x0f0f = (pc_b l + pc_b l / 16) % 4096 &&& 0x0f0f := pc_lo 12 (by omega) (by decide)
  have e5 : 2 ^ 12 * ((pc_b l + pc_b l / 16) / 4096) + (pc_b l + pc_b l / 16) % 4096 = pc_b l + pc_b l / 16 := by omega
  rw [e5] at e4
  have e3 := pc_split 16 (h := pc_b h + pc_b h / 16) (l := 2 ^ 12 * (pc_b h % 16 + (pc_b l + pc_b l / 16) / 4096) + (pc_b l + pc_b l / 16) % 4096) (M := 0x0f0f) (m := 0x0f0f) (by omega) (by decide)
  rw [e2, ← e4] at e3
  rw [e1, show (0x0f0f0f0f : Nat) = 2 ^ 16 * 0x0f0f + 0x0f0f from rfl, e3]
  rfl
theorem pc_fin {a0 a1 a2 a3 c d e : Nat} (h0 : a0 ≤ 8) (h1 : a1 ≤ 8) (h2 : a2 ≤ 8) (h3 : a3 ≤ 8) (hc : c = a0 + 256 * a1 + 65536 * a2 + 16777216 * a3) (hd : d = c + c / 256) (he : e = d + d / 65536) : e % 64 = a0 + a1 + a2 + a3 := by
  have hc2 : c / 256 = a1 + 256 * a2 + 65536 * a3 := by omega
  have hd2 : d = (a0 + a1) + 256 * (a1 + a2) + 65536 * (a2 + a3) + 16777216 * a3 := by omega
  have he2 : d / 65536 = (a2 + a3) + 256 * a3 := by omega
  omega
theorem pc_nat {n a b c d e r : Nat} (hn : n < 4294967296) (ea : a = n - (n / 2 &&& 0x55555555)) (eb : b = (a &&& 0x33333333) + (a / 4 &&& 0x33333333)) (ec : c = (b + b / 16) &&& 0x0f0f0f0f) (ed : d = c + c / 256) (ee : e = d + d / 65536) (er : r = e &&& 0x3f) : r = sg_pc 32 n := by
  have hh : n / 65536 < 65536 := by omega
  have hl : n % 65536 < 65536 := by omega
  have en : n = 65536 * (n / 65536) + n % 65536 := by omega
  have h1 := pc_stA (h := n / 65536) hl
  rw [← en, ← ea] at h1
  have h2 := pc_stB (h := n / 65536) hl
  rw [← h1, ← eb] at h2
  have h3 := pc_stC hh hl
  rw [← h2, ← ec] at h3
  obtain ⟨-, -, p1, p2, p3⟩ := pc_of hh
  obtain ⟨-, -, p4, p5, p6⟩ := pc_of hl
  have h4 := sg_pc_split 16 (n / 65536) (n % 65536) hl 16
  rw [show 2 ^ 16 * (n / 65536) + n % 65536 = n by omega] at h4
  have h4 : sg_pc 32 n = sg_pc 16 (n / 65536) + sg_pc 16 (n % 65536) := h4
  have er2 : r = e % 64 := by rw [er, show (0x3f : Nat) = 2 ^ 6 - 1 from rfl, Nat.and_two_pow_sub_one_eq_mod]
  rw [er2, h4, ← p3, ← p6, pc_fin (a0 := pc_c (n % 65536) % 256) (a1 := pc_c (n % 65536) / 256) (a2 := pc_c (n / 65536) % 256) (a3 := pc_c (n / 65536) / 256) p4 p5 p1 p2 (by omega) ed ee]
  omega
theorem sg_pc_le (i : Nat) : ∀ n : Nat, sg_pc n i ≤ n := by
  intro n
  induction n with
  | zero => exact Nat.le_refl _
  | succ n ih =>
    show sg_pc n i + _ ≤ _
    split <;> omega
theorem sg_pc_mono (i : Nat) {a b : Nat} (h : a ≤ b) : sg_pc a i ≤ sg_pc b i := by
  induction b with
  | zero => rw [Nat.le_zero.mp h]; exact Nat.le_refl _
  | succ b ih =>
    by_cases e : a = b + 1
    · rw [e]; exact Nat.le_refl _
    · exact Nat.le_trans (ih (by omega)) (Nat.le_add_right _ _)
theorem sg_pc_zero {i : Nat} : ∀ {n : Nat}, sg_pc n i = 0 → ∀ k : Nat, k < n → i.testBit k = false := by
  intro n
  induction n with
  | zero => intro _ k hk; exact absurd hk (by omega)
  | succ n ih =>
    intro h k hk
    have h0 : sg_pc n i + (if i.testBit n then 1 else 0) = 0 := h
    by_cases e : k = n
    · subst e
      cases hb : i.testBit k with
      | false => rfl
      | true => rw [hb] at h0; simp at h0
    · exact ih (by omega) k (by omega)
theorem sg_ush {x f k : Int32} {n : Nat} (e : f = (x.toUInt32 >>> (k.toUInt32 &&& Int32.toUInt32 31)).toInt32) (hk : (k.toUInt32 &&& Int32.toUInt32 31).toNat % 32 = n) : f.toBitVec.toNat = x.toBitVec.toNat / 2 ^ n := by
  subst hk
  rw [e, ← Nat.shiftRight_eq_div_pow]
  exact UInt32.toNat_shiftRight _ _
theorem sg_bc {x f1 f2 f3 f4 f5 f6 f7 f8 f9 f10 f11 f12 f13 f14 r : Int32} (e1 : f1 = (x.toUInt32 >>> ((1 : Int32).toUInt32 &&& Int32.toUInt32 31)).toInt32) (e2 : f2 = f1 &&& 1431655765) (e3 : f3 = x - f2) (e4 : f4 = f3 &&& 858993459) (e5 : f5 = (f3.toUInt32 >>> ((2 : Int32).toUInt32 &&& Int32.toUInt32 31)).toInt32) (e6 : f6 = f5 &&& 858993459) (e7 : f7 = f4 + f6) (e8 : f8 = (f7.toUInt32 >>> ((4 : Int32).toUInt32 &&& Int32.toUInt32 31)).toInt32) (e9 : f9 = f7 + f8) (e10 : f10 = f9 &&& 252645135) (e11 : f11 = (f10.toUInt32 >>> ((8 : Int32).toUInt32 &&& Int32.toUInt32 31)).toInt32) (e12 : f12 = f10 + f11) (e13 : f13 = (f12.toUInt32 >>> ((16 : Int32).toUInt32 &&& Int32.toUInt32 31)).toInt32) (e14 : f14 = f12 + f13) (er : r = f14 &&& 63) : iv 0 63 r ∧ r.toInt = (sg_pc 32 x.toBitVec.toNat : Int) := by
  have a1 := sg_ush e1 (n := 1) (by decide +kernel)
  have a5 := sg_ush e5 (n := 2) (by decide +kernel)
  have a8 := sg_ush e8 (n := 4) (by decide +kernel)
  have a11 := sg_ush e11 (n := 8) (by decide +kernel)
  have a13 := sg_ush e13 (n := 16) (by decide +kernel)
  have hx := x.toBitVec.isLt
  have a2 : f2.toBitVec.toNat = x.toBitVec.toNat / 2 &&& 0x55555555 := by rw [e2, show (f1 &&& 1431655765 : Int32).toBitVec.toNat = f1.toBitVec.toNat &&& 0x55555555 from BitVec.toNat_and .., a1]
  have l2 : (x.toBitVec.toNat / 2 &&& 0x55555555) ≤ x.toBitVec.toNat / 2 := Nat.and_le_left
  have a3 : f3.toBitVec.toNat = x.toBitVec.toNat - (x.toBitVec.toNat / 2 &&& 0x55555555) := by
    rw [e3, show (x - f2 : Int32).toBitVec.toNat = (2 ^ 32 - f2.toBitVec.toNat + x.toBitVec.toNat) % 2 ^ 32 from BitVec.toNat_sub .., a2]
    omega
  have a4 : f4.toBitVec.toNat = f3.toBitVec.toNat &&& 0x33333333 := by rw [e4]; exact BitVec.toNat_and ..
  have a6 : f6.toBitVec.toNat = f3.toBitVec.toNat / 4 &&& 0x33333333 := by rw [e6, show (f5 &&& 858993459 : Int32).toBitVec.toNat = f5.toBitVec.toNat &&& 0x33333333 from BitVec.toNat_and .., a5]
  have l4 : (f3.toBitVec.toNat &&& 0x33333333) ≤ 0x33333333 := Nat.and_le_right
  have l6 : (f3.toBitVec.toNat / 4 &&& 0x33333333) ≤ 0x33333333 := Nat.and_le_right
  have a7 : f7.toBitVec.toNat = (f3.toBitVec.toNat &&& 0x33333333) + (f3.toBitVec.toNat / 4 &&& 0x33333333) := by
    rw [e7, show (f4 + f6 : Int32).toBitVec.toNat = (f4.toBitVec.toNat + f6.toBitVec.toNat) % 2 ^ 32 from BitVec.toNat_add .., a4, a6]
    omega
  have a9 : f9.toBitVec.toNat = f7.toBitVec.toNat + f7.toBitVec.toNat / 16 := by
    rw [e9, show (f7 + f8 : Int32).toBitVec.toNat = (f7.toBitVec.toNat + f8.toBitVec.toNat) % 2 ^ 32 from BitVec.toNat_add .., a8]
    omega
  have a10 : f10.toBitVec.toNat = (f7.toBitVec.toNat + f7.toBitVec.toNat / 16) &&& 0x0f0f0f0f := by rw [e10, show (f9 &&& 252645135 : Int32).toBitVec.toNat = f9.toBitVec.toNat &&& 0x0f0f0f0f from BitVec.toNat_and .., a9]
  have l10 : ((f7.toBitVec.toNat + f7.toBitVec.toNat / 16) &&& 0x0f0f0f0f) ≤ 0x0f0f0f0f := Nat.and_le_right
  have a12 : f12.toBitVec.toNat = f10.toBitVec.toNat + f10.toBitVec.toNat / 256 := by
    rw [e12, show (f10 + f11 : Int32).toBitVec.toNat = (f10.toBitVec.toNat + f11.toBitVec.toNat) % 2 ^ 32 from BitVec.toNat_add .., a11]
    omega
  have a14 : f14.toBitVec.toNat = f12.toBitVec.toNat + f12.toBitVec.toNat / 65536 := by
    rw [e14, show (f12 + f13 : Int32).toBitVec.toNat = (f12.toBitVec.toNat + f13.toBitVec.toNat) % 2 ^ 32 from BitVec.toNat_add .., a13]
    omega
  have ar : r.toBitVec.toNat = f14.toBitVec.toNat &&& 0x3f := by rw [er]; exact BitVec.toNat_and ..
  have h := pc_nat hx a3 a7 a10 a12 a14 ar
  have h1 := sg_pc_le x.toBitVec.toNat 32
  have h2 := iv_ofNat h (by omega)
  exact ⟨⟨by omega, by omega⟩, h2⟩
theorem sg_pcne {x r : Int32} (h : r.toInt = (sg_pc 32 x.toBitVec.toNat : Int)) (hx : ¬ x = 0) (hr : iv 0 63 r) : iv 1 63 r := by
  refine ⟨?_, hr.2⟩
  by_cases h0 : sg_pc 32 x.toBitVec.toNat = 0
  · exfalso
    apply hx
    have h1 := sg_pc_zero h0
    have h2 : x.toBitVec.toNat = 0 := by
      apply Nat.eq_of_testBit_eq
      intro i
      rw [Nat.zero_testBit]
      by_cases hi : i < 32
      · exact h1 i hi
      · exact Nat.testBit_lt_two_pow (Nat.lt_of_lt_of_le x.toBitVec.isLt (Nat.pow_le_pow_right (by decide) (by omega)))
    have h3 := iv_ofNat h2 (by decide)
    exact Int32.toInt_inj.mp (h3.trans (by decide +kernel))
  · omega
/-- a set has a place -/
def sgHas (x k : Int32) : Prop := x.toBitVec.toNat.testBit (k.toBitVec.toNat % 32) = true
theorem sg_shr_bv (x : Int32) (n : Nat) (hn : n < 32) : (x >>> Int32.ofNat n).toBitVec = x.toBitVec.sshiftRight n := by
  match n, hn with
  | 0, _ => rfl
  | 1, _ => rfl
  | 2, _ => rfl
  | 3, _ => rfl
  | 4, _ => rfl
  | 5, _ => rfl
  | 6, _ => rfl
  | 7, _ => rfl
  | 8, _ => rfl
  | 9, _ => rfl
  | 10, _ => rfl
  | 11, _ => rfl
  | 12, _ => rfl
  | 13, _ => rfl
  | 14, _ => rfl
  | 15, _ => rfl
  | 16, _ => rfl
  | 17, _ => rfl
  | 18, _ => rfl
  | 19, _ => rfl
  | 20, _ => rfl
  | 21, _ => rfl
  | 22, _ => rfl
  | 23, _ => rfl
  | 24, _ => rfl
  | 25, _ => rfl
  | 26, _ => rfl
  | 27, _ => rfl
  | 28, _ => rfl
  | 29, _ => rfl
  | 30, _ => rfl
  | 31, _ => rfl
  | n + 32, hn => exact absurd hn (by omega)
theorem sg_has0 {x k f g : Int32} (e1 : f = x >>> (k &&& 31)) (e2 : g = f &&& 1) : g = 1 ↔ sgHas x k := by
  have hk : (k &&& 31).toBitVec.toNat = k.toBitVec.toNat % 32 := by
    rw [show (k &&& 31 : Int32).toBitVec.toNat = k.toBitVec.toNat &&& 31 from BitVec.toNat_and .., show (31 : Nat) = 2 ^ 5 - 1 from rfl, Nat.and_two_pow_sub_one_eq_mod]
  have h32 : k.toBitVec.toNat % 32 < 32 := Nat.mod_lt _ (by decide)
  have hk2 : k &&& 31 = Int32.ofNat (k.toBitVec.toNat % 32) := by
    apply Int32.toBitVec_inj.mp
    apply BitVec.eq_of_toNat_eq
    rw [hk]
    show _ = (k.toBitVec.toNat % 32) % 2 ^ 32
    omega
  rw [hk2] at e1
  have hf : f.toBitVec = x.toBitVec.sshiftRight (k.toBitVec.toNat % 32) := by rw [e1]; exact sg_shr_bv x _ h32
  have hb : f.toBitVec.getLsbD 0 = x.toBitVec.getLsbD (k.toBitVec.toNat % 32) := by
    rw [hf, BitVec.getLsbD_sshiftRight]
    simp [h32]
  have hg : g.toBitVec.toNat = f.toBitVec.toNat % 2 := by
    rw [e2, show (f &&& 1 : Int32).toBitVec.toNat = f.toBitVec.toNat &&& 1 from BitVec.toNat_and .., Nat.and_one_is_mod]
  have hb2 : f.toBitVec.getLsbD 0 = decide (f.toBitVec.toNat % 2 = 1) := by
    show f.toBitVec.toNat.testBit 0 = _
    rw [Nat.testBit_zero]
  unfold sgHas
  show _ ↔ x.toBitVec.getLsbD (k.toBitVec.toNat % 32) = true
  rw [← hb, hb2, decide_eq_true_eq, ← hg]
  constructor
  · rintro rfl; decide +kernel
  · intro h
    apply Int32.toBitVec_inj.mp
    apply BitVec.eq_of_toNat_eq
    rw [h]
    decide +kernel
theorem sg_hast {r x k : Int32} (h1 : iv 0 1 r) (h : r = 1 ↔ sgHas x k) (c : ¬ r = 0) : sgHas x k := h.mp ((iv_01 h1).resolve_left c)
theorem sg_hasf {r x k : Int32} (h1 : iv 0 1 r) (h : r = 1 ↔ sgHas x k) (c : r = 0) : ¬ sgHas x k := fun q => by
  have h2 := h.mpr q
  rw [c] at h2
  exact absurd h2 (by decide)
/-- how far the next place of a set is -/
def nth_dd (x : Nat) : Nat → Nat → Nat
  | 0, _ => 0
  | k + 1, n => if x.testBit (n % 32) then 0 else nth_dd x k (n + 1) + 1
theorem nth_p {x n k : Nat} (h : x.testBit (n % 32) = true) : nth_dd x (k + 1) n = 0 := if_pos h
theorem nth_n {x n k : Nat} (h : ¬ x.testBit (n % 32) = true) : nth_dd x (k + 1) n = nth_dd x k (n + 1) + 1 := if_neg h
theorem nth_le (x : Nat) : ∀ k n : Nat, nth_dd x k n ≤ k := by
  intro k
  induction k with
  | zero => intro n; exact Nat.le_refl _
  | succ k ih =>
    intro n
    by_cases hb : x.testBit (n % 32) = true
    · rw [nth_p hb]; omega
    · rw [nth_n hb]; have := ih (n + 1); omega
theorem nth_cong (x : Nat) : ∀ k m n : Nat, m % 32 = n % 32 → nth_dd x k m = nth_dd x k n := by
  intro k
  induction k with
  | zero => intro m n _; rfl
  | succ k ih =>
    intro m n h
    by_cases hb : x.testBit (n % 32) = true
    · rw [nth_p hb, nth_p (by rw [h]; exact hb)]
    · rw [nth_n hb, nth_n (by rw [h]; exact hb), ih (m + 1) (n + 1) (by omega)]
theorem nth_more (x : Nat) : ∀ k n : Nat, (∃ j : Nat, j < k ∧ x.testBit ((n + j) % 32) = true) → nth_dd x (k + 1) n = nth_dd x k n := by
  intro k
  induction k with
  | zero => intro n h; obtain ⟨j, h1, -⟩ := h; exact absurd h1 (by omega)
  | succ k ih =>
    intro n h
    by_cases hb : x.testBit (n % 32) = true
    · rw [nth_p hb, nth_p hb]
    · rw [nth_n hb, nth_n hb]
      obtain ⟨j, h1, h2⟩ := h
      have hj : j ≠ 0 := by
        rintro rfl
        exact hb h2
      rw [ih (n + 1) ⟨j - 1, by omega, by rw [show n + 1 + (j - 1) = n + j by omega]; exact h2⟩]
def nth_M (x left c : Int32) : Nat := 33 * left.toInt.toNat + nth_dd x.toBitVec.toNat 32 c.toBitVec.toNat
theorem nth_c1 {c c' : Int32} (e : c' = c + Int32.ofInt 1) : c'.toBitVec.toNat % 32 = (c.toBitVec.toNat + 1) % 32 := by
  have h : c'.toBitVec.toNat = (c.toBitVec.toNat + 1) % 2 ^ 32 := by
    rw [e]
    exact BitVec.toNat_add ..
  omega
theorem nth_dec1 {x left left' c c' : Int32} (h : sgHas x c) (hl : ¬ left ≤ 0) (el : left' = left - 1) (ec : c' = c + Int32.ofInt 1) : nth_M x left' c' < nth_M x left c := by
  have h1 := Int32.lt_iff_toInt_lt.mp (iv_gt_of hl)
  have h0 : (0 : Int32).toInt = 0 := by decide +kernel
  have h2 : left'.toInt = left.toInt - 1 := sg_dec (k := 1) el (⟨by omega, (iv_top left).2⟩ : iv 1 2147483647 left) (by decide +kernel)
  have h3 := nth_le x.toBitVec.toNat 32 c'.toBitVec.toNat
  unfold nth_M
  omega
theorem nth_dec2 {x left left' c c' : Int32} (hx : ¬ x = 0) (h : ¬ sgHas x c) (el : left' = left - 0) (ec : c' = c + Int32.ofInt 1) : nth_M x left' c' < nth_M x left c := by
  have h2 : left' = left := by rw [el]; exact Int32.sub_zero left
  have hX : ∃ i : Nat, i < 32 ∧ x.toBitVec.toNat.testBit i = true := by
    apply Classical.byContradiction
    intro hn
    apply hx
    have h2 : x.toBitVec.toNat = 0 := by
      apply Nat.eq_of_testBit_eq
      intro i
      rw [Nat.zero_testBit]
      by_cases hi : i < 32
      · cases hb : x.toBitVec.toNat.testBit i with
        | false => rfl
        | true => exact absurd ⟨i, hi, hb⟩ hn
      · exact Nat.testBit_lt_two_pow (Nat.lt_of_lt_of_le x.toBitVec.isLt (Nat.pow_le_pow_right (by decide) (by omega)))
    have h3 := iv_ofNat h2 (by decide)
    exact Int32.toInt_inj.mp (h3.trans (by decide +kernel))
  obtain ⟨i, hi, hb⟩ := hX
  have hc : nth_dd x.toBitVec.toNat 32 c.toBitVec.toNat = nth_dd x.toBitVec.toNat 31 (c.toBitVec.toNat + 1) + 1 := by
    exact nth_n h
  have hne : i ≠ c.toBitVec.toNat % 32 := by
    rintro rfl
    exact h hb
  have hm := nth_more x.toBitVec.toNat 31 (c.toBitVec.toNat + 1) ⟨(i + 32 - (c.toBitVec.toNat + 1) % 32) % 32, by omega, by rw [show (c.toBitVec.toNat + 1 + (i + 32 - (c.toBitVec.toNat + 1) % 32) % 32) % 32 = i by omega]; exact hb⟩
  have h4 := nth_cong x.toBitVec.toNat 32 _ _ (nth_c1 ec)
  unfold nth_M
  rw [h2, h4, hm, hc]
  omega
theorem iv_ne_lo2 {x y : Int32} {k b k' : Int} (h : ¬ x = y) (hx : iv k k x) (hy : iv k b y) (e : k' = k + 1 := by decide) : iv k' b y := by
  have h1 : x.toInt ≠ y.toInt := fun q => h (Int32.toInt_inj.mp q)
  obtain ⟨x1, x2⟩ := hx
  obtain ⟨y1, y2⟩ := hy
  exact ⟨by omega, y2⟩
