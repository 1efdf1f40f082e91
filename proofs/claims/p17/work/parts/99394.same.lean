/-- the lines of both sides are the same -/
theorem vShr_bv (x : Int32) (n : Nat) (hn : n < 32) : (vShr x (Int32.ofNat n)).toBitVec = x.toBitVec >>> n := by
  match n, hn with
  | 0, _ => rfl
  | 1, _ => rfl
  | 2, _ => rfl
  | 3, _ => rfl
  | 4, _ => rfl
  | 5, _ => rfl
  | 6, _ => rfl
  | 7, _ => rfl
  | 8, _ => rfl
  | 9, _ => rfl
  | 10, _ => rfl
  | 11, _ => rfl
  | 12, _ => rfl
  | 13, _ => rfl
  | 14, _ => rfl
  | 15, _ => rfl
  | 16, _ => rfl
  | 17, _ => rfl
  | 18, _ => rfl
  | 19, _ => rfl
  | 20, _ => rfl
  | 21, _ => rfl
  | 22, _ => rfl
  | 23, _ => rfl
  | 24, _ => rfl
  | 25, _ => rfl
  | 26, _ => rfl
  | 27, _ => rfl
  | 28, _ => rfl
  | 29, _ => rfl
  | 30, _ => rfl
  | 31, _ => rfl
  | n + 32, hn => exact absurd hn (by omega)
theorem vShr_bit {x : Int32} {n i : Nat} (hn : n < 32) : (vShr x (Int32.ofInt (n : Int))).toBitVec.toNat.testBit i = x.toBitVec.toNat.testBit (n + i) := by
  have h1 : ∀ n : Nat, n < 32 → Int32.ofInt (n : Int) = Int32.ofNat n := by decide +kernel
  rw [h1 n hn, vShr_bv x n hn, BitVec.toNat_ushiftRight, Nat.testBit_shiftRight]
/-- the cells of a line are there -/
theorem vSb_bit {s b : Int32} {d : Nat} {c : Nat} : ∀ m : Nat, (∀ i : Nat, i < m → i * d < 32) → ((vSb s (d : Int) b m).toBitVec.toNat.testBit c = true ↔ s.toBitVec.toNat.testBit c = true ∧ ∀ i : Nat, i < m → b.toBitVec.toNat.testBit (i * d + c) = true) := by
  intro m
  induction m with
  | zero =>
    intro _
    constructor
    · intro h
      exact ⟨h, fun i hi => absurd hi (by omega)⟩
    · intro h
      exact h.1
  | succ m ih =>
    intro hm
    have ih := ih (fun i hi => hm i (by omega))
    have e : (vSb s (d : Int) b (m + 1)).toBitVec.toNat = (vSb s (d : Int) b m).toBitVec.toNat &&& (vShr b (Int32.ofInt ((m * d : Nat) : Int))).toBitVec.toNat := by
      rw [show ((m * d : Nat) : Int) = (m : Int) * (d : Int) from Int.natCast_mul m d]
      exact BitVec.toNat_and ..
    rw [e, Nat.testBit_and, Bool.and_eq_true, ih, vShr_bit (hm m (by omega))]
    constructor
    · rintro ⟨⟨h1, h2⟩, h3⟩
      refine ⟨h1, fun i hi => ?_⟩
      by_cases q : i = m
      · rw [q]
        exact h3
      · exact h2 i (by omega)
    · rintro ⟨h1, h2⟩
      exact ⟨⟨h1, fun i hi => h2 i (by omega)⟩, h2 m (by omega)⟩
theorem i32_bit {x : Int32} : ¬ x = 0 ↔ ∃ c : Nat, x.toBitVec.toNat.testBit c = true := by
  have e0 : (0 : Int32).toBitVec.toNat = 0 := by decide +kernel
  constructor
  · intro h
    apply Classical.byContradiction
    intro hn
    apply h
    apply Int32.toBitVec_inj.mp
    apply BitVec.eq_of_toNat_eq
    rw [e0]
    apply Nat.eq_of_testBit_eq
    intro i
    rw [Nat.zero_testBit]
    cases hb : x.toBitVec.toNat.testBit i with
    | false => rfl
    | true => exact absurd ⟨i, hb⟩ hn
  · rintro ⟨c, hc⟩ rfl
    rw [e0, Nat.zero_testBit] at hc
    cases hc
/-- a set out of its places -/
def mkN (p : Nat → Bool) : Nat → Nat
  | 0 => 0
  | n + 1 => mkN p n ||| (bif p n then 2 ^ n else 0)
theorem mkN_bit {p : Nat → Bool} {c : Nat} : ∀ n : Nat, (mkN p n).testBit c = (decide (c < n) && p c) := by
  intro n
  induction n with
  | zero =>
    show (0 : Nat).testBit c = _
    rw [Nat.zero_testBit]
    simp
  | succ n ih =>
    show (mkN p n ||| (bif p n then 2 ^ n else 0)).testBit c = _
    rw [Nat.testBit_or, ih]
    by_cases q : c = n
    · subst q
      cases hp : p c with
      | true => simp [Nat.testBit_two_pow]
      | false => simp
    · have h1 : (bif p n then 2 ^ n else 0 : Nat).testBit c = false := by
        cases p n with
        | true =>
          rw [cond_true, Nat.testBit_two_pow]
          exact decide_eq_false (fun z => q z.symm)
        | false =>
          rw [cond_false, Nat.zero_testBit]
      rw [h1, Bool.or_false]
      congr 1
      by_cases g : c < n
      · rw [decide_eq_true g, decide_eq_true (show c < n + 1 by omega)]
      · rw [decide_eq_false g, decide_eq_false (show ¬ c < n + 1 by omega)]
/-- does a line of cells lie on the lawn -/
def inB (w h : Int) (L k c : Nat) : Bool := (List.range L).all fun i => decide (0 ≤ (c : Int) % w + (i : Int) * rwDx (k : Int) ∧ (c : Int) % w + (i : Int) * rwDx (k : Int) < w ∧ (c : Int) / w + (i : Int) * rwDy (k : Int) < h)
theorem ln_mask1 : ∀ h : Nat, h < 6 → ∀ L : Nat, L < 6 → ∀ k : Nat, k < 4 → 1 ≤ h → 2 ≤ L → (vLs 1 (1 * (h : Int)) (L : Int) k).toBitVec.toNat = mkN (inB 1 (h : Int) L k) (1 * h) := by decide +kernel
theorem ln_mask2 : ∀ h : Nat, h < 6 → ∀ L : Nat, L < 6 → ∀ k : Nat, k < 4 → 1 ≤ h → 2 ≤ L → (vLs 2 (2 * (h : Int)) (L : Int) k).toBitVec.toNat = mkN (inB 2 (h : Int) L k) (2 * h) := by decide +kernel
theorem ln_mask3 : ∀ h : Nat, h < 6 → ∀ L : Nat, L < 6 → ∀ k : Nat, k < 4 → 1 ≤ h → 2 ≤ L → (vLs 3 (3 * (h : Int)) (L : Int) k).toBitVec.toNat = mkN (inB 3 (h : Int) L k) (3 * h) := by decide +kernel
theorem ln_mask4 : ∀ h : Nat, h < 6 → ∀ L : Nat, L < 6 → ∀ k : Nat, k < 4 → 1 ≤ h → 2 ≤ L → (vLs 4 (4 * (h : Int)) (L : Int) k).toBitVec.toNat = mkN (inB 4 (h : Int) L k) (4 * h) := by decide +kernel
theorem ln_mask5 : ∀ h : Nat, h < 6 → ∀ L : Nat, L < 6 → ∀ k : Nat, k < 4 → 1 ≤ h → 2 ≤ L → (vLs 5 (5 * (h : Int)) (L : Int) k).toBitVec.toNat = mkN (inB 5 (h : Int) L k) (5 * h) := by decide +kernel
theorem ln_mask6 : ∀ h : Nat, h < 6 → ∀ L : Nat, L < 6 → ∀ k : Nat, k < 4 → 1 ≤ h → 2 ≤ L → (vLs 6 (6 * (h : Int)) (L : Int) k).toBitVec.toNat = mkN (inB 6 (h : Int) L k) (6 * h) := by decide +kernel
theorem ln_mask {w h : Nat} {L k : Nat} (hw : 1 ≤ w ∧ w ≤ 6) (hh : 1 ≤ h ∧ h ≤ 5) (hL : 2 ≤ L ∧ L ≤ 5) (hk : k < 4) : (vLs (w : Int) ((w : Int) * (h : Int)) (L : Int) k).toBitVec.toNat = mkN (inB (w : Int) (h : Int) L k) (w * h) := by
  have h1 : w = 1 ∨ w = 2 ∨ w = 3 ∨ w = 4 ∨ w = 5 ∨ w = 6 := by omega
  rcases h1 with rfl | rfl | rfl | rfl | rfl | rfl
  · exact ln_mask1 h (by omega) L (by omega) k hk hh.1 hL.1
  · exact ln_mask2 h (by omega) L (by omega) k hk hh.1 hL.1
  · exact ln_mask3 h (by omega) L (by omega) k hk hh.1 hL.1
  · exact ln_mask4 h (by omega) L (by omega) k hk hh.1 hL.1
  · exact ln_mask5 h (by omega) L (by omega) k hk hh.1 hL.1
  · exact ln_mask6 h (by omega) L (by omega) k hk hh.1 hL.1
theorem rwF_0 {s : Int32} {w h dx dy : Int} : ∀ (k : Nat) (x y : Int), 0 ≤ rwF s w h dx dy k x y := by
  intro k
  induction k with
  | zero => intro x y; exact Int.le_refl _
  | succ k ih =>
    intro x y
    unfold rwF
    split
    · have := ih (x + dx) (y + dy)
      omega
    · exact Int.le_refl _
/-- a row is at least so long: its cells are there -/
theorem rwF_le {s : Int32} {w h dx dy : Int} : ∀ (k n : Nat) (x y : Int), n ≤ k → (((n : Int) ≤ rwF s w h dx dy k x y) ↔ ∀ i : Nat, i < n → 0 ≤ x + (i : Int) * dx ∧ x + (i : Int) * dx < w ∧ y + (i : Int) * dy < h ∧ lwHas s ((y + (i : Int) * dy) * w + (x + (i : Int) * dx)) = true) := by
  intro k
  induction k with
  | zero =>
    intro n x y hn
    constructor
    · intro _ i hi
      omega
    · intro _
      have : n = 0 := by omega
      subst this
      exact Int.le_refl _
  | succ k ih =>
    intro n x y hn
    cases n with
    | zero =>
      constructor
      · intro _ i hi
        omega
      · intro _
        exact rwF_0 _ _ _
    | succ n =>
      have e0 : x + ((0 : Nat) : Int) * dx = x := by simp
      have e1 : y + ((0 : Nat) : Int) * dy = y := by simp
      have es : ∀ (i : Nat) (a d : Int), a + ((i + 1 : Nat) : Int) * d = a + d + (i : Int) * d := by
        intro i a d
        rw [Int.natCast_add, Int.add_mul]
        have : ((1 : Nat) : Int) * d = d := by simp
        rw [this]
        omega
      by_cases hc : 0 ≤ x ∧ x < w ∧ y < h ∧ lwHas s (y * w + x) = true
      · have e : rwF s w h dx dy (k + 1) x y = 1 + rwF s w h dx dy k (x + dx) (y + dy) := by
          show (if _ then _ else _) = _
          rw [if_pos hc]
        rw [e]
        have h2 := ih n (x + dx) (y + dy) (by omega)
        constructor
        · intro g i hi
          cases i with
          | zero =>
            rw [e0, e1]
            exact hc
          | succ i =>
            rw [es i x dx, es i y dy]
            exact h2.mp (by omega) i (by omega)
        · intro g
          have h3 := h2.mpr (fun i hi => by
            have h4 := g (i + 1) (by omega)
            rw [es i x dx, es i y dy] at h4
            exact h4)
          omega
      · have e : rwF s w h dx dy (k + 1) x y = 0 := by
          show (if _ then _ else _) = _
          rw [if_neg hc]
        rw [e]
        constructor
        · intro g
          omega
        · intro g
          have h4 := g 0 (by omega)
          rw [e0, e1] at h4
          exact absurd h4 hc
theorem inB_iff {w h : Int} {L k c : Nat} : inB w h L k c = true ↔ ∀ i : Nat, i < L → 0 ≤ (c : Int) % w + (i : Int) * rwDx (k : Int) ∧ (c : Int) % w + (i : Int) * rwDx (k : Int) < w ∧ (c : Int) / w + (i : Int) * rwDy (k : Int) < h := by
  unfold inB
  rw [List.all_eq_true]
  constructor
  · intro g i hi
    exact of_decide_eq_true (g i (List.mem_range.mpr hi))
  · intro g i hi
    exact decide_eq_true (g i (List.mem_range.mp hi))
theorem rwD_0 : rwDx ((0 : Nat) : Int) = 1 ∧ rwDy ((0 : Nat) : Int) = 0 := by decide +kernel
theorem rwD_1 : rwDx ((1 : Nat) : Int) = 0 ∧ rwDy ((1 : Nat) : Int) = 1 := by decide +kernel
theorem rwD_2 : rwDx ((2 : Nat) : Int) = 1 ∧ rwDy ((2 : Nat) : Int) = 1 := by decide +kernel
theorem rwD_3 : rwDx ((3 : Nat) : Int) = -1 ∧ rwDy ((3 : Nat) : Int) = 1 := by decide +kernel
theorem ln_v {w c i k d : Nat} (hd : (d : Int) = vSd (w : Int) k) (hk : k < 4) : ((c : Int) / (w : Int) + (i : Int) * rwDy (k : Int)) * (w : Int) + ((c : Int) % (w : Int) + (i : Int) * rwDx (k : Int)) = ((i * d + c : Nat) : Int) := by
  have e1 : ((i * d + c : Nat) : Int) = (i : Int) * (d : Int) + (c : Int) := by rw [Int.natCast_add, Int.natCast_mul]
  have e2 : (i : Int) * rwDy (k : Int) * (w : Int) + (i : Int) * rwDx (k : Int) = (i : Int) * vSd (w : Int) k := by
    have h4 : k = 0 ∨ k = 1 ∨ k = 2 ∨ k = 3 := by omega
    rcases h4 with rfl | rfl | rfl | rfl
    · rw [rwD_0.1, rwD_0.2, Int.mul_zero, Int.zero_mul, Int.zero_add]
      rfl
    · rw [rwD_1.1, rwD_1.2, Int.mul_one, Int.mul_zero, Int.add_zero]
      rfl
    · rw [rwD_2.1, rwD_2.2, Int.mul_one]
      show _ = (i : Int) * ((w : Int) + 1)
      rw [Int.mul_add, Int.mul_one]
    · rw [rwD_3.1, rwD_3.2, Int.mul_one]
      show _ = (i : Int) * ((w : Int) - 1)
      rw [Int.mul_sub, Int.mul_one]
      omega
  rw [e1, hd, Int.emod_def, Int.add_mul, Int.mul_comm (w : Int) ((c : Int) / (w : Int))]
  omega
theorem ln_bd {Y X w h V : Int} (hv : Y * w + X = V) (h1 : X < w) (h2 : Y < h) (hw : 1 ≤ w ∧ w ≤ 6) (hh : 1 ≤ h ∧ h ≤ 5) : V ≤ 31 := by
  have m := Int.mul_le_mul_of_nonneg_right (show Y ≤ h - 1 by omega) (show 0 ≤ w by omega)
  rw [Int.sub_mul, Int.one_mul, Int.mul_comm h w] at m
  have := (vq_c30 hw hh).2
  omega
theorem ln_cell {s : Int32} {w h L k c d : Nat} (hd : (d : Int) = vSd (w : Int) k) (hk : k < 4) (hw : 1 ≤ (w : Int) ∧ (w : Int) ≤ 6) (hh : 1 ≤ (h : Int) ∧ (h : Int) ≤ 5) (hL : L ≤ 5) : (inB (w : Int) (h : Int) L k c = true ∧ ∀ i : Nat, i < L → s.toBitVec.toNat.testBit (i * d + c) = true) ↔ (L : Int) ≤ rwV s (w : Int) (h : Int) (c : Int) (k : Int) := by
  have key : ∀ i : Nat, (0 ≤ (c : Int) % (w : Int) + (i : Int) * rwDx (k : Int) ∧ (c : Int) % (w : Int) + (i : Int) * rwDx (k : Int) < (w : Int) ∧ (c : Int) / (w : Int) + (i : Int) * rwDy (k : Int) < (h : Int)) → lwHas s (((c : Int) / (w : Int) + (i : Int) * rwDy (k : Int)) * (w : Int) + ((c : Int) % (w : Int) + (i : Int) * rwDx (k : Int))) = s.toBitVec.toNat.testBit (i * d + c) := by
    intro i ⟨g1, g2, g3⟩
    have hv := ln_v (w := w) (c := c) (i := i) hd hk
    have hb := ln_bd hv g2 g3 hw hh
    rw [hv]
    exact lwHas_iff (v := ((i * d + c : Nat) : Int)) ⟨Int.natCast_nonneg _, hb⟩
  unfold rwV
  rw [rwF_le 12 L _ _ (by omega), inB_iff]
  constructor
  · rintro ⟨g1, g2⟩ i hi
    have h1 := g1 i hi
    refine ⟨h1.1, h1.2.1, h1.2.2, ?_⟩
    rw [key i h1]
    exact g2 i hi
  · intro g
    refine ⟨fun i hi => ⟨(g i hi).1, (g i hi).2.1, (g i hi).2.2.1⟩, fun i hi => ?_⟩
    rw [← key i ⟨(g i hi).1, (g i hi).2.1, (g i hi).2.2.1⟩]
    exact (g i hi).2.2.2
theorem ln_28 {i d L : Nat} (hi : i < L) (hL : L ≤ 5) (hd : d ≤ 7) : i * d < 32 := by
  have := Nat.mul_le_mul (show i ≤ 4 by omega) hd
  omega
theorem ln_same {s : Int32} {w h L : Int} (hw : 1 ≤ w ∧ w ≤ 6) (hh : 1 ≤ h ∧ h ≤ 5) (hL : 2 ≤ L ∧ L ≤ 5) : lnC s w (w * h) L ↔ lwLine s w h L := by
  obtain ⟨wn, rfl⟩ := Int.eq_ofNat_of_zero_le (show 0 ≤ w by omega)
  obtain ⟨hn, rfl⟩ := Int.eq_ofNat_of_zero_le (show 0 ≤ h by omega)
  obtain ⟨Ln, rfl⟩ := Int.eq_ofNat_of_zero_le (show 0 ≤ L by omega)
  have hd : ∀ k : Nat, k < 4 → ∃ d : Nat, (d : Int) = vSd (wn : Int) k ∧ d ≤ 7 := by
    intro k hk
    have h1 := vSd_iv (k := k) hw
    exact ⟨(vSd (wn : Int) k).toNat, by omega, by omega⟩
  have eL : ((Ln : Nat) : Int).toNat = Ln := rfl
  have hwn : 1 ≤ wn ∧ wn ≤ 6 := by omega
  have hhn : 1 ≤ hn ∧ hn ≤ 5 := by omega
  have hLn : 2 ≤ Ln ∧ Ln ≤ 5 := by omega
  unfold lnC lwLine
  constructor
  · rintro ⟨k, hk, hne⟩
    obtain ⟨d, hd1, hd2⟩ := hd k hk
    rw [eL, ← hd1] at hne
    obtain ⟨c, hc⟩ := i32_bit.mp hne
    have hc2 := (vSb_bit (d := d) (c := c) Ln (fun i hi => ln_28 hi hLn.2 hd2)).mp hc
    rw [ln_mask hwn hhn hLn hk, mkN_bit, Bool.and_eq_true, decide_eq_true_eq] at hc2
    have h1 : ((wn * hn : Nat) : Int) = (wn : Int) * (hn : Int) := Int.natCast_mul wn hn
    have h2 := hc2.1.1
    exact ⟨(c : Int), (k : Int), Int.natCast_nonneg _, by rw [← h1]; exact Int.ofNat_lt.mpr h2, Int.natCast_nonneg _, by omega, (ln_cell hd1 hk hw hh hLn.2).mp ⟨hc2.1.2, hc2.2⟩⟩
  · rintro ⟨c1, w1, h1, h2, h3, h4, h5⟩
    obtain ⟨c, rfl⟩ := Int.eq_ofNat_of_zero_le h1
    obtain ⟨k, rfl⟩ := Int.eq_ofNat_of_zero_le h3
    have hk : k < 4 := by omega
    obtain ⟨d, hd1, hd2⟩ := hd k hk
    have h6 := (ln_cell hd1 hk hw hh hLn.2).mpr h5
    refine ⟨k, hk, ?_⟩
    rw [eL, ← hd1]
    refine i32_bit.mpr ⟨c, (vSb_bit (d := d) (c := c) Ln (fun i hi => ln_28 hi hLn.2 hd2)).mpr ⟨?_, h6.2⟩⟩
    rw [ln_mask hwn hhn hLn hk, mkN_bit, Bool.and_eq_true, decide_eq_true_eq]
    have h7 : ((wn * hn : Nat) : Int) = (wn : Int) * (hn : Int) := Int.natCast_mul wn hn
    exact ⟨Int.ofNat_lt.mp (by rw [h7]; exact h2), h6.1⟩
/-- no tuft and no bed off the lawn -/
theorem vAll_bit : ∀ c : Nat, c < 31 → ∀ i : Nat, i < 32 → (vAll (c : Int) ^^^ (-1)).toBitVec.toNat.testBit i = decide (c ≤ i) := by decide +kernel
theorem lw_outA {x : Int32} {c : Nat} (hc : c < 31) : x &&& (vAll (c : Int) ^^^ (-1)) = 0 ↔ ∀ i : Nat, c ≤ i → i < 32 → x.toBitVec.toNat.testBit i = false := by
  have hn : ∀ i : Nat, 32 ≤ i → ∀ y : Int32, y.toBitVec.toNat.testBit i = false := fun i hi y => Nat.testBit_lt_two_pow (Nat.lt_of_lt_of_le y.toBitVec.isLt (Nat.pow_le_pow_right (by decide) hi))
  have e0 : (0 : Int32).toBitVec.toNat = 0 := by decide +kernel
  have ea : (x &&& (vAll (c : Int) ^^^ (-1))).toBitVec.toNat = x.toBitVec.toNat &&& (vAll (c : Int) ^^^ (-1)).toBitVec.toNat := BitVec.toNat_and ..
  constructor
  · intro h i h1 h2
    have h3 : (x &&& (vAll (c : Int) ^^^ (-1))).toBitVec.toNat.testBit i = false := by rw [h, e0, Nat.zero_testBit]
    rw [ea, Nat.testBit_and, vAll_bit c hc i h2, decide_eq_true h1, Bool.and_true] at h3
    exact h3
  · intro h
    apply Int32.toBitVec_inj.mp
    apply BitVec.eq_of_toNat_eq
    rw [ea, e0]
    apply Nat.eq_of_testBit_eq
    intro i
    rw [Nat.testBit_and, Nat.zero_testBit]
    by_cases h2 : i < 32
    · by_cases h1 : c ≤ i
      · rw [h i h1 h2, Bool.false_and]
      · rw [vAll_bit c hc i h2, decide_eq_false h1, Bool.and_false]
    · rw [hn i (by omega) x, Bool.false_and]
theorem lw_outB {x : Int32} {c : Nat} (hc : c < 31) : x >>> (Int32.ofInt (c : Int) &&& 31) = 0 ↔ ∀ i : Nat, c ≤ i → i < 32 → x.toBitVec.toNat.testBit i = false := by
  have h1 : ∀ n : Nat, n < 31 → Int32.ofInt (n : Int) &&& 31 = Int32.ofNat n := by decide +kernel
  have hn : ∀ i : Nat, 32 ≤ i → ∀ y : Int32, y.toBitVec.toNat.testBit i = false := fun i hi y => Nat.testBit_lt_two_pow (Nat.lt_of_lt_of_le y.toBitVec.isLt (Nat.pow_le_pow_right (by decide) hi))
  have e0 : (0 : Int32).toBitVec.toNat = 0 := by decide +kernel
  rw [h1 c hc]
  have hb : ∀ j : Nat, j < 32 → (x >>> Int32.ofNat c).toBitVec.toNat.testBit j = if c + j < 32 then x.toBitVec.toNat.testBit (c + j) else x.toBitVec.toNat.testBit 31 := by
    intro j hj
    have h2 : (x >>> Int32.ofNat c).toBitVec.getLsbD j = (!decide (32 ≤ j) && if c + j < 32 then x.toBitVec.getLsbD (c + j) else x.toBitVec.msb) := by rw [sg_shr_bv x c (by omega), BitVec.getLsbD_sshiftRight]
    have h3 : x.toBitVec.msb = x.toBitVec.toNat.testBit 31 := BitVec.msb_eq_getLsbD_last _
    rw [h3] at h2
    rw [show (x >>> Int32.ofNat c).toBitVec.toNat.testBit j = (x >>> Int32.ofNat c).toBitVec.getLsbD j from rfl, h2, decide_eq_false (show ¬ 32 ≤ j by omega), Bool.not_false, Bool.true_and]
    rfl
  constructor
  · intro h i g1 g2
    have h4 := hb (i - c) (by omega)
    rw [h, e0, Nat.zero_testBit, if_pos (show c + (i - c) < 32 by omega), show c + (i - c) = i by omega] at h4
    exact h4.symm
  · intro h
    apply Int32.toBitVec_inj.mp
    apply BitVec.eq_of_toNat_eq
    rw [e0]
    apply Nat.eq_of_testBit_eq
    intro j
    rw [Nat.zero_testBit]
    by_cases h2 : j < 32
    · rw [hb j h2]
      split
      · rename_i g
        exact h (c + j) (by omega) g
      · exact h 31 (by omega) (by decide)
    · exact hn j (by omega) _
theorem lwOk_same {q : sgLwn} (h : ruOk q.1) : lwOkC q ↔ lwOk q := by
  obtain ⟨h0, h1, h2⟩ := ruOk_w h
  have hc := vq_c30 h0 h1
  obtain ⟨c, hce⟩ := Int.eq_ofNat_of_zero_le (show 0 ≤ q.1 0 * q.1 1 by omega)
  have hl := ln_same (s := q.2.1) h0 h1 h2
  unfold lwOkC lwOk
  rw [hl, hce]
  rw [lw_outA (x := q.2.1 ||| q.2.2.1) (c := c) (by omega), lw_outB (x := q.2.1 ||| q.2.2.1) (c := c) (by omega), Int.not_lt]
/-- both sides take the same texts for LAWNs -/
theorem lawn_same {b : Nat → Int} {n : Int} : (∃ (a1 : Int) (q1 : sgLwn), vLnC b n lw0 (vX b n 0) = (true, a1, q1) ∧ vC b n a1 = 0 ∧ lwOkC q1) ↔ (∃ (a1 : Int) (q1 : sgLwn), vLnM b n lw0 (vX b n 0) = (true, a1, q1) ∧ vC b n a1 = 0 ∧ lwOk q1) := by
  have hr : ∀ (a1 : Int) (q1 : sgLwn), vLnM b n lw0 (vX b n 0) = (true, a1, q1) → ruOk q1.1 := by
    intro a1 q1 h
    have z := vLnM_in (b := b) (n := n) lw0 (vX b n 0) ruOk_us
    rw [h] at z
    exact z
  constructor
  · rintro ⟨a1, q1, h1, h2, h3⟩
    have h4 := (vLn_cm lw0 (vX b n 0) (fun _ => rfl) a1 q1).mp ⟨h1, h2⟩
    exact ⟨a1, q1, h4.1, h2, (lwOk_same (hr a1 q1 h4.1)).mp h3⟩
  · rintro ⟨a1, q1, h1, h2, h3⟩
    have h4 := (vLn_cm lw0 (vX b n 0) (fun _ => rfl) a1 q1).mpr ⟨h1, h2⟩
    exact ⟨a1, q1, h4.1, h2, (lwOk_same (hr a1 q1 h1)).mpr h3⟩
