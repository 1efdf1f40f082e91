theorem vIx_lt {tb : List Int32} {c : Int} : ∀ n k : Nat, -1 ≤ vIx tb c n k ∧ vIx tb c n k < ((k + n : Nat) : Int) := by
  intro n
  induction n with
  | zero =>
    intro k
    show -1 ≤ (-1 : Int) ∧ (-1 : Int) < _
    omega
  | succ n ih =>
    intro k
    unfold vIx
    split
    · omega
    · have := ih (k + 1)
      omega
theorem vRul_lt (c : Int) : -1 ≤ vRul c ∧ vRul c < 7 := by
  have := vIx_lt (tb := [119, 104, 113, 107, 108, 117, 120]) (c := c) 7 0
  unfold vRul
  omega
theorem vq_rul {x : Int32} {c : Int} (h : x.toInt = vRul c) : iv (-1) 6 x := by
  have := vRul_lt c
  exact ⟨by omega, by omega⟩
theorem vq_rul0 {x : Int32} {c : Int} (h : x.toInt = vRul c) (h0 : ¬ vRul c < 0) : iv 0 6 x := by
  have := vRul_lt c
  exact ⟨by omega, by omega⟩
/-- places of a set, as bits -/
theorem lwHas_iff {s : Int32} {v : Int} (h : 0 ≤ v ∧ v ≤ 31) : lwHas s v = s.toBitVec.toNat.testBit v.toNat := by
  have h1 : ∀ n : Nat, n < 32 → (Int32.ofInt (n : Int)).toBitVec.toNat % 32 = n := by decide +kernel
  have h2 := h1 v.toNat (by omega)
  rw [show ((v.toNat : Nat) : Int) = v by omega] at h2
  have h3 := sg_has0 (x := s) (k := Int32.ofInt v) rfl rfl
  unfold sgHas at h3
  rw [h2] at h3
  unfold lwHas
  cases hb : s.toBitVec.toNat.testBit v.toNat with
  | true =>
    rw [h3.mpr hb]
    rfl
  | false =>
    refine beq_false_of_ne fun q => ?_
    rw [h3.mp q] at hb
    cases hb
theorem lwBit_nat {v : Int} (h : 0 ≤ v ∧ v ≤ 31) : (lwBit v).toBitVec.toNat = 2 ^ v.toNat := by
  have h1 : ∀ n : Nat, n < 32 → (Int32.ofInt (n : Int)).toBitVec.toNat % 32 = n := by decide +kernel
  have h2 := h1 v.toNat (by omega)
  rw [show ((v.toNat : Nat) : Int) = v by omega] at h2
  unfold lwBit
  rw [shl1_nat, h2]
theorem lw_or {s : Int32} {j k : Int} (hj : 0 ≤ j ∧ j ≤ 31) (hk : 0 ≤ k ∧ k ≤ 31) : lwHas (s ||| lwBit k) j = (lwHas s j || decide (j = k)) := by
  have e : decide (k.toNat = j.toNat) = decide (j = k) := by
    by_cases h : j = k
    · subst h
      simp
    · rw [decide_eq_false h]
      exact decide_eq_false (by omega)
  rw [lwHas_iff hj, lwHas_iff hj, show (s ||| lwBit k : Int32).toBitVec.toNat = s.toBitVec.toNat ||| (lwBit k).toBitVec.toNat from BitVec.toNat_or .., Nat.testBit_or, lwBit_nat hk, Nat.testBit_two_pow, e]
def vB1 (s : Int32) (v : Int) : Int := bif lwHas s v then 1 else 0
/-- how many of the seven rules were told -/
def vCnt (s : Int32) : Int := vB1 s 0 + vB1 s 1 + vB1 s 2 + vB1 s 3 + vB1 s 4 + vB1 s 5 + vB1 s 6
theorem vB1_le (s : Int32) (v : Int) : 0 ≤ vB1 s v ∧ vB1 s v ≤ 1 := by
  unfold vB1
  cases lwHas s v with
  | true => exact ⟨by decide, by decide⟩
  | false => exact ⟨by decide, by decide⟩
theorem vCnt_le (s : Int32) : vCnt s ≤ 7 := by
  have h0 := vB1_le s 0
  have h1 := vB1_le s 1
  have h2 := vB1_le s 2
  have h3 := vB1_le s 3
  have h4 := vB1_le s 4
  have h5 := vB1_le s 5
  have h6 := vB1_le s 6
  unfold vCnt
  omega
theorem vCnt_0 : vCnt 0 = 0 := by decide +kernel
theorem vB1_or {s : Int32} {j k : Int} (hj : 0 ≤ j ∧ j ≤ 31) (hk : 0 ≤ k ∧ k ≤ 31) (h : lwHas s k = false) : vB1 (s ||| lwBit k) j = vB1 s j + (if j = k then 1 else 0) := by
  unfold vB1
  rw [lw_or hj hk]
  by_cases e : j = k
  · subst e
    rw [h, if_pos rfl]
    simp
  · rw [if_neg e]
    simp [e]
theorem vCnt_s {s : Int32} {k : Int} (hk : ¬ k < 0 ∧ k < 7) (h : lwHas s k = false) : vCnt (s ||| lwBit k) = vCnt s + 1 := by
  have hk2 : 0 ≤ k ∧ k ≤ 31 := by omega
  unfold vCnt
  rw [vB1_or (by decide) hk2 h, vB1_or (by decide) hk2 h, vB1_or (by decide) hk2 h, vB1_or (by decide) hk2 h, vB1_or (by decide) hk2 h, vB1_or (by decide) hk2 h, vB1_or (by decide) hk2 h]
  have h7 : k = 0 ∨ k = 1 ∨ k = 2 ∨ k = 3 ∨ k = 4 ∨ k = 5 ∨ k = 6 := by omega
  rcases h7 with rfl | rfl | rfl | rfl | rfl | rfl | rfl
  · simp only [Int.reduceEq, if_true, if_false]
    omega
  · simp only [Int.reduceEq, if_true, if_false]
    omega
  · simp only [Int.reduceEq, if_true, if_false]
    omega
  · simp only [Int.reduceEq, if_true, if_false]
    omega
  · simp only [Int.reduceEq, if_true, if_false]
    omega
  · simp only [Int.reduceEq, if_true, if_false]
    omega
  · simp only [Int.reduceEq, if_true, if_false]
    omega
theorem lwHas_n {s : Int32} {v : Int} (h : ¬ (s >>> (Int32.ofInt v &&& 31)) &&& 1 = 0) : lwHas s v = true := by
  unfold lwHas
  have h1 : ((s >>> (Int32.ofInt v &&& 31)) &&& 1).toBitVec.toNat = (s >>> (Int32.ofInt v &&& 31)).toBitVec.toNat % 2 := by
    rw [show ((s >>> (Int32.ofInt v &&& 31)) &&& 1 : Int32).toBitVec.toNat = (s >>> (Int32.ofInt v &&& 31)).toBitVec.toNat &&& 1 from BitVec.toNat_and .., Nat.and_one_is_mod]
  have h2 : (s >>> (Int32.ofInt v &&& 31)) &&& 1 = 1 := by
    apply Int32.toBitVec_inj.mp
    apply BitVec.eq_of_toNat_eq
    have e1 : (1 : Int32).toBitVec.toNat = 1 := by decide +kernel
    have e0 : (0 : Int32).toBitVec.toNat = 0 := by decide +kernel
    rw [h1, e1]
    rcases Nat.mod_two_eq_zero_or_one (s >>> (Int32.ofInt v &&& 31)).toBitVec.toNat with q | q
    · exfalso
      apply h
      apply Int32.toBitVec_inj.mp
      apply BitVec.eq_of_toNat_eq
      rw [h1, q, e0]
    · exact q
  rw [h2]
  rfl
theorem lwHas_z {s : Int32} {v : Int} (h : (s >>> (Int32.ofInt v &&& 31)) &&& 1 = 0) : lwHas s v = false := by
  unfold lwHas
  rw [h]
  rfl
theorem vq_tabL {f x : Int32} {k : Int} (e : f = ([1, 1, 2, 1, 0, 0, 0] : List Int32).getD x.toNatClampNeg 0) (h : x.toInt = k) (hk : ¬ k < 0 ∧ k.toNat < 7) : f.toInt = vLst k.toNat := by
  rw [e, vq_ix7 h]
  match k.toNat, hk.2 with
  | 0, _ => decide +kernel
  | 1, _ => decide +kernel
  | 2, _ => decide +kernel
  | 3, _ => decide +kernel
  | 4, _ => decide +kernel
  | 5, _ => decide +kernel
  | 6, _ => decide +kernel
  | n + 7, h => exact absurd h (by omega)
theorem vq_tabM {f x : Int32} {k : Int} (e : f = ([6, 5, 5, 5, 8, 8, 1] : List Int32).getD x.toNatClampNeg 0) (h : x.toInt = k) (hk : ¬ k < 0 ∧ k.toNat < 7) : f.toInt = vMst k.toNat := by
  rw [e, vq_ix7 h]
  match k.toNat, hk.2 with
  | 0, _ => decide +kernel
  | 1, _ => decide +kernel
  | 2, _ => decide +kernel
  | 3, _ => decide +kernel
  | 4, _ => decide +kernel
  | 5, _ => decide +kernel
  | 6, _ => decide +kernel
  | n + 7, h => exact absurd h (by omega)
/-- may a clause come -/
def lwMay (c : Int) (q : sgLwn) : Prop := (c = 115 ∧ q.2.2.2.2.2.1 = false) ∨ (c = 116 ∧ q.2.2.2.1 < 12) ∨ (c = 98 ∧ q.2.2.2.2.1 < 8)
theorem lwMay_s {c : Int} {q : sgLwn} (h : lwMay c q) (hc : c = 115) : q.2.2.2.2.2.1 = false := by
  rcases h with h | h | h
  · exact h.2
  · exact absurd h.1 (by omega)
  · exact absurd h.1 (by omega)
theorem lwMay_p {c : Int} {q : sgLwn} (h : lwMay c q) (hc : (c = 115) = False) : (c = 116 ∧ q.2.2.2.1 < 12) ∨ (c = 98 ∧ q.2.2.2.2.1 < 8) := h.resolve_left fun z => of_eq_false hc z.1
theorem lwMay_ne {c : Int} {q : sgLwn} (h : lwMay c q) : c ≠ 0 := by
  rcases h with h | h | h
  · have := h.1; omega
  · have := h.1; omega
  · have := h.1; omega
theorem vLcC_no {b : Nat → Int} {n a : Int} {q : sgLwn} (h : ¬ lwMay (vC b n a) q) : vLcC b n q a = (false, a, q) := vLcC_n (fun z => h (Or.inl z)) (fun z => h (Or.inr z))
theorem zb_or0 {f x : Int32} {b : Bool} (e : f = x ||| 0) (h : x.toInt = (bif b then 1 else 0)) : f.toInt = (bif b then 1 else 0) := by
  have e2 : x ||| 0 = x := by
    apply Int32.toBitVec_inj.mp
    apply BitVec.eq_of_toNat_eq
    rw [show (x ||| 0 : Int32).toBitVec.toNat = x.toBitVec.toNat ||| 0 from BitVec.toNat_or .., Nat.or_zero]
  rw [e, e2, h]
theorem zb_or1 {f x : Int32} {b : Bool} (e : f = x ||| 1) (h : x.toInt = (bif b then 1 else 0)) : f.toInt = (bif true then 1 else 0) := by
  rcases iv_01 (zb_01 h) with rfl | rfl
  · rw [e]; decide +kernel
  · rw [e]; decide +kernel
/-- is the bit in a set -/
theorem lw_andb {s : Int32} {v : Int} (hv : 0 ≤ v ∧ v ≤ 31) : (s &&& lwBit v).toBitVec.toNat = (bif lwHas s v then 2 ^ v.toNat else 0) := by
  rw [lwHas_iff hv, show (s &&& lwBit v : Int32).toBitVec.toNat = s.toBitVec.toNat &&& (lwBit v).toBitVec.toNat from BitVec.toNat_and .., lwBit_nat hv]
  apply Nat.eq_of_testBit_eq
  intro i
  rw [Nat.testBit_and, Nat.testBit_two_pow]
  cases hb : s.toBitVec.toNat.testBit v.toNat with
  | true =>
    rw [cond_true, Nat.testBit_two_pow]
    by_cases e : v.toNat = i
    · subst e
      simp [hb]
    · simp [e]
  | false =>
    rw [cond_false, Nat.zero_testBit]
    by_cases e : v.toNat = i
    · subst e
      simp [hb]
    · simp [e]
theorem lw_and_n {s : Int32} {v : Int} (hv : 0 ≤ v ∧ v ≤ 31) (h : ¬ s &&& lwBit v = 0) : lwHas s v = true := by
  cases hb : lwHas s v with
  | true => rfl
  | false =>
    exfalso
    apply h
    apply Int32.toBitVec_inj.mp
    apply BitVec.eq_of_toNat_eq
    rw [lw_andb hv, hb]
    rfl
theorem lw_and_z {s : Int32} {v : Int} (hv : 0 ≤ v ∧ v ≤ 31) (h : s &&& lwBit v = 0) : lwHas s v = false := by
  cases hb : lwHas s v with
  | false => rfl
  | true =>
    exfalso
    have h1 := lw_andb (s := s) hv
    rw [hb, h, cond_true] at h1
    have h2 : (0 : Int32).toBitVec.toNat = 0 := by decide +kernel
    rw [h2] at h1
    have := Nat.two_pow_pos v.toNat
    omega
theorem lwBit_0 : (1 : Int32) = lwBit 0 := by decide +kernel
theorem lwPut_hq {t : Bool} {v : Int} {q : sgLwn} {c : Int} (h : (0 ≤ q.2.2.2.1 ∧ q.2.2.2.1 ≤ 12) ∧ (0 ≤ q.2.2.2.2.1 ∧ q.2.2.2.2.1 ≤ 8)) (hm : (c = 116 ∧ q.2.2.2.1 < 12) ∨ (c = 98 ∧ q.2.2.2.2.1 < 8)) (ht : (c == 116) = t) : (0 ≤ (lwPut t v q).2.2.2.1 ∧ (lwPut t v q).2.2.2.1 ≤ 12) ∧ (0 ≤ (lwPut t v q).2.2.2.2.1 ∧ (lwPut t v q).2.2.2.2.1 ≤ 8) := by
  cases t with
  | true =>
    have hc : c = 116 := by simpa using ht
    have h1 : q.2.2.2.1 < 12 := by
      rcases hm with g | g
      · exact g.2
      · exact absurd g.1 (by omega)
    show (0 ≤ q.2.2.2.1 + 1 ∧ q.2.2.2.1 + 1 ≤ 12) ∧ (0 ≤ q.2.2.2.2.1 ∧ q.2.2.2.2.1 ≤ 8)
    exact ⟨⟨by omega, by omega⟩, h.2⟩
  | false =>
    have hc : ¬ c = 116 := by simpa using ht
    have h1 : q.2.2.2.2.1 < 8 := by
      rcases hm with g | g
      · exact absurd g.1 hc
      · exact g.2
    show (0 ≤ q.2.2.2.1 ∧ q.2.2.2.1 ≤ 12) ∧ (0 ≤ q.2.2.2.2.1 + 1 ∧ q.2.2.2.2.1 + 1 ≤ 8)
    exact ⟨h.1, ⟨by omega, by omega⟩⟩
theorem lw0_hq : (0 ≤ lw0.2.2.2.1 ∧ lw0.2.2.2.1 ≤ 12) ∧ (0 ≤ lw0.2.2.2.2.1 ∧ lw0.2.2.2.2.1 ≤ 8) := ⟨⟨by decide, by decide⟩, ⟨by decide, by decide⟩⟩
