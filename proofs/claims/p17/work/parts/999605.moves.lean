/-- what move answers: by how many games there are, how many moves each has, what the four of each are -/
def sgMw (n : Nat) (c : Nat → Int) (f : Nat → Nat → Int → Int) (g i w : Int) : Int := if g < 0 ∨ (n : Int) ≤ g ∨ i < 0 ∨ c g.toNat ≤ i ∨ w < 0 ∨ 3 < w then -1000000 else f g.toNat i.toNat w
theorem sgMw_n {n : Nat} {c : Nat → Int} {f : Nat → Nat → Int → Int} {g i w : Int} (h : g < 0 ∨ (n : Int) ≤ g ∨ i < 0 ∨ c g.toNat ≤ i ∨ w < 0 ∨ 3 < w) : sgMw n c f g i w = -1000000 := if_pos h
theorem sgMw_y {n : Nat} {c : Nat → Int} {f : Nat → Nat → Int → Int} {g i w : Int} (h1 : 0 ≤ g ∧ g < n) (h2 : 0 ≤ i) (h3 : i < c g.toNat) (h4 : 0 ≤ w ∧ w ≤ 3) : sgMw n c f g i w = f g.toNat i.toNat w := if_neg (by omega)
/-- both sides answer alike -/
theorem sgMw_same {P : sgPm} (h : sgHm P) (hi : sgInv P) (g i w : Int) : sgMw P.2.2.2.2.2.2.2.1.val (fun j => gCn (sgGm P) j) (fun j i k => unI (gMv (sgGm P) j i) k) g i w = sgMw P.2.2.2.2.2.2.2.2.2.1.val (fun j => ((sgGl P j).val : Int)) (fun j i k => sgG0 P (64 * j + (4 * i + k.toNat))) g i w := by
  have hn : P.2.2.2.2.2.2.2.2.2.1.val = P.2.2.2.2.2.2.2.1.val := by rw [hi.2.2.2]
  rw [hn]
  by_cases c1 : 0 ≤ g ∧ g < (P.2.2.2.2.2.2.2.1.val : Int)
  · obtain ⟨e1, e2⟩ := h.2 g.toNat (by omega)
    by_cases c2 : 0 ≤ i ∧ i < ((sgGl P g.toNat).val : Int) ∧ 0 ≤ w ∧ w ≤ 3
    · rw [sgMw_y c1 c2.1 (by show i < gCn (sgGm P) g.toNat; rw [e1]; exact c2.2.1) c2.2.2, sgMw_y c1 c2.1 c2.2.1 c2.2.2]
      obtain ⟨q, q0, q1, q2, q3, q4, q5⟩ := e2 i.toNat (by omega)
      show unI (gMv (sgGm P) g.toNat i.toNat) w = sgG0 P (64 * g.toNat + (4 * i.toNat + w.toNat))
      rw [q1, un_pk q0]
      unfold qAt
      by_cases w0 : w = 0
      · rw [if_pos w0, w0]
        exact q2.symm
      · rw [if_neg w0]
        by_cases w1 : w = 1
        · rw [if_pos w1, w1]
          exact q3.symm
        · rw [if_neg w1]
          by_cases w2 : w = 2
          · rw [if_pos w2, w2]
            exact q4.symm
          · rw [if_neg w2, show w = 3 by omega]
            exact q5.symm
    · rw [sgMw_n (by show _ ∨ _ ∨ _ ∨ gCn (sgGm P) g.toNat ≤ i ∨ _ ∨ _; rw [e1]; omega), sgMw_n (by show _ ∨ _ ∨ _ ∨ ((sgGl P g.toNat).val : Int) ≤ i ∨ _ ∨ _; omega)]
  · rw [sgMw_n (by omega), sgMw_n (by omega)]
theorem hm_pk {P : sgPm} (h : sgHm P) : ∀ j i : Nat, j < P.2.2.2.2.2.2.2.1.val → (i : Int) < gCn (sgGm P) j → 0 ≤ gMv (sgGm P) j i ∧ gMv (sgGm P) j i ≤ 1487 := by
  intro j i hj hi
  obtain ⟨e1, e2⟩ := h.2 j hj
  rw [e1] at hi
  obtain ⟨q, ⟨⟨a1, a2⟩, ⟨a3, a4⟩, ⟨a5, a6⟩, a7, a8⟩, q1, -⟩ := e2 i (by omega)
  rw [q1]
  unfold pkQ pkI
  omega
theorem mg_1 {x f : Int32} {n : Nat} (h0 : (0 : Int32) ≤ x) (h : x < f) (hf : iv (n : Int) (n : Int) f) : 0 ≤ x.toInt ∧ x.toInt < (n : Int) := by
  have h1 := Int32.le_iff_toInt_le.mp h0
  have h2 : (0 : Int32).toInt = 0 := by decide +kernel
  have h3 := Int32.lt_iff_toInt_lt.mp h
  have h4 := hf.2
  omega
theorem mg_a {x : Int32} {n : Nat} (h : x < 0) : x.toInt < 0 ∨ (n : Int) ≤ x.toInt := by
  have h2 : (0 : Int32).toInt = 0 := by decide +kernel
  have h3 := Int32.lt_iff_toInt_lt.mp h
  omega
theorem mg_b {x f : Int32} {n : Nat} (h : f ≤ x) (hf : iv (n : Int) (n : Int) f) : x.toInt < 0 ∨ (n : Int) ≤ x.toInt := by
  have h3 := Int32.le_iff_toInt_le.mp h
  have h4 := hf.1
  omega
theorem mg_iv {x : Int32} {n : Fin 5} (h : 0 ≤ x.toInt ∧ x.toInt < (n.val : Int)) : iv 0 3 x := ⟨h.1, by have := n.isLt; omega⟩
theorem mg_lt {x : Int32} {n : Nat} (h : 0 ≤ x.toInt ∧ x.toInt < (n : Int)) : x.toNatClampNeg < n := by
  show x.toInt.toNat < n
  omega
theorem mg_5 {x : Int32} {n : Fin 5} (h : 0 ≤ x.toInt ∧ x.toInt < (n.val : Int)) : x.toNatClampNeg < 5 := by
  have := n.isLt
  show x.toInt.toNat < 5
  omega
theorem mg_lt0 {x : Int32} (h : x < 0) : x.toInt < 0 := by
  have h2 : (0 : Int32).toInt = 0 := by decide +kernel
  have h3 := Int32.lt_iff_toInt_lt.mp h
  omega
theorem mg_ge0 {x : Int32} (h : (0 : Int32) ≤ x) : 0 ≤ x.toInt := by
  have h2 : (0 : Int32).toInt = 0 := by decide +kernel
  have h3 := Int32.le_iff_toInt_le.mp h
  omega
theorem mg_gt3 {x : Int32} (h : (3 : Int32) < x) : 3 < x.toInt := by
  have h2 : (3 : Int32).toInt = 3 := by decide +kernel
  have h3 := Int32.lt_iff_toInt_lt.mp h
  omega
theorem mg_le3 {x : Int32} (h : x ≤ (3 : Int32)) : x.toInt ≤ 3 := by
  have h2 : (3 : Int32).toInt = 3 := by decide +kernel
  have h3 := Int32.le_iff_toInt_le.mp h
  omega
theorem gg_cnt {g : Nat → sgT} {n a j q : Nat} {x : Int32} (h : sgGg g n) (hj : j < n) (h5 : j < 5) (hs : sgGo g 44 a j (.ref q)) (hc : sgGo g 3 q 1 (.int x)) : x.toInt = gCn g j := by
  obtain ⟨y, e, h1⟩ := og_k hc j h5 ((h.2 j h5).mpr hj) (gg_q h5 hs)
  cases e
  exact h1
theorem gg_mv {g : Nat → sgT} {n a j q m i : Nat} {x : Int32} (h : sgGg g n) (hj : j < n) (h5 : j < 5) (hs : sgGo g 44 a j (.ref q)) (hm : sgGo g 3 q 0 (.ref m)) (hi : (i : Int) < gCn g j) (hv : sgGo g 20 m i (.int x)) : x.toInt = gMv g j i := by
  have e0 := og_m hm j h5 (gg_q h5 hs)
  have e0 : m = gM g j := by
    cases e0
    rfl
  obtain ⟨y, e, h1⟩ := og_v hv j h5 ((h.2 j h5).mpr hj) hi e0
  cases e
  exact h1
theorem unI_0 {x : Int32} {m : Int} (h : x = 0) : unI m x.toInt = m / 12 / 31 := by
  subst h
  exact if_pos (by decide +kernel)
theorem unI_1 {x : Int32} {m : Int} (h : x = 1) : unI m x.toInt = m / 12 % 31 - 1 := by
  subst h
  unfold unI
  rw [if_neg (by decide +kernel), if_pos (by decide +kernel)]
theorem unI_2 {x : Int32} {m : Int} (h : x = 2) : unI m x.toInt = m / 6 % 2 := by
  subst h
  unfold unI
  rw [if_neg (by decide +kernel), if_neg (by decide +kernel), if_pos (by decide +kernel)]
theorem unI_3 {x : Int32} {m : Int} (h0 : ¬ x = 0) (h1 : ¬ x = 1) (h2 : ¬ x = 2) : unI m x.toInt = m % 6 := by
  have e0 : ¬ x.toInt = 0 := fun z => h0 (Int32.toInt_inj.mp (z.trans (by decide +kernel)))
  have e1 : ¬ x.toInt = 1 := fun z => h1 (Int32.toInt_inj.mp (z.trans (by decide +kernel)))
  have e2 : ¬ x.toInt = 2 := fun z => h2 (Int32.toInt_inj.mp (z.trans (by decide +kernel)))
  unfold unI
  rw [if_neg e0, if_neg e1, if_neg e2]
/-- the reference's: within bounds -/
theorem mg_in {f : Int32} {g l m : Int64} {v : Int32} {k : Int} (h : ¬ f = 0 ↔ l.toInt ≤ g.toInt ∧ g.toInt ≤ m.toInt) (e : g = v.toInt64) (hl : l.toInt = 0) (hm : m.toInt = k) (h0 : ¬ f = 0) : 0 ≤ v.toInt ∧ v.toInt ≤ k := by
  have h1 : g.toInt = v.toInt := by rw [e, Int32.toInt_toInt64]
  have h2 := h.mp h0
  rw [h1, hl, hm] at h2
  exact h2
theorem mg_out {f : Int32} {g l m : Int64} {v : Int32} {k : Int} (h : ¬ f = 0 ↔ l.toInt ≤ g.toInt ∧ g.toInt ≤ m.toInt) (e : g = v.toInt64) (hl : l.toInt = 0) (hm : m.toInt = k) (h0 : f = 0) : v.toInt < 0 ∨ k < v.toInt := by
  have h1 : g.toInt = v.toInt := by rw [e, Int32.toInt_toInt64]
  have h2 : ¬ (l.toInt ≤ g.toInt ∧ g.toInt ≤ m.toInt) := fun q => h.mpr q h0
  rw [h1, hl, hm] at h2
  omega
theorem mg_i64 {m : Int64} {w : Int32} {k : Int} (e : m = w.toInt64) (h : w.toInt = k) : m.toInt = k := by rw [e, Int32.toInt_toInt64, h]
theorem gl_rd {ad ks : List Nat} {g : Nat → Fin 17} {i : Nat} {x : Int32} (h : okV ad ks (sg_gl g i) (.int x)) (hi : i < 4) : x.toInt = ((g i).val : Int) := by
  unfold sg_gl at h
  rw [if_pos hi] at h
  obtain ⟨y, e, h1, h2⟩ := h
  cases e
  exact Int.le_antisymm h2 h1
theorem ga_rd {ad ks : List Nat} {G : Nat → Int} {i : Nat} {x : Int32} (h : okV ad ks (sg_ga G i) (.int x)) (hi : i < 256) : x.toInt = G i := by
  unfold sg_ga at h
  rw [if_pos hi] at h
  obtain ⟨y, e, h1, h2⟩ := h
  cases e
  exact Int.le_antisymm h2 h1
theorem mg_4 {x : Int32} {n : Fin 5} (h : 0 ≤ x.toInt ∧ x.toInt < (n.val : Int)) : x.toNatClampNeg < 4 := by
  have := n.isLt
  show x.toInt.toNat < 4
  omega
theorem mg_ix {a b c d g i w : Int32} (e1 : a = 16 * g) (e2 : b = a + i) (e3 : c = 4 * b) (e4 : d = c + w) (hg : iv 0 3 g) (hi : iv 0 15 i) (hw : iv 0 3 w) : d.toNatClampNeg = 64 * g.toNatClampNeg + (4 * i.toNatClampNeg + w.toInt.toNat) := by
  have x1 : a.toInt = 16 * g.toInt := sg_exmul e1 (iv_c 16 (a := 16) (b := 16) (by decide +kernel)) hg (by decide +kernel) (by decide +kernel) rfl
  have p1 : iv 0 48 a := iv_mul (a' := 0) (b' := 48) e1 (iv_c 16 (a := 16) (b := 16) (by decide +kernel)) hg (by decide +kernel)
  have x2 : b.toInt = 16 * g.toInt + i.toInt := sg_exadd e2 p1 hi (by decide +kernel) x1 rfl
  have p2 : iv 0 63 b := iv_add (a' := 0) (b' := 63) e2 p1 hi (by decide +kernel)
  have x3 : c.toInt = 4 * (16 * g.toInt + i.toInt) := sg_exmul e3 (iv_c 4 (a := 4) (b := 4) (by decide +kernel)) p2 (by decide +kernel) (by decide +kernel) x2
  have p3 : iv 0 252 c := iv_mul (a' := 0) (b' := 252) e3 (iv_c 4 (a := 4) (b := 4) (by decide +kernel)) p2 (by decide +kernel)
  have x4 : d.toInt = 4 * (16 * g.toInt + i.toInt) + w.toInt := sg_exadd e4 p3 hw (by decide +kernel) x3 rfl
  have h1 := hg.1
  have h2 := hi.1
  have h3 := hw.1
  show d.toInt.toNat = 64 * g.toInt.toNat + (4 * i.toInt.toNat + w.toInt.toNat)
  omega
theorem mg_t {r : Int32} {A B : Prop} (h : (r = 1 ∧ A) ∨ (r = 0 ∧ B)) (c : ¬ r = 0) : A := by
  rcases h with h | h
  · exact h.2
  · exact absurd h.1 c
theorem mg_f {r : Int32} {A B : Prop} (h : (r = 1 ∧ A) ∨ (r = 0 ∧ B)) (c : r = 0) : B := by
  rcases h with h | h
  · rw [h.1] at c
    exact absurd c (by decide)
  · exact h.2
