/-- places of sets -/
theorem has_or_l {a b k : Int32} (h : sgHas a k) : sgHas (a ||| b) k := by
  unfold sgHas at h ⊢
  rw [show (a ||| b : Int32).toBitVec.toNat = a.toBitVec.toNat ||| b.toBitVec.toNat from BitVec.toNat_or .., Nat.testBit_or, h]
  rfl
theorem shl1_nat (f : Int32) : ((1 : Int32) <<< (f &&& 31)).toBitVec.toNat = 2 ^ (f.toBitVec.toNat % 32) := by
  have h3 : ∀ n : Nat, n < 32 → ((1 : Int32) <<< (Int32.ofNat n &&& 31)).toBitVec.toNat = 2 ^ n := by decide +kernel
  have hk : (f &&& 31).toBitVec.toNat = f.toBitVec.toNat % 32 := by
    rw [show (f &&& 31 : Int32).toBitVec.toNat = f.toBitVec.toNat &&& 31 from BitVec.toNat_and .., show (31 : Nat) = 2 ^ 5 - 1 from rfl, Nat.and_two_pow_sub_one_eq_mod]
  have h4 := h3 (f.toBitVec.toNat % 32) (Nat.mod_lt _ (by decide))
  have e : Int32.ofNat (f.toBitVec.toNat % 32) &&& 31 = f &&& 31 := by
    apply Int32.toBitVec_inj.mp
    apply BitVec.eq_of_toNat_eq
    rw [hk, show (Int32.ofNat (f.toBitVec.toNat % 32) &&& 31 : Int32).toBitVec.toNat = (Int32.ofNat (f.toBitVec.toNat % 32)).toBitVec.toNat &&& 31 from BitVec.toNat_and .., show (31 : Nat) = 2 ^ 5 - 1 from rfl, Nat.and_two_pow_sub_one_eq_mod]
    show (f.toBitVec.toNat % 32) % 2 ^ 32 % 2 ^ 5 = _
    omega
  rwa [e] at h4
theorem has_or_shl {a f : Int32} : sgHas (a ||| 1 <<< (f &&& 31)) f := by
  unfold sgHas
  rw [show (a ||| 1 <<< (f &&& 31) : Int32).toBitVec.toNat = a.toBitVec.toNat ||| ((1 : Int32) <<< (f &&& 31)).toBitVec.toNat from BitVec.toNat_or .., Nat.testBit_or, shl1_nat, Nat.testBit_two_pow_self, Bool.or_true]
theorem cb_step {b b' c k w m f y : Int32} (h : k.toInt ≤ 0 ∨ sgHas b c) (hk : 0 ≤ k.toInt) (e1 : m = k * w) (e2 : f = c + m) (e3 : y = 1 <<< (f &&& 31)) (e4 : b' = b ||| y) : sgHas b' c := by
  rw [e4]
  rcases h with h | h
  · have h0 : k = 0 := Int32.toInt_inj.mp (by rw [show (0 : Int32).toInt = 0 from by decide +kernel]; omega)
    subst h0
    have hf : f = c := by rw [e2, e1, Int32.zero_mul, Int32.add_zero]
    subst hf
    rw [e3]
    exact has_or_shl
  · exact has_or_l h
theorem ofNat_clamp {k : Int32} (h : 0 ≤ k.toInt) {j : Nat} (e : (j : Int) = k.toInt) : Int32.ofNat j = k := by
  apply Int32.toInt_inj.mp
  have h1 : (Int32.ofNat j).toInt = (j : Int) := Int32.toInt_ofNat_of_lt (by have := (iv_top k).2; omega)
  omega
theorem ga_step {x a a' k k' y v : Int32} {F : Nat → Int32} (h : ∀ j : Nat, (j : Int) < k.toInt → sgHas x (F j) → sgHas a (Int32.ofNat j)) (hk : 0 ≤ k.toInt) (ek : k'.toInt = k.toInt + 1) (hv : F k.toInt.toNat = v) (e : a' = a ||| y) (hy : (¬ sgHas x v) ∨ y = 1 <<< (k &&& 31)) : ∀ j : Nat, (j : Int) < k'.toInt → sgHas x (F j) → sgHas a' (Int32.ofNat j) := by
  intro j hj hx
  rw [e]
  by_cases hjk : (j : Int) < k.toInt
  · exact has_or_l (h j hjk hx)
  · have hj2 : (j : Int) = k.toInt := by omega
    rw [ofNat_clamp hk hj2]
    have hj3 : j = k.toInt.toNat := by omega
    rw [hj3, hv] at hx
    rcases hy with hy | hy
    · exact absurd hx hy
    · rw [hy]; exact has_or_shl
theorem pc_lt {a b : Nat} : ∀ n : Nat, (∀ i : Nat, i < n → a.testBit i = true → b.testBit i = true) → (∃ i : Nat, i < n ∧ b.testBit i = true ∧ a.testBit i = false) → sg_pc n a < sg_pc n b := by
  have hle : ∀ n : Nat, (∀ i : Nat, i < n → a.testBit i = true → b.testBit i = true) → sg_pc n a ≤ sg_pc n b := by
    intro n
    induction n with
    | zero => intro _; exact Nat.le_refl _
    | succ n ih =>
      intro h
      have h1 := ih (fun i hi => h i (by omega))
      show sg_pc n a + _ ≤ sg_pc n b + _
      cases ha : a.testBit n with
      | false => simp; omega
      | true => rw [h n (by omega) ha]; simp; omega
  intro n
  induction n with
  | zero => intro _ h; obtain ⟨i, h1, -⟩ := h; exact absurd h1 (by omega)
  | succ n ih =>
    intro h he
    obtain ⟨i, h1, h2, h3⟩ := he
    show sg_pc n a + _ < sg_pc n b + _
    by_cases hi : i = n
    · subst hi
      have h4 := hle i (fun j hj => h j (by omega))
      rw [h2, h3]
      simp
      omega
    · have h4 := ih (fun j hj => h j (by omega)) ⟨i, by omega, h2, h3⟩
      cases ha : a.testBit n with
      | false => simp; omega
      | true => rw [h n (by omega) ha]; simp; omega
/-- what is left is fewer -/
theorem left_lt {t g f l k : Int32} (hk : iv 0 11 k) (ht : sgHas t k) (hg : sgHas g k) (e1 : f = g ^^^ (-1)) (e2 : l = t &&& f) : sg_pc 12 l.toBitVec.toNat < sg_pc 12 t.toBitVec.toNat := by
  have en : l.toBitVec.toNat = t.toBitVec.toNat &&& f.toBitVec.toNat := by rw [e2]; exact BitVec.toNat_and ..
  have hkn := iv_nn hk (by decide)
  have hk1 := hk.2
  have hkm : k.toBitVec.toNat % 32 = k.toBitVec.toNat := Nat.mod_eq_of_lt (by omega)
  unfold sgHas at ht hg
  rw [hkm] at ht hg
  have hf : f.toBitVec.toNat.testBit k.toBitVec.toNat = false := by
    rw [e1, show (g ^^^ (-1) : Int32).toBitVec.toNat = g.toBitVec.toNat ^^^ (-1 : Int32).toBitVec.toNat from BitVec.toNat_xor .., Nat.testBit_xor, hg, show (-1 : Int32).toBitVec.toNat = 2 ^ 32 - 1 from by decide +kernel, Nat.testBit_two_pow_sub_one]
    simp
    omega
  refine pc_lt 12 (fun i _ h => ?_) ⟨k.toBitVec.toNat, by omega, ht, ?_⟩
  · rw [en, Nat.testBit_and] at h
    exact (Bool.and_eq_true_iff.mp h).1
  · rw [en, Nat.testBit_and, hf, Bool.and_false]
theorem sum_le {ad ks : List Nat} {i x : Int32} (h : okV ad ks (sg_sum i.toNatClampNeg) (.int x)) (hi : iv 0 4095 i) : 0 ≤ x.toInt ∧ x.toInt ≤ (sg_pc 12 i.toBitVec.toNat : Int) := by
  have h1 := iv_nn hi (by decide)
  have h2 : i.toNatClampNeg = i.toBitVec.toNat := by show i.toInt.toNat = _; omega
  rw [h2] at h
  obtain ⟨y, h3, h4, h5⟩ := h
  cases h3
  exact ⟨h4, h5⟩
theorem sum_ok {ad ks : List Nat} {i x : Int32} (hi : iv 0 4095 i) (h0 : 0 ≤ x.toInt) (hx : x.toInt ≤ (sg_pc 12 i.toBitVec.toNat : Int)) : okV ad ks (sg_sum i.toNatClampNeg) (.int x) := by
  have h1 := iv_nn hi (by decide)
  have h2 : i.toNatClampNeg = i.toBitVec.toNat := by show i.toInt.toNat = _; omega
  rw [h2]
  exact ⟨x, rfl, h0, hx⟩
theorem shl1_long {y : Int64} {x : Int32} (hx : iv 0 12 x) (e : y = 1 <<< (x.toInt64 &&& 63)) : y.toBitVec.toNat = 2 ^ x.toInt.toNat := by
  have h3 : ∀ n : Nat, n < 13 → ((1 : Int64) <<< ((Int32.ofNat n).toInt64 &&& 63)).toBitVec.toNat = 2 ^ n := by decide +kernel
  have h4 := h3 x.toInt.toNat (by have := hx.2; omega)
  rw [ofNat_clamp hx.1 (by have := hx.1; omega)] at h4
  rw [e]
  exact h4
theorem seen_step {a b y : Int64} {x : Int32} {p : Nat} (h : a.toBitVec.toNat < 2 ^ p) (hx : iv 0 12 x) (hp : x.toInt < (p : Int)) (e : y = 1 <<< (x.toInt64 &&& 63)) (e2 : b = a ||| y) : b.toBitVec.toNat < 2 ^ p := by
  rw [e2, show (a ||| y : Int64).toBitVec.toNat = a.toBitVec.toNat ||| y.toBitVec.toNat from BitVec.toNat_or ..]
  refine Nat.or_lt_two_pow h ?_
  rw [shl1_long hx e]
  exact Nat.pow_lt_pow_right (by decide) (by have := hx.1; omega)
theorem seen_bit {a y z : Int64} {x f : Int32} {p : Nat} (h : a.toBitVec.toNat < 2 ^ p) (hp : p ≤ 12) (hx : iv 0 12 x) (e : y = a >>> (x.toInt64 &&& 63)) (e2 : z = y &&& 1) (ef : f = lg_cmp z 1) (c : f = 0) : x.toInt < (p : Int) := by
  apply Classical.byContradiction
  intro hn
  have hz : z = 1 := by
    have h1 := lcmp_iff z 1
    rw [← ef, c] at h1
    have h2 : ¬ z.toInt < (1 : Int64).toInt := fun q => absurd (h1.1.mpr q) (by decide)
    have h3 : ¬ (1 : Int64).toInt < z.toInt := fun q => absurd (h1.2.mpr q) (by decide)
    exact Int64.toInt_inj.mp (by omega)
  have h13 : a.toBitVec.toNat < 2 ^ 12 := Nat.lt_of_lt_of_le h (Nat.pow_le_pow_right (by decide) hp)
  have hsh : ∀ n : Nat, n < 13 → ∀ b : Int64, (b >>> ((Int32.ofNat n).toInt64 &&& 63)).toBitVec = b.toBitVec.sshiftRight n := by
    intro n hn b
    match n, hn with
    | 0, _ => rfl
    | 1, _ => rfl
    | 2, _ => rfl
    | 3, _ => rfl
    | 4, _ => rfl
    | 5, _ => rfl
    | 6, _ => rfl
    | 7, _ => rfl
    | 8, _ => rfl
    | 9, _ => rfl
    | 10, _ => rfl
    | 11, _ => rfl
    | 12, _ => rfl
    | n + 13, hn => exact absurd hn (by omega)
  have h4 := hsh x.toInt.toNat (by have := hx.2; omega) a
  rw [ofNat_clamp hx.1 (by have := hx.1; omega), ← e] at h4
  have hm : a.toBitVec.msb = false := by
    rw [BitVec.msb_eq_decide]
    exact decide_eq_false (by omega)
  have h5 : y.toBitVec.toNat = a.toBitVec.toNat >>> x.toInt.toNat := by
    rw [h4, BitVec.sshiftRight_eq_of_msb_false hm, BitVec.toNat_ushiftRight]
  have h6 : y.toBitVec.toNat = 0 := by
    rw [h5, Nat.shiftRight_eq_div_pow]
    apply Nat.div_eq_of_lt
    exact Nat.lt_of_lt_of_le h (Nat.pow_le_pow_right (by decide) (by have := hx.1; omega))
  have h7 : z.toBitVec.toNat = 0 := by
    rw [e2, show (y &&& 1 : Int64).toBitVec.toNat = y.toBitVec.toNat &&& 1 from BitVec.toNat_and .., h6]
    exact Nat.zero_and _
  rw [hz] at h7
  exact absurd h7 (by decide +kernel)
theorem sg_eleF {kt : List sgK} {cl : List vw_C} {D : va_G} {A : Nat → Prop} {tys : List (ClassId × FieldType)} {ad ks : List Nat} {H : Heap} {a : Nat} (hG : sgG kt D cl A tys ad ks H) {k : Nat} (ha : isK ad ks k a) {n : Nat} {el : Nat → sgT} (hk : kt[k]? = some (.inr (n, .int, el))) : ∃ F : Nat → Int32, ∀ j : Nat, j < n → ele H a j (F j) := by
  obtain ⟨ws, hP, hD, hT, hU⟩ := hG
  obtain ⟨j, e, K, w1, w2, w3, w4⟩ := ha.in hT
  rw [hk] at w3
  cases w3
  cases e with
  | inr q => exact w4.elim
  | inl q =>
    obtain ⟨cA, m, z⟩ := q
    obtain ⟨h1, h2, h3, h4⟩ := w4
    dsimp only at h1 h2 h3 h4
    subst h1
    match z, w1, h3, h4 with
    | .inl f, w1, h3, h4 => exact ⟨f, fun i hi => ele_of (hP j _ w1) hi⟩
    | .inr (.inl f), w1, h3, h4 => cases h4
    | .inr (.inr (.inl f)), w1, h3, h4 => exact h3.elim
    | .inr (.inr (.inr (.inl f))), w1, h3, h4 => exact h3.elim
    | .inr (.inr (.inr (.inr f))), w1, h3, h4 => obtain ⟨C, h4⟩ := h4; cases h4
theorem pc_succ_has {x c : Int32} (hc : iv 0 31 c) (h : sgHas x c) : sg_pc (c.toInt.toNat + 1) x.toBitVec.toNat = sg_pc c.toInt.toNat x.toBitVec.toNat + 1 := by
  have h1 := iv_nn hc (by decide)
  have h2 := hc.2
  unfold sgHas at h
  rw [Nat.mod_eq_of_lt (by omega), show c.toBitVec.toNat = c.toInt.toNat by omega] at h
  show sg_pc c.toInt.toNat _ + _ = _
  rw [h]
  rfl
theorem pc_succ_le (x : Nat) (n : Nat) : sg_pc n x ≤ sg_pc (n + 1) x := Nat.le_add_right _ _

section
variable {p : Program} {l : Launch} {e : Env} {R : Room} {s : State} {m : MethodId} {args : Array Value} {below : List Frame} {meth : Method} {c : Code} {H : Heap} {locs : List Loc} {cells slots : Nat} {Q : State → Prop}
variable {cc : ByteArray} {nL pc : Nat} {ls : Array Slot} {rest : List Value} {own : String} {kt : List sgK} {D : va_G} {cl : List vw_C} {base : Nat} {a : Nat} {tys : List (ClassId × FieldType)} {ad ks : List Nat} {H0 : Heap}
variable {y : MethodName} {bytes : ByteArray} {maxL index n : Nat} {ret : Option FieldType} {rm : Room} {As : List Value} {st0 : List Value}
theorem sg_ofPh {Pq : Heap → Array Value → State → Outcome → State → Prop} {av : List Value} {Hx : Heap} (hy : plainName y.cls = true) (hfit : (lg_sl av).length ≤ maxL)
    (body : ∀ (p : Program) (e : Env) (s : State) (m : MethodId) (below : List Frame) (meth : Method) (c : Code), s.heap = Hx → CallFix p m c bytes maxL s av.toArray sg_tbl y.cls → meth.sig.returnType = ret → meth.locks = false → base ≤ s.heap.size → va_K D cl tys s → sgC base s → sgG kt D cl (fun q : Nat => base ≤ q) tys ad ks s.heap → ∀ ls : Array Slot, lv_has ls maxL (lv_args 0 av) →
      W p l e (headSpec (Cond.code y bytes maxL ret :: sg_tbl) rm).room s m av.toArray below meth c s.heap [] 0 0 (MQ below (Pq s.heap) av.toArray s 0 0 (fun _ : Nat => False)) (F0 m 0 ls [])) :
    Met l y (Cond.code y bytes maxL ret :: sg_tbl) rm (va_Pc av (fun U => U.heap = Hx ∧ sgB kt D cl base tys ad ks U)) (Pq Hx) 0 0 (fun _ : Nat => False) := by
  refine Met.ofW (cc := bytes) (maxL := maxL) (ret := ret) hy rfl ?_
  intro p e s m args below meth c s₁ B hml hv
  obtain ⟨rfl, rfl, hb, hK, hC, hG⟩ := hv
  have hts := atoms_spec (ws := Cond.code y bytes maxL ret :: sg_tbl) B.pre
  have hown : s.vm.findClass y.cls = some m.cls := findClass_of_methodNamed B.named
  rw [lg_entry_eq]
  exact body p e s m below meth c rfl ⟨B.exec, B.bytes, hml, hown, fun w hw => hts w (List.mem_cons_of_mem _ hw)⟩ B.returns B.notSynchronized hb hK hC hG _ (lv_entry av hfit)
end
