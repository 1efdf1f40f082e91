/-- an int within bounds -/
def iv (a b : Int) (x : Int32) : Prop := a ≤ x.toInt ∧ x.toInt ≤ b
/-- what a place may hold: an int within bounds, a reference (null, too?) to a cell of a kind, a long, anything -/
abbrev sgT : Type := (Int × Int) ⊕ (Bool × Nat) ⊕ Bool
/-- kinds of cells: an object (its class's place, what its fields may hold), an array (how long, its component's type, what each place may hold) -/
abbrev sgK : Type := (Nat × List sgT) ⊕ (Nat × FieldType × (Nat → sgT))
def isK (ad ks : List Nat) (k a : Nat) : Prop := ∃ j : Nat, ad[j]? = some a ∧ ks[j]? = some k
def okV (ad ks : List Nat) (t : sgT) (v : Value) : Prop := match t with
  | .inl b => ∃ x : Int32, v = .int x ∧ iv b.1 b.2 x
  | .inr (.inl r) => (r.1 = true ∧ v = .null) ∨ ∃ a : Nat, v = .ref a ∧ isK ad ks r.2 a
  | .inr (.inr false) => ∃ x : Int64, v = .long x
  | .inr (.inr true) => True
def okA (ad ks : List Nat) (n : Nat) (el : Nat → sgT) (a : (Nat → Int32) ⊕ (Nat → Int64) ⊕ (Nat → UInt32) ⊕ (Nat → UInt64) ⊕ (Nat → Option Nat)) : Prop := match a with
  | .inl f => ∀ i : Nat, i < n → okV ad ks (el i) (.int (f i))
  | .inr (.inl f) => ∀ i : Nat, i < n → okV ad ks (el i) (.long (f i))
  | .inr (.inr (.inl _)) => False
  | .inr (.inr (.inr (.inl _))) => False
  | .inr (.inr (.inr (.inr f))) => ∀ i : Nat, i < n → okV ad ks (el i) (va_rf (f i))
def okE (ad ks : List Nat) (tys : List (ClassId × FieldType)) (K : sgK) (e : va_E) : Prop := match K, e with
  | .inl o, .inr q => q.1 = o.1 ∧ q.2.length = o.2.length ∧ ∀ (j : Nat) (t : sgT) (v : Value), o.2[j]? = some t → q.2[j]? = some v → okV ad ks t v
  | .inr z, .inl q => q.2.1 = z.1 ∧ (q.1, z.2.1) ∈ tys ∧ okA ad ks z.1 z.2.2 q.2.2 ∧ (match q.2.2 with | .inl _ => z.2.1 = .int ∨ z.2.1 = .byte ∨ z.2.1 = .boolean | .inr (.inl _) => z.2.1 = .long | _ => ∃ C : String, z.2.1 = .object C)
  | _, _ => False
/-- the world is typed: its addresses are ad, each of the kind that ks has at its place -/
def TH (kt : List sgK) (tys : List (ClassId × FieldType)) (ad ks : List Nat) (ws : va_W) : Prop := ws.map Prod.fst = ad ∧ ad.length = ks.length ∧
  ∀ (j : Nat) (q : Nat × va_E) (k : Nat), ws[j]? = some q → ks[j]? = some k → ∃ K : sgK, kt[k]? = some K ∧ okE ad ks tys K q.2
/-- of some kinds there is one cell alone -/
def sgU (ks : List Nat) : Prop := ∀ k : Nat, k ∈ [2, 8, 10, 11, 12, 16, 42, 45, 49, 50, 51, 52, 53, 54] → ∀ i j : Nat, ks[i]? = some k → ks[j]? = some k → i = j
/-- what an address's content must be, by the table's last row -/
def gA (g : Nat → sgT) (i : Nat) : Nat := match g i with | .inr (.inl r) => r.2 | _ => 0
def gB (g : Nat → sgT) (i : Nat) : Bool := match g i with | .inr (.inr b) => b | _ => false
def gI (g : Nat → sgT) (i : Nat) : Int := match g i with | .inl q => q.1 | _ => 0
def sgS (k j : Nat) : Bool := (k == 11 && (j == 10 || j == 11)) || (k == 4 && (j == 0 || j == 5)) || k == 21 || k == 44 || (k == 3 && (j == 0 || j == 1)) || k == 20
theorem sgS_no {k j : Nat} (h : k ≠ 11 ∧ k ≠ 4 ∧ k ≠ 21 ∧ k ≠ 44 ∧ k ≠ 3 ∧ k ≠ 20) : sgS k j = false := by
  obtain ⟨h1, h2, h3, h4, h5, h6⟩ := h
  have e1 : (k == 11) = false := beq_eq_false_iff_ne.mpr h1
  have e2 : (k == 4) = false := beq_eq_false_iff_ne.mpr h2
  have e3 : (k == 21) = false := beq_eq_false_iff_ne.mpr h3
  have e4 : (k == 44) = false := beq_eq_false_iff_ne.mpr h4
  have e5 : (k == 3) = false := beq_eq_false_iff_ne.mpr h5
  have e6 : (k == 20) = false := beq_eq_false_iff_ne.mpr h6
  unfold sgS
  rw [e1, e2, e3, e4, e5, e6]
  rfl
theorem sgS_3 {i : Nat} (h1 : i ≠ 0) (h2 : i ≠ 1) : sgS 3 i = false := by
  have e1 : (i == 0) = false := beq_eq_false_iff_ne.mpr h1
  have e2 : (i == 1) = false := beq_eq_false_iff_ne.mpr h2
  unfold sgS
  rw [e1, e2]
  rfl
theorem sgS_11 {i : Nat} (h1 : i ≠ 10) (h2 : i ≠ 11) : sgS 11 i = false := by
  have e1 : (i == 10) = false := beq_eq_false_iff_ne.mpr h1
  have e2 : (i == 11) = false := beq_eq_false_iff_ne.mpr h2
  unfold sgS
  rw [e1, e2]
  rfl
theorem sgS_4 {i : Nat} (h1 : i ≠ 0) (h2 : i ≠ 5) : sgS 4 i = false := by
  have e1 : (i == 0) = false := beq_eq_false_iff_ne.mpr h1
  have e2 : (i == 5) = false := beq_eq_false_iff_ne.mpr h2
  unfold sgS
  rw [e1, e2]
  rfl
def gvI (n : Int) (v : Value) : Prop := ∃ x : Int32, v = .int x ∧ x.toInt = n
def gW (g : Nat → sgT) (b : Bool) : Nat := bif b then gA g 2 else gA g 0
def gR (g : Nat → sgT) (b : Bool) : Nat := bif b then gA g 3 else gA g 1
def go11 (g : Nat → sgT) (b : Bool) (v : Value) : Prop := gB g 14 = true → v = .ref (gW g b)
def go4r (g : Nat → sgT) (a : Nat) (v : Value) : Prop := (a = gA g 0 → v = .ref (gA g 1)) ∧ (a = gA g 2 → v = .ref (gA g 3))
def go4c (g : Nat → sgT) (a : Nat) (v : Value) : Prop := a = gW g (gB g 8) → gvI (gI g 9) v
def go21 (g : Nat → sgT) (a j : Nat) (v : Value) : Prop := a = gR g (gB g 8) → gvI (gI g (30 + j)) v
/-- the games on the shelf: where each lies, where its moves; which are told, how many moves, each move -/
def gG (g : Nat → sgT) (j : Nat) : Nat := gA g (40 + j)
def gM (g : Nat → sgT) (j : Nat) : Nat := gA g (50 + j)
def gTo (g : Nat → sgT) (j : Nat) : Bool := gB g (70 + j)
def gCn (g : Nat → sgT) (j : Nat) : Int := gI g (60 + j)
def gMv (g : Nat → sgT) (j i : Nat) : Int := gI g (100 + 16 * j + i)
def go44 (g : Nat → sgT) (j : Nat) (v : Value) : Prop := j < 5 → v = .ref (gG g j)
def go3m (g : Nat → sgT) (a : Nat) (v : Value) : Prop := ∀ j : Nat, j < 5 → a = gG g j → v = .ref (gM g j)
def go3c (g : Nat → sgT) (a : Nat) (v : Value) : Prop := ∀ j : Nat, j < 5 → gTo g j = true → a = gG g j → gvI (gCn g j) v
def go20 (g : Nat → sgT) (a i : Nat) (v : Value) : Prop := ∀ j : Nat, j < 5 → gTo g j = true → (i : Int) < gCn g j → a = gM g j → gvI (gMv g j i) v
def sgGr (g : Nat → sgT) (k a j : Nat) (v : Value) : Prop :=
  if k = 11 then (if j = 10 then go11 g (gB g 6) v else go11 g (gB g 7) v)
  else if k = 4 then (if j = 0 then go4r g a v else go4c g a v)
  else if k = 21 then go21 g a j v
  else if k = 44 then go44 g j v
  else if k = 3 then (if j = 0 then go3m g a v else go3c g a v)
  else go20 g a j v
def sgGo (g : Nat → sgT) (k a j : Nat) (v : Value) : Prop := sgS k j = true → sgGr g k a j v
theorem go_no {g : Nat → sgT} {k a j : Nat} {v : Value} (h : sgS k j = false) : sgGo g k a j v := fun q => by
  rw [h] at q
  cases q
theorem go_g {g : Nat → sgT} {a : Nat} {v : Value} (h : go11 g (gB g 6) v) : sgGo g 11 a 10 v := fun _ => by
  unfold sgGr
  rw [if_pos rfl, if_pos rfl]
  exact h
theorem go_s {g : Nat → sgT} {a : Nat} {v : Value} (h : go11 g (gB g 7) v) : sgGo g 11 a 11 v := fun _ => by
  unfold sgGr
  rw [if_pos rfl, if_neg (by decide)]
  exact h
theorem go_r {g : Nat → sgT} {a : Nat} {v : Value} (h : go4r g a v) : sgGo g 4 a 0 v := fun _ => by
  unfold sgGr
  rw [if_neg (by decide), if_pos rfl, if_pos rfl]
  exact h
theorem go_c {g : Nat → sgT} {a : Nat} {v : Value} (h : go4c g a v) : sgGo g 4 a 5 v := fun _ => by
  unfold sgGr
  rw [if_neg (by decide), if_pos rfl, if_neg (by decide)]
  exact h
theorem go_e {g : Nat → sgT} {a j : Nat} {v : Value} (h : go21 g a j v) : sgGo g 21 a j v := fun _ => by
  unfold sgGr
  rw [if_neg (by decide), if_neg (by decide), if_pos rfl]
  exact h
theorem go_h {g : Nat → sgT} {a j : Nat} {v : Value} (h : go44 g j v) : sgGo g 44 a j v := fun _ => by
  unfold sgGr
  rw [if_neg (by decide), if_neg (by decide), if_neg (by decide), if_pos rfl]
  exact h
theorem go_m {g : Nat → sgT} {a : Nat} {v : Value} (h : go3m g a v) : sgGo g 3 a 0 v := fun _ => by
  unfold sgGr
  rw [if_neg (by decide), if_neg (by decide), if_neg (by decide), if_neg (by decide), if_pos rfl, if_pos rfl]
  exact h
theorem go_k {g : Nat → sgT} {a : Nat} {v : Value} (h : go3c g a v) : sgGo g 3 a 1 v := fun _ => by
  unfold sgGr
  rw [if_neg (by decide), if_neg (by decide), if_neg (by decide), if_neg (by decide), if_pos rfl, if_neg (by decide)]
  exact h
theorem go_v {g : Nat → sgT} {a j : Nat} {v : Value} (h : go20 g a j v) : sgGo g 20 a j v := fun _ => by
  unfold sgGr
  rw [if_neg (by decide), if_neg (by decide), if_neg (by decide), if_neg (by decide), if_neg (by decide)]
  exact h
theorem og_g {g : Nat → sgT} {a : Nat} {v : Value} (h : sgGo g 11 a 10 v) : go11 g (gB g 6) v := by
  have h := h rfl
  unfold sgGr at h
  rwa [if_pos rfl, if_pos rfl] at h
theorem og_s {g : Nat → sgT} {a : Nat} {v : Value} (h : sgGo g 11 a 11 v) : go11 g (gB g 7) v := by
  have h := h rfl
  unfold sgGr at h
  rwa [if_pos rfl, if_neg (by decide)] at h
theorem og_r {g : Nat → sgT} {a : Nat} {v : Value} (h : sgGo g 4 a 0 v) : go4r g a v := by
  have h := h rfl
  unfold sgGr at h
  rwa [if_neg (by decide), if_pos rfl, if_pos rfl] at h
theorem og_c {g : Nat → sgT} {a : Nat} {v : Value} (h : sgGo g 4 a 5 v) : go4c g a v := by
  have h := h rfl
  unfold sgGr at h
  rwa [if_neg (by decide), if_pos rfl, if_neg (by decide)] at h
theorem og_e {g : Nat → sgT} {a j : Nat} {v : Value} (h : sgGo g 21 a j v) : go21 g a j v := by
  have h := h rfl
  unfold sgGr at h
  rwa [if_neg (by decide), if_neg (by decide), if_pos rfl] at h
theorem og_h {g : Nat → sgT} {a j : Nat} {v : Value} (h : sgGo g 44 a j v) : go44 g j v := by
  have h := h rfl
  unfold sgGr at h
  rwa [if_neg (by decide), if_neg (by decide), if_neg (by decide), if_pos rfl] at h
theorem og_m {g : Nat → sgT} {a : Nat} {v : Value} (h : sgGo g 3 a 0 v) : go3m g a v := by
  have h := h rfl
  unfold sgGr at h
  rwa [if_neg (by decide), if_neg (by decide), if_neg (by decide), if_neg (by decide), if_pos rfl, if_pos rfl] at h
theorem og_k {g : Nat → sgT} {a : Nat} {v : Value} (h : sgGo g 3 a 1 v) : go3c g a v := by
  have h := h rfl
  unfold sgGr at h
  rwa [if_neg (by decide), if_neg (by decide), if_neg (by decide), if_neg (by decide), if_pos rfl, if_neg (by decide)] at h
theorem og_v {g : Nat → sgT} {a j : Nat} {v : Value} (h : sgGo g 20 a j v) : go20 g a j v := by
  have h := h rfl
  unfold sgGr at h
  rwa [if_neg (by decide), if_neg (by decide), if_neg (by decide), if_neg (by decide), if_neg (by decide)] at h
/-- a game on the shelf that isn't told -/
def sgNg (g : Nat → sgT) (a : Nat) : Prop := ∃ j : Nat, j < 5 ∧ a = gG g j ∧ gTo g j = false ∧ ∀ i : Nat, i < 5 → i ≠ j → gG g i ≠ gG g j ∧ gM g i ≠ gM g j
theorem ng_k {g : Nat → sgT} {a : Nat} {v : Value} (h : sgNg g a) : sgGo g 3 a 1 v := by
  obtain ⟨j, h1, h2, h3, h4⟩ := h
  refine go_k fun i hi ht hg => ?_
  by_cases e : i = j
  · subst e
    rw [h3] at ht
    cases ht
  · exact absurd (hg.symm.trans h2) (h4 i hi e).1
theorem ng_q {g : Nat → sgT} {a q : Nat} (h : sgNg g a) (hr : sgGo g 3 a 0 (.ref q)) : ∃ j : Nat, j < 5 ∧ q = gM g j ∧ gTo g j = false ∧ ∀ i : Nat, i < 5 → i ≠ j → gG g i ≠ gG g j ∧ gM g i ≠ gM g j := by
  obtain ⟨j, h1, h2, h3, h4⟩ := h
  have h5 := og_m hr j h1 h2
  cases h5
  exact ⟨j, h1, rfl, h3, h4⟩
theorem ng_e {g : Nat → sgT} {a q i : Nat} {v : Value} (h : sgNg g a) (hr : sgGo g 3 a 0 (.ref q)) : sgGo g 20 q i v := by
  obtain ⟨j, h1, h2, h3, h4⟩ := ng_q h hr
  refine go_v fun z hz ht hc hq => ?_
  by_cases e : z = j
  · subst e
    rw [h3] at ht
    cases ht
  · exact absurd (hq.symm.trans h2) (h4 z hz e).2
/-- the games lie apart, the first n of them are told -/
def sgGg (g : Nat → sgT) (n : Nat) : Prop := (∀ i j : Nat, i < 5 → j < 5 → i ≠ j → gG g i ≠ gG g j ∧ gM g i ≠ gM g j) ∧ ∀ j : Nat, j < 5 → (gTo g j = true ↔ j < n)
theorem gg_to {g : Nat → sgT} {n j : Nat} (h : sgGg g n) (hj : j < 5) (hn : ¬ j < n) : gTo g j = false := by
  cases e : gTo g j with
  | false => rfl
  | true => exact absurd ((h.2 j hj).mp e) hn
theorem gg_q {g : Nat → sgT} {a j q : Nat} (hj : j < 5) (hs : sgGo g 44 a j (.ref q)) : q = gG g j := by
  have h1 := og_h hs hj
  cases h1
  rfl
theorem gg_ng {g : Nat → sgT} {n a j q : Nat} (h : sgGg g n) (hj : j = n) (h5 : n < 5) (hs : sgGo g 44 a j (.ref q)) : sgNg g q := by
  subst hj
  exact ⟨j, h5, gg_q h5 hs, gg_to h h5 (Nat.lt_irrefl j), fun i hi hne => h.1 i j hi h5 hne⟩
/-- the Ground that is not held -/
def sgNp (g : Nat → sgT) (a : Nat) : Prop := a = gW g (!gB g 8) ∧ gW g (!gB g 8) ≠ gW g (gB g 8) ∧ gR g (!gB g 8) ≠ gR g (gB g 8)
theorem np_c {g : Nat → sgT} {a : Nat} {v : Value} (h : sgNp g a) : sgGo g 4 a 5 v := go_c fun q => absurd (h.1.symm.trans q) h.2.1
theorem np_q {g : Nat → sgT} {a q : Nat} (h : sgNp g a) (hr : sgGo g 4 a 0 (.ref q)) : q = gR g (!gB g 8) := by
  obtain ⟨h1, h2⟩ := og_r hr
  have h3 := h.1
  unfold gW at h3
  unfold gR
  cases hb : gB g 8 with
  | true =>
    rw [hb] at h3
    have h4 := h1 h3
    cases h4
    rfl
  | false =>
    rw [hb] at h3
    have h4 := h2 h3
    cases h4
    rfl
theorem np_e {g : Nat → sgT} {a q j : Nat} {v : Value} (h : sgNp g a) (hr : sgGo g 4 a 0 (.ref q)) : sgGo g 21 q j v := go_e fun z => absurd ((np_q h hr).symm.trans z) h.2.2
/-- the LAWN that is held is the one at hand, the other lies spare -/
def sgGi (g : Nat → sgT) : Prop := gB g 7 = (!gB g 6) ∧ gB g 8 = gB g 6 ∧ (gA g 0 ≠ gA g 2 ∧ gA g 1 ≠ gA g 3) ∧ gB g 14 = true
theorem gi_ne {g : Nat → sgT} (h : sgGi g) (b : Bool) : gW g (!b) ≠ gW g b ∧ gR g (!b) ≠ gR g b := by
  obtain ⟨-, -, ⟨h1, h2⟩, -⟩ := h
  unfold gW gR
  cases b
  · exact ⟨fun q => h1 q.symm, fun q => h2 q.symm⟩
  · exact ⟨h1, h2⟩
theorem gi_np {g : Nat → sgT} {a q : Nat} (h : sgGi g) (hs : sgGo g 11 a 11 (.ref q)) : sgNp g q := by
  have h0 := og_s hs
  have h1 : q = gW g (gB g 7) := by
    have h2 := h0 h.2.2.2
    cases h2
    rfl
  refine ⟨?_, gi_ne h _⟩
  rw [h1, h.1, h.2.1]
theorem gi_s {g : Nat → sgT} {a q : Nat} (h : sgGi g) (hs : sgGo g 11 a 11 (.ref q)) : q = gW g (!gB g 6) := by
  have h2 := og_s hs h.2.2.2
  cases h2
  rw [h.1]
theorem gi_g {g : Nat → sgT} {a q : Nat} (h : sgGi g) (hs : sgGo g 11 a 10 (.ref q)) : q = gW g (gB g 6) := by
  have h2 := og_g hs h.2.2.2
  cases h2
  rfl
theorem gi_cells {g : Nat → sgT} {a q : Nat} {x : Int32} (h : sgGi g) (hs : sgGo g 11 a 10 (.ref q)) (hc : sgGo g 4 q 5 (.int x)) : x.toInt = gI g 9 := by
  obtain ⟨y, e, h1⟩ := og_c hc (by rw [gi_g h hs, h.2.1])
  cases e
  exact h1
theorem gi_rule {g : Nat → sgT} {a q r j : Nat} {x : Int32} (h : sgGi g) (hs : sgGo g 11 a 10 (.ref q)) (hr : sgGo g 4 q 0 (.ref r)) (hc : sgGo g 21 r j (.int x)) : x.toInt = gI g (30 + j) := by
  have hq := gi_g h hs
  have hrr : r = gR g (gB g 6) := by
    obtain ⟨h1, h2⟩ := og_r hr
    unfold gW at hq
    unfold gR
    cases hb : gB g 6 with
    | true =>
      rw [hb] at hq
      have h4 := h2 hq
      cases h4
      rfl
    | false =>
      rw [hb] at hq
      have h4 := h1 hq
      cases h4
      rfl
  obtain ⟨y, e, h1⟩ := og_e hc (by rw [hrr, h.2.1])
  cases e
  exact h1
def gof (kt : List sgK) (k a j : Nat) (v : Value) : Prop := match (kt[67]? : Option sgK) with | some (.inr z) => sgGo z.2.2 k a j v | _ => True
theorem gof_no {kt : List sgK} {k a j : Nat} {v : Value} (h : sgS k j = false) : gof kt k a j v := by
  unfold gof
  split
  · exact go_no h
  · exact trivial
theorem gof_eq {kt kt' : List sgK} (h : kt'[67]? = kt[67]?) : gof kt' = gof kt := by
  funext k a j v
  unfold gof
  rw [h]
/-- what lies in a cell, by its place -/
def eAt (e : va_E) (i : Nat) (v : Value) : Prop := match e with
  | .inr q => q.2[i]? = some v
  | .inl q => match q.2.2 with
    | .inl f => i < q.2.1 ∧ v = .int (f i)
    | .inr (.inl f) => i < q.2.1 ∧ v = .long (f i)
    | .inr (.inr (.inr (.inr f))) => i < q.2.1 ∧ v = va_rf (f i)
    | _ => False
def okG (g : Nat → Value → Prop) (e : va_E) : Prop := ∀ (i : Nat) (v : Value), eAt e i v → g i v
def GH (kt : List sgK) (ks : List Nat) (ws : va_W) : Prop := ∀ (j : Nat) (q : Nat × va_E) (k : Nat), ws[j]? = some q → ks[j]? = some k → okG (gof kt k q.1) q.2
theorem okG_all {g : Nat → Value → Prop} (h : ∀ (j : Nat) (v : Value), g j v) (e : va_E) : okG g e := fun i v _ => h i v
theorem GH.kt {kt kt' : List sgK} {ks : List Nat} {ws : va_W} (hg : GH kt ks ws) (h : kt'[67]? = kt[67]?) : GH kt' ks ws := by
  intro j q k h1 h2
  rw [gof_eq h]
  exact hg j q k h1 h2
theorem GH.set {kt : List sgK} {ks : List Nat} {ws : va_W} (hg : GH kt ks ws) {j a k : Nat} {e e' : va_E} (hw : ws[j]? = some (a, e)) (hk : ks[j]? = some k) (he : okG (gof kt k a) e') : GH kt ks (ws.set j (a, e')) := by
  have hl := (List.getElem?_eq_some_iff.mp hw).1
  intro i q k' hq hk'
  by_cases hi : i = j
  · subst hi
    rw [List.getElem?_set_self hl] at hq
    cases hq
    rw [hk] at hk'
    cases hk'
    exact he
  · rw [List.getElem?_set_ne (Ne.symm hi)] at hq
    exact hg i q k' hq hk'
theorem GH.setF {kt : List sgK} {ks : List Nat} {ws : va_W} (hg : GH kt ks ws) {j a k ci i : Nat} {fs : List Value} {v : Value} (hw : ws[j]? = some (a, .inr (ci, fs))) (hk : ks[j]? = some k) (hv : gof kt k a i v) : GH kt ks (ws.set j (a, .inr (ci, fs.set i v))) := by
  refine hg.set hw hk fun i2 v2 h2 => ?_
  have h2 : (fs.set i v)[i2]? = some v2 := h2
  by_cases hi : i2 = i
  · subst hi
    have hl : i2 < fs.length := by
      have := (List.getElem?_eq_some_iff.mp h2).1
      rwa [List.length_set] at this
    rw [List.getElem?_set_self hl] at h2
    cases h2
    exact hv
  · rw [List.getElem?_set_ne (Ne.symm hi)] at h2
    exact hg j _ k hw hk i2 v2 h2
theorem GH.setA {kt : List sgK} {ks : List Nat} {ws : va_W} (hg : GH kt ks ws) {j a k n i : Nat} {cA : ClassId} {f : Nat → Int32} {x : Int32} (hw : ws[j]? = some (a, .inl (cA, n, .inl f))) (hk : ks[j]? = some k) (hv : gof kt k a i (.int x)) : GH kt ks (ws.set j (a, .inl (cA, n, .inl (upd f i x)))) := by
  refine hg.set hw hk fun i2 v2 h2 => ?_
  obtain ⟨h2, rfl⟩ : i2 < n ∧ v2 = .int (upd f i x i2) := h2
  by_cases hi : i2 = i
  · subst hi
    rw [show upd f i2 x i2 = x by simp [upd]]
    exact hv
  · rw [show upd f i x i2 = f i2 by simp [upd, hi]]
    exact hg j _ k hw hk i2 _ ⟨h2, rfl⟩
theorem GH.map {kt kt' : List sgK} {ks : List Nat} {ws : va_W} (hg : GH kt ks ws) (h : ∀ (j : Nat) (q : Nat × va_E) (k : Nat), ws[j]? = some q → ks[j]? = some k → ∀ (i : Nat) (v : Value), eAt q.2 i v → gof kt k q.1 i v → gof kt' k q.1 i v) : GH kt' ks ws := fun j q k h1 h2 i v h3 => h j q k h1 h2 i v h3 (hg j q k h1 h2 i v h3)
def sgG (kt : List sgK) (D : va_G) (cl : List vw_C) (A : Nat → Prop) (tys : List (ClassId × FieldType)) (ad ks : List Nat) (H : Heap) : Prop :=
  ∃ ws : va_W, va_P D cl ws H ∧ va_D A ws ∧ (TH kt tys ad ks ws ∧ (sgU ks ∧ GH kt ks ws))
theorem iv_top (x : Int32) : iv (-2147483648) 2147483647 x := ⟨by have := Int32.le_toInt x; simpa using this, by have := Int32.toInt_lt x; omega⟩
theorem iv_mono {a b a' b' : Int} {x : Int32} (h : iv a b x) (h1 : a' ≤ a) (h2 : b ≤ b') : iv a' b' x := ⟨Int.le_trans h1 h.1, Int.le_trans h.2 h2⟩
theorem isK.in {ad ks : List Nat} {k a : Nat} (h : isK ad ks k a) {kt : List sgK} {tys : List (ClassId × FieldType)} {ws : va_W} (hT : TH kt tys ad ks ws) : ∃ (j : Nat) (e : va_E) (K : sgK), ws[j]? = some (a, e) ∧ ks[j]? = some k ∧ kt[k]? = some K ∧ okE ad ks tys K e := by
  obtain ⟨j, h1, h2⟩ := h
  have h3 := hT.1
  rw [← h3, List.getElem?_map] at h1
  cases hw : ws[j]? with
  | none => rw [hw] at h1; cases h1
  | some q =>
    rw [hw] at h1
    obtain ⟨a', e⟩ := q
    cases h1
    obtain ⟨K, h4, h5⟩ := hT.2.2 j _ k hw h2
    exact ⟨j, e, K, hw, h2, h4, h5⟩
theorem TH.set {kt : List sgK} {tys : List (ClassId × FieldType)} {ad ks : List Nat} {ws : va_W} (hT : TH kt tys ad ks ws) {j a k : Nat} {e e' : va_E} {K : sgK} (hw : ws[j]? = some (a, e)) (hk : ks[j]? = some k) (hK : kt[k]? = some K) (he : okE ad ks tys K e') : TH kt tys ad ks (ws.set j (a, e')) := by
  have hl := (List.getElem?_eq_some_iff.mp hw).1
  refine ⟨?_, hT.2.1, fun i q k' hq hk' => ?_⟩
  · rw [← hT.1]
    apply List.ext_getElem?
    intro i
    rw [List.getElem?_map, List.getElem?_map]
    by_cases hi : i = j
    · subst hi
      rw [List.getElem?_set_self hl, hw]
      rfl
    · rw [List.getElem?_set_ne (Ne.symm hi)]
  · by_cases hi : i = j
    · subst hi
      rw [List.getElem?_set_self hl] at hq
      cases hq
      rw [hk] at hk'
      cases hk'
      exact ⟨K, hK, he⟩
    · rw [List.getElem?_set_ne (Ne.symm hi)] at hq
      exact hT.2.2 i q k' hq hk'
def fld (D : va_G) (H : Heap) (ci a j : Nat) (v : Value) : Prop := ∃ cell : Cell, H[a]? = some cell ∧ cell.slots[D.2 ci j]? = some v
/-- what of fields is known stays known, but ex -/
def sgFr (kt : List sgK) (D : va_G) (cl : List vw_C) (ad ks : List Nat) (H H1 : Heap) (ex : Nat → Nat → Prop) : Prop :=
  ∀ (k ci a j : Nat) (fts : List sgT) (r : vw_C) (v : Value), isK ad ks k a → kt[k]? = some (.inl (ci, fts)) → cl[ci]? = some r → j < r.2.2 → ¬ ex a j → fld D H ci a j v → fld D H1 ci a j v
theorem fld_of {D : va_G} {cl : List vw_C} {H : Heap} {ci a j : Nat} {fs : List Value} {r : vw_C} (h : va_at D cl (a, .inr (ci, fs)) H) (hc : cl[ci]? = some r) (hj : j < r.2.2) : fld D H ci a j (fs.getD j .null) := by
  obtain ⟨r', h1, cell, q1, q2, q3, q4⟩ := h
  cases h1.symm.trans hc
  exact ⟨cell, q1, q4 j hj⟩
theorem fld_fun {D : va_G} {H : Heap} {ci a j : Nat} {v v' : Value} (h : fld D H ci a j v) (h' : fld D H ci a j v') : v = v' := by
  obtain ⟨c1, a1, b1⟩ := h
  obtain ⟨c2, a2, b2⟩ := h'
  cases a1.symm.trans a2
  exact Option.some.inj (b1.symm.trans b2)
theorem isK_ne {kt : List sgK} {D : va_G} {cl : List vw_C} {A : Nat → Prop} {tys : List (ClassId × FieldType)} {ad ks : List Nat} {H : Heap} (hG : sgG kt D cl A tys ad ks H) {k k' a a' : Nat} (h : isK ad ks k a) (h' : isK ad ks k' a') (hk : k ≠ k') : a ≠ a' := by
  rintro rfl
  obtain ⟨ws, hP, hD, hT, hU⟩ := hG
  obtain ⟨j, e, K, h1, h2, -, -⟩ := h.in hT
  obtain ⟨j', e', K', h3, h4, -, -⟩ := h'.in hT
  have := hD.1 j j' _ _ h1 h3 rfl
  subst this
  exact hk (Option.some.inj (h2.symm.trans h4))
theorem iv_of {a b : Int} {x : Int32} (h : iv a b x) {a' b' : Int} (hd : decide (a' ≤ a ∧ b ≤ b') = true) : iv a' b' x := by
  have h2 := of_decide_eq_true hd
  exact ⟨Int.le_trans h2.1 h.1, Int.le_trans h.2 h2.2⟩
theorem iv_c (x : Int32) {a b : Int} (hd : decide (a ≤ x.toInt ∧ x.toInt ≤ b) = true) : iv a b x := by
  have h := of_decide_eq_true hd
  exact ⟨h.1, h.2⟩
theorem iv_add {f x y : Int32} {a b c d a' b' : Int} (e : f = x + y) (hx : iv a b x) (hy : iv c d y) (hd : decide (a' ≤ a + c ∧ b + d ≤ b' ∧ -2147483648 ≤ a' ∧ b' ≤ 2147483647) = true) : iv a' b' f := by
  obtain ⟨h1, h2, h3, h4⟩ := of_decide_eq_true hd
  obtain ⟨x1, x2⟩ := hx
  obtain ⟨y1, y2⟩ := hy
  have h : (x + y).toInt = x.toInt + y.toInt := Jvm.Kit.i32_add (by omega) (by omega)
  rw [e]
  exact ⟨by rw [h]; omega, by rw [h]; omega⟩
theorem iv_sub {f x y : Int32} {a b c d a' b' : Int} (e : f = x - y) (hx : iv a b x) (hy : iv c d y) (hd : decide (a' ≤ a - d ∧ b - c ≤ b' ∧ -2147483648 ≤ a' ∧ b' ≤ 2147483647) = true) : iv a' b' f := by
  obtain ⟨h1, h2, h3, h4⟩ := of_decide_eq_true hd
  obtain ⟨x1, x2⟩ := hx
  obtain ⟨y1, y2⟩ := hy
  have h : (x - y).toInt = x.toInt - y.toInt := Jvm.Kit.i32_sub (by omega) (by omega)
  rw [e]
  exact ⟨by rw [h]; omega, by rw [h]; omega⟩
theorem iv_mul {f x y : Int32} {a b c d a' b' : Int} (e : f = x * y) (hx : iv a b x) (hy : iv c d y) (hd : decide (0 ≤ a ∧ 0 ≤ c ∧ a' ≤ a * c ∧ b * d ≤ b' ∧ -2147483648 ≤ a' ∧ b' ≤ 2147483647) = true) : iv a' b' f := by
  obtain ⟨h0, h00, h1, h2, h3, h4⟩ := of_decide_eq_true hd
  obtain ⟨x1, x2⟩ := hx
  obtain ⟨y1, y2⟩ := hy
  have l1 : a * c ≤ x.toInt * y.toInt := Int.mul_le_mul x1 y1 h00 (by omega)
  have l2 : x.toInt * y.toInt ≤ b * d := Int.mul_le_mul x2 y2 (by omega) (by omega)
  have h : (x * y).toInt = x.toInt * y.toInt := Jvm.Kit.i32_mul (by omega) (by omega)
  rw [e]
  exact ⟨by rw [h]; omega, by rw [h]; omega⟩
theorem i32_rem' (x y : Int32) : (x - (x / y) * y).toInt = x.toInt.tmod y.toInt := by
  have a := (x % y).toInt_lt; have b := (x % y).le_toInt
  rw [Int32.toInt_mod] at a b
  rw [Int32.toInt_sub, Int32.toInt_mul, Int32.toInt_div, Int.bmod_mul_bmod, Int.sub_bmod_bmod, Int.mul_comm, ← Int.tmod_def]
  exact Jvm.Kit.bmod32 b a
theorem iv_rem {f x y : Int32} {a b c d a' b' : Int} (e : f = x - x / y * y) (hx : iv a b x) (hy : iv c d y) (hd : decide (0 ≤ a ∧ 0 < c ∧ a' ≤ 0 ∧ d - 1 ≤ b') = true) : iv a' b' f := by
  obtain ⟨h0, h1, h2, h3⟩ := of_decide_eq_true hd
  obtain ⟨x1, x2⟩ := hx
  obtain ⟨y1, y2⟩ := hy
  have h : (x - x / y * y).toInt = x.toInt % y.toInt := (i32_rem' x y).trans (Int.tmod_eq_emod_of_nonneg (by omega))
  have l1 := Int.emod_nonneg x.toInt (show y.toInt ≠ 0 by omega)
  have l2 := Int.emod_lt_of_pos x.toInt (show 0 < y.toInt by omega)
  rw [e]
  exact ⟨by rw [h]; omega, by rw [h]; omega⟩
theorem iv_div {f x y : Int32} {a b c d a' b' : Int} (e : f = x / y) (hx : iv a b x) (hy : iv c d y) (hd : decide (0 ≤ a ∧ 0 < c ∧ a' ≤ 0 ∧ b / c ≤ b' ∧ b ≤ 2147483647) = true) : iv a' b' f := by
  obtain ⟨h0, h1, h2, h3, h5⟩ := of_decide_eq_true hd
  obtain ⟨x1, x2⟩ := hx
  obtain ⟨y1, y2⟩ := hy
  have l0 : x.toInt.tdiv y.toInt = x.toInt / y.toInt := Int.tdiv_eq_ediv_of_nonneg (by omega)
  have l1 : 0 ≤ x.toInt / y.toInt := Int.ediv_nonneg (by omega) (by omega)
  have l2 : x.toInt / y.toInt ≤ b / c := by
    refine Int.le_trans (Int.ediv_le_ediv (by omega) x2) ?_
    rw [Int.le_ediv_iff_mul_le (by omega)]
    exact Int.le_trans (Int.mul_le_mul_of_nonneg_left y1 (Int.ediv_nonneg (by omega) (by omega))) (Int.ediv_mul_le b (by omega))
  have l3 : x.toInt / y.toInt ≤ x.toInt := Int.ediv_le_self _ (by omega)
  have h : (x / y).toInt = x.toInt / y.toInt := by
    rw [Int32.toInt_div, l0]
    exact Jvm.Kit.bmod32 (by omega) (by omega)
  rw [e]
  exact ⟨by rw [h]; omega, by rw [h]; omega⟩
theorem iv_nn {x : Int32} {a b : Int} (h : iv a b x) (h0 : 0 ≤ a) : x.toInt = (x.toBitVec.toNat : Int) := by
  have h1 : x.toInt = x.toBitVec.toInt := rfl
  have h2 := h.1
  rw [h1, BitVec.toInt_eq_toNat_cond] at h2 ⊢
  split
  · rfl
  · rename_i hc
    rw [if_neg hc] at h2
    have := x.toBitVec.isLt
    omega
theorem iv_lt31 {x : Int32} {a b : Int} (h : iv a b x) (h0 : 0 ≤ a) : x.toBitVec.toNat < 2147483648 := by
  have h1 := iv_nn h h0
  have h2 := (iv_top x).2
  omega
theorem iv_ofNat {x : Int32} {n : Nat} (h : x.toBitVec.toNat = n) (hn : n < 2147483648) : x.toInt = n := by
  have h1 : x.toInt = x.toBitVec.toInt := rfl
  rw [h1, BitVec.toInt_eq_toNat_cond, h, if_pos (by omega)]
theorem iv_and {f x y : Int32} {c d b' : Int} (e : f = x &&& y) (hy : iv c d y) (hd : decide (0 ≤ c ∧ d ≤ b') = true) : iv 0 b' f := by
  obtain ⟨h0, h1⟩ := of_decide_eq_true hd
  have hn := iv_nn hy h0
  have hl := iv_lt31 hy h0
  have e1 : (x &&& y).toBitVec.toNat = x.toBitVec.toNat &&& y.toBitVec.toNat := BitVec.toNat_and ..
  have l1 : x.toBitVec.toNat &&& y.toBitVec.toNat ≤ y.toBitVec.toNat := Nat.and_le_right
  have e2 := iv_ofNat e1 (by omega)
  have y2 := hy.2
  rw [e]
  exact ⟨by omega, by omega⟩
theorem iv_and' {f x y : Int32} {a b b' : Int} (e : f = x &&& y) (hx : iv a b x) (hd : decide (0 ≤ a ∧ b ≤ b') = true) : iv 0 b' f := by
  obtain ⟨h0, h1⟩ := of_decide_eq_true hd
  have hn := iv_nn hx h0
  have hl := iv_lt31 hx h0
  have e1 : (x &&& y).toBitVec.toNat = x.toBitVec.toNat &&& y.toBitVec.toNat := BitVec.toNat_and ..
  have l1 : x.toBitVec.toNat &&& y.toBitVec.toNat ≤ x.toBitVec.toNat := Nat.and_le_left
  have e2 := iv_ofNat e1 (by omega)
  have y2 := hx.2
  rw [e]
  exact ⟨by omega, by omega⟩
theorem iv_or {f x y : Int32} {a b c d : Int} (k : Nat) (e : f = x ||| y) (hx : iv a b x) (hy : iv c d y) (hd : decide (0 ≤ a ∧ 0 ≤ c ∧ b < 2 ^ k ∧ d < 2 ^ k ∧ k ≤ 31) = true) : iv 0 (2 ^ k - 1) f := by
  obtain ⟨h0, h1, h2, h3, h4⟩ := of_decide_eq_true hd
  have hn := iv_nn hx h0
  have hm := iv_nn hy h1
  have x2 := hx.2
  have y2 := hy.2
  have e1 : (x ||| y).toBitVec.toNat = x.toBitVec.toNat ||| y.toBitVec.toNat := BitVec.toNat_or ..
  have p1 : ((2 ^ k : Nat) : Int) = 2 ^ k := by simp
  have l1 : x.toBitVec.toNat ||| y.toBitVec.toNat < 2 ^ k := Nat.or_lt_two_pow (by omega) (by omega)
  have l2 : (2 : Nat) ^ k ≤ 2 ^ 31 := Nat.pow_le_pow_right (by decide) h4
  have e2 := iv_ofNat e1 (by omega)
  rw [e]
  exact ⟨by omega, by omega⟩
theorem iv_xor {f x y : Int32} {a b c d : Int} (k : Nat) (e : f = x ^^^ y) (hx : iv a b x) (hy : iv c d y) (hd : decide (0 ≤ a ∧ 0 ≤ c ∧ b < 2 ^ k ∧ d < 2 ^ k ∧ k ≤ 31) = true) : iv 0 (2 ^ k - 1) f := by
  obtain ⟨h0, h1, h2, h3, h4⟩ := of_decide_eq_true hd
  have hn := iv_nn hx h0
  have hm := iv_nn hy h1
  have x2 := hx.2
  have y2 := hy.2
  have e1 : (x ^^^ y).toBitVec.toNat = x.toBitVec.toNat ^^^ y.toBitVec.toNat := BitVec.toNat_xor ..
  have p1 : ((2 ^ k : Nat) : Int) = 2 ^ k := by simp
  have l1 : x.toBitVec.toNat ^^^ y.toBitVec.toNat < 2 ^ k := Nat.xor_lt_two_pow (by omega) (by omega)
  have l2 : (2 : Nat) ^ k ≤ 2 ^ 31 := Nat.pow_le_pow_right (by decide) h4
  have e2 := iv_ofNat e1 (by omega)
  rw [e]
  exact ⟨by omega, by omega⟩
/-- what a comparison says -/
theorem iv_lt {x y : Int32} {a b c d b' : Int} (h : x < y) (hx : iv a b x) (hy : iv c d y) (hd : decide (d - 1 ≤ b') = true) : iv a b' x := by
  have h1 := Int32.lt_iff_toInt_lt.mp h
  have h2 := of_decide_eq_true hd
  exact ⟨hx.1, by have := hy.2; omega⟩
theorem iv_ltr {x y : Int32} {a b c d c' : Int} (h : x < y) (hx : iv a b x) (hy : iv c d y) (hd : decide (c' ≤ a + 1) = true) : iv c' d y := by
  have h1 := Int32.lt_iff_toInt_lt.mp h
  have h2 := of_decide_eq_true hd
  exact ⟨by have := hx.1; omega, hy.2⟩
theorem iv_le {x y : Int32} {a b c d b' : Int} (h : x ≤ y) (hx : iv a b x) (hy : iv c d y) (hd : decide (d ≤ b') = true) : iv a b' x := by
  have h1 := Int32.le_iff_toInt_le.mp h
  have h2 := of_decide_eq_true hd
  exact ⟨hx.1, by have := hy.2; omega⟩
theorem iv_ler {x y : Int32} {a b c d c' : Int} (h : x ≤ y) (hx : iv a b x) (hy : iv c d y) (hd : decide (c' ≤ a) = true) : iv c' d y := by
  have h1 := Int32.le_iff_toInt_le.mp h
  have h2 := of_decide_eq_true hd
  exact ⟨by have := hx.1; omega, hy.2⟩
theorem iv_ge_of {x y : Int32} (h : ¬ x < y) : y ≤ x := Int32.le_iff_toInt_le.mpr (Int.not_lt.mp fun q => h (Int32.lt_iff_toInt_lt.mpr q))
theorem iv_gt_of {x y : Int32} (h : ¬ x ≤ y) : y < x := Int32.lt_iff_toInt_lt.mpr (Int.not_le.mp fun q => h (Int32.le_iff_toInt_le.mpr q))
theorem iv_eq {x y : Int32} {a b c d : Int} (h : x = y) (hx : iv a b x) (hy : iv c d y) : iv c d x := h ▸ hy
theorem iv_ne_lo {x y : Int32} {a b a' : Int} (h : ¬ x = y) (hx : iv a b x) (hd : decide (y.toInt = a ∧ a' = a + 1) = true) : iv a' b x := by
  obtain ⟨h1, h2⟩ := of_decide_eq_true hd
  refine ⟨?_, hx.2⟩
  have := hx.1
  have h3 : x.toInt ≠ y.toInt := fun q => h (Int32.toInt_inj.mp q)
  omega
theorem iv_ne_hi {x y : Int32} {a b b' : Int} (h : ¬ x = y) (hx : iv a b x) (hd : decide (y.toInt = b ∧ b' = b - 1) = true) : iv a b' x := by
  obtain ⟨h1, h2⟩ := of_decide_eq_true hd
  refine ⟨hx.1, ?_⟩
  have := hx.2
  have h3 : x.toInt ≠ y.toInt := fun q => h (Int32.toInt_inj.mp q)
  omega
theorem iv_no {x : Int32} {a b : Int} (hx : iv a b x) (hd : decide (b < a) = true) : False := by
  have h1 := of_decide_eq_true hd
  have := hx.1
  have := hx.2
  omega
theorem iv_vpin {x : Int32} {a b : Int} {n : Nat} (hx : iv a b x) (hd : decide (0 ≤ a ∧ b < n) = true) : vp_in x n := by
  obtain ⟨h1, h2⟩ := of_decide_eq_true hd
  have := hx.1
  have := hx.2
  exact vp_in_iff.mpr ⟨by omega, by omega⟩
theorem iv_ne0 {x : Int32} {a b : Int} (hx : iv a b x) (hd : decide (0 < a ∨ b < 0) = true) : ¬ x = 0 := by
  have h1 := of_decide_eq_true hd
  rintro rfl
  have h2 := hx.1
  have h3 := hx.2
  rw [Int32.toInt_zero] at h2 h3
  omega
theorem iv_clamp {x : Int32} {a b : Int} (hx : iv a b x) (h0 : decide (0 ≤ a) = true) : (x.toNatClampNeg : Int) = x.toInt := by
  have h1 := of_decide_eq_true h0
  have := hx.1
  show ((x.toInt.toNat : Nat) : Int) = x.toInt
  omega
theorem iv_up {a b : Int} {x : Int32} (h : iv a b x) : x.toInt ≤ b := h.2
theorem iv_dn {a b : Int} {x : Int32} (h : iv a b x) : a ≤ x.toInt := h.1
theorem iv_stepU {x y k : Int32} {a b M : Int} {N : Nat} (e : y = x + k) (hx : iv a b x) (hd : decide (0 < k.toInt ∧ b + k.toInt ≤ 2147483647 ∧ -2147483648 ≤ a ∧ b + 1 ≤ M) = true) (hN : (M - x.toInt).toNat ≤ N + 1) : (M - y.toInt).toNat ≤ N := by
  obtain ⟨h1, h2, h3, h5⟩ := of_decide_eq_true hd
  obtain ⟨x1, x2⟩ := hx
  have h : (x + k).toInt = x.toInt + k.toInt := Jvm.Kit.i32_add (by omega) (by omega)
  rw [e, h]
  omega
theorem iv_stepD {x y k : Int32} {a b M : Int} {N : Nat} (e : y = x + k) (hx : iv a b x) (hd : decide (k.toInt < 0 ∧ -2147483648 ≤ a + k.toInt ∧ b ≤ 2147483647 ∧ M ≤ a - 1) = true) (hN : (x.toInt - M).toNat ≤ N + 1) : (y.toInt - M).toNat ≤ N := by
  obtain ⟨h1, h2, h3, h5⟩ := of_decide_eq_true hd
  obtain ⟨x1, x2⟩ := hx
  have h : (x + k).toInt = x.toInt + k.toInt := Jvm.Kit.i32_add (by omega) (by omega)
  rw [e, h]
  omega
theorem iv_eqm {x y : Int32} {a b c d a' b' : Int} (h : x = y) (hx : iv a b x) (hy : iv c d y) (hd : decide ((a' ≤ a ∨ a' ≤ c) ∧ (b ≤ b' ∨ d ≤ b')) = true) : iv a' b' x := by
  have h1 := of_decide_eq_true hd
  subst h
  obtain ⟨x1, x2⟩ := hx
  obtain ⟨y1, y2⟩ := hy
  exact ⟨by omega, by omega⟩
theorem iv_one {x y : Int32} {a b c d : Int} (hx : iv a b x) (hy : iv c d y) (hd : decide (a = b ∧ b = c ∧ c = d) = true) : x = y := by
  have h1 := of_decide_eq_true hd
  obtain ⟨x1, x2⟩ := hx
  obtain ⟨y1, y2⟩ := hy
  exact Int32.toInt_inj.mp (by omega)
theorem iv_nt {x y : Int32} (n : Int) (h : ¬ x = y) (hd : decide (y.toInt = n) = true) : x.toInt ≠ n := fun q => h (Int32.toInt_inj.mp (q.trans (of_decide_eq_true hd).symm))
theorem iv_min {f x y : Int32} {a b c d a' b' : Int} (e : f = if y < x then y else x) (hx : iv a b x) (hy : iv c d y) (hd : decide (a' ≤ a ∧ a' ≤ c ∧ (b ≤ b' ∨ d ≤ b')) = true) : iv a' b' f := by
  have h1 := of_decide_eq_true hd
  obtain ⟨x1, x2⟩ := hx
  obtain ⟨y1, y2⟩ := hy
  subst e
  by_cases h : y < x
  · rw [if_pos h]
    have := Int32.lt_iff_toInt_lt.mp h
    exact ⟨by omega, by omega⟩
  · rw [if_neg h]
    have h3 : ¬ y.toInt < x.toInt := fun q => h (Int32.lt_iff_toInt_lt.mpr q)
    exact ⟨by omega, by omega⟩
theorem iv_max {f x y : Int32} {a b c d a' b' : Int} (e : f = if x < y then y else x) (hx : iv a b x) (hy : iv c d y) (hd : decide ((a' ≤ a ∨ a' ≤ c) ∧ b ≤ b' ∧ d ≤ b') = true) : iv a' b' f := by
  have h1 := of_decide_eq_true hd
  obtain ⟨x1, x2⟩ := hx
  obtain ⟨y1, y2⟩ := hy
  subst e
  by_cases h : x < y
  · rw [if_pos h]
    have := Int32.lt_iff_toInt_lt.mp h
    exact ⟨by omega, by omega⟩
  · rw [if_neg h]
    have h3 : ¬ x.toInt < y.toInt := fun q => h (Int32.lt_iff_toInt_lt.mpr q)
    exact ⟨by omega, by omega⟩
theorem iv_01 {x : Int32} (h : iv 0 1 x) : x = 0 ∨ x = 1 := by
  obtain ⟨h1, h2⟩ := h
  rcases (show x.toInt = 0 ∨ x.toInt = 1 by omega) with h | h
  · exact Or.inl (Int32.toInt_inj.mp (by rw [h]; rfl))
  · exact Or.inr (Int32.toInt_inj.mp (by rw [h]; rfl))
theorem sg_zn {x : Int32} (h : iv 0 1 x) : narrow .boolean (.int x) = .int x := by
  rcases iv_01 h with rfl | rfl <;> rfl
theorem sg_zok {ad ks : List Nat} {x : Int32} (h : iv 0 1 x) : okV ad ks (.inl (0, 1)) (.int (vp_nar .boolean x)) := by
  rcases iv_01 h with rfl | rfl
  · exact ⟨_, rfl, iv_c _ (by decide +kernel)⟩
  · exact ⟨_, rfl, iv_c _ (by decide +kernel)⟩
theorem sg_lcmp0 {f : Int32} {x : Int64} (e : f = lg_cmp x 0) (h : ¬ f = 0) : ¬ x = 0 := by
  rintro rfl
  exact h (e.trans (by decide +kernel))
theorem sg_i2l_ne0 {g : Int64} {x : Int32} (e : g = x.toInt64) (h : ¬ x = 0) : ¬ g = 0 := by
  rintro rfl
  apply h
  have h1 : x.toInt64.toInt = x.toInt := Int32.toInt_toInt64 x
  rw [← e] at h1
  exact Int32.toInt_inj.mp (h1.symm.trans rfl)
theorem iv_stepUv {x y k : Int32} {a b M n n' : Int} {N : Nat} (e : y = x + k) (hk : iv n n' k) (hx : iv a b x) (hd : decide (n = n' ∧ 0 < n ∧ b + n ≤ 2147483647 ∧ -2147483648 ≤ a ∧ b + 1 ≤ M) = true) (hN : (M - x.toInt).toNat ≤ N + 1) : (M - y.toInt).toNat ≤ N := by
  obtain ⟨h0, h1, h2, h3, h5⟩ := of_decide_eq_true hd
  obtain ⟨x1, x2⟩ := hx
  obtain ⟨k1, k2⟩ := hk
  have h : (x + k).toInt = x.toInt + k.toInt := Jvm.Kit.i32_add (by omega) (by omega)
  rw [e, h]
  omega
theorem iv_stepDv {x y k : Int32} {a b M n n' : Int} {N : Nat} (e : y = x + k) (hk : iv n n' k) (hx : iv a b x) (hd : decide (n = n' ∧ n < 0 ∧ -2147483648 ≤ a + n ∧ b ≤ 2147483647 ∧ M ≤ a - 1) = true) (hN : (x.toInt - M).toNat ≤ N + 1) : (y.toInt - M).toNat ≤ N := by
  obtain ⟨h0, h1, h2, h3, h5⟩ := of_decide_eq_true hd
  obtain ⟨x1, x2⟩ := hx
  obtain ⟨k1, k2⟩ := hk
  have h : (x + k).toInt = x.toInt + k.toInt := Jvm.Kit.i32_add (by omega) (by omega)
  rw [e, h]
  omega
theorem lcmp_iff (x y : Int64) : (lg_cmp x y < 0 ↔ x.toInt < y.toInt) ∧ (0 < lg_cmp x y ↔ y.toInt < x.toInt) := by
  unfold lg_cmp
  by_cases h1 : y < x
  · have h2 : y.toInt < x.toInt := Int64.lt_iff_toInt_lt.mp h1
    rw [if_pos h1]
    exact ⟨⟨fun q => absurd q (by decide), fun q => by omega⟩, ⟨fun _ => h2, fun _ => by decide⟩⟩
  · have h2 : ¬ y.toInt < x.toInt := fun q => h1 (Int64.lt_iff_toInt_lt.mpr q)
    rw [if_neg h1]
    by_cases h3 : x = y
    · rw [if_pos h3]
      subst h3
      exact ⟨⟨fun q => absurd q (by decide), fun q => by omega⟩, ⟨fun q => absurd q (by decide), fun q => by omega⟩⟩
    · have h4 : x.toInt ≠ y.toInt := fun q => h3 (Int64.toInt_inj.mp q)
      rw [if_neg h3]
      exact ⟨⟨fun _ => by omega, fun _ => by decide⟩, ⟨fun q => absurd q (by decide), fun q => absurd q h2⟩⟩
theorem sg_lge {f : Int32} {x y : Int64} (e : f = lg_cmp x y) (h : 0 ≤ f) : y.toInt ≤ x.toInt := by
  subst e
  refine Int.not_lt.mp fun q => ?_
  have h1 := Int32.lt_iff_toInt_lt.mp ((lcmp_iff x y).1.mpr q)
  have h2 := Int32.le_iff_toInt_le.mp h
  omega
theorem sg_lle {f : Int32} {x y : Int64} (e : f = lg_cmp x y) (h : f ≤ 0) : x.toInt ≤ y.toInt := by
  subst e
  refine Int.not_lt.mp fun q => ?_
  have h1 := Int32.lt_iff_toInt_lt.mp ((lcmp_iff x y).2.mpr q)
  have h2 := Int32.le_iff_toInt_le.mp h
  omega
theorem sg_lbl {g : Int64} {x : Int32} {a b : Int} (e : g = x.toInt64) (h : iv a b x) : a ≤ g.toInt := by
  rw [e, Int32.toInt_toInt64]
  exact h.1
theorem sg_lbu {g : Int64} {x : Int32} {a b : Int} (e : g = x.toInt64) (h : iv a b x) : g.toInt ≤ b := by
  rw [e, Int32.toInt_toInt64]
  exact h.2
theorem sg_isin {v l m : Int64} {x : Int32} {a b : Int} (h : l.toInt ≤ v.toInt ∧ v.toInt ≤ m.toInt) (e : v = x.toInt64) (hl : a ≤ l.toInt) (hm : m.toInt ≤ b) : iv a b x := by
  have h1 : v.toInt = x.toInt := by rw [e, Int32.toInt_toInt64]
  exact ⟨by omega, by omega⟩
theorem sg_pin4 {n : Fin 5} {x : Int32} (h : iv (n.val : Int) (n.val : Int) x) : iv 0 4 x := by
  obtain ⟨h1, h2⟩ := h
  have := n.isLt
  exact ⟨by omega, by omega⟩
theorem sg_pin {n : Fin 5} {x y f : Int32} (hx : iv (n.val : Int) (n.val : Int) x) (h3 : iv 0 3 x) (hy : iv (n.val : Int) (n.val : Int) y) (e : f = y + 1) : ∃ m : Fin 5, (m.val : Int) = f.toInt := by
  obtain ⟨x1, x2⟩ := hx
  obtain ⟨a1, a2⟩ := h3
  have h4 : (n.val : Int) ≤ 3 := by omega
  obtain ⟨y1, y2⟩ := hy
  have h5 : iv 0 3 y := ⟨by omega, by omega⟩
  have h6 := iv_add (a' := 1) (b' := 4) e h5 (iv_c 1 (a := 1) (b := 1) (by decide +kernel)) (by decide +kernel)
  obtain ⟨b1, b2⟩ := h6
  exact ⟨⟨f.toInt.toNat, by omega⟩, by show ((f.toInt.toNat : Nat) : Int) = _; omega⟩
theorem sg_pinv {n : Fin 5} {x : Int32} (h : (n.val : Int) = x.toInt) : iv (n.val : Int) (n.val : Int) x := ⟨by omega, by omega⟩
