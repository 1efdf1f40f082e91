def RL : String := "LawnAheadLaw"
/-- the answer of drought, and isIn's both ways -/
theorem sg_dr0 {f : Int32} {g l m : Int64} {v : Int32} {d : Int} (h : ¬ f = 0 ↔ l.toInt ≤ g.toInt ∧ g.toInt ≤ m.toInt) (e : g = v.toInt64) (hl : l.toInt = 0) (hm : m.toInt = 99) (h0 : f = 0) : v.toInt < 0 ∨ 99 < v.toInt ∨ v.toInt = d := by
  have h1 : g.toInt = v.toInt := by rw [e, Int32.toInt_toInt64]
  have h2 : ¬ (l.toInt ≤ g.toInt ∧ g.toInt ≤ m.toInt) := fun q => h.mpr q h0
  rw [h1, hl, hm] at h2
  omega
theorem sg_dr1 {f : Int32} {g l m : Int64} {v : Int32} {d : Int} {x : Int32} (h : ¬ f = 0 ↔ l.toInt ≤ g.toInt ∧ g.toInt ≤ m.toInt) (e : g = v.toInt64) (hl : l.toInt = 0) (hm : m.toInt = 99) (h0 : ¬ f = 0) (hx : iv d d x) (hn : ¬ v = x) : ¬ (v.toInt < 0 ∨ 99 < v.toInt ∨ v.toInt = d) := by
  have h1 : g.toInt = v.toInt := by rw [e, Int32.toInt_toInt64]
  have h2 := h.mp h0
  rw [h1, hl, hm] at h2
  obtain ⟨f1, f2⟩ := hx
  have h5 : v.toInt ≠ x.toInt := fun q => hn (Int32.toInt_inj.mp q)
  omega
theorem sg_dr2 {v x : Int32} {d : Int} (hx : iv d d x) (hn : v = x) : v.toInt < 0 ∨ 99 < v.toInt ∨ v.toInt = d := by
  subst hn
  obtain ⟨f1, f2⟩ := hx
  omega
theorem sg_inT {f1 f2 : Int32} {x0 x1 x2 : Int64} (e1 : f1 = lg_cmp x0 x1) (e2 : f2 = lg_cmp x0 x2) (h1 : 0 ≤ f1) (h2 : f2 ≤ 0) : x1.toInt ≤ x0.toInt ∧ x0.toInt ≤ x2.toInt := ⟨sg_lge e1 h1, sg_lle e2 h2⟩
theorem sg_inF1 {f1 : Int32} {x0 x1 x2 : Int64} (e1 : f1 = lg_cmp x0 x1) (h1 : f1 < 0) : ¬ (x1.toInt ≤ x0.toInt ∧ x0.toInt ≤ x2.toInt) := by
  subst e1
  have h3 := (lcmp_iff x0 x1).1.mp h1
  omega
theorem sg_inF2 {f2 : Int32} {x0 x1 x2 : Int64} (e2 : f2 = lg_cmp x0 x2) (h2 : 0 < f2) : ¬ (x1.toInt ≤ x0.toInt ∧ x0.toInt ≤ x2.toInt) := by
  subst e2
  have h3 := (lcmp_iff x0 x2).2.mp h2
  omega
theorem lw_ix {i f j : Int32} {L : Nat} (e : f = i + j) (h0 : 0 ≤ i.toInt) (h6 : i.toInt + 6 ≤ L) (hL : L ≤ 3072) (hd : decide (0 ≤ j.toInt ∧ j.toInt < 6) = true) : vp_in f L := by
  have h := of_decide_eq_true hd
  have h1 : (i + j).toInt = i.toInt + j.toInt := Jvm.Kit.i32_add (by omega) (by omega)
  rw [e]
  exact vp_in_iff.mpr ⟨by omega, by omega⟩
/-- what holds at the law's entry, as the methods' rows want it -/
def lwC (p : Program) (l : Launch) (e : Env) (s : State) (m : MethodId) (below : List Frame) (meth : Method) (c : Code) (b L : Nat) (xs : Nat → Int32) : Prop :=
  CallFix p m c code 7 s #[.ref b] sg_tbl RL ∧ sgC s.heap.size s ∧ va_X b L xs s s.heap ∧ b < s.heap.size ∧ L ≤ 3072
/-- what holds before the n-th call and behind it -/
def lwW (D : va_G) (n : Nat) (P : sgPm) (tys : List (ClassId × FieldType)) (ad ks : List Nat) (xx mm oq : Nat) (s : State) (H : Heap) : Prop :=
  va_K D vwCl tys s ∧ sgG (KT P) D vwCl (fun q : Nat => s.heap.size ≤ q) tys ad ks H ∧ isK ad ks 11 xx ∧ isK ad ks 12 mm ∧ isK ad ks 66 oq ∧ P.2.2.2.1 = P.2.2.2.2.2.1 ∧ sgPin P = none ∧ sgN P ≤ 432000 * n
theorem lwW_next {D : va_G} {n : Nat} {P : sgPm} {tys : List (ClassId × FieldType)} {ad ks : List Nat} {xx mm oq : Nat} {s : State} {H : Heap} (hW : lwW D n P tys ad ks xx mm oq s H) {P1 : sgPm} {tys1 : List (ClassId × FieldType)} {ad1 ks1 : List Nat} {H1 : Heap}
    (hK : va_K D vwCl tys1 s) (hG : sgG (KT P1) D vwCl (fun q : Nat => s.heap.size ≤ q) tys1 ad1 ks1 H1) (hdr : P1.2.2.2.1 = P1.2.2.2.2.2.1) (hpin : sgPin P1 = none) (hN : sgN P1 ≤ sgN P + 432000) (hmo : sgMo ad ks ad1 ks1) : lwW D (n + 1) P1 tys1 ad1 ks1 xx mm oq s H1 := by
  obtain ⟨-, -, h1, h2, h3, -, -, h4⟩ := hW
  exact ⟨hK, hG, hmo _ _ h1, hmo _ _ h2, hmo _ _ h3, hdr, hpin, by omega⟩
