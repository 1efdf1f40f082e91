/-- the reference's tape: its bytes are signed -/
def sgU2 (P : sgPm) : Nat → Int := fun j => sgT2 P j % 256
def vS (c : Int) : Int := if c < 128 then c else c - 256
def vE (c : Int) : Int := if c = 0 then -1 else c
abbrev sgBy2 (P : sgPm) : Prop := ∀ j : Nat, (j : Int) < sgL2 P → -128 ≤ sgT2 P j ∧ sgT2 P j ≤ 127 ∧ sgT2 P j % 256 ≠ 0
theorem sgU2_by {P : sgPm} (h : sgBy2 P) : ∀ j : Nat, (j : Int) < sgL2 P → 1 ≤ sgU2 P j ∧ sgU2 P j ≤ 255 := by
  intro j hj
  have := h j hj
  unfold sgU2
  omega
theorem vC_by2 {P : sgPm} (h : sgBy2 P) (a : Int) : 0 ≤ vC (sgU2 P) (sgL2 P) a ∧ vC (sgU2 P) (sgL2 P) a ≤ 255 := vC_by (sgU2_by h) a
theorem vq_tp2 {ad ks : List Nat} {P : sgPm} {a : Int} {i x : Int32} (h : okV ad ks (sg_tp (sgT2 P) i.toNatClampNeg) (.int x)) (hi : i.toInt = a) (h0 : 0 ≤ a) (h1 : a < sgL2 P) (hb : sgBy2 P) : x.toInt = vS (vC (sgU2 P) (sgL2 P) a) := by
  obtain ⟨y, h2, h3, h4⟩ := h
  cases h2
  dsimp only at h3 h4
  rw [vC_in h0 h1]
  have e : i.toNatClampNeg = a.toNat := by rw [← hi]; rfl
  rw [e] at h3 h4
  have h5 := hb a.toNat (by omega)
  unfold vS sgU2
  split <;> omega
theorem vS_eq {c k : Int} (h : vS c = k) (hk : 0 ≤ k) (hc : 0 ≤ c ∧ c ≤ 255) : c = k := by
  unfold vS at h
  split at h <;> omega
theorem vS_ne {c k : Int} (h : (vS c = k) = False) (hk : decide (k < 128) = true) : (c = k) = False := by
  have h1 := of_eq_false h
  have h2 := of_decide_eq_true hk
  refine eq_false fun q => h1 ?_
  subst q
  unfold vS
  rw [if_pos h2]
theorem vS_lt {c : Int} (h : vS c < 48) (hc : 0 ≤ c ∧ c ≤ 255) : c < 48 ∨ 57 < c := by
  unfold vS at h
  split at h <;> omega
theorem vS_ge {c : Int} (h : ¬ vS c < 48) (hc : 0 ≤ c ∧ c ≤ 255) : ¬ c < 48 := by
  unfold vS at h
  split at h <;> omega
theorem vS_gt {c : Int} (h : 57 < vS c) (hc : 0 ≤ c ∧ c ≤ 255) : c < 48 ∨ 57 < c := by
  unfold vS at h
  split at h <;> omega
theorem vS_le {c : Int} (h0 : ¬ vS c < 48) (h : ¬ 57 < vS c) (hc : 0 ≤ c ∧ c ≤ 255) : ¬ 57 < c := by
  unfold vS at h h0
  split at h <;> split at h0 <;> omega
theorem vE_eq {c k : Int} (h : vE c = k) (hk : decide (0 < k) = true) : c = k := by
  have := of_decide_eq_true hk
  unfold vE at h
  split at h <;> omega
theorem vE_ne {c k : Int} (h : (vE c = k) = False) (hk : decide (0 < k) = true) : (c = k) = False := by
  have h1 := of_eq_false h
  have h2 := of_decide_eq_true hk
  refine eq_false fun q => h1 ?_
  subst q
  unfold vE
  rw [if_neg (by omega)]
theorem vE_eq' {c k : Int} (h : vE c = k) (hk : 0 < k) : c = k := by
  unfold vE at h
  split at h <;> omega
theorem vE_ne' {c k : Int} (h : (vE c = k) = False) (h2 : 0 < k) : (c = k) = False := by
  have h1 := of_eq_false h
  refine eq_false fun q => h1 ?_
  subst q
  unfold vE
  rw [if_neg (by omega)]
theorem vE_end {c : Int} (h : vE c = -1) (hc : 0 ≤ c ∧ c ≤ 255) : c = 0 := by
  unfold vE at h
  split at h <;> omega
theorem vE_nend {c : Int} (h : (vE c = -1) = False) : (c = 0) = False := by
  have h1 := of_eq_false h
  refine eq_false fun q => h1 ?_
  subst q
  rfl
theorem vE_0 {c : Int} (h : c = 0) : vE c = -1 := by rw [h]; rfl
theorem vE_n {c : Int} (h : ¬ c = 0) : vE c = c := if_neg h
theorem vq_and {f x : Int32} {c : Int} (e : f = x &&& 255) (hx : x.toInt = vS c) (hc : 0 ≤ c ∧ c ≤ 255) : f.toInt = c := by
  have h1 : ∀ n : Nat, n < 256 → ((Int32.ofInt (if n < 128 then (n : Int) else (n : Int) - 256)) &&& 255).toInt = (n : Int) := by decide +kernel
  have h2 := h1 c.toNat (by omega)
  have e2 : Int32.ofInt (if c.toNat < 128 then (c.toNat : Int) else (c.toNat : Int) - 256) = x := by
    apply Int32.toInt_inj.mp
    rw [hx]
    have h3 : (if c.toNat < 128 then (c.toNat : Int) else (c.toNat : Int) - 256) = vS c := by
      unfold vS
      split <;> split <;> omega
    rw [h3]
    refine Int32.toInt_ofInt_of_le ?_ ?_
    · unfold vS
      split <;> omega
    · unfold vS
      split <;> omega
  rw [e2, ← e] at h2
  omega
theorem vIx_m1 {tb : List Int32} (h : ∀ j : Nat, iv 0 127 (tb.getD j 0)) : ∀ (n k : Nat), vIx tb (-1) n k = -1 ∧ vIx tb 0 n k = vIx tb 0 n k := by
  intro n
  induction n with
  | zero => exact fun k => ⟨rfl, rfl⟩
  | succ n ih =>
    intro k
    refine ⟨?_, rfl⟩
    unfold vIx
    have := (h k).1
    rw [if_neg (by omega)]
    exact (ih (k + 1)).1
theorem vLet_E (c : Int) : vLet (vE c) = vLet c := by
  unfold vE
  split
  · rename_i h
    rw [h]
    decide +kernel
  · rfl
theorem vRul_E (c : Int) : vRul (vE c) = vRul c := by
  unfold vE
  split
  · rename_i h
    rw [h]
    decide +kernel
  · rfl
theorem vCm_E (c : Int) : vCm (vE c) = vCm c := by
  unfold vE
  split
  · rename_i h
    rw [h]
    decide +kernel
  · rfl
theorem vLet_91 {c : Int} (h : ¬ vLet c < 0) : (c = 91) = False := eq_false fun q => h (by rw [q]; decide +kernel)
/-- more is known of several fields of the one cell of a kind -/
theorem sg_strN {kt kt' : List sgK} {D : va_G} {cl : List vw_C} {A : Nat → Prop} {tys : List (ClassId × FieldType)} {ad ks : List Nat} {H : Heap} (hG : sgG kt D cl A tys ad ks H) {k a : Nat} (ha : isK ad ks k a) (hu : k ∈ [2, 8, 10, 11, 12, 16, 42, 45, 49, 50, 51, 52, 53, 54]) {ci : Nat} {fts fts' : List sgT} (hk : kt[k]? = some (.inl (ci, fts))) (hk' : kt'[k]? = some (.inl (ci, fts'))) {r : vw_C} (hc : cl[ci]? = some r) (hlen : fts'.length = fts.length) (hsm : ∀ (i : Nat) (t'' : sgT), fts'[i]? = some t'' → (∃ t : sgT, fts[i]? = some t ∧ ∀ v : Value, okV ad ks t v → okV ad ks t'' v) ∨ (i < r.2.2 ∧ ∃ v : Value, fld D H ci a i v ∧ okV ad ks t'' v)) (hsk : ∀ i : Nat, i ≠ k → kt'[i]? = kt[i]?) : sgG kt' D cl A tys ad ks H := by
  obtain ⟨ws, hP, hD, hT, hU⟩ := hG
  refine ⟨ws, hP, hD, ⟨hT.1, hT.2.1, fun i q k2 hq hk2 => ?_⟩, hU.1, hU.2.kt (hsk 67 (by rintro rfl; revert hu; decide))⟩
  obtain ⟨K, g1, g2⟩ := hT.2.2 i q k2 hq hk2
  by_cases h : k2 = k
  · subst h
    rw [hk] at g1
    cases g1
    refine ⟨_, hk', ?_⟩
    obtain ⟨j0, e0, K0, w1, w2, w3, w4⟩ := ha.in hT
    have hij : i = j0 := hU.1 _ hu i j0 hk2 w2
    subst hij
    rw [w1] at hq
    cases hq
    cases e0 with
    | inl z => exact g2.elim
    | inr q =>
      obtain ⟨ci', fs⟩ := q
      obtain ⟨h1, h2, h3⟩ := g2
      dsimp only at h1 h2 h3
      subst h1
      refine ⟨rfl, h2.trans hlen.symm, fun j2 t v2 ht hv2 => ?_⟩
      rcases hsm j2 t ht with ⟨t0, h4, h5⟩ | ⟨hj, v, hf, hv⟩
      · exact h5 v2 (h3 j2 t0 v2 h4 hv2)
      · have h9 := fld_of (hP i _ w1) hc hj
        have hv3 : fs[j2]? = some v2 := hv2
        rw [List.getD_eq_getElem?_getD, hv3] at h9
        rw [show v2 = v from fld_fun h9 hf]
        exact hv
  · exact ⟨K, (hsk k2 h).trans g1, g2⟩
theorem vq_bw {L a : Int} (hb : 0 ≤ a ∧ a ≤ L) (hl : 0 ≤ L ∧ L ≤ 240) : 0 ≤ a ∧ a ≤ 240 := by omega
theorem vq_bwlo {a : Int} (hb : 0 ≤ a ∧ a ≤ 240) : -1 ≤ a := by omega
theorem vq_bwhi {a : Int} (hb : 0 ≤ a ∧ a ≤ 240) : a ≤ 241 := by omega
theorem vq_says1 {r : Int32} {A B : Prop} (h : (r = 1 ∧ A) ∨ (r = 0 ∧ B)) (c : ¬ r = 0) : A := (h.resolve_right fun z => c z.1).2
theorem vq_says0 {r : Int32} {A B : Prop} (h : (r = 1 ∧ A) ∨ (r = 0 ∧ B)) (c : r = 0) : B := (h.resolve_left fun z => absurd (z.1.symm.trans c) (by decide)).2
theorem vq_01 {r : Int32} {A B : Prop} (h : (r = 1 ∧ A) ∨ (r = 0 ∧ B)) : iv 0 1 r := by
  rcases h with ⟨rfl, -⟩ | ⟨rfl, -⟩
  · exact iv_c _ (by decide +kernel)
  · exact iv_c _ (by decide +kernel)
theorem vq_bdL {b : Nat → Int} {L a : Int} (hb : 0 ≤ a ∧ a ≤ L) : 0 ≤ vX b L a ∧ vX b L a ≤ L := by
  have h := vX_ge b L a
  exact ⟨by have := h.1; omega, h.2.1 hb.2⟩
theorem vq_l2 {x a1 y : Int} (h : x + 1 + 1 ≤ a1) (h2 : a1 ≤ y) : x < y := by omega
theorem vq_nd {c : Int} (h : ¬ c < 48 ∧ ¬ 57 < c) : ¬ (c < 48 ∨ 57 < c) := by omega
theorem vq_dn {c : Int} (h : ¬ c < 48) : c ≠ 0 := by omega
theorem vq_vs {v m m2 c : Int} (hv : 0 ≤ v ∧ v ≤ m) (h1 : ¬ c < 48) (h2 : ¬ 57 < c) (hm : decide (m2 = m * 10 + 9) = true) : 0 ≤ v * 10 + c - 48 ∧ v * 10 + c - 48 ≤ m2 := by have := of_decide_eq_true hm; omega
theorem vq_lk {x : Int32} {c : Int} (h : x.toInt = vE c) (hc : 0 ≤ c ∧ c ≤ 255) : iv (-1) 255 x := by
  unfold vE at h
  refine ⟨?_, ?_⟩ <;> split at h <;> omega
theorem vq_127 {f x : Int32} (e : f = x &&& 255) (h : iv 0 127 x) : f = x := by
  have h1 : ∀ n : Nat, n < 128 → (Int32.ofNat n) &&& 255 = Int32.ofNat n := by decide +kernel
  obtain ⟨a, b⟩ := h
  have h2 := h1 x.toInt.toNat (by omega)
  have e2 : Int32.ofNat x.toInt.toNat = x := by
    apply Int32.toInt_inj.mp
    have h3 : (Int32.ofNat x.toInt.toNat).toInt = (x.toInt.toNat : Int) := Int32.toInt_ofNat_of_lt (by omega)
    omega
  rw [e2] at h2
  rw [e, h2]
theorem vIx_121 {c : Int} (h : ¬ vIx [121] c 1 0 < 0) : c = 121 := by
  unfold vIx at h
  split at h
  · rename_i q
    rw [← q]
    decide +kernel
  · exact absurd (by unfold vIx; decide) h
theorem vIx_121n {c : Int} (h : vIx [121] c 1 0 < 0) : (c = 121) = False := eq_false fun q => by rw [q] at h; exact absurd h (by decide +kernel)
def opT (c : Int) : Bool := c == 42 || c == 47
def opP (c : Int) : Bool := c == 43 || c == 45
def op38 (c : Int) : Bool := c == 38
def op124 (c : Int) : Bool := c == 124
theorem opT_42 {c : Int} (h : c = 42) : opT c = true := by rw [h]; rfl
theorem opT_47 {c : Int} (h : c = 47) : opT c = true := by rw [h]; rfl
theorem opP_43 {c : Int} (h : c = 43) : opP c = true := by rw [h]; rfl
theorem opP_45 {c : Int} (h : c = 45) : opP c = true := by rw [h]; rfl
theorem op38_38 {c : Int} (h : c = 38) : op38 c = true := by rw [h]; rfl
theorem op124_124 {c : Int} (h : c = 124) : op124 c = true := by rw [h]; rfl
theorem op59_59 {c : Int} (h : c = 59) : op59 c = true := by rw [h]; rfl
theorem opT_no {c : Int} (h1 : (c = 42) = False) (h2 : (c = 47) = False) : opT c = false := by unfold opT; rw [beq_false_of_ne (of_eq_false h1), beq_false_of_ne (of_eq_false h2)]; rfl
theorem opP_no {c : Int} (h1 : (c = 43) = False) (h2 : (c = 45) = False) : opP c = false := by unfold opP; rw [beq_false_of_ne (of_eq_false h1), beq_false_of_ne (of_eq_false h2)]; rfl
theorem op38_no {c : Int} (h1 : (c = 38) = False) : op38 c = false := beq_false_of_ne (of_eq_false h1)
theorem op124_no {c : Int} (h1 : (c = 124) = False) : op124 c = false := beq_false_of_ne (of_eq_false h1)
/-- a loop goes on, or stays -/
theorem vL_ge {f : Int → Rs} {op : Int → Bool} {b : Nat → Int} {n : Int} (a : Int) : ∀ {a1 : Int}, vL f op b n a = (true, a1) → a ≤ a1 := by
  intro a1 h
  unfold vL at h
  split at h
  · split at h
    · rename_i g
      have := vL_ge (f := f) (op := op) (b := b) (n := n) _ h
      omega
    · cases h
  · cases h
    exact Int.le_refl _
termination_by (n - a).toNat
decreasing_by
  rename_i g
  have := g.2
  omega
theorem vB_ok {r : Rs} {f : Int → Rs} {a : Int} (h : vB r f = (true, a)) : r.1 = true ∧ f r.2 = (true, a) := by
  obtain ⟨r1, r2⟩ := r
  cases r1
  · cases h
  · exact ⟨rfl, h⟩
/-- two loops, one in the other, over the signs of both -/
theorem vL_two {f : Int → Rs} {o1 o2 o : Int → Bool} {b : Nat → Int} {n : Int} (hp : ∀ a a1, f a = (true, a1) → a < a1) (h1 : o1 0 = false) (h2 : o2 0 = false) (ho : ∀ c, o c = (o1 c || o2 c)) (a : Int) : vB (vL f o1 b n a) (vL (fun a => vB (f a) (vL f o1 b n)) o2 b n) = vL f o b n a := by
  have hx := (vX_ge b n (a + 1)).1
  by_cases c1 : o1 (vC b n a) = true
  · have hn := vC_lt (b := b) (n := n) (a := a) (fun q => by rw [q, h1] at c1; cases c1)
    have co : o (vC b n a) = true := by rw [ho, c1]; rfl
    cases hf : f (vX b n (a + 1)) with
    | mk r w =>
      cases r with
      | false => rw [vL_bad c1 hf, vL_bad co hf, vB_f]
      | true =>
        have hw := hp _ _ hf
        rw [vL_step c1 hf (by omega) hn.2, vL_step co hf (by omega) hn.2]
        exact vL_two hp h1 h2 ho w
  · have c1 : o1 (vC b n a) = false := by simpa using c1
    rw [vL_stop c1, vB_t]
    by_cases c2 : o2 (vC b n a) = true
    · have hn := vC_lt (b := b) (n := n) (a := a) (fun q => by rw [q, h2] at c2; cases c2)
      have co : o (vC b n a) = true := by rw [ho, c2, Bool.or_true]
      cases hf : f (vX b n (a + 1)) with
      | mk r w =>
        cases r with
        | false => rw [vL_bad co hf, vL_bad c2 (by rw [hf]; rfl)]
        | true =>
          have hw := hp _ _ hf
          rw [vL_step co hf (by omega) hn.2]
          have ih := vL_two (f := f) (o1 := o1) (o2 := o2) (o := o) (b := b) (n := n) hp h1 h2 ho w
          cases hg : vL f o1 b n w with
          | mk r2 w2 =>
            have hG : (fun a => vB (f a) (vL f o1 b n)) (vX b n (a + 1)) = (r2, w2) := by
              show vB (f (vX b n (a + 1))) _ = _
              rw [hf, vB_t, hg]
            cases r2 with
            | false =>
              rw [hg, vB_f] at ih
              rw [vL_bad c2 hG, ih]
            | true =>
              have hw2 := vL_ge w hg
              rw [hg, vB_t] at ih
              rw [vL_step c2 hG (by omega) hn.2, ih]
    · have c2 : o2 (vC b n a) = false := by simpa using c2
      rw [vL_stop c2, vL_stop (by rw [ho, c1, c2]; rfl)]
termination_by (n - a).toNat
theorem vNd_ge {b : Nat → Int} {n lo hi : Int} : ∀ {k : Nat} {s : Bool} {v a a1 w : Int}, vNd b n lo hi k s v a = (true, a1, w) → a ≤ a1 ∧ (s = false → a < a1) := by
  intro k
  induction k with
  | zero =>
    intro s v a a1 w h
    unfold vNd at h
    split at h
    · cases h
    · split at h
      · cases h
      · split at h
        · cases h
        · cases h
          rename_i q _
          exact ⟨(vX_ge b n a).1, fun z => absurd z q⟩
  | succ k ih =>
    intro s v a a1 w h
    unfold vNd at h
    split at h
    · have := (ih h).1
      exact ⟨by omega, fun _ => by omega⟩
    · split at h
      · cases h
      · split at h
        · cases h
        · cases h
          rename_i q _
          exact ⟨(vX_ge b n a).1, fun z => absurd z q⟩
theorem vNu_ge {b : Nat → Int} {n lo hi : Int} {k : Nat} {a a1 : Int} (h : vNu b n lo hi k a = (true, a1)) : a < a1 := by
  unfold vNu at h
  cases hq : vNd b n lo hi k false 0 a with
  | mk r q =>
    obtain ⟨q1, q2⟩ := q
    rw [hq] at h
    cases h
    exact (vNd_ge hq).2 rfl
theorem vAtom_ge {b : Nat → Int} {n : Int} {rec : Int → Rs} {deep : Bool} (hr : ∀ a a1, rec a = (true, a1) → a < a1) {a a1 : Int} (h : vAtom b n rec deep a = (true, a1)) : a < a1 := by
  unfold vAtom at h
  have hx := (vX_ge b n (a + 1)).1
  split at h
  · cases deep
    · obtain ⟨h1, h2⟩ := vB_ok h
      have h3 := hr (vX b n (a + 1)) (rec (vX b n (a + 1))).2 (by rw [← h1])
      unfold vD at h2
      split at h2
      · cases h2
        have := (vX_ge b n ((rec (vX b n (a + 1))).2 + 1)).1
        omega
      · cases h2
    · cases h
  · split at h
    · exact vNu_ge h
    · cases h
      omega
theorem vAt_ge {b : Nat → Int} {n : Int} : ∀ (k : Nat) (a a1 : Int), vAt b n k a = (true, a1) → a < a1 := by
  intro k
  induction k with
  | zero => exact fun a a1 h => vAtom_ge (fun _ _ q => by cases q) h
  | succ k ih =>
    intro a a1 h
    refine vAtom_ge (fun x x1 q => ?_) h
    obtain ⟨h1, h2⟩ := vB_ok q
    have h3 := ih x (vAt b n k x).2 (by rw [← h1])
    have h4 := vL_ge _ h2
    omega
theorem vSum_ge {b : Nat → Int} {n : Int} {k : Nat} {a a1 : Int} (h : vSum b n k a = (true, a1)) : a < a1 := by
  obtain ⟨h1, h2⟩ := vB_ok h
  have h3 := vAt_ge k a (vAt b n k a).2 (by rw [← h1])
  have h4 := vL_ge _ h2
  omega
theorem vCmp_ge {b : Nat → Int} {n : Int} {k : Nat} {a a1 : Int} (h : vCmp b n k a = (true, a1)) : a < a1 := by
  unfold vCmp at h
  split at h
  · cases h
  · have := vSum_ge h
    have := (vX_ge b n (a + 1)).1
    omega
theorem vUn_ge {b : Nat → Int} {n : Int} : ∀ (k : Nat) (a a1 : Int), vUn b n k a = (true, a1) → a < a1 := by
  intro k
  induction k with
  | zero =>
    intro a a1 h
    unfold vUn at h
    split at h
    · cases h
    · split at h
      · cases h
      · obtain ⟨h1, h2⟩ := vB_ok h
        have h3 := vSum_ge (k := 0) (a := a) (a1 := (vSum b n 0 a).2) (by rw [← h1])
        have h4 := vCmp_ge h2
        omega
  | succ k ih =>
    intro a a1 h
    have hx := (vX_ge b n (a + 1)).1
    unfold vUn at h
    split at h
    · have := ih _ _ h
      omega
    · split at h
      · obtain ⟨h1, h2⟩ := vB_ok h
        obtain ⟨h3, h4⟩ := vB_ok (a := (vB (vUn b n k (vX b n (a + 1))) (vL (vUn b n k) opC b n)).2) (by rw [← h1])
        have h5 := ih (vX b n (a + 1)) (vUn b n k (vX b n (a + 1))).2 (by rw [← h3])
        have h6 := vL_ge _ h4
        unfold vD at h2
        split at h2
        · cases h2
          have := (vX_ge b n ((vB (vUn b n k (vX b n (a + 1))) (vL (vUn b n k) opC b n)).2 + 1)).1
          omega
        · cases h2
      · obtain ⟨h1, h2⟩ := vB_ok h
        have h3 := vSum_ge (k := k + 1) (a := a) (a1 := (vSum b n (k + 1) a).2) (by rw [← h1])
        have h4 := vCmp_ge h2
        omega
theorem vB_assoc {r : Rs} {f g : Int → Rs} : vB (vB r f) g = vB r (fun a => vB (f a) g) := by
  obtain ⟨r1, r2⟩ := r
  cases r1 <;> rfl
/-- the reference's: a term, a part of a condition -/
def vTe (b : Nat → Int) (n : Int) (k : Nat) (a : Int) : Rs := vB (vAt b n k a) (vL (vAt b n k) opT b n)
def vPa (b : Nat → Int) (n : Int) (k : Nat) (a : Int) : Rs := vB (vUn b n k a) (vL (vUn b n k) op38 b n)
theorem vSum_eq {b : Nat → Int} {n : Int} {k : Nat} {a : Int} : vSum b n k a = vB (vTe b n k a) (vL (vTe b n k) opP b n) := by
  unfold vSum vTe
  rw [vB_assoc]
  congr 1
  funext x
  exact (vL_two (f := vAt b n k) (o1 := opT) (o2 := opP) (o := opS) (vAt_ge k) rfl rfl (fun c => by unfold opS opT opP; simp only [Bool.or_assoc]) x).symm
theorem vCon_tl {b : Nat → Int} {n : Int} {k : Nat} : vL (vUn b n k) opC b n = fun x => vB (vL (vUn b n k) op38 b n x) (vL (vPa b n k) op124 b n) := by
  funext x
  exact (vL_two (f := vUn b n k) (o1 := op38) (o2 := op124) (o := opC) (vUn_ge k) rfl rfl (fun c => rfl) x).symm
theorem vCon_eq {b : Nat → Int} {n : Int} {k : Nat} {a : Int} : vCon b n k a = vB (vPa b n k a) (vL (vPa b n k) op124 b n) := by
  unfold vCon
  rw [vCon_tl]
  show _ = vB (vB (vUn b n k a) (vL (vUn b n k) op38 b n)) _
  rw [vB_assoc]
theorem vCo1_eq {b : Nat → Int} {n : Int} {k : Nat} {a : Int} : vB (vCmp b n k a) (vL (vUn b n k) opC b n) = vB (vB (vCmp b n k a) (vL (vUn b n k) op38 b n)) (vL (vPa b n k) op124 b n) := by
  rw [vCon_tl, vB_assoc]
def vGc (c : Int) : Int := vIx [103, 99, 109, 120] c 4 0
def vRd (c : Int) : Int := vIx [114, 100] c 2 0
def vC1 (c : Int) : Int := vIx [99] c 1 0
theorem vGc_E (c : Int) : vGc (vE c) = vGc c := by
  unfold vE
  split
  · rename_i h
    rw [h]
    decide +kernel
  · rfl
theorem vRd_E (c : Int) : vRd (vE c) = vRd c := by
  unfold vE
  split
  · rename_i h
    rw [h]
    decide +kernel
  · rfl
theorem vC1_E (c : Int) : vC1 (vE c) = vC1 c := by
  unfold vE
  split
  · rename_i h
    rw [h]
    decide +kernel
  · rfl
theorem vRul_ne {c : Int} (h : ¬ vRul c < 0) : c ≠ 0 := fun q => h (by rw [q]; decide +kernel)
theorem vC_pos {P : sgPm} (h : sgBy2 P) {a : Int} (h0 : 0 ≤ a) (h1 : a < sgL2 P) : 1 ≤ vC (sgU2 P) (sgL2 P) a := by
  rw [vC_in h0 h1]
  exact (sgU2_by h a.toNat (by omega)).1
theorem vq_l2w {x a1 y k : Int} (h : x + 1 + 3 ≤ a1) (h2 : a1 ≤ y) : x < y := by omega
theorem vq_bdm {a x L : Int} (h0 : 0 ≤ a) (h : a + 1 ≤ x) (h1 : x ≤ L) : 0 ≤ x - 1 ∧ x - 1 ≤ L := by omega
theorem vq_d0 {x : Int32} {c : Int} (h : x.toInt = vE c) (h1 : ¬ c < 48) : x.toInt = 0 * 10 + c := by rw [h, vE_n (vq_dn h1)]; omega
theorem vq_d0i {x : Int32} {c : Int} (h : x.toInt = 0 * 10 + c) (h1 : ¬ c < 48) (h2 : ¬ 57 < c) : iv 48 57 x := ⟨by omega, by omega⟩
/-- the law's reader as the reference goes -/
def vLawM (b : Nat → Int) (n : Int) : Rs := vB (vB (vCl b n (vX b n 0)) (vL (vCl b n) op59 b n)) (vEn b n)
theorem vq_in1 {v l m : Int64} {x y z : Int32} {a b c : Int} (h : l.toInt ≤ v.toInt ∧ v.toInt ≤ m.toInt) (e : v = x.toInt64) (e1 : l = y.toInt64) (e2 : m = z.toInt64) (hx : x.toInt = a) (hy : y.toInt = b) (hz : z.toInt = c) : b ≤ a ∧ a ≤ c := by
  have h1 : v.toInt = x.toInt := by rw [e, Int32.toInt_toInt64]
  have h2 : m.toInt = z.toInt := by rw [e2, Int32.toInt_toInt64]
  have h3 : l.toInt = y.toInt := by rw [e1, Int32.toInt_toInt64]
  omega
theorem vq_in0 {v l m : Int64} {x y z : Int32} {a b c : Int} (h : v.toInt < l.toInt ∨ m.toInt < v.toInt) (e : v = x.toInt64) (e1 : l = y.toInt64) (e2 : m = z.toInt64) (hx : x.toInt = a) (hy : y.toInt = b) (hz : z.toInt = c) : a < b ∨ c < a := by
  have h1 : v.toInt = x.toInt := by rw [e, Int32.toInt_toInt64]
  have h2 : m.toInt = z.toInt := by rw [e2, Int32.toInt_toInt64]
  have h3 : l.toInt = y.toInt := by rw [e1, Int32.toInt_toInt64]
  omega
theorem vq_llt {f1 : Int32} {x0 x1 : Int64} (e1 : f1 = lg_cmp x0 x1) (h1 : f1 < 0) : x0.toInt < x1.toInt := by
  subst e1
  have h3 := (lcmp_iff x0 x1).1.mp h1
  omega
theorem vq_lgt {f2 : Int32} {x0 x2 : Int64} (e2 : f2 = lg_cmp x0 x2) (h2 : 0 < f2) : x2.toInt < x0.toInt := by
  subst e2
  have h3 := (lcmp_iff x0 x2).2.mp h2
  omega
theorem vD_t {b : Nat → Int} {n c a : Int} (h : vC b n a = c) : vD b n c a = (true, vX b n (a + 1)) := if_pos h
theorem vD_f {b : Nat → Int} {n c a : Int} (h : (vC b n a = c) = False) : vD b n c a = (false, a) := if_neg (of_eq_false h)
/-- what is known of the lawn that is being read: fields, rules, a cell -/
abbrev sgO : Type := (Int × Int) × (Nat → Int × Int) × (Int × Int)
abbrev sgZt : Type := (Nat → Int × Int) × (Nat → Int × Int) × sgO
def sgZ0 : sgZt := (fun _ => ((-2147483648), 2147483647), fun _ => ((-2147483648), 2147483647), ((-2147483648), 2147483647), fun _ => ((-2147483648), 2147483647), ((-2147483648), 2147483647))
/-- the games of the reference: those that are told, the one that is read (its moves, how many) -/
def sg_gq (G : Nat → Int) (f : Nat → Int × Int) : Nat → sgT := fun i => if i < 256 then .inl (G i, G i) else .inl (f i)
def sg_glq (g : Nat → Fin 17) (c : Int × Int) : Nat → sgT := fun i => if i < 4 then .inl (((g i).val : Int), ((g i).val : Int)) else .inl (max 0 c.1, min 16 c.2)
def KK52q (f : Nat → Int × Int) (P : sgPm) : sgK := .inr (320, .int, sg_gq (sgG0 P) f)
def KK53q (c : Int × Int) (P : sgPm) : sgK := .inr (5, .int, sg_glq (sgGl P) c)
def zUp (f : Nat → Int × Int) (n : Nat) (v : Int) : Nat → Int × Int := fun j => if j = n then (v, v) else f j
def KK50e (z : sgZt) (P : sgPm) : sgK := .inr (7, .int, fun i => .inl (z.2.1 i))
def KK51e (z : sgZt) (P : sgPm) : sgK := .inr (1, .int, fun _ => .inl z.2.2.1)
def KK12e (a1 a2 f1 f2 d1 d2 : Int) (z : sgZt) (P : sgPm) : sgK := .inl (12, [.inl ((-2147483648), 2147483647), .inr (.inl (false, 45)), .inr (.inl (false, 46)), .inr (.inl (false, 47)), .inr (.inl (false, 48)), .inr (.inl (false, 45)), .inl (sgC240 (sgL2 P), sgC240 (sgL2 P)), .inl ((P.2.2.2.2.2.2.2.2.1.val : Int), (P.2.2.2.2.2.2.2.2.1.val : Int)), .inl (0, 0), .inl (sgC240 (sgL2 P), sgC240 (sgL2 P)), .inl (a1, a2), .inl (f1, f2), .inl (d1, d2), .inl ((-2147483648), 2147483647), .inl ((-2147483648), 2147483647), .inr (.inr true), .inr (.inr true), .inl (0, 1), .inr (.inl (false, 49)), .inr (.inl (false, 50)), .inr (.inl (false, 51)), .inr (.inl (false, 52)), .inr (.inl (false, 53)), .inl (sgC1 P, sgC1 P), .inl ((-2147483648), 2147483647), .inl (z.1 25), .inl (z.1 26), .inl (z.1 27), .inl (z.1 28), .inl ((P.2.2.2.2.2.2.2.2.2.1.val : Int), (P.2.2.2.2.2.2.2.2.2.1.val : Int)), .inl (max 0 (z.1 30).1, min 1 (z.1 30).2), .inl (max 0 (z.1 31).1, min 1 (z.1 31).2), .inr (.inl (false, 54)), .inr (.inl (false, 55)), .inl ((-1), 3), .inl (P.2.2.2.2.2.1, P.2.2.2.2.2.1), .inr (.inl (false, 56)), .inr (.inl (false, 57)), .inr (.inl (false, 58)), .inl (0, 40), .inr (.inr false), .inr (.inl (false, 59)), .inl ((-2147483648), 2147483647), .inl ((-2147483648), 2147483647), .inr (.inl (false, 60)), .inr (.inl (false, 61)), .inr (.inl (false, 62)), .inl (0, 12), .inr (.inl (false, 63)), .inr (.inl (false, 64)), .inl (0, 12), .inr (.inl (false, 65)), .inl (0, 1)])
/-- the reference: its tape is read; where it stands, the fault, how deep -/
def KE (a1 a2 f1 f2 d1 d2 : Int) (z : sgZt) (P : sgPm) : List sgK := [KK0 P, KK1 P, KK2 P, KK3 P, KK4 P, KK5 P, KK6 P, KK7 P, KK8 P, KK9 P, KK10 P, KK11 P, KK12e a1 a2 f1 f2 d1 d2 z P, KK13 P, KK14 P, KK15 P, KK16 P, KK17 P, KK18 P, KK19 P, KK20 P, KK21 P, KK22 P, KK23 P, KK24 P, KK25 P, KK26 P, KK27 P, KK28 P, KK29 P, KK30 P, KK31 P, KK32 P, KK33 P, KK34 P, KK35 P, KK36 P, KK37 P, KK38 P, KK39 P, KK40 P, KK41 P, KK42 P, KK43 P, KK44 P, KK45 P, KK46 P, KK47 P, KK48 P, KK49 P, KK50e z P, KK51e z P, KK52q z.2.2.2.1 P, KK53q z.2.2.2.2 P, KK54 P, KK55 P, KK56 P, KK57 P, KK58 P, KK59 P, KK60 P, KK61 P, KK62 P, KK63 P, KK64 P, KK65 P, KK66 P, KK67 P]
theorem ke_weak {a1 a2 f1 f2 d1 d2 b1 b2 g1 g2 e1 e2 : Int} {z : sgZt} {D : va_G} {A : Nat → Prop} {tys : List (ClassId × FieldType)} {ad ks : List Nat} {H : Heap} {P : sgPm} (hG : sgG (KE a1 a2 f1 f2 d1 d2 z P) D vwCl A tys ad ks H) (h1 : b1 ≤ a1) (h2 : a2 ≤ b2) (h3 : g1 ≤ f1) (h4 : f2 ≤ g2) (h5 : e1 ≤ d1) (h6 : d2 ≤ e2) : sgG (KE b1 b2 g1 g2 e1 e2 z P) D vwCl A tys ad ks H := by
  refine sg_weak1 hG (k := 12) rfl rfl rfl (fun i t' ht => by match i, ht with
    | 0, ht => cases ht; exact ⟨_, rfl, fun v hv => hv⟩
    | 1, ht => cases ht; exact ⟨_, rfl, fun v hv => hv⟩
    | 2, ht => cases ht; exact ⟨_, rfl, fun v hv => hv⟩
    | 3, ht => cases ht; exact ⟨_, rfl, fun v hv => hv⟩
    | 4, ht => cases ht; exact ⟨_, rfl, fun v hv => hv⟩
    | 5, ht => cases ht; exact ⟨_, rfl, fun v hv => hv⟩
    | 6, ht => cases ht; exact ⟨_, rfl, fun v hv => hv⟩
    | 7, ht => cases ht; exact ⟨_, rfl, fun v hv => hv⟩
    | 8, ht => cases ht; exact ⟨_, rfl, fun v hv => hv⟩
    | 9, ht => cases ht; exact ⟨_, rfl, fun v hv => hv⟩
    | 10, ht => cases ht; exact ⟨_, rfl, fun v hv => by obtain ⟨x, g1, g2, g3⟩ := hv; exact ⟨x, g1, Int.le_trans h1 g2, Int.le_trans g3 h2⟩⟩
    | 11, ht => cases ht; exact ⟨_, rfl, fun v hv => by obtain ⟨x, g1, g2, g3⟩ := hv; exact ⟨x, g1, Int.le_trans h3 g2, Int.le_trans g3 h4⟩⟩
    | 12, ht => cases ht; exact ⟨_, rfl, fun v hv => by obtain ⟨x, g1, g2, g3⟩ := hv; exact ⟨x, g1, Int.le_trans h5 g2, Int.le_trans g3 h6⟩⟩
    | 13, ht => cases ht; exact ⟨_, rfl, fun v hv => hv⟩
    | 14, ht => cases ht; exact ⟨_, rfl, fun v hv => hv⟩
    | 15, ht => cases ht; exact ⟨_, rfl, fun v hv => hv⟩
    | 16, ht => cases ht; exact ⟨_, rfl, fun v hv => hv⟩
    | 17, ht => cases ht; exact ⟨_, rfl, fun v hv => hv⟩
    | 18, ht => cases ht; exact ⟨_, rfl, fun v hv => hv⟩
    | 19, ht => cases ht; exact ⟨_, rfl, fun v hv => hv⟩
    | 20, ht => cases ht; exact ⟨_, rfl, fun v hv => hv⟩
    | 21, ht => cases ht; exact ⟨_, rfl, fun v hv => hv⟩
    | 22, ht => cases ht; exact ⟨_, rfl, fun v hv => hv⟩
    | 23, ht => cases ht; exact ⟨_, rfl, fun v hv => hv⟩
    | 24, ht => cases ht; exact ⟨_, rfl, fun v hv => hv⟩
    | 25, ht => cases ht; exact ⟨_, rfl, fun v hv => hv⟩
    | 26, ht => cases ht; exact ⟨_, rfl, fun v hv => hv⟩
    | 27, ht => cases ht; exact ⟨_, rfl, fun v hv => hv⟩
    | 28, ht => cases ht; exact ⟨_, rfl, fun v hv => hv⟩
    | 29, ht => cases ht; exact ⟨_, rfl, fun v hv => hv⟩
    | 30, ht => cases ht; exact ⟨_, rfl, fun v hv => hv⟩
    | 31, ht => cases ht; exact ⟨_, rfl, fun v hv => hv⟩
    | 32, ht => cases ht; exact ⟨_, rfl, fun v hv => hv⟩
    | 33, ht => cases ht; exact ⟨_, rfl, fun v hv => hv⟩
    | 34, ht => cases ht; exact ⟨_, rfl, fun v hv => hv⟩
    | 35, ht => cases ht; exact ⟨_, rfl, fun v hv => hv⟩
    | 36, ht => cases ht; exact ⟨_, rfl, fun v hv => hv⟩
    | 37, ht => cases ht; exact ⟨_, rfl, fun v hv => hv⟩
    | 38, ht => cases ht; exact ⟨_, rfl, fun v hv => hv⟩
    | 39, ht => cases ht; exact ⟨_, rfl, fun v hv => hv⟩
    | 40, ht => cases ht; exact ⟨_, rfl, fun v hv => hv⟩
    | 41, ht => cases ht; exact ⟨_, rfl, fun v hv => hv⟩
    | 42, ht => cases ht; exact ⟨_, rfl, fun v hv => hv⟩
    | 43, ht => cases ht; exact ⟨_, rfl, fun v hv => hv⟩
    | 44, ht => cases ht; exact ⟨_, rfl, fun v hv => hv⟩
    | 45, ht => cases ht; exact ⟨_, rfl, fun v hv => hv⟩
    | 46, ht => cases ht; exact ⟨_, rfl, fun v hv => hv⟩
    | 47, ht => cases ht; exact ⟨_, rfl, fun v hv => hv⟩
    | 48, ht => cases ht; exact ⟨_, rfl, fun v hv => hv⟩
    | 49, ht => cases ht; exact ⟨_, rfl, fun v hv => hv⟩
    | 50, ht => cases ht; exact ⟨_, rfl, fun v hv => hv⟩
    | 51, ht => cases ht; exact ⟨_, rfl, fun v hv => hv⟩
    | 52, ht => cases ht; exact ⟨_, rfl, fun v hv => hv⟩
    | i + 53, ht => cases ht) (fun i hi => by match i, hi with
    | 0, hi => rfl
    | 1, hi => rfl
    | 2, hi => rfl
    | 3, hi => rfl
    | 4, hi => rfl
    | 5, hi => rfl
    | 6, hi => rfl
    | 7, hi => rfl
    | 8, hi => rfl
    | 9, hi => rfl
    | 10, hi => rfl
    | 11, hi => rfl
    | 12, hi => exact absurd rfl hi
    | 13, hi => rfl
    | 14, hi => rfl
    | 15, hi => rfl
    | 16, hi => rfl
    | 17, hi => rfl
    | 18, hi => rfl
    | 19, hi => rfl
    | 20, hi => rfl
    | 21, hi => rfl
    | 22, hi => rfl
    | 23, hi => rfl
    | 24, hi => rfl
    | 25, hi => rfl
    | 26, hi => rfl
    | 27, hi => rfl
    | 28, hi => rfl
    | 29, hi => rfl
    | 30, hi => rfl
    | 31, hi => rfl
    | 32, hi => rfl
    | 33, hi => rfl
    | 34, hi => rfl
    | 35, hi => rfl
    | 36, hi => rfl
    | 37, hi => rfl
    | 38, hi => rfl
    | 39, hi => rfl
    | 40, hi => rfl
    | 41, hi => rfl
    | 42, hi => rfl
    | 43, hi => rfl
    | 44, hi => rfl
    | 45, hi => rfl
    | 46, hi => rfl
    | 47, hi => rfl
    | 48, hi => rfl
    | 49, hi => rfl
    | 50, hi => rfl
    | 51, hi => rfl
    | 52, hi => rfl
    | 53, hi => rfl
    | 54, hi => rfl
    | 55, hi => rfl
    | 56, hi => rfl
    | 57, hi => rfl
    | 58, hi => rfl
    | 59, hi => rfl
    | 60, hi => rfl
    | 61, hi => rfl
    | 62, hi => rfl
    | 63, hi => rfl
    | 64, hi => rfl
    | 65, hi => rfl
    | 66, hi => rfl
    | 67, hi => rfl
    | i + 68, hi => rfl)
theorem sg_weakE {kt kt' : List sgK} {D : va_G} {cl : List vw_C} {A : Nat → Prop} {tys : List (ClassId × FieldType)} {ad ks : List Nat} {H : Heap} (hG : sgG kt D cl A tys ad ks H) {k n : Nat} {ty : FieldType} {el el' : Nat → sgT} (hk : kt[k]? = some (.inr (n, ty, el))) (hk' : kt'[k]? = some (.inr (n, ty, el'))) (hsm : ∀ (j : Nat) (v : Value), okV ad ks (el j) v → okV ad ks (el' j) v) (hsk : ∀ i : Nat, i ≠ k → kt'[i]? = kt[i]?) (hk7 : 67 ≠ k := by decide) : sgG kt' D cl A tys ad ks H := by
  refine sg_kinds hG (hsk 67 hk7) fun i K e hi he => ?_
  by_cases h : i = k
  · subst h
    rw [hk] at hi
    cases hi
    exact ⟨_, hk', okE_arr hsm he⟩
  · exact ⟨K, (hsk i h).trans hi, he⟩
def KEb (z : sgZt) (P : sgPm) : List sgK := [KK0 P, KK1 P, KK2 P, KK3 P, KK4 P, KK5 P, KK6 P, KK7 P, KK8 P, KK9 P, KK10 P, KK11 P, KK12 P, KK13 P, KK14 P, KK15 P, KK16 P, KK17 P, KK18 P, KK19 P, KK20 P, KK21 P, KK22 P, KK23 P, KK24 P, KK25 P, KK26 P, KK27 P, KK28 P, KK29 P, KK30 P, KK31 P, KK32 P, KK33 P, KK34 P, KK35 P, KK36 P, KK37 P, KK38 P, KK39 P, KK40 P, KK41 P, KK42 P, KK43 P, KK44 P, KK45 P, KK46 P, KK47 P, KK48 P, KK49 P, KK50e z P, KK51e z P, KK52q z.2.2.2.1 P, KK53q z.2.2.2.2 P, KK54 P, KK55 P, KK56 P, KK57 P, KK58 P, KK59 P, KK60 P, KK61 P, KK62 P, KK63 P, KK64 P, KK65 P, KK66 P, KK67 P]
def KEg (z : sgZt) (P : sgPm) : List sgK := [KK0 P, KK1 P, KK2 P, KK3 P, KK4 P, KK5 P, KK6 P, KK7 P, KK8 P, KK9 P, KK10 P, KK11 P, KK12 P, KK13 P, KK14 P, KK15 P, KK16 P, KK17 P, KK18 P, KK19 P, KK20 P, KK21 P, KK22 P, KK23 P, KK24 P, KK25 P, KK26 P, KK27 P, KK28 P, KK29 P, KK30 P, KK31 P, KK32 P, KK33 P, KK34 P, KK35 P, KK36 P, KK37 P, KK38 P, KK39 P, KK40 P, KK41 P, KK42 P, KK43 P, KK44 P, KK45 P, KK46 P, KK47 P, KK48 P, KK49 P, KK50e z P, KK51e z P, KK52 P, KK53q z.2.2.2.2 P, KK54 P, KK55 P, KK56 P, KK57 P, KK58 P, KK59 P, KK60 P, KK61 P, KK62 P, KK63 P, KK64 P, KK65 P, KK66 P, KK67 P]
def KEh (z : sgZt) (P : sgPm) : List sgK := [KK0 P, KK1 P, KK2 P, KK3 P, KK4 P, KK5 P, KK6 P, KK7 P, KK8 P, KK9 P, KK10 P, KK11 P, KK12 P, KK13 P, KK14 P, KK15 P, KK16 P, KK17 P, KK18 P, KK19 P, KK20 P, KK21 P, KK22 P, KK23 P, KK24 P, KK25 P, KK26 P, KK27 P, KK28 P, KK29 P, KK30 P, KK31 P, KK32 P, KK33 P, KK34 P, KK35 P, KK36 P, KK37 P, KK38 P, KK39 P, KK40 P, KK41 P, KK42 P, KK43 P, KK44 P, KK45 P, KK46 P, KK47 P, KK48 P, KK49 P, KK50e z P, KK51e z P, KK52 P, KK53 P, KK54 P, KK55 P, KK56 P, KK57 P, KK58 P, KK59 P, KK60 P, KK61 P, KK62 P, KK63 P, KK64 P, KK65 P, KK66 P, KK67 P]
def KEc (z : sgZt) (P : sgPm) : List sgK := [KK0 P, KK1 P, KK2 P, KK3 P, KK4 P, KK5 P, KK6 P, KK7 P, KK8 P, KK9 P, KK10 P, KK11 P, KK12 P, KK13 P, KK14 P, KK15 P, KK16 P, KK17 P, KK18 P, KK19 P, KK20 P, KK21 P, KK22 P, KK23 P, KK24 P, KK25 P, KK26 P, KK27 P, KK28 P, KK29 P, KK30 P, KK31 P, KK32 P, KK33 P, KK34 P, KK35 P, KK36 P, KK37 P, KK38 P, KK39 P, KK40 P, KK41 P, KK42 P, KK43 P, KK44 P, KK45 P, KK46 P, KK47 P, KK48 P, KK49 P, KK50 P, KK51e z P, KK52 P, KK53 P, KK54 P, KK55 P, KK56 P, KK57 P, KK58 P, KK59 P, KK60 P, KK61 P, KK62 P, KK63 P, KK64 P, KK65 P, KK66 P, KK67 P]
theorem gq_ga {ad ks : List Nat} {G : Nat → Int} {f : Nat → Int × Int} {j : Nat} {v : Value} (h : okV ad ks (sg_gq G f j) v) : okV ad ks (sg_ga G j) v := by
  unfold sg_gq at h
  unfold sg_ga
  by_cases c : j < 256
  · rw [if_pos c] at h ⊢
    exact h
  · rw [if_neg c] at h ⊢
    obtain ⟨x, e, -⟩ := h
    exact ⟨x, e, iv_top x⟩
theorem gl_gl {ad ks : List Nat} {g : Nat → Fin 17} {c : Int × Int} {j : Nat} {v : Value} (h : okV ad ks (sg_glq g c j) v) : okV ad ks (sg_gl g j) v := by
  unfold sg_glq at h
  unfold sg_gl
  by_cases c : j < 4
  · rw [if_pos c] at h ⊢
    exact h
  · rw [if_neg c] at h ⊢
    obtain ⟨x, e, h1, h2⟩ := h
    exact ⟨x, e, Int.le_trans (Int.le_max_left _ _) h1, Int.le_trans h2 (Int.min_le_left _ _)⟩
theorem ga_gq {ad ks : List Nat} {G : Nat → Int} {j : Nat} {v : Value} (h : okV ad ks (sg_ga G j) v) : okV ad ks (sg_gq G (fun _ => ((-2147483648), 2147483647)) j) v := h
theorem gl_glq {ad ks : List Nat} {g : Nat → Fin 17} {j : Nat} {v : Value} (h : okV ad ks (sg_gl g j) v) : okV ad ks (sg_glq g ((-2147483648), 2147483647) j) v := by
  unfold sg_gl at h
  unfold sg_glq
  by_cases c : j < 4
  · rw [if_pos c] at h ⊢
    exact h
  · rw [if_neg c] at h ⊢
    obtain ⟨x, e, h1, h2⟩ := h
    have h1 : (0 : Int) ≤ x.toInt := h1
    have h2 : x.toInt ≤ 16 := h2
    refine ⟨x, e, ?_, ?_⟩
    · show max (0 : Int) (-2147483648) ≤ x.toInt
      omega
    · show x.toInt ≤ min (16 : Int) 2147483647
      omega
theorem ke_toKT {a1 a2 f1 f2 d1 d2 : Int} {z : sgZt} {D : va_G} {A : Nat → Prop} {tys : List (ClassId × FieldType)} {ad ks : List Nat} {H : Heap} {P : sgPm} (hG : sgG (KE a1 a2 f1 f2 d1 d2 z P) D vwCl A tys ad ks H) (h3 : -1 ≤ f1) (h4 : f2 ≤ 241) (h5 : 0 ≤ d1) (h6 : d2 ≤ 6) : sgG (KT P) D vwCl A tys ad ks H := by
  have h1 : sgG (KEb z P) D vwCl A tys ad ks H := sg_weak1 hG (k := 12) rfl rfl rfl (fun i t' ht => by match i, ht with
    | 0, ht => cases ht; exact ⟨_, rfl, fun v hv => hv⟩
    | 1, ht => cases ht; exact ⟨_, rfl, fun v hv => hv⟩
    | 2, ht => cases ht; exact ⟨_, rfl, fun v hv => hv⟩
    | 3, ht => cases ht; exact ⟨_, rfl, fun v hv => hv⟩
    | 4, ht => cases ht; exact ⟨_, rfl, fun v hv => hv⟩
    | 5, ht => cases ht; exact ⟨_, rfl, fun v hv => trivial⟩
    | 6, ht => cases ht; exact ⟨_, rfl, fun v hv => hv⟩
    | 7, ht => cases ht; exact ⟨_, rfl, fun v hv => hv⟩
    | 8, ht => cases ht; exact ⟨_, rfl, fun v hv => by obtain ⟨x, g1, -⟩ := hv; exact ⟨x, g1, iv_top x⟩⟩
    | 9, ht => cases ht; exact ⟨_, rfl, fun v hv => by obtain ⟨x, g1, g2⟩ := hv; exact ⟨x, g1, sgC240_iv g2⟩⟩
    | 10, ht => cases ht; exact ⟨_, rfl, fun v hv => by obtain ⟨x, g1, -⟩ := hv; exact ⟨x, g1, iv_top x⟩⟩
    | 11, ht => cases ht; exact ⟨_, rfl, fun v hv => by obtain ⟨x, g1, g2, g3⟩ := hv; exact ⟨x, g1, Int.le_trans h3 g2, Int.le_trans g3 h4⟩⟩
    | 12, ht => cases ht; exact ⟨_, rfl, fun v hv => by obtain ⟨x, g1, g2, g3⟩ := hv; exact ⟨x, g1, Int.le_trans h5 g2, Int.le_trans g3 h6⟩⟩
    | 13, ht => cases ht; exact ⟨_, rfl, fun v hv => hv⟩
    | 14, ht => cases ht; exact ⟨_, rfl, fun v hv => hv⟩
    | 15, ht => cases ht; exact ⟨_, rfl, fun v hv => hv⟩
    | 16, ht => cases ht; exact ⟨_, rfl, fun v hv => hv⟩
    | 17, ht => cases ht; exact ⟨_, rfl, fun v hv => hv⟩
    | 18, ht => cases ht; exact ⟨_, rfl, fun v hv => hv⟩
    | 19, ht => cases ht; exact ⟨_, rfl, fun v hv => hv⟩
    | 20, ht => cases ht; exact ⟨_, rfl, fun v hv => hv⟩
    | 21, ht => cases ht; exact ⟨_, rfl, fun v hv => hv⟩
    | 22, ht => cases ht; exact ⟨_, rfl, fun v hv => hv⟩
    | 23, ht => cases ht; exact ⟨_, rfl, fun v hv => hv⟩
    | 24, ht => cases ht; exact ⟨_, rfl, fun v hv => hv⟩
    | 25, ht => cases ht; exact ⟨_, rfl, fun v hv => by obtain ⟨x, g1, -⟩ := hv; exact ⟨x, g1, iv_top x⟩⟩
    | 26, ht => cases ht; exact ⟨_, rfl, fun v hv => by obtain ⟨x, g1, -⟩ := hv; exact ⟨x, g1, iv_top x⟩⟩
    | 27, ht => cases ht; exact ⟨_, rfl, fun v hv => by obtain ⟨x, g1, -⟩ := hv; exact ⟨x, g1, iv_top x⟩⟩
    | 28, ht => cases ht; exact ⟨_, rfl, fun v hv => by obtain ⟨x, g1, -⟩ := hv; exact ⟨x, g1, iv_top x⟩⟩
    | 29, ht => cases ht; exact ⟨_, rfl, fun v hv => hv⟩
    | 30, ht => cases ht; exact ⟨_, rfl, fun v hv => by obtain ⟨x, g1, g2, g3⟩ := hv; exact ⟨x, g1, Int.le_trans (Int.le_max_left _ _) g2, Int.le_trans g3 (Int.min_le_left _ _)⟩⟩
    | 31, ht => cases ht; exact ⟨_, rfl, fun v hv => by obtain ⟨x, g1, g2, g3⟩ := hv; exact ⟨x, g1, Int.le_trans (Int.le_max_left _ _) g2, Int.le_trans g3 (Int.min_le_left _ _)⟩⟩
    | 32, ht => cases ht; exact ⟨_, rfl, fun v hv => hv⟩
    | 33, ht => cases ht; exact ⟨_, rfl, fun v hv => hv⟩
    | 34, ht => cases ht; exact ⟨_, rfl, fun v hv => hv⟩
    | 35, ht => cases ht; exact ⟨_, rfl, fun v hv => hv⟩
    | 36, ht => cases ht; exact ⟨_, rfl, fun v hv => hv⟩
    | 37, ht => cases ht; exact ⟨_, rfl, fun v hv => hv⟩
    | 38, ht => cases ht; exact ⟨_, rfl, fun v hv => hv⟩
    | 39, ht => cases ht; exact ⟨_, rfl, fun v hv => hv⟩
    | 40, ht => cases ht; exact ⟨_, rfl, fun v hv => hv⟩
    | 41, ht => cases ht; exact ⟨_, rfl, fun v hv => hv⟩
    | 42, ht => cases ht; exact ⟨_, rfl, fun v hv => hv⟩
    | 43, ht => cases ht; exact ⟨_, rfl, fun v hv => hv⟩
    | 44, ht => cases ht; exact ⟨_, rfl, fun v hv => hv⟩
    | 45, ht => cases ht; exact ⟨_, rfl, fun v hv => hv⟩
    | 46, ht => cases ht; exact ⟨_, rfl, fun v hv => hv⟩
    | 47, ht => cases ht; exact ⟨_, rfl, fun v hv => hv⟩
    | 48, ht => cases ht; exact ⟨_, rfl, fun v hv => hv⟩
    | 49, ht => cases ht; exact ⟨_, rfl, fun v hv => hv⟩
    | 50, ht => cases ht; exact ⟨_, rfl, fun v hv => hv⟩
    | 51, ht => cases ht; exact ⟨_, rfl, fun v hv => hv⟩
    | 52, ht => cases ht; exact ⟨_, rfl, fun v hv => hv⟩
    | i + 53, ht => cases ht) (fun i hi => by match i, hi with
    | 0, hi => rfl
    | 1, hi => rfl
    | 2, hi => rfl
    | 3, hi => rfl
    | 4, hi => rfl
    | 5, hi => rfl
    | 6, hi => rfl
    | 7, hi => rfl
    | 8, hi => rfl
    | 9, hi => rfl
    | 10, hi => rfl
    | 11, hi => rfl
    | 12, hi => exact absurd rfl hi
    | 13, hi => rfl
    | 14, hi => rfl
    | 15, hi => rfl
    | 16, hi => rfl
    | 17, hi => rfl
    | 18, hi => rfl
    | 19, hi => rfl
    | 20, hi => rfl
    | 21, hi => rfl
    | 22, hi => rfl
    | 23, hi => rfl
    | 24, hi => rfl
    | 25, hi => rfl
    | 26, hi => rfl
    | 27, hi => rfl
    | 28, hi => rfl
    | 29, hi => rfl
    | 30, hi => rfl
    | 31, hi => rfl
    | 32, hi => rfl
    | 33, hi => rfl
    | 34, hi => rfl
    | 35, hi => rfl
    | 36, hi => rfl
    | 37, hi => rfl
    | 38, hi => rfl
    | 39, hi => rfl
    | 40, hi => rfl
    | 41, hi => rfl
    | 42, hi => rfl
    | 43, hi => rfl
    | 44, hi => rfl
    | 45, hi => rfl
    | 46, hi => rfl
    | 47, hi => rfl
    | 48, hi => rfl
    | 49, hi => rfl
    | 50, hi => rfl
    | 51, hi => rfl
    | 52, hi => rfl
    | 53, hi => rfl
    | 54, hi => rfl
    | 55, hi => rfl
    | 56, hi => rfl
    | 57, hi => rfl
    | 58, hi => rfl
    | 59, hi => rfl
    | 60, hi => rfl
    | 61, hi => rfl
    | 62, hi => rfl
    | 63, hi => rfl
    | 64, hi => rfl
    | 65, hi => rfl
    | 66, hi => rfl
    | 67, hi => rfl
    | i + 68, hi => rfl)
  have h1a : sgG (KEg z P) D vwCl A tys ad ks H := sg_weakE h1 (k := 52) rfl rfl (fun j v hv => gq_ga hv) (fun i hi => by match i, hi with
    | 0, hi => rfl
    | 1, hi => rfl
    | 2, hi => rfl
    | 3, hi => rfl
    | 4, hi => rfl
    | 5, hi => rfl
    | 6, hi => rfl
    | 7, hi => rfl
    | 8, hi => rfl
    | 9, hi => rfl
    | 10, hi => rfl
    | 11, hi => rfl
    | 12, hi => rfl
    | 13, hi => rfl
    | 14, hi => rfl
    | 15, hi => rfl
    | 16, hi => rfl
    | 17, hi => rfl
    | 18, hi => rfl
    | 19, hi => rfl
    | 20, hi => rfl
    | 21, hi => rfl
    | 22, hi => rfl
    | 23, hi => rfl
    | 24, hi => rfl
    | 25, hi => rfl
    | 26, hi => rfl
    | 27, hi => rfl
    | 28, hi => rfl
    | 29, hi => rfl
    | 30, hi => rfl
    | 31, hi => rfl
    | 32, hi => rfl
    | 33, hi => rfl
    | 34, hi => rfl
    | 35, hi => rfl
    | 36, hi => rfl
    | 37, hi => rfl
    | 38, hi => rfl
    | 39, hi => rfl
    | 40, hi => rfl
    | 41, hi => rfl
    | 42, hi => rfl
    | 43, hi => rfl
    | 44, hi => rfl
    | 45, hi => rfl
    | 46, hi => rfl
    | 47, hi => rfl
    | 48, hi => rfl
    | 49, hi => rfl
    | 50, hi => rfl
    | 51, hi => rfl
    | 52, hi => exact absurd rfl hi
    | 53, hi => rfl
    | 54, hi => rfl
    | 55, hi => rfl
    | 56, hi => rfl
    | 57, hi => rfl
    | 58, hi => rfl
    | 59, hi => rfl
    | 60, hi => rfl
    | 61, hi => rfl
    | 62, hi => rfl
    | 63, hi => rfl
    | 64, hi => rfl
    | 65, hi => rfl
    | 66, hi => rfl
    | 67, hi => rfl
    | i + 68, hi => rfl)
  have h1b : sgG (KEh z P) D vwCl A tys ad ks H := sg_weakE h1a (k := 53) rfl rfl (fun j v hv => gl_gl hv) (fun i hi => by match i, hi with
    | 0, hi => rfl
    | 1, hi => rfl
    | 2, hi => rfl
    | 3, hi => rfl
    | 4, hi => rfl
    | 5, hi => rfl
    | 6, hi => rfl
    | 7, hi => rfl
    | 8, hi => rfl
    | 9, hi => rfl
    | 10, hi => rfl
    | 11, hi => rfl
    | 12, hi => rfl
    | 13, hi => rfl
    | 14, hi => rfl
    | 15, hi => rfl
    | 16, hi => rfl
    | 17, hi => rfl
    | 18, hi => rfl
    | 19, hi => rfl
    | 20, hi => rfl
    | 21, hi => rfl
    | 22, hi => rfl
    | 23, hi => rfl
    | 24, hi => rfl
    | 25, hi => rfl
    | 26, hi => rfl
    | 27, hi => rfl
    | 28, hi => rfl
    | 29, hi => rfl
    | 30, hi => rfl
    | 31, hi => rfl
    | 32, hi => rfl
    | 33, hi => rfl
    | 34, hi => rfl
    | 35, hi => rfl
    | 36, hi => rfl
    | 37, hi => rfl
    | 38, hi => rfl
    | 39, hi => rfl
    | 40, hi => rfl
    | 41, hi => rfl
    | 42, hi => rfl
    | 43, hi => rfl
    | 44, hi => rfl
    | 45, hi => rfl
    | 46, hi => rfl
    | 47, hi => rfl
    | 48, hi => rfl
    | 49, hi => rfl
    | 50, hi => rfl
    | 51, hi => rfl
    | 52, hi => rfl
    | 53, hi => exact absurd rfl hi
    | 54, hi => rfl
    | 55, hi => rfl
    | 56, hi => rfl
    | 57, hi => rfl
    | 58, hi => rfl
    | 59, hi => rfl
    | 60, hi => rfl
    | 61, hi => rfl
    | 62, hi => rfl
    | 63, hi => rfl
    | 64, hi => rfl
    | 65, hi => rfl
    | 66, hi => rfl
    | 67, hi => rfl
    | i + 68, hi => rfl)
  have h2 : sgG (KEc z P) D vwCl A tys ad ks H := sg_weakE h1b (k := 50) rfl rfl (fun j v hv => by obtain ⟨x, rfl, -⟩ := hv; exact sg_rr0) (fun i hi => by match i, hi with
    | 0, hi => rfl
    | 1, hi => rfl
    | 2, hi => rfl
    | 3, hi => rfl
    | 4, hi => rfl
    | 5, hi => rfl
    | 6, hi => rfl
    | 7, hi => rfl
    | 8, hi => rfl
    | 9, hi => rfl
    | 10, hi => rfl
    | 11, hi => rfl
    | 12, hi => rfl
    | 13, hi => rfl
    | 14, hi => rfl
    | 15, hi => rfl
    | 16, hi => rfl
    | 17, hi => rfl
    | 18, hi => rfl
    | 19, hi => rfl
    | 20, hi => rfl
    | 21, hi => rfl
    | 22, hi => rfl
    | 23, hi => rfl
    | 24, hi => rfl
    | 25, hi => rfl
    | 26, hi => rfl
    | 27, hi => rfl
    | 28, hi => rfl
    | 29, hi => rfl
    | 30, hi => rfl
    | 31, hi => rfl
    | 32, hi => rfl
    | 33, hi => rfl
    | 34, hi => rfl
    | 35, hi => rfl
    | 36, hi => rfl
    | 37, hi => rfl
    | 38, hi => rfl
    | 39, hi => rfl
    | 40, hi => rfl
    | 41, hi => rfl
    | 42, hi => rfl
    | 43, hi => rfl
    | 44, hi => rfl
    | 45, hi => rfl
    | 46, hi => rfl
    | 47, hi => rfl
    | 48, hi => rfl
    | 49, hi => rfl
    | 50, hi => exact absurd rfl hi
    | 51, hi => rfl
    | 52, hi => rfl
    | 53, hi => rfl
    | 54, hi => rfl
    | 55, hi => rfl
    | 56, hi => rfl
    | 57, hi => rfl
    | 58, hi => rfl
    | 59, hi => rfl
    | 60, hi => rfl
    | 61, hi => rfl
    | 62, hi => rfl
    | 63, hi => rfl
    | 64, hi => rfl
    | 65, hi => rfl
    | 66, hi => rfl
    | 67, hi => rfl
    | i + 68, hi => rfl)
  exact sg_weakE h2 (k := 51) rfl rfl (fun j v hv => by obtain ⟨x, rfl, -⟩ := hv; exact ⟨x, rfl, iv_top x⟩) (fun i hi => by match i, hi with
    | 0, hi => rfl
    | 1, hi => rfl
    | 2, hi => rfl
    | 3, hi => rfl
    | 4, hi => rfl
    | 5, hi => rfl
    | 6, hi => rfl
    | 7, hi => rfl
    | 8, hi => rfl
    | 9, hi => rfl
    | 10, hi => rfl
    | 11, hi => rfl
    | 12, hi => rfl
    | 13, hi => rfl
    | 14, hi => rfl
    | 15, hi => rfl
    | 16, hi => rfl
    | 17, hi => rfl
    | 18, hi => rfl
    | 19, hi => rfl
    | 20, hi => rfl
    | 21, hi => rfl
    | 22, hi => rfl
    | 23, hi => rfl
    | 24, hi => rfl
    | 25, hi => rfl
    | 26, hi => rfl
    | 27, hi => rfl
    | 28, hi => rfl
    | 29, hi => rfl
    | 30, hi => rfl
    | 31, hi => rfl
    | 32, hi => rfl
    | 33, hi => rfl
    | 34, hi => rfl
    | 35, hi => rfl
    | 36, hi => rfl
    | 37, hi => rfl
    | 38, hi => rfl
    | 39, hi => rfl
    | 40, hi => rfl
    | 41, hi => rfl
    | 42, hi => rfl
    | 43, hi => rfl
    | 44, hi => rfl
    | 45, hi => rfl
    | 46, hi => rfl
    | 47, hi => rfl
    | 48, hi => rfl
    | 49, hi => rfl
    | 50, hi => rfl
    | 51, hi => exact absurd rfl hi
    | 52, hi => rfl
    | 53, hi => rfl
    | 54, hi => rfl
    | 55, hi => rfl
    | 56, hi => rfl
    | 57, hi => rfl
    | 58, hi => rfl
    | 59, hi => rfl
    | 60, hi => rfl
    | 61, hi => rfl
    | 62, hi => rfl
    | 63, hi => rfl
    | 64, hi => rfl
    | 65, hi => rfl
    | 66, hi => rfl
    | 67, hi => rfl
    | i + 68, hi => rfl)
theorem sg_z01 {ad ks : List Nat} {k : Nat} {v : Value} (h : okV ad ks (.inl ((0 : Int), (1 : Int))) v) : okV ad ks (.inl (max 0 (sgZ0.1 k).1, min 1 (sgZ0.1 k).2)) v := by
  obtain ⟨x, g1, g2, g3⟩ := h
  have g2 : (0 : Int) ≤ x.toInt := g2
  have g3 : x.toInt ≤ 1 := g3
  refine ⟨x, g1, ?_, ?_⟩
  · show max (0 : Int) (-2147483648) ≤ x.toInt
    omega
  · show x.toInt ≤ min (1 : Int) 2147483647
    omega
theorem sg_rrZ {ad ks : List Nat} {j : Nat} {v : Value} (h : okV ad ks (sg_rr 0 j) v) : okV ad ks (.inl (((-2147483648) : Int), (2147483647 : Int))) v := by
  unfold sg_rr at h
  rw [if_neg (by omega)] at h
  exact h
theorem ke_of {D : va_G} {A : Nat → Prop} {tys : List (ClassId × FieldType)} {ad ks : List Nat} {H : Heap} {P : sgPm} (hG : sgG (KT P) D vwCl A tys ad ks H) {a t : Nat} {x8 x9 x10 x11 : Int32} (ha : isK ad ks 12 a) (ht : isK ad ks 45 t) (h5 : fld D H 12 a 5 (.ref t)) (h8 : fld D H 12 a 8 (.int x8)) (e8 : iv 0 0 x8) (h9 : fld D H 12 a 9 (.int x9)) (e9 : x9.toInt = sgL2 P) (hl : 0 ≤ sgL2 P ∧ sgL2 P ≤ 240) (h10 : fld D H 12 a 10 (.int x10)) (e10 : x10.toInt = 0) (h11 : fld D H 12 a 11 (.int x11)) (e11 : x11.toInt = -1) : sgG (KE 0 0 (-1) (-1) 0 6 sgZ0 P) D vwCl A tys ad ks H := by
  have hG : sgG (KEc sgZ0 P) D vwCl A tys ad ks H := sg_weakE hG (k := 51) rfl rfl (fun j v hv => hv) (fun i hi => by match i, hi with
    | 0, hi => rfl
    | 1, hi => rfl
    | 2, hi => rfl
    | 3, hi => rfl
    | 4, hi => rfl
    | 5, hi => rfl
    | 6, hi => rfl
    | 7, hi => rfl
    | 8, hi => rfl
    | 9, hi => rfl
    | 10, hi => rfl
    | 11, hi => rfl
    | 12, hi => rfl
    | 13, hi => rfl
    | 14, hi => rfl
    | 15, hi => rfl
    | 16, hi => rfl
    | 17, hi => rfl
    | 18, hi => rfl
    | 19, hi => rfl
    | 20, hi => rfl
    | 21, hi => rfl
    | 22, hi => rfl
    | 23, hi => rfl
    | 24, hi => rfl
    | 25, hi => rfl
    | 26, hi => rfl
    | 27, hi => rfl
    | 28, hi => rfl
    | 29, hi => rfl
    | 30, hi => rfl
    | 31, hi => rfl
    | 32, hi => rfl
    | 33, hi => rfl
    | 34, hi => rfl
    | 35, hi => rfl
    | 36, hi => rfl
    | 37, hi => rfl
    | 38, hi => rfl
    | 39, hi => rfl
    | 40, hi => rfl
    | 41, hi => rfl
    | 42, hi => rfl
    | 43, hi => rfl
    | 44, hi => rfl
    | 45, hi => rfl
    | 46, hi => rfl
    | 47, hi => rfl
    | 48, hi => rfl
    | 49, hi => rfl
    | 50, hi => rfl
    | 51, hi => exact absurd rfl hi
    | 52, hi => rfl
    | 53, hi => rfl
    | 54, hi => rfl
    | 55, hi => rfl
    | 56, hi => rfl
    | 57, hi => rfl
    | 58, hi => rfl
    | 59, hi => rfl
    | 60, hi => rfl
    | 61, hi => rfl
    | 62, hi => rfl
    | 63, hi => rfl
    | 64, hi => rfl
    | 65, hi => rfl
    | 66, hi => rfl
    | 67, hi => rfl
    | i + 68, hi => rfl)
  have hG : sgG (KEh sgZ0 P) D vwCl A tys ad ks H := sg_weakE hG (k := 50) rfl rfl (fun j v hv => sg_rrZ hv) (fun i hi => by match i, hi with
    | 0, hi => rfl
    | 1, hi => rfl
    | 2, hi => rfl
    | 3, hi => rfl
    | 4, hi => rfl
    | 5, hi => rfl
    | 6, hi => rfl
    | 7, hi => rfl
    | 8, hi => rfl
    | 9, hi => rfl
    | 10, hi => rfl
    | 11, hi => rfl
    | 12, hi => rfl
    | 13, hi => rfl
    | 14, hi => rfl
    | 15, hi => rfl
    | 16, hi => rfl
    | 17, hi => rfl
    | 18, hi => rfl
    | 19, hi => rfl
    | 20, hi => rfl
    | 21, hi => rfl
    | 22, hi => rfl
    | 23, hi => rfl
    | 24, hi => rfl
    | 25, hi => rfl
    | 26, hi => rfl
    | 27, hi => rfl
    | 28, hi => rfl
    | 29, hi => rfl
    | 30, hi => rfl
    | 31, hi => rfl
    | 32, hi => rfl
    | 33, hi => rfl
    | 34, hi => rfl
    | 35, hi => rfl
    | 36, hi => rfl
    | 37, hi => rfl
    | 38, hi => rfl
    | 39, hi => rfl
    | 40, hi => rfl
    | 41, hi => rfl
    | 42, hi => rfl
    | 43, hi => rfl
    | 44, hi => rfl
    | 45, hi => rfl
    | 46, hi => rfl
    | 47, hi => rfl
    | 48, hi => rfl
    | 49, hi => rfl
    | 50, hi => exact absurd rfl hi
    | 51, hi => rfl
    | 52, hi => rfl
    | 53, hi => rfl
    | 54, hi => rfl
    | 55, hi => rfl
    | 56, hi => rfl
    | 57, hi => rfl
    | 58, hi => rfl
    | 59, hi => rfl
    | 60, hi => rfl
    | 61, hi => rfl
    | 62, hi => rfl
    | 63, hi => rfl
    | 64, hi => rfl
    | 65, hi => rfl
    | 66, hi => rfl
    | 67, hi => rfl
    | i + 68, hi => rfl)
  have hG : sgG (KEg sgZ0 P) D vwCl A tys ad ks H := sg_weakE hG (k := 53) rfl rfl (fun j v hv => gl_glq hv) (fun i hi => by match i, hi with
    | 0, hi => rfl
    | 1, hi => rfl
    | 2, hi => rfl
    | 3, hi => rfl
    | 4, hi => rfl
    | 5, hi => rfl
    | 6, hi => rfl
    | 7, hi => rfl
    | 8, hi => rfl
    | 9, hi => rfl
    | 10, hi => rfl
    | 11, hi => rfl
    | 12, hi => rfl
    | 13, hi => rfl
    | 14, hi => rfl
    | 15, hi => rfl
    | 16, hi => rfl
    | 17, hi => rfl
    | 18, hi => rfl
    | 19, hi => rfl
    | 20, hi => rfl
    | 21, hi => rfl
    | 22, hi => rfl
    | 23, hi => rfl
    | 24, hi => rfl
    | 25, hi => rfl
    | 26, hi => rfl
    | 27, hi => rfl
    | 28, hi => rfl
    | 29, hi => rfl
    | 30, hi => rfl
    | 31, hi => rfl
    | 32, hi => rfl
    | 33, hi => rfl
    | 34, hi => rfl
    | 35, hi => rfl
    | 36, hi => rfl
    | 37, hi => rfl
    | 38, hi => rfl
    | 39, hi => rfl
    | 40, hi => rfl
    | 41, hi => rfl
    | 42, hi => rfl
    | 43, hi => rfl
    | 44, hi => rfl
    | 45, hi => rfl
    | 46, hi => rfl
    | 47, hi => rfl
    | 48, hi => rfl
    | 49, hi => rfl
    | 50, hi => rfl
    | 51, hi => rfl
    | 52, hi => rfl
    | 53, hi => exact absurd rfl hi
    | 54, hi => rfl
    | 55, hi => rfl
    | 56, hi => rfl
    | 57, hi => rfl
    | 58, hi => rfl
    | 59, hi => rfl
    | 60, hi => rfl
    | 61, hi => rfl
    | 62, hi => rfl
    | 63, hi => rfl
    | 64, hi => rfl
    | 65, hi => rfl
    | 66, hi => rfl
    | 67, hi => rfl
    | i + 68, hi => rfl)
  have hG : sgG (KEb sgZ0 P) D vwCl A tys ad ks H := sg_weakE hG (k := 52) rfl rfl (fun j v hv => ga_gq hv) (fun i hi => by match i, hi with
    | 0, hi => rfl
    | 1, hi => rfl
    | 2, hi => rfl
    | 3, hi => rfl
    | 4, hi => rfl
    | 5, hi => rfl
    | 6, hi => rfl
    | 7, hi => rfl
    | 8, hi => rfl
    | 9, hi => rfl
    | 10, hi => rfl
    | 11, hi => rfl
    | 12, hi => rfl
    | 13, hi => rfl
    | 14, hi => rfl
    | 15, hi => rfl
    | 16, hi => rfl
    | 17, hi => rfl
    | 18, hi => rfl
    | 19, hi => rfl
    | 20, hi => rfl
    | 21, hi => rfl
    | 22, hi => rfl
    | 23, hi => rfl
    | 24, hi => rfl
    | 25, hi => rfl
    | 26, hi => rfl
    | 27, hi => rfl
    | 28, hi => rfl
    | 29, hi => rfl
    | 30, hi => rfl
    | 31, hi => rfl
    | 32, hi => rfl
    | 33, hi => rfl
    | 34, hi => rfl
    | 35, hi => rfl
    | 36, hi => rfl
    | 37, hi => rfl
    | 38, hi => rfl
    | 39, hi => rfl
    | 40, hi => rfl
    | 41, hi => rfl
    | 42, hi => rfl
    | 43, hi => rfl
    | 44, hi => rfl
    | 45, hi => rfl
    | 46, hi => rfl
    | 47, hi => rfl
    | 48, hi => rfl
    | 49, hi => rfl
    | 50, hi => rfl
    | 51, hi => rfl
    | 52, hi => exact absurd rfl hi
    | 53, hi => rfl
    | 54, hi => rfl
    | 55, hi => rfl
    | 56, hi => rfl
    | 57, hi => rfl
    | 58, hi => rfl
    | 59, hi => rfl
    | 60, hi => rfl
    | 61, hi => rfl
    | 62, hi => rfl
    | 63, hi => rfl
    | 64, hi => rfl
    | 65, hi => rfl
    | 66, hi => rfl
    | 67, hi => rfl
    | i + 68, hi => rfl)
  refine sg_strN hG ha (by decide) rfl rfl (r := (RX12, TX12, 53)) rfl rfl (fun i t' ht' => by match i, ht' with
    | 0, ht' => cases ht'; exact .inl ⟨_, rfl, fun v hv => hv⟩
    | 1, ht' => cases ht'; exact .inl ⟨_, rfl, fun v hv => hv⟩
    | 2, ht' => cases ht'; exact .inl ⟨_, rfl, fun v hv => hv⟩
    | 3, ht' => cases ht'; exact .inl ⟨_, rfl, fun v hv => hv⟩
    | 4, ht' => cases ht'; exact .inl ⟨_, rfl, fun v hv => hv⟩
    | 5, ht' => cases ht'; exact .inr ⟨by decide, _, h5, Or.inr ⟨_, rfl, ht⟩⟩
    | 6, ht' => cases ht'; exact .inl ⟨_, rfl, fun v hv => hv⟩
    | 7, ht' => cases ht'; exact .inl ⟨_, rfl, fun v hv => hv⟩
    | 8, ht' => cases ht'; exact .inr ⟨by decide, _, h8, ⟨_, rfl, e8⟩⟩
    | 9, ht' => cases ht'; exact .inr ⟨by decide, _, h9, ⟨_, rfl, by unfold sgC240; exact ⟨by omega, by omega⟩⟩⟩
    | 10, ht' => cases ht'; exact .inr ⟨by decide, _, h10, ⟨_, rfl, ⟨by omega, by omega⟩⟩⟩
    | 11, ht' => cases ht'; exact .inr ⟨by decide, _, h11, ⟨_, rfl, ⟨by omega, by omega⟩⟩⟩
    | 12, ht' => cases ht'; exact .inl ⟨_, rfl, fun v hv => hv⟩
    | 13, ht' => cases ht'; exact .inl ⟨_, rfl, fun v hv => hv⟩
    | 14, ht' => cases ht'; exact .inl ⟨_, rfl, fun v hv => hv⟩
    | 15, ht' => cases ht'; exact .inl ⟨_, rfl, fun v hv => hv⟩
    | 16, ht' => cases ht'; exact .inl ⟨_, rfl, fun v hv => hv⟩
    | 17, ht' => cases ht'; exact .inl ⟨_, rfl, fun v hv => hv⟩
    | 18, ht' => cases ht'; exact .inl ⟨_, rfl, fun v hv => hv⟩
    | 19, ht' => cases ht'; exact .inl ⟨_, rfl, fun v hv => hv⟩
    | 20, ht' => cases ht'; exact .inl ⟨_, rfl, fun v hv => hv⟩
    | 21, ht' => cases ht'; exact .inl ⟨_, rfl, fun v hv => hv⟩
    | 22, ht' => cases ht'; exact .inl ⟨_, rfl, fun v hv => hv⟩
    | 23, ht' => cases ht'; exact .inl ⟨_, rfl, fun v hv => hv⟩
    | 24, ht' => cases ht'; exact .inl ⟨_, rfl, fun v hv => hv⟩
    | 25, ht' => cases ht'; exact .inl ⟨_, rfl, fun v hv => hv⟩
    | 26, ht' => cases ht'; exact .inl ⟨_, rfl, fun v hv => hv⟩
    | 27, ht' => cases ht'; exact .inl ⟨_, rfl, fun v hv => hv⟩
    | 28, ht' => cases ht'; exact .inl ⟨_, rfl, fun v hv => hv⟩
    | 29, ht' => cases ht'; exact .inl ⟨_, rfl, fun v hv => hv⟩
    | 30, ht' => cases ht'; exact .inl ⟨_, rfl, fun v hv => sg_z01 hv⟩
    | 31, ht' => cases ht'; exact .inl ⟨_, rfl, fun v hv => sg_z01 hv⟩
    | 32, ht' => cases ht'; exact .inl ⟨_, rfl, fun v hv => hv⟩
    | 33, ht' => cases ht'; exact .inl ⟨_, rfl, fun v hv => hv⟩
    | 34, ht' => cases ht'; exact .inl ⟨_, rfl, fun v hv => hv⟩
    | 35, ht' => cases ht'; exact .inl ⟨_, rfl, fun v hv => hv⟩
    | 36, ht' => cases ht'; exact .inl ⟨_, rfl, fun v hv => hv⟩
    | 37, ht' => cases ht'; exact .inl ⟨_, rfl, fun v hv => hv⟩
    | 38, ht' => cases ht'; exact .inl ⟨_, rfl, fun v hv => hv⟩
    | 39, ht' => cases ht'; exact .inl ⟨_, rfl, fun v hv => hv⟩
    | 40, ht' => cases ht'; exact .inl ⟨_, rfl, fun v hv => hv⟩
    | 41, ht' => cases ht'; exact .inl ⟨_, rfl, fun v hv => hv⟩
    | 42, ht' => cases ht'; exact .inl ⟨_, rfl, fun v hv => hv⟩
    | 43, ht' => cases ht'; exact .inl ⟨_, rfl, fun v hv => hv⟩
    | 44, ht' => cases ht'; exact .inl ⟨_, rfl, fun v hv => hv⟩
    | 45, ht' => cases ht'; exact .inl ⟨_, rfl, fun v hv => hv⟩
    | 46, ht' => cases ht'; exact .inl ⟨_, rfl, fun v hv => hv⟩
    | 47, ht' => cases ht'; exact .inl ⟨_, rfl, fun v hv => hv⟩
    | 48, ht' => cases ht'; exact .inl ⟨_, rfl, fun v hv => hv⟩
    | 49, ht' => cases ht'; exact .inl ⟨_, rfl, fun v hv => hv⟩
    | 50, ht' => cases ht'; exact .inl ⟨_, rfl, fun v hv => hv⟩
    | 51, ht' => cases ht'; exact .inl ⟨_, rfl, fun v hv => hv⟩
    | 52, ht' => cases ht'; exact .inl ⟨_, rfl, fun v hv => hv⟩
    | i + 53, ht' => cases ht') (fun i hi => by match i, hi with
    | 0, hi => rfl
    | 1, hi => rfl
    | 2, hi => rfl
    | 3, hi => rfl
    | 4, hi => rfl
    | 5, hi => rfl
    | 6, hi => rfl
    | 7, hi => rfl
    | 8, hi => rfl
    | 9, hi => rfl
    | 10, hi => rfl
    | 11, hi => rfl
    | 12, hi => exact absurd rfl hi
    | 13, hi => rfl
    | 14, hi => rfl
    | 15, hi => rfl
    | 16, hi => rfl
    | 17, hi => rfl
    | 18, hi => rfl
    | 19, hi => rfl
    | 20, hi => rfl
    | 21, hi => rfl
    | 22, hi => rfl
    | 23, hi => rfl
    | 24, hi => rfl
    | 25, hi => rfl
    | 26, hi => rfl
    | 27, hi => rfl
    | 28, hi => rfl
    | 29, hi => rfl
    | 30, hi => rfl
    | 31, hi => rfl
    | 32, hi => rfl
    | 33, hi => rfl
    | 34, hi => rfl
    | 35, hi => rfl
    | 36, hi => rfl
    | 37, hi => rfl
    | 38, hi => rfl
    | 39, hi => rfl
    | 40, hi => rfl
    | 41, hi => rfl
    | 42, hi => rfl
    | 43, hi => rfl
    | 44, hi => rfl
    | 45, hi => rfl
    | 46, hi => rfl
    | 47, hi => rfl
    | 48, hi => rfl
    | 49, hi => rfl
    | 50, hi => rfl
    | 51, hi => rfl
    | 52, hi => rfl
    | 53, hi => rfl
    | 54, hi => rfl
    | 55, hi => rfl
    | 56, hi => rfl
    | 57, hi => rfl
    | 58, hi => rfl
    | 59, hi => rfl
    | 60, hi => rfl
    | 61, hi => rfl
    | 62, hi => rfl
    | 63, hi => rfl
    | 64, hi => rfl
    | 65, hi => rfl
    | 66, hi => rfl
    | 67, hi => rfl
    | i + 68, hi => rfl)
section SGE
variable {p : Program} {l : Launch} {e : Env} {R : Room} {s : State} {m : MethodId} {args : Array Value} {below : List Frame} {meth : Method} {c : Code} {H : Heap} {locs : List Loc} {cells slots : Nat} {Q : State → Prop} {cc : ByteArray} {nL pc : Nat} {ls : Array Slot} {rest : List Value} {own : String} {D : va_G} {A : Nat → Prop} {tys : List (ClassId × FieldType)} {ad ks : List Nat} {P : sgPm} {H0 : Heap} {index : Nat} {a : Nat} {x : Int32} {a1 a2 f1 f2 d1 d2 b1 b2 : Int} {z : sgZt}
theorem pf_X12_10E (X : CallFix p m c cc nL s args sg_tbl own) (hK : va_K D vwCl tys s) (hG : sgG (KE a1 a2 f1 f2 d1 d2 z P) D vwCl A tys ad ks H) (hS : va_S A H0 H locs) (ha : isK ad ks 12 a) (hl : Cond.fieldLink own index "LawnAheadModel" "at" "I" ∈ sg_tbl) (hv : iv b1 b2 x) (hdg : decode cc pc = .ok (.putfield index, 3))
    (kk : ∀ (H1 : Heap) (locs1 : List Loc), sgG (KE b1 b2 f1 f2 d1 d2 z P) D vwCl A tys ad ks H1 → va_S A H0 H1 locs1 → W p l e R s m args below meth c H1 locs1 cells slots Q (F0 m (pc + 3) ls rest)) : W p l e R s m args below meth c H locs cells slots Q (F0 m pc ls (.int x :: .ref a :: rest)) :=
  sg_put1 (kt' := KE b1 b2 f1 f2 d1 d2 z P) X hK hG hS ha (k := 12) (by decide) (ci := 12) (fts := [.inl ((-2147483648), 2147483647), .inr (.inl (false, 45)), .inr (.inl (false, 46)), .inr (.inl (false, 47)), .inr (.inl (false, 48)), .inr (.inl (false, 45)), .inl (sgC240 (sgL2 P), sgC240 (sgL2 P)), .inl ((P.2.2.2.2.2.2.2.2.1.val : Int), (P.2.2.2.2.2.2.2.2.1.val : Int)), .inl (0, 0), .inl (sgC240 (sgL2 P), sgC240 (sgL2 P)), .inl (a1, a2), .inl (f1, f2), .inl (d1, d2), .inl ((-2147483648), 2147483647), .inl ((-2147483648), 2147483647), .inr (.inr true), .inr (.inr true), .inl (0, 1), .inr (.inl (false, 49)), .inr (.inl (false, 50)), .inr (.inl (false, 51)), .inr (.inl (false, 52)), .inr (.inl (false, 53)), .inl (sgC1 P, sgC1 P), .inl ((-2147483648), 2147483647), .inl (z.1 25), .inl (z.1 26), .inl (z.1 27), .inl (z.1 28), .inl ((P.2.2.2.2.2.2.2.2.2.1.val : Int), (P.2.2.2.2.2.2.2.2.2.1.val : Int)), .inl (max 0 (z.1 30).1, min 1 (z.1 30).2), .inl (max 0 (z.1 31).1, min 1 (z.1 31).2), .inr (.inl (false, 54)), .inr (.inl (false, 55)), .inl ((-1), 3), .inl (P.2.2.2.2.2.1, P.2.2.2.2.2.1), .inr (.inl (false, 56)), .inr (.inl (false, 57)), .inr (.inl (false, 58)), .inl (0, 40), .inr (.inr false), .inr (.inl (false, 59)), .inl ((-2147483648), 2147483647), .inl ((-2147483648), 2147483647), .inr (.inl (false, 60)), .inr (.inl (false, 61)), .inr (.inl (false, 62)), .inl (0, 12), .inr (.inl (false, 63)), .inr (.inl (false, 64)), .inl (0, 12), .inr (.inl (false, 65)), .inl (0, 1)]) (fts' := [.inl ((-2147483648), 2147483647), .inr (.inl (false, 45)), .inr (.inl (false, 46)), .inr (.inl (false, 47)), .inr (.inl (false, 48)), .inr (.inl (false, 45)), .inl (sgC240 (sgL2 P), sgC240 (sgL2 P)), .inl ((P.2.2.2.2.2.2.2.2.1.val : Int), (P.2.2.2.2.2.2.2.2.1.val : Int)), .inl (0, 0), .inl (sgC240 (sgL2 P), sgC240 (sgL2 P)), .inl (b1, b2), .inl (f1, f2), .inl (d1, d2), .inl ((-2147483648), 2147483647), .inl ((-2147483648), 2147483647), .inr (.inr true), .inr (.inr true), .inl (0, 1), .inr (.inl (false, 49)), .inr (.inl (false, 50)), .inr (.inl (false, 51)), .inr (.inl (false, 52)), .inr (.inl (false, 53)), .inl (sgC1 P, sgC1 P), .inl ((-2147483648), 2147483647), .inl (z.1 25), .inl (z.1 26), .inl (z.1 27), .inl (z.1 28), .inl ((P.2.2.2.2.2.2.2.2.2.1.val : Int), (P.2.2.2.2.2.2.2.2.2.1.val : Int)), .inl (max 0 (z.1 30).1, min 1 (z.1 30).2), .inl (max 0 (z.1 31).1, min 1 (z.1 31).2), .inr (.inl (false, 54)), .inr (.inl (false, 55)), .inl ((-1), 3), .inl (P.2.2.2.2.2.1, P.2.2.2.2.2.1), .inr (.inl (false, 56)), .inr (.inl (false, 57)), .inr (.inl (false, 58)), .inl (0, 40), .inr (.inr false), .inr (.inl (false, 59)), .inl ((-2147483648), 2147483647), .inl ((-2147483648), 2147483647), .inr (.inl (false, 60)), .inr (.inl (false, 61)), .inr (.inl (false, 62)), .inl (0, 12), .inr (.inl (false, 63)), .inr (.inl (false, 64)), .inl (0, 12), .inr (.inl (false, 65)), .inl (0, 1)]) rfl rfl (C := RX12) (T := TX12) (N := 53) rfl inL_X12 tyX12 tyX12_ok nmX12 10 (by decide) rfl (t' := .inl (b1, b2)) rfl (fun i hi => by match i, hi with
    | 0, hi => rfl
    | 1, hi => rfl
    | 2, hi => rfl
    | 3, hi => rfl
    | 4, hi => rfl
    | 5, hi => rfl
    | 6, hi => rfl
    | 7, hi => rfl
    | 8, hi => rfl
    | 9, hi => rfl
    | 10, hi => exact absurd rfl hi
    | 11, hi => rfl
    | 12, hi => rfl
    | 13, hi => rfl
    | 14, hi => rfl
    | 15, hi => rfl
    | 16, hi => rfl
    | 17, hi => rfl
    | 18, hi => rfl
    | 19, hi => rfl
    | 20, hi => rfl
    | 21, hi => rfl
    | 22, hi => rfl
    | 23, hi => rfl
    | 24, hi => rfl
    | 25, hi => rfl
    | 26, hi => rfl
    | 27, hi => rfl
    | 28, hi => rfl
    | 29, hi => rfl
    | 30, hi => rfl
    | 31, hi => rfl
    | 32, hi => rfl
    | 33, hi => rfl
    | 34, hi => rfl
    | 35, hi => rfl
    | 36, hi => rfl
    | 37, hi => rfl
    | 38, hi => rfl
    | 39, hi => rfl
    | 40, hi => rfl
    | 41, hi => rfl
    | 42, hi => rfl
    | 43, hi => rfl
    | 44, hi => rfl
    | 45, hi => rfl
    | 46, hi => rfl
    | 47, hi => rfl
    | 48, hi => rfl
    | 49, hi => rfl
    | 50, hi => rfl
    | 51, hi => rfl
    | 52, hi => rfl
    | i + 53, hi => rfl) (fun i hi => by match i, hi with
    | 0, hi => rfl
    | 1, hi => rfl
    | 2, hi => rfl
    | 3, hi => rfl
    | 4, hi => rfl
    | 5, hi => rfl
    | 6, hi => rfl
    | 7, hi => rfl
    | 8, hi => rfl
    | 9, hi => rfl
    | 10, hi => rfl
    | 11, hi => rfl
    | 12, hi => exact absurd rfl hi
    | 13, hi => rfl
    | 14, hi => rfl
    | 15, hi => rfl
    | 16, hi => rfl
    | 17, hi => rfl
    | 18, hi => rfl
    | 19, hi => rfl
    | 20, hi => rfl
    | 21, hi => rfl
    | 22, hi => rfl
    | 23, hi => rfl
    | 24, hi => rfl
    | 25, hi => rfl
    | 26, hi => rfl
    | 27, hi => rfl
    | 28, hi => rfl
    | 29, hi => rfl
    | 30, hi => rfl
    | 31, hi => rfl
    | 32, hi => rfl
    | 33, hi => rfl
    | 34, hi => rfl
    | 35, hi => rfl
    | 36, hi => rfl
    | 37, hi => rfl
    | 38, hi => rfl
    | 39, hi => rfl
    | 40, hi => rfl
    | 41, hi => rfl
    | 42, hi => rfl
    | 43, hi => rfl
    | 44, hi => rfl
    | 45, hi => rfl
    | 46, hi => rfl
    | 47, hi => rfl
    | 48, hi => rfl
    | 49, hi => rfl
    | 50, hi => rfl
    | 51, hi => rfl
    | 52, hi => rfl
    | 53, hi => rfl
    | 54, hi => rfl
    | 55, hi => rfl
    | 56, hi => rfl
    | 57, hi => rfl
    | 58, hi => rfl
    | 59, hi => rfl
    | 60, hi => rfl
    | 61, hi => rfl
    | 62, hi => rfl
    | 63, hi => rfl
    | 64, hi => rfl
    | 65, hi => rfl
    | 66, hi => rfl
    | 67, hi => rfl
    | i + 68, hi => rfl) hl (fun _ h => h) rfl (ty := .int) rfl rfl rfl ⟨_, rfl, hv⟩ hdg kk
theorem pf_X12_11E (X : CallFix p m c cc nL s args sg_tbl own) (hK : va_K D vwCl tys s) (hG : sgG (KE a1 a2 f1 f2 d1 d2 z P) D vwCl A tys ad ks H) (hS : va_S A H0 H locs) (ha : isK ad ks 12 a) (hl : Cond.fieldLink own index "LawnAheadModel" "fault" "I" ∈ sg_tbl) (hv : iv b1 b2 x) (hdg : decode cc pc = .ok (.putfield index, 3))
    (kk : ∀ (H1 : Heap) (locs1 : List Loc), sgG (KE a1 a2 b1 b2 d1 d2 z P) D vwCl A tys ad ks H1 → va_S A H0 H1 locs1 → W p l e R s m args below meth c H1 locs1 cells slots Q (F0 m (pc + 3) ls rest)) : W p l e R s m args below meth c H locs cells slots Q (F0 m pc ls (.int x :: .ref a :: rest)) :=
  sg_put1 (kt' := KE a1 a2 b1 b2 d1 d2 z P) X hK hG hS ha (k := 12) (by decide) (ci := 12) (fts := [.inl ((-2147483648), 2147483647), .inr (.inl (false, 45)), .inr (.inl (false, 46)), .inr (.inl (false, 47)), .inr (.inl (false, 48)), .inr (.inl (false, 45)), .inl (sgC240 (sgL2 P), sgC240 (sgL2 P)), .inl ((P.2.2.2.2.2.2.2.2.1.val : Int), (P.2.2.2.2.2.2.2.2.1.val : Int)), .inl (0, 0), .inl (sgC240 (sgL2 P), sgC240 (sgL2 P)), .inl (a1, a2), .inl (f1, f2), .inl (d1, d2), .inl ((-2147483648), 2147483647), .inl ((-2147483648), 2147483647), .inr (.inr true), .inr (.inr true), .inl (0, 1), .inr (.inl (false, 49)), .inr (.inl (false, 50)), .inr (.inl (false, 51)), .inr (.inl (false, 52)), .inr (.inl (false, 53)), .inl (sgC1 P, sgC1 P), .inl ((-2147483648), 2147483647), .inl (z.1 25), .inl (z.1 26), .inl (z.1 27), .inl (z.1 28), .inl ((P.2.2.2.2.2.2.2.2.2.1.val : Int), (P.2.2.2.2.2.2.2.2.2.1.val : Int)), .inl (max 0 (z.1 30).1, min 1 (z.1 30).2), .inl (max 0 (z.1 31).1, min 1 (z.1 31).2), .inr (.inl (false, 54)), .inr (.inl (false, 55)), .inl ((-1), 3), .inl (P.2.2.2.2.2.1, P.2.2.2.2.2.1), .inr (.inl (false, 56)), .inr (.inl (false, 57)), .inr (.inl (false, 58)), .inl (0, 40), .inr (.inr false), .inr (.inl (false, 59)), .inl ((-2147483648), 2147483647), .inl ((-2147483648), 2147483647), .inr (.inl (false, 60)), .inr (.inl (false, 61)), .inr (.inl (false, 62)), .inl (0, 12), .inr (.inl (false, 63)), .inr (.inl (false, 64)), .inl (0, 12), .inr (.inl (false, 65)), .inl (0, 1)]) (fts' := [.inl ((-2147483648), 2147483647), .inr (.inl (false, 45)), .inr (.inl (false, 46)), .inr (.inl (false, 47)), .inr (.inl (false, 48)), .inr (.inl (false, 45)), .inl (sgC240 (sgL2 P), sgC240 (sgL2 P)), .inl ((P.2.2.2.2.2.2.2.2.1.val : Int), (P.2.2.2.2.2.2.2.2.1.val : Int)), .inl (0, 0), .inl (sgC240 (sgL2 P), sgC240 (sgL2 P)), .inl (a1, a2), .inl (b1, b2), .inl (d1, d2), .inl ((-2147483648), 2147483647), .inl ((-2147483648), 2147483647), .inr (.inr true), .inr (.inr true), .inl (0, 1), .inr (.inl (false, 49)), .inr (.inl (false, 50)), .inr (.inl (false, 51)), .inr (.inl (false, 52)), .inr (.inl (false, 53)), .inl (sgC1 P, sgC1 P), .inl ((-2147483648), 2147483647), .inl (z.1 25), .inl (z.1 26), .inl (z.1 27), .inl (z.1 28), .inl ((P.2.2.2.2.2.2.2.2.2.1.val : Int), (P.2.2.2.2.2.2.2.2.2.1.val : Int)), .inl (max 0 (z.1 30).1, min 1 (z.1 30).2), .inl (max 0 (z.1 31).1, min 1 (z.1 31).2), .inr (.inl (false, 54)), .inr (.inl (false, 55)), .inl ((-1), 3), .inl (P.2.2.2.2.2.1, P.2.2.2.2.2.1), .inr (.inl (false, 56)), .inr (.inl (false, 57)), .inr (.inl (false, 58)), .inl (0, 40), .inr (.inr false), .inr (.inl (false, 59)), .inl ((-2147483648), 2147483647), .inl ((-2147483648), 2147483647), .inr (.inl (false, 60)), .inr (.inl (false, 61)), .inr (.inl (false, 62)), .inl (0, 12), .inr (.inl (false, 63)), .inr (.inl (false, 64)), .inl (0, 12), .inr (.inl (false, 65)), .inl (0, 1)]) rfl rfl (C := RX12) (T := TX12) (N := 53) rfl inL_X12 tyX12 tyX12_ok nmX12 11 (by decide) rfl (t' := .inl (b1, b2)) rfl (fun i hi => by match i, hi with
    | 0, hi => rfl
    | 1, hi => rfl
    | 2, hi => rfl
    | 3, hi => rfl
    | 4, hi => rfl
    | 5, hi => rfl
    | 6, hi => rfl
    | 7, hi => rfl
    | 8, hi => rfl
    | 9, hi => rfl
    | 10, hi => rfl
    | 11, hi => exact absurd rfl hi
    | 12, hi => rfl
    | 13, hi => rfl
    | 14, hi => rfl
    | 15, hi => rfl
    | 16, hi => rfl
    | 17, hi => rfl
    | 18, hi => rfl
    | 19, hi => rfl
    | 20, hi => rfl
    | 21, hi => rfl
    | 22, hi => rfl
    | 23, hi => rfl
    | 24, hi => rfl
    | 25, hi => rfl
    | 26, hi => rfl
    | 27, hi => rfl
    | 28, hi => rfl
    | 29, hi => rfl
    | 30, hi => rfl
    | 31, hi => rfl
    | 32, hi => rfl
    | 33, hi => rfl
    | 34, hi => rfl
    | 35, hi => rfl
    | 36, hi => rfl
    | 37, hi => rfl
    | 38, hi => rfl
    | 39, hi => rfl
    | 40, hi => rfl
    | 41, hi => rfl
    | 42, hi => rfl
    | 43, hi => rfl
    | 44, hi => rfl
    | 45, hi => rfl
    | 46, hi => rfl
    | 47, hi => rfl
    | 48, hi => rfl
    | 49, hi => rfl
    | 50, hi => rfl
    | 51, hi => rfl
    | 52, hi => rfl
    | i + 53, hi => rfl) (fun i hi => by match i, hi with
    | 0, hi => rfl
    | 1, hi => rfl
    | 2, hi => rfl
    | 3, hi => rfl
    | 4, hi => rfl
    | 5, hi => rfl
    | 6, hi => rfl
    | 7, hi => rfl
    | 8, hi => rfl
    | 9, hi => rfl
    | 10, hi => rfl
    | 11, hi => rfl
    | 12, hi => exact absurd rfl hi
    | 13, hi => rfl
    | 14, hi => rfl
    | 15, hi => rfl
    | 16, hi => rfl
    | 17, hi => rfl
    | 18, hi => rfl
    | 19, hi => rfl
    | 20, hi => rfl
    | 21, hi => rfl
    | 22, hi => rfl
    | 23, hi => rfl
    | 24, hi => rfl
    | 25, hi => rfl
    | 26, hi => rfl
    | 27, hi => rfl
    | 28, hi => rfl
    | 29, hi => rfl
    | 30, hi => rfl
    | 31, hi => rfl
    | 32, hi => rfl
    | 33, hi => rfl
    | 34, hi => rfl
    | 35, hi => rfl
    | 36, hi => rfl
    | 37, hi => rfl
    | 38, hi => rfl
    | 39, hi => rfl
    | 40, hi => rfl
    | 41, hi => rfl
    | 42, hi => rfl
    | 43, hi => rfl
    | 44, hi => rfl
    | 45, hi => rfl
    | 46, hi => rfl
    | 47, hi => rfl
    | 48, hi => rfl
    | 49, hi => rfl
    | 50, hi => rfl
    | 51, hi => rfl
    | 52, hi => rfl
    | 53, hi => rfl
    | 54, hi => rfl
    | 55, hi => rfl
    | 56, hi => rfl
    | 57, hi => rfl
    | 58, hi => rfl
    | 59, hi => rfl
    | 60, hi => rfl
    | 61, hi => rfl
    | 62, hi => rfl
    | 63, hi => rfl
    | 64, hi => rfl
    | 65, hi => rfl
    | 66, hi => rfl
    | 67, hi => rfl
    | i + 68, hi => rfl) hl (fun _ h => h) rfl (ty := .int) rfl rfl rfl ⟨_, rfl, hv⟩ hdg kk
theorem pf_X12_12E (X : CallFix p m c cc nL s args sg_tbl own) (hK : va_K D vwCl tys s) (hG : sgG (KE a1 a2 f1 f2 d1 d2 z P) D vwCl A tys ad ks H) (hS : va_S A H0 H locs) (ha : isK ad ks 12 a) (hl : Cond.fieldLink own index "LawnAheadModel" "deep" "I" ∈ sg_tbl) (hv : iv b1 b2 x) (hdg : decode cc pc = .ok (.putfield index, 3))
    (kk : ∀ (H1 : Heap) (locs1 : List Loc), sgG (KE a1 a2 f1 f2 b1 b2 z P) D vwCl A tys ad ks H1 → va_S A H0 H1 locs1 → W p l e R s m args below meth c H1 locs1 cells slots Q (F0 m (pc + 3) ls rest)) : W p l e R s m args below meth c H locs cells slots Q (F0 m pc ls (.int x :: .ref a :: rest)) :=
  sg_put1 (kt' := KE a1 a2 f1 f2 b1 b2 z P) X hK hG hS ha (k := 12) (by decide) (ci := 12) (fts := [.inl ((-2147483648), 2147483647), .inr (.inl (false, 45)), .inr (.inl (false, 46)), .inr (.inl (false, 47)), .inr (.inl (false, 48)), .inr (.inl (false, 45)), .inl (sgC240 (sgL2 P), sgC240 (sgL2 P)), .inl ((P.2.2.2.2.2.2.2.2.1.val : Int), (P.2.2.2.2.2.2.2.2.1.val : Int)), .inl (0, 0), .inl (sgC240 (sgL2 P), sgC240 (sgL2 P)), .inl (a1, a2), .inl (f1, f2), .inl (d1, d2), .inl ((-2147483648), 2147483647), .inl ((-2147483648), 2147483647), .inr (.inr true), .inr (.inr true), .inl (0, 1), .inr (.inl (false, 49)), .inr (.inl (false, 50)), .inr (.inl (false, 51)), .inr (.inl (false, 52)), .inr (.inl (false, 53)), .inl (sgC1 P, sgC1 P), .inl ((-2147483648), 2147483647), .inl (z.1 25), .inl (z.1 26), .inl (z.1 27), .inl (z.1 28), .inl ((P.2.2.2.2.2.2.2.2.2.1.val : Int), (P.2.2.2.2.2.2.2.2.2.1.val : Int)), .inl (max 0 (z.1 30).1, min 1 (z.1 30).2), .inl (max 0 (z.1 31).1, min 1 (z.1 31).2), .inr (.inl (false, 54)), .inr (.inl (false, 55)), .inl ((-1), 3), .inl (P.2.2.2.2.2.1, P.2.2.2.2.2.1), .inr (.inl (false, 56)), .inr (.inl (false, 57)), .inr (.inl (false, 58)), .inl (0, 40), .inr (.inr false), .inr (.inl (false, 59)), .inl ((-2147483648), 2147483647), .inl ((-2147483648), 2147483647), .inr (.inl (false, 60)), .inr (.inl (false, 61)), .inr (.inl (false, 62)), .inl (0, 12), .inr (.inl (false, 63)), .inr (.inl (false, 64)), .inl (0, 12), .inr (.inl (false, 65)), .inl (0, 1)]) (fts' := [.inl ((-2147483648), 2147483647), .inr (.inl (false, 45)), .inr (.inl (false, 46)), .inr (.inl (false, 47)), .inr (.inl (false, 48)), .inr (.inl (false, 45)), .inl (sgC240 (sgL2 P), sgC240 (sgL2 P)), .inl ((P.2.2.2.2.2.2.2.2.1.val : Int), (P.2.2.2.2.2.2.2.2.1.val : Int)), .inl (0, 0), .inl (sgC240 (sgL2 P), sgC240 (sgL2 P)), .inl (a1, a2), .inl (f1, f2), .inl (b1, b2), .inl ((-2147483648), 2147483647), .inl ((-2147483648), 2147483647), .inr (.inr true), .inr (.inr true), .inl (0, 1), .inr (.inl (false, 49)), .inr (.inl (false, 50)), .inr (.inl (false, 51)), .inr (.inl (false, 52)), .inr (.inl (false, 53)), .inl (sgC1 P, sgC1 P), .inl ((-2147483648), 2147483647), .inl (z.1 25), .inl (z.1 26), .inl (z.1 27), .inl (z.1 28), .inl ((P.2.2.2.2.2.2.2.2.2.1.val : Int), (P.2.2.2.2.2.2.2.2.2.1.val : Int)), .inl (max 0 (z.1 30).1, min 1 (z.1 30).2), .inl (max 0 (z.1 31).1, min 1 (z.1 31).2), .inr (.inl (false, 54)), .inr (.inl (false, 55)), .inl ((-1), 3), .inl (P.2.2.2.2.2.1, P.2.2.2.2.2.1), .inr (.inl (false, 56)), .inr (.inl (false, 57)), .inr (.inl (false, 58)), .inl (0, 40), .inr (.inr false), .inr (.inl (false, 59)), .inl ((-2147483648), 2147483647), .inl ((-2147483648), 2147483647), .inr (.inl (false, 60)), .inr (.inl (false, 61)), .inr (.inl (false, 62)), .inl (0, 12), .inr (.inl (false, 63)), .inr (.inl (false, 64)), .inl (0, 12), .inr (.inl (false, 65)), .inl (0, 1)]) rfl rfl (C := RX12) (T := TX12) (N := 53) rfl inL_X12 tyX12 tyX12_ok nmX12 12 (by decide) rfl (t' := .inl (b1, b2)) rfl (fun i hi => by match i, hi with
    | 0, hi => rfl
    | 1, hi => rfl
    | 2, hi => rfl
    | 3, hi => rfl
    | 4, hi => rfl
    | 5, hi => rfl
    | 6, hi => rfl
    | 7, hi => rfl
    | 8, hi => rfl
    | 9, hi => rfl
    | 10, hi => rfl
    | 11, hi => rfl
    | 12, hi => exact absurd rfl hi
    | 13, hi => rfl
    | 14, hi => rfl
    | 15, hi => rfl
    | 16, hi => rfl
    | 17, hi => rfl
    | 18, hi => rfl
    | 19, hi => rfl
    | 20, hi => rfl
    | 21, hi => rfl
    | 22, hi => rfl
    | 23, hi => rfl
    | 24, hi => rfl
    | 25, hi => rfl
    | 26, hi => rfl
    | 27, hi => rfl
    | 28, hi => rfl
    | 29, hi => rfl
    | 30, hi => rfl
    | 31, hi => rfl
    | 32, hi => rfl
    | 33, hi => rfl
    | 34, hi => rfl
    | 35, hi => rfl
    | 36, hi => rfl
    | 37, hi => rfl
    | 38, hi => rfl
    | 39, hi => rfl
    | 40, hi => rfl
    | 41, hi => rfl
    | 42, hi => rfl
    | 43, hi => rfl
    | 44, hi => rfl
    | 45, hi => rfl
    | 46, hi => rfl
    | 47, hi => rfl
    | 48, hi => rfl
    | 49, hi => rfl
    | 50, hi => rfl
    | 51, hi => rfl
    | 52, hi => rfl
    | i + 53, hi => rfl) (fun i hi => by match i, hi with
    | 0, hi => rfl
    | 1, hi => rfl
    | 2, hi => rfl
    | 3, hi => rfl
    | 4, hi => rfl
    | 5, hi => rfl
    | 6, hi => rfl
    | 7, hi => rfl
    | 8, hi => rfl
    | 9, hi => rfl
    | 10, hi => rfl
    | 11, hi => rfl
    | 12, hi => exact absurd rfl hi
    | 13, hi => rfl
    | 14, hi => rfl
    | 15, hi => rfl
    | 16, hi => rfl
    | 17, hi => rfl
    | 18, hi => rfl
    | 19, hi => rfl
    | 20, hi => rfl
    | 21, hi => rfl
    | 22, hi => rfl
    | 23, hi => rfl
    | 24, hi => rfl
    | 25, hi => rfl
    | 26, hi => rfl
    | 27, hi => rfl
    | 28, hi => rfl
    | 29, hi => rfl
    | 30, hi => rfl
    | 31, hi => rfl
    | 32, hi => rfl
    | 33, hi => rfl
    | 34, hi => rfl
    | 35, hi => rfl
    | 36, hi => rfl
    | 37, hi => rfl
    | 38, hi => rfl
    | 39, hi => rfl
    | 40, hi => rfl
    | 41, hi => rfl
    | 42, hi => rfl
    | 43, hi => rfl
    | 44, hi => rfl
    | 45, hi => rfl
    | 46, hi => rfl
    | 47, hi => rfl
    | 48, hi => rfl
    | 49, hi => rfl
    | 50, hi => rfl
    | 51, hi => rfl
    | 52, hi => rfl
    | 53, hi => rfl
    | 54, hi => rfl
    | 55, hi => rfl
    | 56, hi => rfl
    | 57, hi => rfl
    | 58, hi => rfl
    | 59, hi => rfl
    | 60, hi => rfl
    | 61, hi => rfl
    | 62, hi => rfl
    | 63, hi => rfl
    | 64, hi => rfl
    | 65, hi => rfl
    | 66, hi => rfl
    | 67, hi => rfl
    | i + 68, hi => rfl) hl (fun _ h => h) rfl (ty := .int) rfl rfl rfl ⟨_, rfl, hv⟩ hdg kk
theorem gf_X12_8e (X : CallFix p m c cc nL s args sg_tbl own) (hK : va_K D vwCl tys s) (hG : sgG (KE a1 a2 f1 f2 d1 d2 z P) D vwCl A tys ad ks H) (ha : isK ad ks 12 a) (hl : Cond.fieldLink own index "LawnAheadModel" "begins" "I" ∈ sg_tbl) (hdg : decode cc pc = .ok (.getfield index, 3)) (kk : ∀ x : Int32, iv 0 0 x → W p l e R s m args below meth c H locs cells slots Q (F0 m (pc + 3) ls (.int x :: rest))) : W p l e R s m args below meth c H locs cells slots Q (F0 m pc ls (.ref a :: rest)) :=
  sg_get X hK hG ha (k := 12) (ci := 12) rfl (C := RX12) (T := TX12) (N := 53) rfl inL_X12 8 (by decide) rfl hl (fun _ h => h) hdg (fun v hv hf => by obtain ⟨x, rfl, hx⟩ := hv; exact kk x hx)
theorem gf_X12_9e (X : CallFix p m c cc nL s args sg_tbl own) (hK : va_K D vwCl tys s) (hG : sgG (KE a1 a2 f1 f2 d1 d2 z P) D vwCl A tys ad ks H) (ha : isK ad ks 12 a) (hl : Cond.fieldLink own index "LawnAheadModel" "ends" "I" ∈ sg_tbl) (hdg : decode cc pc = .ok (.getfield index, 3)) (kk : ∀ x : Int32, iv (sgC240 (sgL2 P)) (sgC240 (sgL2 P)) x → W p l e R s m args below meth c H locs cells slots Q (F0 m (pc + 3) ls (.int x :: rest))) : W p l e R s m args below meth c H locs cells slots Q (F0 m pc ls (.ref a :: rest)) :=
  sg_get X hK hG ha (k := 12) (ci := 12) rfl (C := RX12) (T := TX12) (N := 53) rfl inL_X12 9 (by decide) rfl hl (fun _ h => h) hdg (fun v hv hf => by obtain ⟨x, rfl, hx⟩ := hv; exact kk x hx)
theorem gf_X12_10e (X : CallFix p m c cc nL s args sg_tbl own) (hK : va_K D vwCl tys s) (hG : sgG (KE a1 a2 f1 f2 d1 d2 z P) D vwCl A tys ad ks H) (ha : isK ad ks 12 a) (hl : Cond.fieldLink own index "LawnAheadModel" "at" "I" ∈ sg_tbl) (hdg : decode cc pc = .ok (.getfield index, 3)) (kk : ∀ x : Int32, iv a1 a2 x → W p l e R s m args below meth c H locs cells slots Q (F0 m (pc + 3) ls (.int x :: rest))) : W p l e R s m args below meth c H locs cells slots Q (F0 m pc ls (.ref a :: rest)) :=
  sg_get X hK hG ha (k := 12) (ci := 12) rfl (C := RX12) (T := TX12) (N := 53) rfl inL_X12 10 (by decide) rfl hl (fun _ h => h) hdg (fun v hv hf => by obtain ⟨x, rfl, hx⟩ := hv; exact kk x hx)
theorem gf_X12_11e (X : CallFix p m c cc nL s args sg_tbl own) (hK : va_K D vwCl tys s) (hG : sgG (KE a1 a2 f1 f2 d1 d2 z P) D vwCl A tys ad ks H) (ha : isK ad ks 12 a) (hl : Cond.fieldLink own index "LawnAheadModel" "fault" "I" ∈ sg_tbl) (hdg : decode cc pc = .ok (.getfield index, 3)) (kk : ∀ x : Int32, iv f1 f2 x → W p l e R s m args below meth c H locs cells slots Q (F0 m (pc + 3) ls (.int x :: rest))) : W p l e R s m args below meth c H locs cells slots Q (F0 m pc ls (.ref a :: rest)) :=
  sg_get X hK hG ha (k := 12) (ci := 12) rfl (C := RX12) (T := TX12) (N := 53) rfl inL_X12 11 (by decide) rfl hl (fun _ h => h) hdg (fun v hv hf => by obtain ⟨x, rfl, hx⟩ := hv; exact kk x hx)
theorem gf_X12_12e (X : CallFix p m c cc nL s args sg_tbl own) (hK : va_K D vwCl tys s) (hG : sgG (KE a1 a2 f1 f2 d1 d2 z P) D vwCl A tys ad ks H) (ha : isK ad ks 12 a) (hl : Cond.fieldLink own index "LawnAheadModel" "deep" "I" ∈ sg_tbl) (hdg : decode cc pc = .ok (.getfield index, 3)) (kk : ∀ x : Int32, iv d1 d2 x → W p l e R s m args below meth c H locs cells slots Q (F0 m (pc + 3) ls (.int x :: rest))) : W p l e R s m args below meth c H locs cells slots Q (F0 m pc ls (.ref a :: rest)) :=
  sg_get X hK hG ha (k := 12) (ci := 12) rfl (C := RX12) (T := TX12) (N := 53) rfl inL_X12 12 (by decide) rfl hl (fun _ h => h) hdg (fun v hv hf => by obtain ⟨x, rfl, hx⟩ := hv; exact kk x hx)
theorem pf_X12_25Z (X : CallFix p m c cc nL s args sg_tbl own) (hK : va_K D vwCl tys s) (hG : sgG (KE a1 a2 f1 f2 d1 d2 z P) D vwCl A tys ad ks H) (hS : va_S A H0 H locs) (ha : isK ad ks 12 a) (hl : Cond.fieldLink own index "LawnAheadModel" "tuftsRead" "I" ∈ sg_tbl) (hdg : decode cc pc = .ok (.putfield index, 3))
    (kk : ∀ (H1 : Heap) (locs1 : List Loc), sgG (KE a1 a2 f1 f2 d1 d2 (zUp z.1 25 x.toInt, z.2) P) D vwCl A tys ad ks H1 → va_S A H0 H1 locs1 → W p l e R s m args below meth c H1 locs1 cells slots Q (F0 m (pc + 3) ls rest)) : W p l e R s m args below meth c H locs cells slots Q (F0 m pc ls (.int x :: .ref a :: rest)) :=
  sg_put1 (kt' := KE a1 a2 f1 f2 d1 d2 (zUp z.1 25 x.toInt, z.2) P) X hK hG hS ha (k := 12) (by decide) (ci := 12) (fts := [.inl ((-2147483648), 2147483647), .inr (.inl (false, 45)), .inr (.inl (false, 46)), .inr (.inl (false, 47)), .inr (.inl (false, 48)), .inr (.inl (false, 45)), .inl (sgC240 (sgL2 P), sgC240 (sgL2 P)), .inl ((P.2.2.2.2.2.2.2.2.1.val : Int), (P.2.2.2.2.2.2.2.2.1.val : Int)), .inl (0, 0), .inl (sgC240 (sgL2 P), sgC240 (sgL2 P)), .inl (a1, a2), .inl (f1, f2), .inl (d1, d2), .inl ((-2147483648), 2147483647), .inl ((-2147483648), 2147483647), .inr (.inr true), .inr (.inr true), .inl (0, 1), .inr (.inl (false, 49)), .inr (.inl (false, 50)), .inr (.inl (false, 51)), .inr (.inl (false, 52)), .inr (.inl (false, 53)), .inl (sgC1 P, sgC1 P), .inl ((-2147483648), 2147483647), .inl (z.1 25), .inl (z.1 26), .inl (z.1 27), .inl (z.1 28), .inl ((P.2.2.2.2.2.2.2.2.2.1.val : Int), (P.2.2.2.2.2.2.2.2.2.1.val : Int)), .inl (max 0 (z.1 30).1, min 1 (z.1 30).2), .inl (max 0 (z.1 31).1, min 1 (z.1 31).2), .inr (.inl (false, 54)), .inr (.inl (false, 55)), .inl ((-1), 3), .inl (P.2.2.2.2.2.1, P.2.2.2.2.2.1), .inr (.inl (false, 56)), .inr (.inl (false, 57)), .inr (.inl (false, 58)), .inl (0, 40), .inr (.inr false), .inr (.inl (false, 59)), .inl ((-2147483648), 2147483647), .inl ((-2147483648), 2147483647), .inr (.inl (false, 60)), .inr (.inl (false, 61)), .inr (.inl (false, 62)), .inl (0, 12), .inr (.inl (false, 63)), .inr (.inl (false, 64)), .inl (0, 12), .inr (.inl (false, 65)), .inl (0, 1)]) (fts' := [.inl ((-2147483648), 2147483647), .inr (.inl (false, 45)), .inr (.inl (false, 46)), .inr (.inl (false, 47)), .inr (.inl (false, 48)), .inr (.inl (false, 45)), .inl (sgC240 (sgL2 P), sgC240 (sgL2 P)), .inl ((P.2.2.2.2.2.2.2.2.1.val : Int), (P.2.2.2.2.2.2.2.2.1.val : Int)), .inl (0, 0), .inl (sgC240 (sgL2 P), sgC240 (sgL2 P)), .inl (a1, a2), .inl (f1, f2), .inl (d1, d2), .inl ((-2147483648), 2147483647), .inl ((-2147483648), 2147483647), .inr (.inr true), .inr (.inr true), .inl (0, 1), .inr (.inl (false, 49)), .inr (.inl (false, 50)), .inr (.inl (false, 51)), .inr (.inl (false, 52)), .inr (.inl (false, 53)), .inl (sgC1 P, sgC1 P), .inl ((-2147483648), 2147483647), .inl (x.toInt, x.toInt), .inl (z.1 26), .inl (z.1 27), .inl (z.1 28), .inl ((P.2.2.2.2.2.2.2.2.2.1.val : Int), (P.2.2.2.2.2.2.2.2.2.1.val : Int)), .inl (max 0 (z.1 30).1, min 1 (z.1 30).2), .inl (max 0 (z.1 31).1, min 1 (z.1 31).2), .inr (.inl (false, 54)), .inr (.inl (false, 55)), .inl ((-1), 3), .inl (P.2.2.2.2.2.1, P.2.2.2.2.2.1), .inr (.inl (false, 56)), .inr (.inl (false, 57)), .inr (.inl (false, 58)), .inl (0, 40), .inr (.inr false), .inr (.inl (false, 59)), .inl ((-2147483648), 2147483647), .inl ((-2147483648), 2147483647), .inr (.inl (false, 60)), .inr (.inl (false, 61)), .inr (.inl (false, 62)), .inl (0, 12), .inr (.inl (false, 63)), .inr (.inl (false, 64)), .inl (0, 12), .inr (.inl (false, 65)), .inl (0, 1)]) rfl rfl (C := RX12) (T := TX12) (N := 53) rfl inL_X12 tyX12 tyX12_ok nmX12 25 (by decide) rfl (t' := .inl (x.toInt, x.toInt)) rfl (fun i hi => by match i, hi with
    | 0, hi => rfl
    | 1, hi => rfl
    | 2, hi => rfl
    | 3, hi => rfl
    | 4, hi => rfl
    | 5, hi => rfl
    | 6, hi => rfl
    | 7, hi => rfl
    | 8, hi => rfl
    | 9, hi => rfl
    | 10, hi => rfl
    | 11, hi => rfl
    | 12, hi => rfl
    | 13, hi => rfl
    | 14, hi => rfl
    | 15, hi => rfl
    | 16, hi => rfl
    | 17, hi => rfl
    | 18, hi => rfl
    | 19, hi => rfl
    | 20, hi => rfl
    | 21, hi => rfl
    | 22, hi => rfl
    | 23, hi => rfl
    | 24, hi => rfl
    | 25, hi => exact absurd rfl hi
    | 26, hi => rfl
    | 27, hi => rfl
    | 28, hi => rfl
    | 29, hi => rfl
    | 30, hi => rfl
    | 31, hi => rfl
    | 32, hi => rfl
    | 33, hi => rfl
    | 34, hi => rfl
    | 35, hi => rfl
    | 36, hi => rfl
    | 37, hi => rfl
    | 38, hi => rfl
    | 39, hi => rfl
    | 40, hi => rfl
    | 41, hi => rfl
    | 42, hi => rfl
    | 43, hi => rfl
    | 44, hi => rfl
    | 45, hi => rfl
    | 46, hi => rfl
    | 47, hi => rfl
    | 48, hi => rfl
    | 49, hi => rfl
    | 50, hi => rfl
    | 51, hi => rfl
    | 52, hi => rfl
    | i + 53, hi => rfl) (fun i hi => by match i, hi with
    | 0, hi => rfl
    | 1, hi => rfl
    | 2, hi => rfl
    | 3, hi => rfl
    | 4, hi => rfl
    | 5, hi => rfl
    | 6, hi => rfl
    | 7, hi => rfl
    | 8, hi => rfl
    | 9, hi => rfl
    | 10, hi => rfl
    | 11, hi => rfl
    | 12, hi => exact absurd rfl hi
    | 13, hi => rfl
    | 14, hi => rfl
    | 15, hi => rfl
    | 16, hi => rfl
    | 17, hi => rfl
    | 18, hi => rfl
    | 19, hi => rfl
    | 20, hi => rfl
    | 21, hi => rfl
    | 22, hi => rfl
    | 23, hi => rfl
    | 24, hi => rfl
    | 25, hi => rfl
    | 26, hi => rfl
    | 27, hi => rfl
    | 28, hi => rfl
    | 29, hi => rfl
    | 30, hi => rfl
    | 31, hi => rfl
    | 32, hi => rfl
    | 33, hi => rfl
    | 34, hi => rfl
    | 35, hi => rfl
    | 36, hi => rfl
    | 37, hi => rfl
    | 38, hi => rfl
    | 39, hi => rfl
    | 40, hi => rfl
    | 41, hi => rfl
    | 42, hi => rfl
    | 43, hi => rfl
    | 44, hi => rfl
    | 45, hi => rfl
    | 46, hi => rfl
    | 47, hi => rfl
    | 48, hi => rfl
    | 49, hi => rfl
    | 50, hi => rfl
    | 51, hi => rfl
    | 52, hi => rfl
    | 53, hi => rfl
    | 54, hi => rfl
    | 55, hi => rfl
    | 56, hi => rfl
    | 57, hi => rfl
    | 58, hi => rfl
    | 59, hi => rfl
    | 60, hi => rfl
    | 61, hi => rfl
    | 62, hi => rfl
    | 63, hi => rfl
    | 64, hi => rfl
    | 65, hi => rfl
    | 66, hi => rfl
    | 67, hi => rfl
    | i + 68, hi => rfl) hl (fun _ h => h) rfl (ty := .int) rfl rfl rfl ⟨_, rfl, Int.le_refl _, Int.le_refl _⟩ hdg kk
theorem gf_X12_25e (X : CallFix p m c cc nL s args sg_tbl own) (hK : va_K D vwCl tys s) (hG : sgG (KE a1 a2 f1 f2 d1 d2 z P) D vwCl A tys ad ks H) (ha : isK ad ks 12 a) (hl : Cond.fieldLink own index "LawnAheadModel" "tuftsRead" "I" ∈ sg_tbl) (hdg : decode cc pc = .ok (.getfield index, 3)) (kk : ∀ x : Int32, iv (z.1 25).1 (z.1 25).2 x → W p l e R s m args below meth c H locs cells slots Q (F0 m (pc + 3) ls (.int x :: rest))) : W p l e R s m args below meth c H locs cells slots Q (F0 m pc ls (.ref a :: rest)) :=
  sg_get X hK hG ha (k := 12) (ci := 12) rfl (C := RX12) (T := TX12) (N := 53) rfl inL_X12 25 (by decide) rfl hl (fun _ h => h) hdg (fun v hv hf => by obtain ⟨x, rfl, hx⟩ := hv; exact kk x hx)
theorem pf_X12_26Z (X : CallFix p m c cc nL s args sg_tbl own) (hK : va_K D vwCl tys s) (hG : sgG (KE a1 a2 f1 f2 d1 d2 z P) D vwCl A tys ad ks H) (hS : va_S A H0 H locs) (ha : isK ad ks 12 a) (hl : Cond.fieldLink own index "LawnAheadModel" "bedsRead" "I" ∈ sg_tbl) (hdg : decode cc pc = .ok (.putfield index, 3))
    (kk : ∀ (H1 : Heap) (locs1 : List Loc), sgG (KE a1 a2 f1 f2 d1 d2 (zUp z.1 26 x.toInt, z.2) P) D vwCl A tys ad ks H1 → va_S A H0 H1 locs1 → W p l e R s m args below meth c H1 locs1 cells slots Q (F0 m (pc + 3) ls rest)) : W p l e R s m args below meth c H locs cells slots Q (F0 m pc ls (.int x :: .ref a :: rest)) :=
  sg_put1 (kt' := KE a1 a2 f1 f2 d1 d2 (zUp z.1 26 x.toInt, z.2) P) X hK hG hS ha (k := 12) (by decide) (ci := 12) (fts := [.inl ((-2147483648), 2147483647), .inr (.inl (false, 45)), .inr (.inl (false, 46)), .inr (.inl (false, 47)), .inr (.inl (false, 48)), .inr (.inl (false, 45)), .inl (sgC240 (sgL2 P), sgC240 (sgL2 P)), .inl ((P.2.2.2.2.2.2.2.2.1.val : Int), (P.2.2.2.2.2.2.2.2.1.val : Int)), .inl (0, 0), .inl (sgC240 (sgL2 P), sgC240 (sgL2 P)), .inl (a1, a2), .inl (f1, f2), .inl (d1, d2), .inl ((-2147483648), 2147483647), .inl ((-2147483648), 2147483647), .inr (.inr true), .inr (.inr true), .inl (0, 1), .inr (.inl (false, 49)), .inr (.inl (false, 50)), .inr (.inl (false, 51)), .inr (.inl (false, 52)), .inr (.inl (false, 53)), .inl (sgC1 P, sgC1 P), .inl ((-2147483648), 2147483647), .inl (z.1 25), .inl (z.1 26), .inl (z.1 27), .inl (z.1 28), .inl ((P.2.2.2.2.2.2.2.2.2.1.val : Int), (P.2.2.2.2.2.2.2.2.2.1.val : Int)), .inl (max 0 (z.1 30).1, min 1 (z.1 30).2), .inl (max 0 (z.1 31).1, min 1 (z.1 31).2), .inr (.inl (false, 54)), .inr (.inl (false, 55)), .inl ((-1), 3), .inl (P.2.2.2.2.2.1, P.2.2.2.2.2.1), .inr (.inl (false, 56)), .inr (.inl (false, 57)), .inr (.inl (false, 58)), .inl (0, 40), .inr (.inr false), .inr (.inl (false, 59)), .inl ((-2147483648), 2147483647), .inl ((-2147483648), 2147483647), .inr (.inl (false, 60)), .inr (.inl (false, 61)), .inr (.inl (false, 62)), .inl (0, 12), .inr (.inl (false, 63)), .inr (.inl (false, 64)), .inl (0, 12), .inr (.inl (false, 65)), .inl (0, 1)]) (fts' := [.inl ((-2147483648), 2147483647), .inr (.inl (false, 45)), .inr (.inl (false, 46)), .inr (.inl (false, 47)), .inr (.inl (false, 48)), .inr (.inl (false, 45)), .inl (sgC240 (sgL2 P), sgC240 (sgL2 P)), .inl ((P.2.2.2.2.2.2.2.2.1.val : Int), (P.2.2.2.2.2.2.2.2.1.val : Int)), .inl (0, 0), .inl (sgC240 (sgL2 P), sgC240 (sgL2 P)), .inl (a1, a2), .inl (f1, f2), .inl (d1, d2), .inl ((-2147483648), 2147483647), .inl ((-2147483648), 2147483647), .inr (.inr true), .inr (.inr true), .inl (0, 1), .inr (.inl (false, 49)), .inr (.inl (false, 50)), .inr (.inl (false, 51)), .inr (.inl (false, 52)), .inr (.inl (false, 53)), .inl (sgC1 P, sgC1 P), .inl ((-2147483648), 2147483647), .inl (z.1 25), .inl (x.toInt, x.toInt), .inl (z.1 27), .inl (z.1 28), .inl ((P.2.2.2.2.2.2.2.2.2.1.val : Int), (P.2.2.2.2.2.2.2.2.2.1.val : Int)), .inl (max 0 (z.1 30).1, min 1 (z.1 30).2), .inl (max 0 (z.1 31).1, min 1 (z.1 31).2), .inr (.inl (false, 54)), .inr (.inl (false, 55)), .inl ((-1), 3), .inl (P.2.2.2.2.2.1, P.2.2.2.2.2.1), .inr (.inl (false, 56)), .inr (.inl (false, 57)), .inr (.inl (false, 58)), .inl (0, 40), .inr (.inr false), .inr (.inl (false, 59)), .inl ((-2147483648), 2147483647), .inl ((-2147483648), 2147483647), .inr (.inl (false, 60)), .inr (.inl (false, 61)), .inr (.inl (false, 62)), .inl (0, 12), .inr (.inl (false, 63)), .inr (.inl (false, 64)), .inl (0, 12), .inr (.inl (false, 65)), .inl (0, 1)]) rfl rfl (C := RX12) (T := TX12) (N := 53) rfl inL_X12 tyX12 tyX12_ok nmX12 26 (by decide) rfl (t' := .inl (x.toInt, x.toInt)) rfl (fun i hi => by match i, hi with
    | 0, hi => rfl
    | 1, hi => rfl
    | 2, hi => rfl
    | 3, hi => rfl
    | 4, hi => rfl
    | 5, hi => rfl
    | 6, hi => rfl
    | 7, hi => rfl
    | 8, hi => rfl
    | 9, hi => rfl
    | 10, hi => rfl
    | 11, hi => rfl
    | 12, hi => rfl
    | 13, hi => rfl
    | 14, hi => rfl
    | 15, hi => rfl
    | 16, hi => rfl
    | 17, hi => rfl
    | 18, hi => rfl
    | 19, hi => rfl
    | 20, hi => rfl
    | 21, hi => rfl
    | 22, hi => rfl
    | 23, hi => rfl
    | 24, hi => rfl
    | 25, hi => rfl
    | 26, hi => exact absurd rfl hi
    | 27, hi => rfl
    | 28, hi => rfl
    | 29, hi => rfl
    | 30, hi => rfl
    | 31, hi => rfl
    | 32, hi => rfl
    | 33, hi => rfl
    | 34, hi => rfl
    | 35, hi => rfl
    | 36, hi => rfl
    | 37, hi => rfl
    | 38, hi => rfl
    | 39, hi => rfl
    | 40, hi => rfl
    | 41, hi => rfl
    | 42, hi => rfl
    | 43, hi => rfl
    | 44, hi => rfl
    | 45, hi => rfl
    | 46, hi => rfl
    | 47, hi => rfl
    | 48, hi => rfl
    | 49, hi => rfl
    | 50, hi => rfl
    | 51, hi => rfl
    | 52, hi => rfl
    | i + 53, hi => rfl) (fun i hi => by match i, hi with
    | 0, hi => rfl
    | 1, hi => rfl
    | 2, hi => rfl
    | 3, hi => rfl
    | 4, hi => rfl
    | 5, hi => rfl
    | 6, hi => rfl
    | 7, hi => rfl
    | 8, hi => rfl
    | 9, hi => rfl
    | 10, hi => rfl
    | 11, hi => rfl
    | 12, hi => exact absurd rfl hi
    | 13, hi => rfl
    | 14, hi => rfl
    | 15, hi => rfl
    | 16, hi => rfl
    | 17, hi => rfl
    | 18, hi => rfl
    | 19, hi => rfl
    | 20, hi => rfl
    | 21, hi => rfl
    | 22, hi => rfl
    | 23, hi => rfl
    | 24, hi => rfl
    | 25, hi => rfl
    | 26, hi => rfl
    | 27, hi => rfl
    | 28, hi => rfl
    | 29, hi => rfl
    | 30, hi => rfl
    | 31, hi => rfl
    | 32, hi => rfl
    | 33, hi => rfl
    | 34, hi => rfl
    | 35, hi => rfl
    | 36, hi => rfl
    | 37, hi => rfl
    | 38, hi => rfl
    | 39, hi => rfl
    | 40, hi => rfl
    | 41, hi => rfl
    | 42, hi => rfl
    | 43, hi => rfl
    | 44, hi => rfl
    | 45, hi => rfl
    | 46, hi => rfl
    | 47, hi => rfl
    | 48, hi => rfl
    | 49, hi => rfl
    | 50, hi => rfl
    | 51, hi => rfl
    | 52, hi => rfl
    | 53, hi => rfl
    | 54, hi => rfl
    | 55, hi => rfl
    | 56, hi => rfl
    | 57, hi => rfl
    | 58, hi => rfl
    | 59, hi => rfl
    | 60, hi => rfl
    | 61, hi => rfl
    | 62, hi => rfl
    | 63, hi => rfl
    | 64, hi => rfl
    | 65, hi => rfl
    | 66, hi => rfl
    | 67, hi => rfl
    | i + 68, hi => rfl) hl (fun _ h => h) rfl (ty := .int) rfl rfl rfl ⟨_, rfl, Int.le_refl _, Int.le_refl _⟩ hdg kk
theorem gf_X12_26e (X : CallFix p m c cc nL s args sg_tbl own) (hK : va_K D vwCl tys s) (hG : sgG (KE a1 a2 f1 f2 d1 d2 z P) D vwCl A tys ad ks H) (ha : isK ad ks 12 a) (hl : Cond.fieldLink own index "LawnAheadModel" "bedsRead" "I" ∈ sg_tbl) (hdg : decode cc pc = .ok (.getfield index, 3)) (kk : ∀ x : Int32, iv (z.1 26).1 (z.1 26).2 x → W p l e R s m args below meth c H locs cells slots Q (F0 m (pc + 3) ls (.int x :: rest))) : W p l e R s m args below meth c H locs cells slots Q (F0 m pc ls (.ref a :: rest)) :=
  sg_get X hK hG ha (k := 12) (ci := 12) rfl (C := RX12) (T := TX12) (N := 53) rfl inL_X12 26 (by decide) rfl hl (fun _ h => h) hdg (fun v hv hf => by obtain ⟨x, rfl, hx⟩ := hv; exact kk x hx)
theorem pf_X12_27Z (X : CallFix p m c cc nL s args sg_tbl own) (hK : va_K D vwCl tys s) (hG : sgG (KE a1 a2 f1 f2 d1 d2 z P) D vwCl A tys ad ks H) (hS : va_S A H0 H locs) (ha : isK ad ks 12 a) (hl : Cond.fieldLink own index "LawnAheadModel" "tuftMany" "I" ∈ sg_tbl) (hdg : decode cc pc = .ok (.putfield index, 3))
    (kk : ∀ (H1 : Heap) (locs1 : List Loc), sgG (KE a1 a2 f1 f2 d1 d2 (zUp z.1 27 x.toInt, z.2) P) D vwCl A tys ad ks H1 → va_S A H0 H1 locs1 → W p l e R s m args below meth c H1 locs1 cells slots Q (F0 m (pc + 3) ls rest)) : W p l e R s m args below meth c H locs cells slots Q (F0 m pc ls (.int x :: .ref a :: rest)) :=
  sg_put1 (kt' := KE a1 a2 f1 f2 d1 d2 (zUp z.1 27 x.toInt, z.2) P) X hK hG hS ha (k := 12) (by decide) (ci := 12) (fts := [.inl ((-2147483648), 2147483647), .inr (.inl (false, 45)), .inr (.inl (false, 46)), .inr (.inl (false, 47)), .inr (.inl (false, 48)), .inr (.inl (false, 45)), .inl (sgC240 (sgL2 P), sgC240 (sgL2 P)), .inl ((P.2.2.2.2.2.2.2.2.1.val : Int), (P.2.2.2.2.2.2.2.2.1.val : Int)), .inl (0, 0), .inl (sgC240 (sgL2 P), sgC240 (sgL2 P)), .inl (a1, a2), .inl (f1, f2), .inl (d1, d2), .inl ((-2147483648), 2147483647), .inl ((-2147483648), 2147483647), .inr (.inr true), .inr (.inr true), .inl (0, 1), .inr (.inl (false, 49)), .inr (.inl (false, 50)), .inr (.inl (false, 51)), .inr (.inl (false, 52)), .inr (.inl (false, 53)), .inl (sgC1 P, sgC1 P), .inl ((-2147483648), 2147483647), .inl (z.1 25), .inl (z.1 26), .inl (z.1 27), .inl (z.1 28), .inl ((P.2.2.2.2.2.2.2.2.2.1.val : Int), (P.2.2.2.2.2.2.2.2.2.1.val : Int)), .inl (max 0 (z.1 30).1, min 1 (z.1 30).2), .inl (max 0 (z.1 31).1, min 1 (z.1 31).2), .inr (.inl (false, 54)), .inr (.inl (false, 55)), .inl ((-1), 3), .inl (P.2.2.2.2.2.1, P.2.2.2.2.2.1), .inr (.inl (false, 56)), .inr (.inl (false, 57)), .inr (.inl (false, 58)), .inl (0, 40), .inr (.inr false), .inr (.inl (false, 59)), .inl ((-2147483648), 2147483647), .inl ((-2147483648), 2147483647), .inr (.inl (false, 60)), .inr (.inl (false, 61)), .inr (.inl (false, 62)), .inl (0, 12), .inr (.inl (false, 63)), .inr (.inl (false, 64)), .inl (0, 12), .inr (.inl (false, 65)), .inl (0, 1)]) (fts' := [.inl ((-2147483648), 2147483647), .inr (.inl (false, 45)), .inr (.inl (false, 46)), .inr (.inl (false, 47)), .inr (.inl (false, 48)), .inr (.inl (false, 45)), .inl (sgC240 (sgL2 P), sgC240 (sgL2 P)), .inl ((P.2.2.2.2.2.2.2.2.1.val : Int), (P.2.2.2.2.2.2.2.2.1.val : Int)), .inl (0, 0), .inl (sgC240 (sgL2 P), sgC240 (sgL2 P)), .inl (a1, a2), .inl (f1, f2), .inl (d1, d2), .inl ((-2147483648), 2147483647), .inl ((-2147483648), 2147483647), .inr (.inr true), .inr (.inr true), .inl (0, 1), .inr (.inl (false, 49)), .inr (.inl (false, 50)), .inr (.inl (false, 51)), .inr (.inl (false, 52)), .inr (.inl (false, 53)), .inl (sgC1 P, sgC1 P), .inl ((-2147483648), 2147483647), .inl (z.1 25), .inl (z.1 26), .inl (x.toInt, x.toInt), .inl (z.1 28), .inl ((P.2.2.2.2.2.2.2.2.2.1.val : Int), (P.2.2.2.2.2.2.2.2.2.1.val : Int)), .inl (max 0 (z.1 30).1, min 1 (z.1 30).2), .inl (max 0 (z.1 31).1, min 1 (z.1 31).2), .inr (.inl (false, 54)), .inr (.inl (false, 55)), .inl ((-1), 3), .inl (P.2.2.2.2.2.1, P.2.2.2.2.2.1), .inr (.inl (false, 56)), .inr (.inl (false, 57)), .inr (.inl (false, 58)), .inl (0, 40), .inr (.inr false), .inr (.inl (false, 59)), .inl ((-2147483648), 2147483647), .inl ((-2147483648), 2147483647), .inr (.inl (false, 60)), .inr (.inl (false, 61)), .inr (.inl (false, 62)), .inl (0, 12), .inr (.inl (false, 63)), .inr (.inl (false, 64)), .inl (0, 12), .inr (.inl (false, 65)), .inl (0, 1)]) rfl rfl (C := RX12) (T := TX12) (N := 53) rfl inL_X12 tyX12 tyX12_ok nmX12 27 (by decide) rfl (t' := .inl (x.toInt, x.toInt)) rfl (fun i hi => by match i, hi with
    | 0, hi => rfl
    | 1, hi => rfl
    | 2, hi => rfl
    | 3, hi => rfl
    | 4, hi => rfl
    | 5, hi => rfl
    | 6, hi => rfl
    | 7, hi => rfl
    | 8, hi => rfl
    | 9, hi => rfl
    | 10, hi => rfl
    | 11, hi => rfl
    | 12, hi => rfl
    | 13, hi => rfl
    | 14, hi => rfl
    | 15, hi => rfl
    | 16, hi => rfl
    | 17, hi => rfl
    | 18, hi => rfl
    | 19, hi => rfl
    | 20, hi => rfl
    | 21, hi => rfl
    | 22, hi => rfl
    | 23, hi => rfl
    | 24, hi => rfl
    | 25, hi => rfl
    | 26, hi => rfl
    | 27, hi => exact absurd rfl hi
    | 28, hi => rfl
    | 29, hi => rfl
    | 30, hi => rfl
    | 31, hi => rfl
    | 32, hi => rfl
    | 33, hi => rfl
    | 34, hi => rfl
    | 35, hi => rfl
    | 36, hi => rfl
    | 37, hi => rfl
    | 38, hi => rfl
    | 39, hi => rfl
    | 40, hi => rfl
    | 41, hi => rfl
    | 42, hi => rfl
    | 43, hi => rfl
    | 44, hi => rfl
    | 45, hi => rfl
    | 46, hi => rfl
    | 47, hi => rfl
    | 48, hi => rfl
    | 49, hi => rfl
    | 50, hi => rfl
    | 51, hi => rfl
    | 52, hi => rfl
    | i + 53, hi => rfl) (fun i hi => by match i, hi with
    | 0, hi => rfl
    | 1, hi => rfl
    | 2, hi => rfl
    | 3, hi => rfl
    | 4, hi => rfl
    | 5, hi => rfl
    | 6, hi => rfl
    | 7, hi => rfl
    | 8, hi => rfl
    | 9, hi => rfl
    | 10, hi => rfl
    | 11, hi => rfl
    | 12, hi => exact absurd rfl hi
    | 13, hi => rfl
    | 14, hi => rfl
    | 15, hi => rfl
    | 16, hi => rfl
    | 17, hi => rfl
    | 18, hi => rfl
    | 19, hi => rfl
    | 20, hi => rfl
    | 21, hi => rfl
    | 22, hi => rfl
    | 23, hi => rfl
    | 24, hi => rfl
    | 25, hi => rfl
    | 26, hi => rfl
    | 27, hi => rfl
    | 28, hi => rfl
    | 29, hi => rfl
    | 30, hi => rfl
    | 31, hi => rfl
    | 32, hi => rfl
    | 33, hi => rfl
    | 34, hi => rfl
    | 35, hi => rfl
    | 36, hi => rfl
    | 37, hi => rfl
    | 38, hi => rfl
    | 39, hi => rfl
    | 40, hi => rfl
    | 41, hi => rfl
    | 42, hi => rfl
    | 43, hi => rfl
    | 44, hi => rfl
    | 45, hi => rfl
    | 46, hi => rfl
    | 47, hi => rfl
    | 48, hi => rfl
    | 49, hi => rfl
    | 50, hi => rfl
    | 51, hi => rfl
    | 52, hi => rfl
    | 53, hi => rfl
    | 54, hi => rfl
    | 55, hi => rfl
    | 56, hi => rfl
    | 57, hi => rfl
    | 58, hi => rfl
    | 59, hi => rfl
    | 60, hi => rfl
    | 61, hi => rfl
    | 62, hi => rfl
    | 63, hi => rfl
    | 64, hi => rfl
    | 65, hi => rfl
    | 66, hi => rfl
    | 67, hi => rfl
    | i + 68, hi => rfl) hl (fun _ h => h) rfl (ty := .int) rfl rfl rfl ⟨_, rfl, Int.le_refl _, Int.le_refl _⟩ hdg kk
theorem gf_X12_27e (X : CallFix p m c cc nL s args sg_tbl own) (hK : va_K D vwCl tys s) (hG : sgG (KE a1 a2 f1 f2 d1 d2 z P) D vwCl A tys ad ks H) (ha : isK ad ks 12 a) (hl : Cond.fieldLink own index "LawnAheadModel" "tuftMany" "I" ∈ sg_tbl) (hdg : decode cc pc = .ok (.getfield index, 3)) (kk : ∀ x : Int32, iv (z.1 27).1 (z.1 27).2 x → W p l e R s m args below meth c H locs cells slots Q (F0 m (pc + 3) ls (.int x :: rest))) : W p l e R s m args below meth c H locs cells slots Q (F0 m pc ls (.ref a :: rest)) :=
  sg_get X hK hG ha (k := 12) (ci := 12) rfl (C := RX12) (T := TX12) (N := 53) rfl inL_X12 27 (by decide) rfl hl (fun _ h => h) hdg (fun v hv hf => by obtain ⟨x, rfl, hx⟩ := hv; exact kk x hx)
theorem pf_X12_28Z (X : CallFix p m c cc nL s args sg_tbl own) (hK : va_K D vwCl tys s) (hG : sgG (KE a1 a2 f1 f2 d1 d2 z P) D vwCl A tys ad ks H) (hS : va_S A H0 H locs) (ha : isK ad ks 12 a) (hl : Cond.fieldLink own index "LawnAheadModel" "bedMany" "I" ∈ sg_tbl) (hdg : decode cc pc = .ok (.putfield index, 3))
    (kk : ∀ (H1 : Heap) (locs1 : List Loc), sgG (KE a1 a2 f1 f2 d1 d2 (zUp z.1 28 x.toInt, z.2) P) D vwCl A tys ad ks H1 → va_S A H0 H1 locs1 → W p l e R s m args below meth c H1 locs1 cells slots Q (F0 m (pc + 3) ls rest)) : W p l e R s m args below meth c H locs cells slots Q (F0 m pc ls (.int x :: .ref a :: rest)) :=
  sg_put1 (kt' := KE a1 a2 f1 f2 d1 d2 (zUp z.1 28 x.toInt, z.2) P) X hK hG hS ha (k := 12) (by decide) (ci := 12) (fts := [.inl ((-2147483648), 2147483647), .inr (.inl (false, 45)), .inr (.inl (false, 46)), .inr (.inl (false, 47)), .inr (.inl (false, 48)), .inr (.inl (false, 45)), .inl (sgC240 (sgL2 P), sgC240 (sgL2 P)), .inl ((P.2.2.2.2.2.2.2.2.1.val : Int), (P.2.2.2.2.2.2.2.2.1.val : Int)), .inl (0, 0), .inl (sgC240 (sgL2 P), sgC240 (sgL2 P)), .inl (a1, a2), .inl (f1, f2), .inl (d1, d2), .inl ((-2147483648), 2147483647), .inl ((-2147483648), 2147483647), .inr (.inr true), .inr (.inr true), .inl (0, 1), .inr (.inl (false, 49)), .inr (.inl (false, 50)), .inr (.inl (false, 51)), .inr (.inl (false, 52)), .inr (.inl (false, 53)), .inl (sgC1 P, sgC1 P), .inl ((-2147483648), 2147483647), .inl (z.1 25), .inl (z.1 26), .inl (z.1 27), .inl (z.1 28), .inl ((P.2.2.2.2.2.2.2.2.2.1.val : Int), (P.2.2.2.2.2.2.2.2.2.1.val : Int)), .inl (max 0 (z.1 30).1, min 1 (z.1 30).2), .inl (max 0 (z.1 31).1, min 1 (z.1 31).2), .inr (.inl (false, 54)), .inr (.inl (false, 55)), .inl ((-1), 3), .inl (P.2.2.2.2.2.1, P.2.2.2.2.2.1), .inr (.inl (false, 56)), .inr (.inl (false, 57)), .inr (.inl (false, 58)), .inl (0, 40), .inr (.inr false), .inr (.inl (false, 59)), .inl ((-2147483648), 2147483647), .inl ((-2147483648), 2147483647), .inr (.inl (false, 60)), .inr (.inl (false, 61)), .inr (.inl (false, 62)), .inl (0, 12), .inr (.inl (false, 63)), .inr (.inl (false, 64)), .inl (0, 12), .inr (.inl (false, 65)), .inl (0, 1)]) (fts' := [.inl ((-2147483648), 2147483647), .inr (.inl (false, 45)), .inr (.inl (false, 46)), .inr (.inl (false, 47)), .inr (.inl (false, 48)), .inr (.inl (false, 45)), .inl (sgC240 (sgL2 P), sgC240 (sgL2 P)), .inl ((P.2.2.2.2.2.2.2.2.1.val : Int), (P.2.2.2.2.2.2.2.2.1.val : Int)), .inl (0, 0), .inl (sgC240 (sgL2 P), sgC240 (sgL2 P)), .inl (a1, a2), .inl (f1, f2), .inl (d1, d2), .inl ((-2147483648), 2147483647), .inl ((-2147483648), 2147483647), .inr (.inr true), .inr (.inr true), .inl (0, 1), .inr (.inl (false, 49)), .inr (.inl (false, 50)), .inr (.inl (false, 51)), .inr (.inl (false, 52)), .inr (.inl (false, 53)), .inl (sgC1 P, sgC1 P), .inl ((-2147483648), 2147483647), .inl (z.1 25), .inl (z.1 26), .inl (z.1 27), .inl (x.toInt, x.toInt), .inl ((P.2.2.2.2.2.2.2.2.2.1.val : Int), (P.2.2.2.2.2.2.2.2.2.1.val : Int)), .inl (max 0 (z.1 30).1, min 1 (z.1 30).2), .inl (max 0 (z.1 31).1, min 1 (z.1 31).2), .inr (.inl (false, 54)), .inr (.inl (false, 55)), .inl ((-1), 3), .inl (P.2.2.2.2.2.1, P.2.2.2.2.2.1), .inr (.inl (false, 56)), .inr (.inl (false, 57)), .inr (.inl (false, 58)), .inl (0, 40), .inr (.inr false), .inr (.inl (false, 59)), .inl ((-2147483648), 2147483647), .inl ((-2147483648), 2147483647), .inr (.inl (false, 60)), .inr (.inl (false, 61)), .inr (.inl (false, 62)), .inl (0, 12), .inr (.inl (false, 63)), .inr (.inl (false, 64)), .inl (0, 12), .inr (.inl (false, 65)), .inl (0, 1)]) rfl rfl (C := RX12) (T := TX12) (N := 53) rfl inL_X12 tyX12 tyX12_ok nmX12 28 (by decide) rfl (t' := .inl (x.toInt, x.toInt)) rfl (fun i hi => by match i, hi with
    | 0, hi => rfl
    | 1, hi => rfl
    | 2, hi => rfl
    | 3, hi => rfl
    | 4, hi => rfl
    | 5, hi => rfl
    | 6, hi => rfl
    | 7, hi => rfl
    | 8, hi => rfl
    | 9, hi => rfl
    | 10, hi => rfl
    | 11, hi => rfl
    | 12, hi => rfl
    | 13, hi => rfl
    | 14, hi => rfl
    | 15, hi => rfl
    | 16, hi => rfl
    | 17, hi => rfl
    | 18, hi => rfl
    | 19, hi => rfl
    | 20, hi => rfl
    | 21, hi => rfl
    | 22, hi => rfl
    | 23, hi => rfl
    | 24, hi => rfl
    | 25, hi => rfl
    | 26, hi => rfl
    | 27, hi => rfl
    | 28, hi => exact absurd rfl hi
    | 29, hi => rfl
    | 30, hi => rfl
    | 31, hi => rfl
    | 32, hi => rfl
    | 33, hi => rfl
    | 34, hi => rfl
    | 35, hi => rfl
    | 36, hi => rfl
    | 37, hi => rfl
    | 38, hi => rfl
    | 39, hi => rfl
    | 40, hi => rfl
    | 41, hi => rfl
    | 42, hi => rfl
    | 43, hi => rfl
    | 44, hi => rfl
    | 45, hi => rfl
    | 46, hi => rfl
    | 47, hi => rfl
    | 48, hi => rfl
    | 49, hi => rfl
    | 50, hi => rfl
    | 51, hi => rfl
    | 52, hi => rfl
    | i + 53, hi => rfl) (fun i hi => by match i, hi with
    | 0, hi => rfl
    | 1, hi => rfl
    | 2, hi => rfl
    | 3, hi => rfl
    | 4, hi => rfl
    | 5, hi => rfl
    | 6, hi => rfl
    | 7, hi => rfl
    | 8, hi => rfl
    | 9, hi => rfl
    | 10, hi => rfl
    | 11, hi => rfl
    | 12, hi => exact absurd rfl hi
    | 13, hi => rfl
    | 14, hi => rfl
    | 15, hi => rfl
    | 16, hi => rfl
    | 17, hi => rfl
    | 18, hi => rfl
    | 19, hi => rfl
    | 20, hi => rfl
    | 21, hi => rfl
    | 22, hi => rfl
    | 23, hi => rfl
    | 24, hi => rfl
    | 25, hi => rfl
    | 26, hi => rfl
    | 27, hi => rfl
    | 28, hi => rfl
    | 29, hi => rfl
    | 30, hi => rfl
    | 31, hi => rfl
    | 32, hi => rfl
    | 33, hi => rfl
    | 34, hi => rfl
    | 35, hi => rfl
    | 36, hi => rfl
    | 37, hi => rfl
    | 38, hi => rfl
    | 39, hi => rfl
    | 40, hi => rfl
    | 41, hi => rfl
    | 42, hi => rfl
    | 43, hi => rfl
    | 44, hi => rfl
    | 45, hi => rfl
    | 46, hi => rfl
    | 47, hi => rfl
    | 48, hi => rfl
    | 49, hi => rfl
    | 50, hi => rfl
    | 51, hi => rfl
    | 52, hi => rfl
    | 53, hi => rfl
    | 54, hi => rfl
    | 55, hi => rfl
    | 56, hi => rfl
    | 57, hi => rfl
    | 58, hi => rfl
    | 59, hi => rfl
    | 60, hi => rfl
    | 61, hi => rfl
    | 62, hi => rfl
    | 63, hi => rfl
    | 64, hi => rfl
    | 65, hi => rfl
    | 66, hi => rfl
    | 67, hi => rfl
    | i + 68, hi => rfl) hl (fun _ h => h) rfl (ty := .int) rfl rfl rfl ⟨_, rfl, Int.le_refl _, Int.le_refl _⟩ hdg kk
theorem gf_X12_28e (X : CallFix p m c cc nL s args sg_tbl own) (hK : va_K D vwCl tys s) (hG : sgG (KE a1 a2 f1 f2 d1 d2 z P) D vwCl A tys ad ks H) (ha : isK ad ks 12 a) (hl : Cond.fieldLink own index "LawnAheadModel" "bedMany" "I" ∈ sg_tbl) (hdg : decode cc pc = .ok (.getfield index, 3)) (kk : ∀ x : Int32, iv (z.1 28).1 (z.1 28).2 x → W p l e R s m args below meth c H locs cells slots Q (F0 m (pc + 3) ls (.int x :: rest))) : W p l e R s m args below meth c H locs cells slots Q (F0 m pc ls (.ref a :: rest)) :=
  sg_get X hK hG ha (k := 12) (ci := 12) rfl (C := RX12) (T := TX12) (N := 53) rfl inL_X12 28 (by decide) rfl hl (fun _ h => h) hdg (fun v hv hf => by obtain ⟨x, rfl, hx⟩ := hv; exact kk x hx)
theorem pf_X12_30Z (X : CallFix p m c cc nL s args sg_tbl own) (hK : va_K D vwCl tys s) (hG : sgG (KE a1 a2 f1 f2 d1 d2 z P) D vwCl A tys ad ks H) (hS : va_S A H0 H locs) (ha : isK ad ks 12 a) (hl : Cond.fieldLink own index "LawnAheadModel" "hasRules" "Z" ∈ sg_tbl) (hv : iv 0 1 x) (hdg : decode cc pc = .ok (.putfield index, 3))
    (kk : ∀ (H1 : Heap) (locs1 : List Loc), sgG (KE a1 a2 f1 f2 d1 d2 (zUp z.1 30 x.toInt, z.2) P) D vwCl A tys ad ks H1 → va_S A H0 H1 locs1 → W p l e R s m args below meth c H1 locs1 cells slots Q (F0 m (pc + 3) ls rest)) : W p l e R s m args below meth c H locs cells slots Q (F0 m pc ls (.int x :: .ref a :: rest)) :=
  sg_put1 (kt' := KE a1 a2 f1 f2 d1 d2 (zUp z.1 30 x.toInt, z.2) P) X hK hG hS ha (k := 12) (by decide) (ci := 12) (fts := [.inl ((-2147483648), 2147483647), .inr (.inl (false, 45)), .inr (.inl (false, 46)), .inr (.inl (false, 47)), .inr (.inl (false, 48)), .inr (.inl (false, 45)), .inl (sgC240 (sgL2 P), sgC240 (sgL2 P)), .inl ((P.2.2.2.2.2.2.2.2.1.val : Int), (P.2.2.2.2.2.2.2.2.1.val : Int)), .inl (0, 0), .inl (sgC240 (sgL2 P), sgC240 (sgL2 P)), .inl (a1, a2), .inl (f1, f2), .inl (d1, d2), .inl ((-2147483648), 2147483647), .inl ((-2147483648), 2147483647), .inr (.inr true), .inr (.inr true), .inl (0, 1), .inr (.inl (false, 49)), .inr (.inl (false, 50)), .inr (.inl (false, 51)), .inr (.inl (false, 52)), .inr (.inl (false, 53)), .inl (sgC1 P, sgC1 P), .inl ((-2147483648), 2147483647), .inl (z.1 25), .inl (z.1 26), .inl (z.1 27), .inl (z.1 28), .inl ((P.2.2.2.2.2.2.2.2.2.1.val : Int), (P.2.2.2.2.2.2.2.2.2.1.val : Int)), .inl (max 0 (z.1 30).1, min 1 (z.1 30).2), .inl (max 0 (z.1 31).1, min 1 (z.1 31).2), .inr (.inl (false, 54)), .inr (.inl (false, 55)), .inl ((-1), 3), .inl (P.2.2.2.2.2.1, P.2.2.2.2.2.1), .inr (.inl (false, 56)), .inr (.inl (false, 57)), .inr (.inl (false, 58)), .inl (0, 40), .inr (.inr false), .inr (.inl (false, 59)), .inl ((-2147483648), 2147483647), .inl ((-2147483648), 2147483647), .inr (.inl (false, 60)), .inr (.inl (false, 61)), .inr (.inl (false, 62)), .inl (0, 12), .inr (.inl (false, 63)), .inr (.inl (false, 64)), .inl (0, 12), .inr (.inl (false, 65)), .inl (0, 1)]) (fts' := [.inl ((-2147483648), 2147483647), .inr (.inl (false, 45)), .inr (.inl (false, 46)), .inr (.inl (false, 47)), .inr (.inl (false, 48)), .inr (.inl (false, 45)), .inl (sgC240 (sgL2 P), sgC240 (sgL2 P)), .inl ((P.2.2.2.2.2.2.2.2.1.val : Int), (P.2.2.2.2.2.2.2.2.1.val : Int)), .inl (0, 0), .inl (sgC240 (sgL2 P), sgC240 (sgL2 P)), .inl (a1, a2), .inl (f1, f2), .inl (d1, d2), .inl ((-2147483648), 2147483647), .inl ((-2147483648), 2147483647), .inr (.inr true), .inr (.inr true), .inl (0, 1), .inr (.inl (false, 49)), .inr (.inl (false, 50)), .inr (.inl (false, 51)), .inr (.inl (false, 52)), .inr (.inl (false, 53)), .inl (sgC1 P, sgC1 P), .inl ((-2147483648), 2147483647), .inl (z.1 25), .inl (z.1 26), .inl (z.1 27), .inl (z.1 28), .inl ((P.2.2.2.2.2.2.2.2.2.1.val : Int), (P.2.2.2.2.2.2.2.2.2.1.val : Int)), .inl (max 0 x.toInt, min 1 x.toInt), .inl (max 0 (z.1 31).1, min 1 (z.1 31).2), .inr (.inl (false, 54)), .inr (.inl (false, 55)), .inl ((-1), 3), .inl (P.2.2.2.2.2.1, P.2.2.2.2.2.1), .inr (.inl (false, 56)), .inr (.inl (false, 57)), .inr (.inl (false, 58)), .inl (0, 40), .inr (.inr false), .inr (.inl (false, 59)), .inl ((-2147483648), 2147483647), .inl ((-2147483648), 2147483647), .inr (.inl (false, 60)), .inr (.inl (false, 61)), .inr (.inl (false, 62)), .inl (0, 12), .inr (.inl (false, 63)), .inr (.inl (false, 64)), .inl (0, 12), .inr (.inl (false, 65)), .inl (0, 1)]) rfl rfl (C := RX12) (T := TX12) (N := 53) rfl inL_X12 tyX12 tyX12_ok nmX12 30 (by decide) rfl (t' := .inl (max 0 x.toInt, min 1 x.toInt)) rfl (fun i hi => by match i, hi with
    | 0, hi => rfl
    | 1, hi => rfl
    | 2, hi => rfl
    | 3, hi => rfl
    | 4, hi => rfl
    | 5, hi => rfl
    | 6, hi => rfl
    | 7, hi => rfl
    | 8, hi => rfl
    | 9, hi => rfl
    | 10, hi => rfl
    | 11, hi => rfl
    | 12, hi => rfl
    | 13, hi => rfl
    | 14, hi => rfl
    | 15, hi => rfl
    | 16, hi => rfl
    | 17, hi => rfl
    | 18, hi => rfl
    | 19, hi => rfl
    | 20, hi => rfl
    | 21, hi => rfl
    | 22, hi => rfl
    | 23, hi => rfl
    | 24, hi => rfl
    | 25, hi => rfl
    | 26, hi => rfl
    | 27, hi => rfl
    | 28, hi => rfl
    | 29, hi => rfl
    | 30, hi => exact absurd rfl hi
    | 31, hi => rfl
    | 32, hi => rfl
    | 33, hi => rfl
    | 34, hi => rfl
    | 35, hi => rfl
    | 36, hi => rfl
    | 37, hi => rfl
    | 38, hi => rfl
    | 39, hi => rfl
    | 40, hi => rfl
    | 41, hi => rfl
    | 42, hi => rfl
    | 43, hi => rfl
    | 44, hi => rfl
    | 45, hi => rfl
    | 46, hi => rfl
    | 47, hi => rfl
    | 48, hi => rfl
    | 49, hi => rfl
    | 50, hi => rfl
    | 51, hi => rfl
    | 52, hi => rfl
    | i + 53, hi => rfl) (fun i hi => by match i, hi with
    | 0, hi => rfl
    | 1, hi => rfl
    | 2, hi => rfl
    | 3, hi => rfl
    | 4, hi => rfl
    | 5, hi => rfl
    | 6, hi => rfl
    | 7, hi => rfl
    | 8, hi => rfl
    | 9, hi => rfl
    | 10, hi => rfl
    | 11, hi => rfl
    | 12, hi => exact absurd rfl hi
    | 13, hi => rfl
    | 14, hi => rfl
    | 15, hi => rfl
    | 16, hi => rfl
    | 17, hi => rfl
    | 18, hi => rfl
    | 19, hi => rfl
    | 20, hi => rfl
    | 21, hi => rfl
    | 22, hi => rfl
    | 23, hi => rfl
    | 24, hi => rfl
    | 25, hi => rfl
    | 26, hi => rfl
    | 27, hi => rfl
    | 28, hi => rfl
    | 29, hi => rfl
    | 30, hi => rfl
    | 31, hi => rfl
    | 32, hi => rfl
    | 33, hi => rfl
    | 34, hi => rfl
    | 35, hi => rfl
    | 36, hi => rfl
    | 37, hi => rfl
    | 38, hi => rfl
    | 39, hi => rfl
    | 40, hi => rfl
    | 41, hi => rfl
    | 42, hi => rfl
    | 43, hi => rfl
    | 44, hi => rfl
    | 45, hi => rfl
    | 46, hi => rfl
    | 47, hi => rfl
    | 48, hi => rfl
    | 49, hi => rfl
    | 50, hi => rfl
    | 51, hi => rfl
    | 52, hi => rfl
    | 53, hi => rfl
    | 54, hi => rfl
    | 55, hi => rfl
    | 56, hi => rfl
    | 57, hi => rfl
    | 58, hi => rfl
    | 59, hi => rfl
    | 60, hi => rfl
    | 61, hi => rfl
    | 62, hi => rfl
    | 63, hi => rfl
    | 64, hi => rfl
    | 65, hi => rfl
    | 66, hi => rfl
    | 67, hi => rfl
    | i + 68, hi => rfl) hl (fun _ h => h) rfl (ty := .boolean) rfl (sg_zn hv) (by rcases iv_01 hv with rfl | rfl <;> rfl) ⟨_, rfl, Int.max_le.mpr ⟨hv.1, Int.le_refl _⟩, Int.le_min.mpr ⟨hv.2, Int.le_refl _⟩⟩ hdg kk
theorem gf_X12_30e (X : CallFix p m c cc nL s args sg_tbl own) (hK : va_K D vwCl tys s) (hG : sgG (KE a1 a2 f1 f2 d1 d2 z P) D vwCl A tys ad ks H) (ha : isK ad ks 12 a) (hl : Cond.fieldLink own index "LawnAheadModel" "hasRules" "Z" ∈ sg_tbl) (hdg : decode cc pc = .ok (.getfield index, 3)) (kk : ∀ x : Int32, iv (max 0 (z.1 30).1) (min 1 (z.1 30).2) x → W p l e R s m args below meth c H locs cells slots Q (F0 m (pc + 3) ls (.int x :: rest))) : W p l e R s m args below meth c H locs cells slots Q (F0 m pc ls (.ref a :: rest)) :=
  sg_get X hK hG ha (k := 12) (ci := 12) rfl (C := RX12) (T := TX12) (N := 53) rfl inL_X12 30 (by decide) rfl hl (fun _ h => h) hdg (fun v hv hf => by obtain ⟨x, rfl, hx⟩ := hv; exact kk x hx)
theorem pf_X12_31Z (X : CallFix p m c cc nL s args sg_tbl own) (hK : va_K D vwCl tys s) (hG : sgG (KE a1 a2 f1 f2 d1 d2 z P) D vwCl A tys ad ks H) (hS : va_S A H0 H locs) (ha : isK ad ks 12 a) (hl : Cond.fieldLink own index "LawnAheadModel" "isDoubled" "Z" ∈ sg_tbl) (hv : iv 0 1 x) (hdg : decode cc pc = .ok (.putfield index, 3))
    (kk : ∀ (H1 : Heap) (locs1 : List Loc), sgG (KE a1 a2 f1 f2 d1 d2 (zUp z.1 31 x.toInt, z.2) P) D vwCl A tys ad ks H1 → va_S A H0 H1 locs1 → W p l e R s m args below meth c H1 locs1 cells slots Q (F0 m (pc + 3) ls rest)) : W p l e R s m args below meth c H locs cells slots Q (F0 m pc ls (.int x :: .ref a :: rest)) :=
  sg_put1 (kt' := KE a1 a2 f1 f2 d1 d2 (zUp z.1 31 x.toInt, z.2) P) X hK hG hS ha (k := 12) (by decide) (ci := 12) (fts := [.inl ((-2147483648), 2147483647), .inr (.inl (false, 45)), .inr (.inl (false, 46)), .inr (.inl (false, 47)), .inr (.inl (false, 48)), .inr (.inl (false, 45)), .inl (sgC240 (sgL2 P), sgC240 (sgL2 P)), .inl ((P.2.2.2.2.2.2.2.2.1.val : Int), (P.2.2.2.2.2.2.2.2.1.val : Int)), .inl (0, 0), .inl (sgC240 (sgL2 P), sgC240 (sgL2 P)), .inl (a1, a2), .inl (f1, f2), .inl (d1, d2), .inl ((-2147483648), 2147483647), .inl ((-2147483648), 2147483647), .inr (.inr true), .inr (.inr true), .inl (0, 1), .inr (.inl (false, 49)), .inr (.inl (false, 50)), .inr (.inl (false, 51)), .inr (.inl (false, 52)), .inr (.inl (false, 53)), .inl (sgC1 P, sgC1 P), .inl ((-2147483648), 2147483647), .inl (z.1 25), .inl (z.1 26), .inl (z.1 27), .inl (z.1 28), .inl ((P.2.2.2.2.2.2.2.2.2.1.val : Int), (P.2.2.2.2.2.2.2.2.2.1.val : Int)), .inl (max 0 (z.1 30).1, min 1 (z.1 30).2), .inl (max 0 (z.1 31).1, min 1 (z.1 31).2), .inr (.inl (false, 54)), .inr (.inl (false, 55)), .inl ((-1), 3), .inl (P.2.2.2.2.2.1, P.2.2.2.2.2.1), .inr (.inl (false, 56)), .inr (.inl (false, 57)), .inr (.inl (false, 58)), .inl (0, 40), .inr (.inr false), .inr (.inl (false, 59)), .inl ((-2147483648), 2147483647), .inl ((-2147483648), 2147483647), .inr (.inl (false, 60)), .inr (.inl (false, 61)), .inr (.inl (false, 62)), .inl (0, 12), .inr (.inl (false, 63)), .inr (.inl (false, 64)), .inl (0, 12), .inr (.inl (false, 65)), .inl (0, 1)]) (fts' := [.inl ((-2147483648), 2147483647), .inr (.inl (false, 45)), .inr (.inl (false, 46)), .inr (.inl (false, 47)), .inr (.inl (false, 48)), .inr (.inl (false, 45)), .inl (sgC240 (sgL2 P), sgC240 (sgL2 P)), .inl ((P.2.2.2.2.2.2.2.2.1.val : Int), (P.2.2.2.2.2.2.2.2.1.val : Int)), .inl (0, 0), .inl (sgC240 (sgL2 P), sgC240 (sgL2 P)), .inl (a1, a2), .inl (f1, f2), .inl (d1, d2), .inl ((-2147483648), 2147483647), .inl ((-2147483648), 2147483647), .inr (.inr true), .inr (.inr true), .inl (0, 1), .inr (.inl (false, 49)), .inr (.inl (false, 50)), .inr (.inl (false, 51)), .inr (.inl (false, 52)), .inr (.inl (false, 53)), .inl (sgC1 P, sgC1 P), .inl ((-2147483648), 2147483647), .inl (z.1 25), .inl (z.1 26), .inl (z.1 27), .inl (z.1 28), .inl ((P.2.2.2.2.2.2.2.2.2.1.val : Int), (P.2.2.2.2.2.2.2.2.2.1.val : Int)), .inl (max 0 (z.1 30).1, min 1 (z.1 30).2), .inl (max 0 x.toInt, min 1 x.toInt), .inr (.inl (false, 54)), .inr (.inl (false, 55)), .inl ((-1), 3), .inl (P.2.2.2.2.2.1, P.2.2.2.2.2.1), .inr (.inl (false, 56)), .inr (.inl (false, 57)), .inr (.inl (false, 58)), .inl (0, 40), .inr (.inr false), .inr (.inl (false, 59)), .inl ((-2147483648), 2147483647), .inl ((-2147483648), 2147483647), .inr (.inl (false, 60)), .inr (.inl (false, 61)), .inr (.inl (false, 62)), .inl (0, 12), .inr (.inl (false, 63)), .inr (.inl (false, 64)), .inl (0, 12), .inr (.inl (false, 65)), .inl (0, 1)]) rfl rfl (C := RX12) (T := TX12) (N := 53) rfl inL_X12 tyX12 tyX12_ok nmX12 31 (by decide) rfl (t' := .inl (max 0 x.toInt, min 1 x.toInt)) rfl (fun i hi => by match i, hi with
    | 0, hi => rfl
    | 1, hi => rfl
    | 2, hi => rfl
    | 3, hi => rfl
    | 4, hi => rfl
    | 5, hi => rfl
    | 6, hi => rfl
    | 7, hi => rfl
    | 8, hi => rfl
    | 9, hi => rfl
    | 10, hi => rfl
    | 11, hi => rfl
    | 12, hi => rfl
    | 13, hi => rfl
    | 14, hi => rfl
    | 15, hi => rfl
    | 16, hi => rfl
    | 17, hi => rfl
    | 18, hi => rfl
    | 19, hi => rfl
    | 20, hi => rfl
    | 21, hi => rfl
    | 22, hi => rfl
    | 23, hi => rfl
    | 24, hi => rfl
    | 25, hi => rfl
    | 26, hi => rfl
    | 27, hi => rfl
    | 28, hi => rfl
    | 29, hi => rfl
    | 30, hi => rfl
    | 31, hi => exact absurd rfl hi
    | 32, hi => rfl
    | 33, hi => rfl
    | 34, hi => rfl
    | 35, hi => rfl
    | 36, hi => rfl
    | 37, hi => rfl
    | 38, hi => rfl
    | 39, hi => rfl
    | 40, hi => rfl
    | 41, hi => rfl
    | 42, hi => rfl
    | 43, hi => rfl
    | 44, hi => rfl
    | 45, hi => rfl
    | 46, hi => rfl
    | 47, hi => rfl
    | 48, hi => rfl
    | 49, hi => rfl
    | 50, hi => rfl
    | 51, hi => rfl
    | 52, hi => rfl
    | i + 53, hi => rfl) (fun i hi => by match i, hi with
    | 0, hi => rfl
    | 1, hi => rfl
    | 2, hi => rfl
    | 3, hi => rfl
    | 4, hi => rfl
    | 5, hi => rfl
    | 6, hi => rfl
    | 7, hi => rfl
    | 8, hi => rfl
    | 9, hi => rfl
    | 10, hi => rfl
    | 11, hi => rfl
    | 12, hi => exact absurd rfl hi
    | 13, hi => rfl
    | 14, hi => rfl
    | 15, hi => rfl
    | 16, hi => rfl
    | 17, hi => rfl
    | 18, hi => rfl
    | 19, hi => rfl
    | 20, hi => rfl
    | 21, hi => rfl
    | 22, hi => rfl
    | 23, hi => rfl
    | 24, hi => rfl
    | 25, hi => rfl
    | 26, hi => rfl
    | 27, hi => rfl
    | 28, hi => rfl
    | 29, hi => rfl
    | 30, hi => rfl
    | 31, hi => rfl
    | 32, hi => rfl
    | 33, hi => rfl
    | 34, hi => rfl
    | 35, hi => rfl
    | 36, hi => rfl
    | 37, hi => rfl
    | 38, hi => rfl
    | 39, hi => rfl
    | 40, hi => rfl
    | 41, hi => rfl
    | 42, hi => rfl
    | 43, hi => rfl
    | 44, hi => rfl
    | 45, hi => rfl
    | 46, hi => rfl
    | 47, hi => rfl
    | 48, hi => rfl
    | 49, hi => rfl
    | 50, hi => rfl
    | 51, hi => rfl
    | 52, hi => rfl
    | 53, hi => rfl
    | 54, hi => rfl
    | 55, hi => rfl
    | 56, hi => rfl
    | 57, hi => rfl
    | 58, hi => rfl
    | 59, hi => rfl
    | 60, hi => rfl
    | 61, hi => rfl
    | 62, hi => rfl
    | 63, hi => rfl
    | 64, hi => rfl
    | 65, hi => rfl
    | 66, hi => rfl
    | 67, hi => rfl
    | i + 68, hi => rfl) hl (fun _ h => h) rfl (ty := .boolean) rfl (sg_zn hv) (by rcases iv_01 hv with rfl | rfl <;> rfl) ⟨_, rfl, Int.max_le.mpr ⟨hv.1, Int.le_refl _⟩, Int.le_min.mpr ⟨hv.2, Int.le_refl _⟩⟩ hdg kk
theorem gf_X12_31e (X : CallFix p m c cc nL s args sg_tbl own) (hK : va_K D vwCl tys s) (hG : sgG (KE a1 a2 f1 f2 d1 d2 z P) D vwCl A tys ad ks H) (ha : isK ad ks 12 a) (hl : Cond.fieldLink own index "LawnAheadModel" "isDoubled" "Z" ∈ sg_tbl) (hdg : decode cc pc = .ok (.getfield index, 3)) (kk : ∀ x : Int32, iv (max 0 (z.1 31).1) (min 1 (z.1 31).2) x → W p l e R s m args below meth c H locs cells slots Q (F0 m (pc + 3) ls (.int x :: rest))) : W p l e R s m args below meth c H locs cells slots Q (F0 m pc ls (.ref a :: rest)) :=
  sg_get X hK hG ha (k := 12) (ci := 12) rfl (C := RX12) (T := TX12) (N := 53) rfl inL_X12 31 (by decide) rfl hl (fun _ h => h) hdg (fun v hv hf => by obtain ⟨x, rfl, hx⟩ := hv; exact kk x hx)
theorem as_50Z {i : Int32} (X : CallFix p m c cc nL s args sg_tbl own) (hK : va_K D vwCl tys s) (hG : sgG (KE a1 a2 f1 f2 d1 d2 z P) D vwCl A tys ad ks H) (hS : va_S A H0 H locs) (ha : isK ad ks 50 a) (hin : vp_in i 7) (hdg : decode cc pc = .ok (.iastore, 1))
    (kk : ∀ (H1 : Heap) (locs1 : List Loc), sgG (KE a1 a2 f1 f2 d1 d2 (z.1, zUp z.2.1 i.toNatClampNeg x.toInt, z.2.2) P) D vwCl A tys ad ks H1 → va_S A H0 H1 locs1 → W p l e R s m args below meth c H1 locs1 cells slots Q (F0 m (pc + 1) ls rest)) : W p l e R s m args below meth c H locs cells slots Q (F0 m pc ls (.int x :: .int i :: .ref a :: rest)) :=
  sg_iast1 (kt' := KE a1 a2 f1 f2 d1 d2 (z.1, zUp z.2.1 i.toNatClampNeg x.toInt, z.2.2) P) X hK hG hS (k := 50) ha (by decide) (n := 7) (el := fun i => .inl (z.2.1 i)) (el' := fun j => .inl (zUp z.2.1 i.toNatClampNeg x.toInt j)) rfl rfl (fun i hi => by match i, hi with
    | 0, hi => rfl
    | 1, hi => rfl
    | 2, hi => rfl
    | 3, hi => rfl
    | 4, hi => rfl
    | 5, hi => rfl
    | 6, hi => rfl
    | 7, hi => rfl
    | 8, hi => rfl
    | 9, hi => rfl
    | 10, hi => rfl
    | 11, hi => rfl
    | 12, hi => rfl
    | 13, hi => rfl
    | 14, hi => rfl
    | 15, hi => rfl
    | 16, hi => rfl
    | 17, hi => rfl
    | 18, hi => rfl
    | 19, hi => rfl
    | 20, hi => rfl
    | 21, hi => rfl
    | 22, hi => rfl
    | 23, hi => rfl
    | 24, hi => rfl
    | 25, hi => rfl
    | 26, hi => rfl
    | 27, hi => rfl
    | 28, hi => rfl
    | 29, hi => rfl
    | 30, hi => rfl
    | 31, hi => rfl
    | 32, hi => rfl
    | 33, hi => rfl
    | 34, hi => rfl
    | 35, hi => rfl
    | 36, hi => rfl
    | 37, hi => rfl
    | 38, hi => rfl
    | 39, hi => rfl
    | 40, hi => rfl
    | 41, hi => rfl
    | 42, hi => rfl
    | 43, hi => rfl
    | 44, hi => rfl
    | 45, hi => rfl
    | 46, hi => rfl
    | 47, hi => rfl
    | 48, hi => rfl
    | 49, hi => rfl
    | 50, hi => exact absurd rfl hi
    | 51, hi => rfl
    | 52, hi => rfl
    | 53, hi => rfl
    | 54, hi => rfl
    | 55, hi => rfl
    | 56, hi => rfl
    | 57, hi => rfl
    | 58, hi => rfl
    | 59, hi => rfl
    | 60, hi => rfl
    | 61, hi => rfl
    | 62, hi => rfl
    | 63, hi => rfl
    | 64, hi => rfl
    | 65, hi => rfl
    | 66, hi => rfl
    | 67, hi => rfl
    | i + 68, hi => rfl) hin (by unfold zUp; rw [if_pos rfl]; exact ⟨_, rfl, Int.le_refl _, Int.le_refl _⟩) (fun j v _ hj h => by unfold zUp; rw [if_neg hj]; exact h) hdg kk
theorem al_50e {i : Int32} (X : CallFix p m c cc nL s args sg_tbl own) (hK : va_K D vwCl tys s) (hG : sgG (KE a1 a2 f1 f2 d1 d2 z P) D vwCl A tys ad ks H) (ha : isK ad ks 50 a) (hin : vp_in i 7) (hdg : decode cc pc = .ok (.iaload, 1)) (kk : ∀ x : Int32, iv (z.2.1 i.toNatClampNeg).1 (z.2.1 i.toNatClampNeg).2 x → W p l e R s m args below meth c H locs cells slots Q (F0 m (pc + 1) ls (.int x :: rest))) : W p l e R s m args below meth c H locs cells slots Q (F0 m pc ls (.int i :: .ref a :: rest)) :=
  sg_iald X hK hG ha (k := 50) rfl hin hdg (fun x hx => by obtain ⟨y, h1, h2⟩ := hx; cases h1; exact kk _ h2)
theorem as_51Z {i : Int32} (X : CallFix p m c cc nL s args sg_tbl own) (hK : va_K D vwCl tys s) (hG : sgG (KE a1 a2 f1 f2 d1 d2 z P) D vwCl A tys ad ks H) (hS : va_S A H0 H locs) (ha : isK ad ks 51 a) (hin : vp_in i 1) (hdg : decode cc pc = .ok (.iastore, 1))
    (kk : ∀ (H1 : Heap) (locs1 : List Loc), sgG (KE a1 a2 f1 f2 d1 d2 (z.1, z.2.1, (x.toInt, x.toInt), z.2.2.2) P) D vwCl A tys ad ks H1 → va_S A H0 H1 locs1 → W p l e R s m args below meth c H1 locs1 cells slots Q (F0 m (pc + 1) ls rest)) : W p l e R s m args below meth c H locs cells slots Q (F0 m pc ls (.int x :: .int i :: .ref a :: rest)) :=
  sg_iast1 (kt' := KE a1 a2 f1 f2 d1 d2 (z.1, z.2.1, (x.toInt, x.toInt), z.2.2.2) P) X hK hG hS (k := 51) ha (by decide) (n := 1) (el := fun _ => .inl z.2.2.1) (el' := fun _ => .inl (x.toInt, x.toInt)) rfl rfl (fun i hi => by match i, hi with
    | 0, hi => rfl
    | 1, hi => rfl
    | 2, hi => rfl
    | 3, hi => rfl
    | 4, hi => rfl
    | 5, hi => rfl
    | 6, hi => rfl
    | 7, hi => rfl
    | 8, hi => rfl
    | 9, hi => rfl
    | 10, hi => rfl
    | 11, hi => rfl
    | 12, hi => rfl
    | 13, hi => rfl
    | 14, hi => rfl
    | 15, hi => rfl
    | 16, hi => rfl
    | 17, hi => rfl
    | 18, hi => rfl
    | 19, hi => rfl
    | 20, hi => rfl
    | 21, hi => rfl
    | 22, hi => rfl
    | 23, hi => rfl
    | 24, hi => rfl
    | 25, hi => rfl
    | 26, hi => rfl
    | 27, hi => rfl
    | 28, hi => rfl
    | 29, hi => rfl
    | 30, hi => rfl
    | 31, hi => rfl
    | 32, hi => rfl
    | 33, hi => rfl
    | 34, hi => rfl
    | 35, hi => rfl
    | 36, hi => rfl
    | 37, hi => rfl
    | 38, hi => rfl
    | 39, hi => rfl
    | 40, hi => rfl
    | 41, hi => rfl
    | 42, hi => rfl
    | 43, hi => rfl
    | 44, hi => rfl
    | 45, hi => rfl
    | 46, hi => rfl
    | 47, hi => rfl
    | 48, hi => rfl
    | 49, hi => rfl
    | 50, hi => rfl
    | 51, hi => exact absurd rfl hi
    | 52, hi => rfl
    | 53, hi => rfl
    | 54, hi => rfl
    | 55, hi => rfl
    | 56, hi => rfl
    | 57, hi => rfl
    | 58, hi => rfl
    | 59, hi => rfl
    | 60, hi => rfl
    | 61, hi => rfl
    | 62, hi => rfl
    | 63, hi => rfl
    | 64, hi => rfl
    | 65, hi => rfl
    | 66, hi => rfl
    | 67, hi => rfl
    | i + 68, hi => rfl) hin ⟨_, rfl, Int.le_refl _, Int.le_refl _⟩ (fun j v hj1 hj h => absurd (show j = i.toNatClampNeg by have := sg_inlt hin; omega) hj) hdg kk
theorem al_51e {i : Int32} (X : CallFix p m c cc nL s args sg_tbl own) (hK : va_K D vwCl tys s) (hG : sgG (KE a1 a2 f1 f2 d1 d2 z P) D vwCl A tys ad ks H) (ha : isK ad ks 51 a) (hin : vp_in i 1) (hdg : decode cc pc = .ok (.iaload, 1)) (kk : ∀ x : Int32, iv (z.2.2.1).1 (z.2.2.1).2 x → W p l e R s m args below meth c H locs cells slots Q (F0 m (pc + 1) ls (.int x :: rest))) : W p l e R s m args below meth c H locs cells slots Q (F0 m pc ls (.int i :: .ref a :: rest)) :=
  sg_iald X hK hG ha (k := 51) rfl hin hdg (fun x hx => by obtain ⟨y, h1, h2⟩ := hx; cases h1; exact kk _ h2)
theorem gq_at {ad ks : List Nat} {G : Nat → Int} {f : Nat → Int × Int} {i : Nat} {x : Int32} (h : 256 ≤ i) : okV ad ks (sg_gq G (zUp f i x.toInt) i) (.int x) := by
  unfold sg_gq zUp
  rw [if_neg (by omega), if_pos rfl]
  exact ⟨x, rfl, Int.le_refl _, Int.le_refl _⟩
theorem gq_off {ad ks : List Nat} {G : Nat → Int} {f : Nat → Int × Int} {i j : Nat} {y : Int} {v : Value} (hj : j ≠ i) (h : okV ad ks (sg_gq G f j) v) : okV ad ks (sg_gq G (zUp f i y) j) v := by
  unfold sg_gq at h ⊢
  by_cases c : j < 256
  · rw [if_pos c] at h ⊢
    exact h
  · rw [if_neg c] at h ⊢
    unfold zUp
    rw [if_neg hj]
    exact h
theorem glq_at {ad ks : List Nat} {g : Nat → Fin 17} {i : Nat} {x : Int32} (h : i = 4) (hx : iv 0 16 x) : okV ad ks (sg_glq g (x.toInt, x.toInt) i) (.int x) := by
  unfold sg_glq
  rw [if_neg (by omega)]
  exact ⟨x, rfl, Int.max_le.mpr ⟨hx.1, Int.le_refl _⟩, Int.le_min.mpr ⟨hx.2, Int.le_refl _⟩⟩
theorem glq_off {ad ks : List Nat} {g : Nat → Fin 17} {c c2 : Int × Int} {i j : Nat} {v : Value} (hi : i = 4) (hj : j ≠ i) (h5 : j < 5) (h : okV ad ks (sg_glq g c j) v) : okV ad ks (sg_glq g c2 j) v := by
  unfold sg_glq at h ⊢
  rw [if_pos (by omega)] at h ⊢
  exact h
theorem as_52E {i : Int32} (X : CallFix p m c cc nL s args sg_tbl own) (hK : va_K D vwCl tys s) (hG : sgG (KE a1 a2 f1 f2 d1 d2 z P) D vwCl A tys ad ks H) (hS : va_S A H0 H locs) (ha : isK ad ks 52 a) (hin : vp_in i 320) (h256 : 256 ≤ i.toNatClampNeg) (hdg : decode cc pc = .ok (.iastore, 1))
    (kk : ∀ (H1 : Heap) (locs1 : List Loc), sgG (KE a1 a2 f1 f2 d1 d2 (z.1, z.2.1, z.2.2.1, zUp z.2.2.2.1 i.toNatClampNeg x.toInt, z.2.2.2.2) P) D vwCl A tys ad ks H1 → va_S A H0 H1 locs1 → W p l e R s m args below meth c H1 locs1 cells slots Q (F0 m (pc + 1) ls rest)) : W p l e R s m args below meth c H locs cells slots Q (F0 m pc ls (.int x :: .int i :: .ref a :: rest)) :=
  sg_iast1 (kt' := KE a1 a2 f1 f2 d1 d2 (z.1, z.2.1, z.2.2.1, zUp z.2.2.2.1 i.toNatClampNeg x.toInt, z.2.2.2.2) P) X hK hG hS (k := 52) ha (by decide) (n := 320) (el := sg_gq (sgG0 P) z.2.2.2.1) (el' := sg_gq (sgG0 P) (zUp z.2.2.2.1 i.toNatClampNeg x.toInt)) rfl rfl (fun i hi => by match i, hi with
    | 0, hi => rfl
    | 1, hi => rfl
    | 2, hi => rfl
    | 3, hi => rfl
    | 4, hi => rfl
    | 5, hi => rfl
    | 6, hi => rfl
    | 7, hi => rfl
    | 8, hi => rfl
    | 9, hi => rfl
    | 10, hi => rfl
    | 11, hi => rfl
    | 12, hi => rfl
    | 13, hi => rfl
    | 14, hi => rfl
    | 15, hi => rfl
    | 16, hi => rfl
    | 17, hi => rfl
    | 18, hi => rfl
    | 19, hi => rfl
    | 20, hi => rfl
    | 21, hi => rfl
    | 22, hi => rfl
    | 23, hi => rfl
    | 24, hi => rfl
    | 25, hi => rfl
    | 26, hi => rfl
    | 27, hi => rfl
    | 28, hi => rfl
    | 29, hi => rfl
    | 30, hi => rfl
    | 31, hi => rfl
    | 32, hi => rfl
    | 33, hi => rfl
    | 34, hi => rfl
    | 35, hi => rfl
    | 36, hi => rfl
    | 37, hi => rfl
    | 38, hi => rfl
    | 39, hi => rfl
    | 40, hi => rfl
    | 41, hi => rfl
    | 42, hi => rfl
    | 43, hi => rfl
    | 44, hi => rfl
    | 45, hi => rfl
    | 46, hi => rfl
    | 47, hi => rfl
    | 48, hi => rfl
    | 49, hi => rfl
    | 50, hi => rfl
    | 51, hi => rfl
    | 52, hi => exact absurd rfl hi
    | 53, hi => rfl
    | 54, hi => rfl
    | 55, hi => rfl
    | 56, hi => rfl
    | 57, hi => rfl
    | 58, hi => rfl
    | 59, hi => rfl
    | 60, hi => rfl
    | 61, hi => rfl
    | 62, hi => rfl
    | 63, hi => rfl
    | 64, hi => rfl
    | 65, hi => rfl
    | 66, hi => rfl
    | 67, hi => rfl
    | i + 68, hi => rfl) hin (gq_at h256) (fun j v _ hj h => gq_off hj h) hdg kk
theorem as_53E {i : Int32} (X : CallFix p m c cc nL s args sg_tbl own) (hK : va_K D vwCl tys s) (hG : sgG (KE a1 a2 f1 f2 d1 d2 z P) D vwCl A tys ad ks H) (hS : va_S A H0 H locs) (ha : isK ad ks 53 a) (hin : vp_in i 5) (h4 : i.toNatClampNeg = 4) (hv : iv 0 16 x) (hdg : decode cc pc = .ok (.iastore, 1))
    (kk : ∀ (H1 : Heap) (locs1 : List Loc), sgG (KE a1 a2 f1 f2 d1 d2 (z.1, z.2.1, z.2.2.1, z.2.2.2.1, (x.toInt, x.toInt)) P) D vwCl A tys ad ks H1 → va_S A H0 H1 locs1 → W p l e R s m args below meth c H1 locs1 cells slots Q (F0 m (pc + 1) ls rest)) : W p l e R s m args below meth c H locs cells slots Q (F0 m pc ls (.int x :: .int i :: .ref a :: rest)) :=
  sg_iast1 (kt' := KE a1 a2 f1 f2 d1 d2 (z.1, z.2.1, z.2.2.1, z.2.2.2.1, (x.toInt, x.toInt)) P) X hK hG hS (k := 53) ha (by decide) (n := 5) (el := sg_glq (sgGl P) z.2.2.2.2) (el' := sg_glq (sgGl P) (x.toInt, x.toInt)) rfl rfl (fun i hi => by match i, hi with
    | 0, hi => rfl
    | 1, hi => rfl
    | 2, hi => rfl
    | 3, hi => rfl
    | 4, hi => rfl
    | 5, hi => rfl
    | 6, hi => rfl
    | 7, hi => rfl
    | 8, hi => rfl
    | 9, hi => rfl
    | 10, hi => rfl
    | 11, hi => rfl
    | 12, hi => rfl
    | 13, hi => rfl
    | 14, hi => rfl
    | 15, hi => rfl
    | 16, hi => rfl
    | 17, hi => rfl
    | 18, hi => rfl
    | 19, hi => rfl
    | 20, hi => rfl
    | 21, hi => rfl
    | 22, hi => rfl
    | 23, hi => rfl
    | 24, hi => rfl
    | 25, hi => rfl
    | 26, hi => rfl
    | 27, hi => rfl
    | 28, hi => rfl
    | 29, hi => rfl
    | 30, hi => rfl
    | 31, hi => rfl
    | 32, hi => rfl
    | 33, hi => rfl
    | 34, hi => rfl
    | 35, hi => rfl
    | 36, hi => rfl
    | 37, hi => rfl
    | 38, hi => rfl
    | 39, hi => rfl
    | 40, hi => rfl
    | 41, hi => rfl
    | 42, hi => rfl
    | 43, hi => rfl
    | 44, hi => rfl
    | 45, hi => rfl
    | 46, hi => rfl
    | 47, hi => rfl
    | 48, hi => rfl
    | 49, hi => rfl
    | 50, hi => rfl
    | 51, hi => rfl
    | 52, hi => rfl
    | 53, hi => exact absurd rfl hi
    | 54, hi => rfl
    | 55, hi => rfl
    | 56, hi => rfl
    | 57, hi => rfl
    | 58, hi => rfl
    | 59, hi => rfl
    | 60, hi => rfl
    | 61, hi => rfl
    | 62, hi => rfl
    | 63, hi => rfl
    | 64, hi => rfl
    | 65, hi => rfl
    | 66, hi => rfl
    | 67, hi => rfl
    | i + 68, hi => rfl) hin (glq_at h4 hv) (fun j v hl hj h => glq_off h4 hj hl h) hdg kk
theorem gf_X12_5e (X : CallFix p m c cc nL s args sg_tbl own) (hK : va_K D vwCl tys s) (hG : sgG (KE a1 a2 f1 f2 d1 d2 z P) D vwCl A tys ad ks H) (ha : isK ad ks 12 a) (hl : Cond.fieldLink own index "LawnAheadModel" "text" "[B" ∈ sg_tbl) (hdg : decode cc pc = .ok (.getfield index, 3)) (kk : ∀ x : Nat, isK ad ks 45 x → W p l e R s m args below meth c H locs cells slots Q (F0 m (pc + 3) ls (.ref x :: rest))) : W p l e R s m args below meth c H locs cells slots Q (F0 m pc ls (.ref a :: rest)) :=
  sg_get X hK hG ha (k := 12) (ci := 12) rfl (C := RX12) (T := TX12) (N := 53) rfl inL_X12 5 (by decide) rfl hl (fun _ h => h) hdg (fun v hv hf => by
    rcases hv with ⟨h1, -⟩ | ⟨x, rfl, hx⟩
    · cases h1
    · exact kk x hx)
theorem pf_X12_5 {x : Nat} (X : CallFix p m c cc nL s args sg_tbl own) (hK : va_K D vwCl tys s) (hG : sgG (KT P) D vwCl A tys ad ks H) (hS : va_S A H0 H locs) (ha : isK ad ks 12 a) (hl : Cond.fieldLink own index "LawnAheadModel" "text" "[B" ∈ sg_tbl) (hv : True) (hdg : decode cc pc = .ok (.putfield index, 3)) (kk : ∀ (H1 : Heap) (locs1 : List Loc), sgG (KT P) D vwCl A tys ad ks H1 → va_S A H0 H1 locs1 → fld D H1 12 a 5 (.ref x) → sgFr (KT P) D vwCl ad ks H H1 (fun a' j' => a' = a ∧ j' = 5) → W p l e R s m args below meth c H1 locs1 cells slots Q (F0 m (pc + 3) ls rest)) : W p l e R s m args below meth c H locs cells slots Q (F0 m pc ls (.ref x :: .ref a :: rest)) :=
  sg_put X hK hG hS ha (k := 12) (ci := 12) rfl (C := RX12) (T := TX12) (N := 53) rfl inL_X12 tyX12 tyX12_ok nmX12 5 (by decide) rfl hl (fun _ h => h) rfl (ty := (tyX12 5)) rfl rfl rfl trivial hdg kk
end SGE
