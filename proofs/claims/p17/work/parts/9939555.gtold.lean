/-- what a GAME that was read lies as -/
def sgCg (D : va_G) (H : Heap) (a m k : Nat) (T : Nat → sgMq) : Prop := (∃ x : Int32, fld D H 3 a 1 (.int x) ∧ x.toInt = (k : Int)) ∧ ∀ i : Nat, i < k → ∃ x : Int32, ele H m i x ∧ x.toInt = pkQ (T i)
theorem cg_of {P : sgPm} {w1 w2 : Int} {z : sgZg} {k : Nat} {T : Nat → sgMq} {D : va_G} {A A2 : Nat → Prop} {tys : List (ClassId × FieldType)} {ad ks ad2 ks2 : List Nat} {H : Heap} {a : Nat} (hG : sgG (KT P) D vwCl A tys ad ks H) (h0 : isK ad ks 3 a) (hG2 : sgG (KG 0 240 w1 w2 z P) D vwCl A2 tys ad2 ks2 H) (hx : isK ad2 ks2 8 a) (hk : k ≤ 16) (hc : z 5 1 = ((k : Int), (k : Int))) (hm : ∀ i : Nat, i < k → z 6 i = (pkQ (T i), pkQ (T i))) : ∀ j : Nat, j < 5 → a = gG (sgGm P) j → sgCg D H a (gM (sgGm P) j) k T := by
  intro j hj ha
  obtain ⟨v0, o0, f0, g0⟩ := sg_peekH hG h0 (k := 3) (ci := 3) rfl (r := (RX3, TX3, 3)) rfl 0 (by decide) rfl
  obtain ⟨v1, o1, f1⟩ := sg_peek hG2 hx (k := 8) (ci := 3) rfl (r := (RX3, TX3, 3)) rfl 0 (by decide) rfl
  obtain ⟨v5, o5, f5⟩ := sg_peek hG2 hx (k := 8) (ci := 3) rfl (r := (RX3, TX3, 3)) rfl 1 (by decide) (t := .inl (max 0 (z 5 1).1, min 16 (z 5 1).2)) rfl
  rcases o1 with ⟨h, -⟩ | ⟨r, e, hr⟩
  · cases h
  · subst e
    obtain rfl := fld_fun f0 f1
    rw [gof_KT] at g0
    have hrr := og_m g0 j hj ha
    have hrr : r = gM (sgGm P) j := by
      cases hrr
      rfl
    obtain ⟨x5, rfl, h1, h2⟩ := o5
    rw [hc] at h1 h2
    have h1 : max 0 (k : Int) ≤ x5.toInt := h1
    have h2 : x5.toInt ≤ min 16 (k : Int) := h2
    refine ⟨⟨x5, f5, by omega⟩, fun i hi => ?_⟩
    obtain ⟨x, he, hv⟩ := sg_elpk hG2 hr (k := 49) (n := 16) (el := fun i => .inl (z 6 i)) rfl (i := i) (by omega)
    obtain ⟨y, e, hy⟩ := hv
    cases e
    rw [hm i hi] at hy
    exact ⟨x, by rw [← hrr]; exact he, vq_iv hy⟩
/-- one more game is told -/
def gPg (g : Nat → sgT) (j k : Nat) (T : Nat → sgMq) : Nat → sgT := fun i => if i = 60 + j then .inl ((k : Int), 0) else if i = 70 + j then .inr (.inr true) else if 100 + 16 * j ≤ i ∧ i < 116 + 16 * j then .inl (pkQ (T (i - (100 + 16 * j))), 0) else g i
theorem gPg_o {g : Nat → sgT} {j k i : Nat} {T : Nat → sgMq} (h1 : i ≠ 60 + j) (h2 : i ≠ 70 + j) (h3 : ¬ (100 + 16 * j ≤ i ∧ i < 116 + 16 * j)) : gPg g j k T i = g i := by
  unfold gPg
  rw [if_neg h1, if_neg h2, if_neg h3]
theorem gPg_l {g : Nat → sgT} {j k i : Nat} {T : Nat → sgMq} (h : i < 60) : gPg g j k T i = g i := gPg_o (by omega) (by omega) (by omega)
theorem gPg_A {g : Nat → sgT} {j k i : Nat} {T : Nat → sgMq} (h : i < 60) : gA (gPg g j k T) i = gA g i := by
  unfold gA
  rw [gPg_l h]
theorem gPg_B {g : Nat → sgT} {j k i : Nat} {T : Nat → sgMq} (h : i < 60) : gB (gPg g j k T) i = gB g i := by
  unfold gB
  rw [gPg_l h]
theorem gPg_I {g : Nat → sgT} {j k i : Nat} {T : Nat → sgMq} (h : i < 60) : gI (gPg g j k T) i = gI g i := by
  unfold gI
  rw [gPg_l h]
theorem gPg_G {g : Nat → sgT} {j k i : Nat} {T : Nat → sgMq} (h : i < 5) : gG (gPg g j k T) i = gG g i := gPg_A (by omega)
theorem gPg_M {g : Nat → sgT} {j k i : Nat} {T : Nat → sgMq} (h : i < 5) : gM (gPg g j k T) i = gM g i := gPg_A (by omega)
theorem gPg_Ty {g : Nat → sgT} {j k : Nat} {T : Nat → sgMq} : gTo (gPg g j k T) j = true := by
  unfold gTo gB gPg
  rw [if_neg (by omega), if_pos rfl] <;> rfl
theorem gPg_Tn {g : Nat → sgT} {j k i : Nat} {T : Nat → sgMq} (hj : j < 5) (hi : i < 5) (h : i ≠ j) : gTo (gPg g j k T) i = gTo g i := by
  unfold gTo gB
  rw [gPg_o (by omega) (by omega) (by omega)]
theorem gPg_Cy {g : Nat → sgT} {j k : Nat} {T : Nat → sgMq} : gCn (gPg g j k T) j = (k : Int) := by
  unfold gCn gI gPg
  rw [if_pos rfl] <;> rfl
theorem gPg_Cn {g : Nat → sgT} {j k i : Nat} {T : Nat → sgMq} (hj : j < 5) (hi : i < 5) (h : i ≠ j) : gCn (gPg g j k T) i = gCn g i := by
  unfold gCn gI
  rw [gPg_o (by omega) (by omega) (by omega)]
theorem gPg_Vy {g : Nat → sgT} {j k i : Nat} {T : Nat → sgMq} (hj : j < 5) (hi : i < 16) : gMv (gPg g j k T) j i = pkQ (T i) := by
  unfold gMv gI gPg
  rw [if_neg (by omega), if_neg (by omega), if_pos (by omega), show 100 + 16 * j + i - (100 + 16 * j) = i by omega] <;> rfl
theorem gPg_Vn {g : Nat → sgT} {j k i m : Nat} {T : Nat → sgMq} (hj : j < 5) (hm : m < 5) (hi : i < 16) (h : m ≠ j) : gMv (gPg g j k T) m i = gMv g m i := by
  unfold gMv gI
  rw [gPg_o (by omega) (by omega) (by omega)]
theorem gPg_gi {g : Nat → sgT} {j k : Nat} {T : Nat → sgMq} (h : sgGi g) : sgGi (gPg g j k T) := by
  obtain ⟨h1, h2, ⟨h3, h4⟩, h5⟩ := h
  refine ⟨?_, ?_, ⟨?_, ?_⟩, ?_⟩
  · rw [gPg_B (by omega), gPg_B (by omega)]
    exact h1
  · rw [gPg_B (by omega), gPg_B (by omega)]
    exact h2
  · rw [gPg_A (by omega), gPg_A (by omega)]
    exact h3
  · rw [gPg_A (by omega), gPg_A (by omega)]
    exact h4
  · rw [gPg_B (by omega)]
    exact h5
theorem gPg_gg {g : Nat → sgT} {j k : Nat} {T : Nat → sgMq} (hj : j < 5) (h : sgGg g j) : sgGg (gPg g j k T) (j + 1) := by
  refine ⟨fun i m hi hm hne => ?_, fun i hi => ?_⟩
  · rw [gPg_G hi, gPg_G hm, gPg_M hi, gPg_M hm]
    exact h.1 i m hi hm hne
  · by_cases c : i = j
    · subst c
      exact ⟨fun _ => Nat.lt_succ_self _, fun _ => gPg_Ty⟩
    · rw [gPg_Tn hj hi c]
      exact ⟨fun z => Nat.lt_succ_of_lt ((h.2 i hi).mp z), fun z => (h.2 i hi).mpr (by omega)⟩
theorem gPg_W {g : Nat → sgT} {j k : Nat} {T : Nat → sgMq} (b : Bool) : gW (gPg g j k T) b = gW g b ∧ gR (gPg g j k T) b = gR g b := by
  unfold gW gR
  rw [gPg_A (by omega), gPg_A (by omega), gPg_A (by omega), gPg_A (by omega)]
  exact ⟨rfl, rfl⟩
theorem sg_rp3 {P : sgPm} {j k : Nat} {T : Nat → sgMq} {D : va_G} {A : Nat → Prop} {tys : List (ClassId × FieldType)} {ad ks : List Nat} {H : Heap} (hG : sgG (KT P) D vwCl A tys ad ks H) (hj : j < 5) (hk : k ≤ 16) (hap : ∀ i m : Nat, i < 5 → m < 5 → i ≠ m → gG (sgGm P) i ≠ gG (sgGm P) m ∧ gM (sgGm P) i ≠ gM (sgGm P) m) (hc : sgCg D H (gG (sgGm P) j) (gM (sgGm P) j) k T) : sgG (KT (sgGh P (gPg (sgGm P) j k T))) D vwCl A tys ad ks H := by
  generalize hg0 : sgGm P = g0 at hap hc ⊢
  obtain ⟨⟨x, f1, f2⟩, f3⟩ := hc
  refine sg_reghost (P := P) (Q := sgGh P (gPg g0 j k T)) (sgGh_67 (P := P) (g := gPg g0 j k T)) hG ?_ ?_ ?_ ?_ ?_ ?_ <;> rw [sgGm_Gh (P := P) (g := gPg g0 j k T), hg0]
  · intro a i v ha hi hf hg
    rcases hi with rfl | rfl
    · refine go_g ?_
      have h := og_g hg
      unfold go11 at h ⊢
      rw [gPg_B (by omega), gPg_B (by omega), (gPg_W _).1]
      exact h
    · refine go_s ?_
      have h := og_s hg
      unfold go11 at h ⊢
      rw [gPg_B (by omega), gPg_B (by omega), (gPg_W _).1]
      exact h
  · intro a i v ha hi hf hg
    rcases hi with rfl | rfl
    · refine go_r ?_
      have h := og_r hg
      unfold go4r at h ⊢
      rw [gPg_A (by omega), gPg_A (by omega), gPg_A (by omega), gPg_A (by omega)]
      exact h
    · refine go_c ?_
      have h := og_c hg
      unfold go4c at h ⊢
      rw [gPg_B (by omega), (gPg_W _).1, gPg_I (by omega)]
      exact h
  · intro a i y ha hi hf hg
    refine go_e ?_
    have h := og_e hg
    unfold go21 at h ⊢
    rw [gPg_B (by omega), (gPg_W _).2, gPg_I (by omega)]
    exact h
  · intro a i v hg
    refine go_h fun hi => ?_
    rw [gPg_G hi]
    exact og_h hg hi
  · intro a i v ha hi hf hg
    rcases hi with rfl | rfl
    · refine go_m fun m hm e => ?_
      rw [gPg_G hm] at e
      rw [gPg_M hm]
      exact og_m hg m hm e
    · refine go_k fun m hm ht e => ?_
      rw [gPg_G hm] at e
      by_cases c : m = j
      · subst c
        rw [gPg_Cy]
        rw [e] at hf
        exact ⟨x, fld_fun hf f1, f2⟩
      · rw [gPg_Tn hj hm c] at ht
        rw [gPg_Cn hj hm c]
        exact og_k hg m hm ht e
  · intro a i y ha hi hf hg
    refine go_v fun m hm ht hcn e => ?_
    rw [gPg_M hm] at e
    by_cases c : m = j
    · subst c
      rw [gPg_Cy] at hcn
      rw [gPg_Vy hj hi]
      rw [e] at hf
      obtain ⟨y', e1, e2⟩ := f3 i (by omega)
      rw [ele_fun hf e1]
      exact ⟨y', rfl, e2⟩
    · rw [gPg_Tn hj hm c] at ht
      rw [gPg_Cn hj hm c] at hcn
      rw [gPg_Vn hj hm hi c]
      exact og_v hg m hm ht hcn e
/-- one more told to the class -/
def sgTo1 (P P1 : sgPm) : Prop := ∃ k : Nat, gK (sgT1 P) (sgL1 P) k ∧ (∀ i : Nat, i < k → mqOk (gmT (sgT1 P) (sgL1 P) i)) ∧ sgGm P1 = gPg (sgGm P) P.2.2.2.2.2.2.2.1.val k (gmT (sgT1 P) (sgL1 P))
