/-- the small world of a GAME: its moves, the tape, its bytes -/
theorem sg_subg {D : va_G} {A : Nat → Prop} {tys : List (ClassId × FieldType)} {ad ks : List Nat} {H : Heap} {P : sgPm} (hG : sgG (KT P) D vwCl A tys ad ks H) {x t : Nat} (hx : isK ad ks 3 x) (ht : isK ad ks 10 t) : ∃ ad' ks' : List Nat, isK ad' ks' 8 x ∧ isK ad' ks' 10 t ∧ sgG (KG 0 240 (-2147483648) 2147483647 sgZ0g P) D vwCl A tys ad' ks' H := by
  obtain ⟨ws, hP, hD, hT, hU⟩ := hG
  obtain ⟨jx, ex, Kx, wx, kx, kkx, ox⟩ := hx.in hT
  obtain ⟨jt, et, Kt, wt, kt, kkt, ot⟩ := ht.in hT
  obtain rfl : KK3 P = Kx := Option.some.inj ((show (KT P)[3]? = some (KK3 P) from rfl).symm.trans kkx)
  obtain rfl : KK10 P = Kt := Option.some.inj ((show (KT P)[10]? = some (KK10 P) from rfl).symm.trans kkt)
  obtain ⟨cx, fx, rfl⟩ : ∃ (c : Nat) (f : List Value), ex = .inr (c, f) := by
    cases ex with
    | inl q => exact (show False from ox).elim
    | inr q => exact ⟨q.1, q.2, rfl⟩
  obtain ⟨ct, ft, rfl⟩ : ∃ (c : Nat) (f : List Value), et = .inr (c, f) := by
    cases et with
    | inl q => exact (show False from ot).elim
    | inr q => exact ⟨q.1, q.2, rfl⟩
  obtain ⟨r0, f0, i0⟩ := sg_rf ox 0 20 rfl
  obtain ⟨rb, fb, ib⟩ := sg_rf ot 0 42 rfl
  obtain ⟨j0, e0, K0, w0, k0, kk0, o0⟩ := i0.in hT
  obtain ⟨jb, eb, Kb, wb, kb, kkb, ob⟩ := ib.in hT
  obtain rfl : KK20 P = K0 := Option.some.inj ((show (KT P)[20]? = some (KK20 P) from rfl).symm.trans kk0)
  obtain rfl : KK42 P = Kb := Option.some.inj ((show (KT P)[42]? = some (KK42 P) from rfl).symm.trans kkb)
  obtain ⟨cx1, cx2, cx3⟩ := ox
  obtain ⟨ct1, ct2, ct3⟩ := ot
  refine ⟨[x, r0, t, rb], [8, 49, 10, 42], ⟨0, rfl, rfl⟩, ⟨2, rfl, rfl⟩, [(x, .inr (cx, fx)), (r0, e0), (t, .inr (ct, ft)), (rb, eb)], ?_, ?_, ⟨rfl, rfl, ?_⟩, ?_, ?_⟩
  · intro k q hq
    match k, hq with
    | 0, hq => cases hq; exact hP _ _ wx
    | 1, hq => cases hq; exact hP _ _ w0
    | 2, hq => cases hq; exact hP _ _ wt
    | 3, hq => cases hq; exact hP _ _ wb
    | k + 4, hq => cases hq
  · have hall : ∀ (k : Nat) (q : Nat × va_E), [((x, .inr (cx, fx)) : Nat × va_E), (r0, e0), (t, .inr (ct, ft)), (rb, eb)][k]? = some q → k < 4 ∧ ∃ j : Nat, ws[j]? = some q ∧ ks[j]? = some ([3, 20, 10, 42].getD k 0) := by
      intro k q hq
      match k, hq with
      | 0, hq => cases hq; exact ⟨by decide, jx, wx, kx⟩
      | 1, hq => cases hq; exact ⟨by decide, j0, w0, k0⟩
      | 2, hq => cases hq; exact ⟨by decide, jt, wt, kt⟩
      | 3, hq => cases hq; exact ⟨by decide, jb, wb, kb⟩
      | k + 4, hq => cases hq
    have hn : ∀ i : Nat, i < 4 → ∀ j : Nat, j < 4 → [3, 20, 10, 42].getD i 0 = [3, 20, 10, 42].getD j 0 → i = j := by decide
    refine ⟨fun i j p q hp hq hpq => ?_, fun k q hq => ?_⟩
    · obtain ⟨li, ji, wi, ki⟩ := hall i p hp
      obtain ⟨lj, jj, wj, kj⟩ := hall j q hq
      have hj := hD.1 ji jj p q wi wj hpq
      subst hj
      exact hn i li j lj (Option.some.inj (ki.symm.trans kj))
    · obtain ⟨lk, j, wj, kj⟩ := hall k q hq
      exact hD.2 j q wj
  · intro j q k hq hk
    match j, hq, hk with
    | 0, hq, hk =>
      cases hq
      cases hk
      refine ⟨KK8g sgZ0g, rfl, cx1, cx2, fun j t v ht hv => ?_⟩
      match j, ht with
      | 0, ht => cases ht; cases f0.symm.trans hv; exact Or.inr ⟨r0, rfl, 1, rfl, rfl⟩
      | 1, ht =>
        cases ht
        obtain ⟨y, g1, g2, g3⟩ := cx3 1 _ v rfl hv
        exact ⟨y, g1, Int.max_le.mpr ⟨g2, (iv_top y).1⟩, Int.le_min.mpr ⟨g3, (iv_top y).2⟩⟩
      | 2, ht => cases ht; exact cx3 2 _ v rfl hv
      | j + 3, ht => cases ht
    | 1, hq, hk => cases hq; cases hk; exact ⟨_, rfl, okE_int2 (fun j v _ => okV_top) o0⟩
    | 2, hq, hk =>
      cases hq
      cases hk
      refine ⟨KK10a 0 240 (-2147483648) 2147483647 P, rfl, ct1, ct2, fun j t v ht hv => ?_⟩
      match j, ht with
      | 0, ht => cases ht; cases fb.symm.trans hv; exact Or.inr ⟨rb, rfl, 3, rfl, rfl⟩
      | 1, ht => cases ht; exact ct3 1 _ v rfl hv
      | 2, ht => cases ht; exact ct3 2 _ v rfl hv
      | 3, ht => cases ht; exact ct3 3 _ v rfl hv
      | j + 4, ht => cases ht
    | 3, hq, hk => cases hq; cases hk; exact ⟨_, rfl, okE_int2 (ad := ad) (ks := ks) (el := sg_tp (sgT1 P)) (fun j v h => h) ob⟩
    | j + 4, hq, hk => cases hq
  · intro k hk i j hi hj
    have hb : ∀ i : Nat, ([8, 49, 10, 42] : List Nat)[i]? = some k → i < 4 := fun i h => (List.getElem?_eq_some_iff.mp h).1
    have hn : ∀ i : Nat, i < 4 → ∀ j : Nat, j < 4 → ([8, 49, 10, 42] : List Nat)[i]? = [8, 49, 10, 42][j]? → i = j := by decide
    exact hn i (hb i hi) j (hb j hj) (hi.trans hj.symm)
  · intro j q k hq hk
    match j, hk with
    | 0, hk => cases hk; exact okG_all (fun j v => gof_no rfl) _
    | 1, hk => cases hk; exact okG_all (fun j v => gof_no rfl) _
    | 2, hk => cases hk; exact okG_all (fun j v => gof_no rfl) _
    | 3, hk => cases hk; exact okG_all (fun j v => gof_no rfl) _
    | j + 4, hk => cases hk
