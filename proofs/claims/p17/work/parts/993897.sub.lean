/-- two contracts of a method at one start: the run is one -/
theorem sg_both {l : Launch} {y : MethodName} {ws : List Cond} {rm : Room} {P1 : Array Value → State → Prop} {Q1 X1 : Array Value → State → Outcome → State → Prop} {mc ms : Nat} {f1 f2 : Addr → Prop} (h1 : Met l y ws rm P1 Q1 mc ms f1) (h2 : ∀ (args : Array Value) (s : State), P1 args s → ∃ (P2 : Array Value → State → Prop) (Q2 : Array Value → State → Outcome → State → Prop), Met l y ws rm P2 Q2 mc ms f2 ∧ P2 args s ∧ ∀ (o : Outcome) (t : State), Q2 args s o t → X1 args s o t) : Met l y ws rm P1 (fun a s o t => Q1 a s o t ∧ X1 a s o t) mc ms f1 := by
  intro p e he hf hc s m args below hs ha hp hk
  obtain ⟨P2, Q2, hM, hp2, hX⟩ := h2 args s hp
  obtain ⟨n, o, a1, a2, a3, a4, a5⟩ := h1 p e he hf hc s m args below hs ha hp trivial
  obtain ⟨n', o', b1, b2, b3, b4, b5⟩ := hM p e he hf hc s m args below hs ha hp2 trivial
  obtain ⟨hn, ho⟩ := Jvm.the_end_unique a1 a3 b1 b3
  subst hn
  subst ho
  exact ⟨n, o, a1, a2, a3, ⟨a4, hX _ _ b4⟩, a5⟩
theorem sg_rf {ad ks : List Nat} {tys : List (ClassId × FieldType)} {ci c' : Nat} {fts : List sgT} {fs : List Value} (ho : okE ad ks tys (.inl (ci, fts)) (.inr (c', fs))) (i k : Nat) (h : fts[i]? = some (.inr (.inl (false, k)))) : ∃ a : Nat, fs[i]? = some (.ref a) ∧ isK ad ks k a := by
  obtain ⟨h1, h2, h3⟩ := ho
  have h2 : fs.length = fts.length := h2
  have hl : i < fs.length := by
    rw [h2]
    exact (List.getElem?_eq_some_iff.mp h).1
  have hv : fs[i]? = some fs[i] := List.getElem?_eq_getElem hl
  rcases h3 i _ _ h hv with ⟨z, -⟩ | ⟨a, e, ha⟩
  · cases z
  · exact ⟨a, by rw [hv, e], ha⟩
theorem okE_int2 {ad ks ad' ks' : List Nat} {tys : List (ClassId × FieldType)} {n : Nat} {el el' : Nat → sgT} {e : va_E} (hsm : ∀ (j : Nat) (v : Int32), okV ad ks (el j) (.int v) → okV ad' ks' (el' j) (.int v)) (h : okE ad ks tys (.inr (n, .int, el)) e) : okE ad' ks' tys (.inr (n, .int, el')) e := by
  match e, h with
  | .inl (c, n1, .inl f), ⟨h1, h2, h3, h4⟩ => exact ⟨h1, h2, fun i hi => hsm i _ (h3 i hi), h4⟩
  | .inl (c, n1, .inr (.inl f)), ⟨h1, h2, h3, h4⟩ => cases h4
  | .inl (c, n1, .inr (.inr (.inl f))), ⟨h1, h2, h3, h4⟩ => exact (show False from h3).elim
  | .inl (c, n1, .inr (.inr (.inr (.inl f)))), ⟨h1, h2, h3, h4⟩ => exact (show False from h3).elim
  | .inl (c, n1, .inr (.inr (.inr (.inr f)))), ⟨h1, h2, h3, h4⟩ => obtain ⟨C, hz⟩ := h4; cases hz
  | .inr q, h => exact (show False from h).elim
theorem okV_top {ad ks : List Nat} {x : Int32} : okV ad ks (.inl zTop) (.int x) := ⟨x, rfl, iv_top x⟩
/-- the small world: the Ground that is read, its arrays, the tape, its bytes -/
theorem sg_subw {D : va_G} {A : Nat → Prop} {tys : List (ClassId × FieldType)} {ad ks : List Nat} {H : Heap} {P : sgPm} (hG : sgG (KT P) D vwCl A tys ad ks H) {x t : Nat} (hx : isK ad ks 4 x) (ht : isK ad ks 10 t) : ∃ ad' ks' : List Nat, isK ad' ks' 2 x ∧ isK ad' ks' 10 t ∧ sgG (KG 0 240 (-2147483648) 2147483647 sgZ0g P) D vwCl A tys ad' ks' H := by
  obtain ⟨ws, hP, hD, hT, hU⟩ := hG
  obtain ⟨jx, ex, Kx, wx, kx, kkx, ox⟩ := hx.in hT
  obtain ⟨jt, et, Kt, wt, kt, kkt, ot⟩ := ht.in hT
  obtain rfl : KK4 P = Kx := Option.some.inj ((show (KT P)[4]? = some (KK4 P) from rfl).symm.trans kkx)
  obtain rfl : KK10 P = Kt := Option.some.inj ((show (KT P)[10]? = some (KK10 P) from rfl).symm.trans kkt)
  obtain ⟨cx, fx, rfl⟩ : ∃ (c : Nat) (f : List Value), ex = .inr (c, f) := by
    cases ex with
    | inl q => exact (show False from ox).elim
    | inr q => exact ⟨q.1, q.2, rfl⟩
  obtain ⟨ct, ft, rfl⟩ : ∃ (c : Nat) (f : List Value), et = .inr (c, f) := by
    cases et with
    | inl q => exact (show False from ot).elim
    | inr q => exact ⟨q.1, q.2, rfl⟩
  obtain ⟨r0, f0, i0⟩ := sg_rf ox 0 21 rfl
  obtain ⟨r1, f1, i1⟩ := sg_rf ox 1 22 rfl
  obtain ⟨r2, f2, i2⟩ := sg_rf ox 2 23 rfl
  obtain ⟨r3, f3, i3⟩ := sg_rf ox 3 24 rfl
  obtain ⟨r4, f4, i4⟩ := sg_rf ox 4 25 rfl
  obtain ⟨rb, fb, ib⟩ := sg_rf ot 0 42 rfl
  obtain ⟨j0, e0, K0, w0, k0, kk0, o0⟩ := i0.in hT
  obtain ⟨j1, e1, K1, w1, k1, kk1, o1⟩ := i1.in hT
  obtain ⟨j2, e2, K2, w2, k2, kk2, o2⟩ := i2.in hT
  obtain ⟨j3, e3, K3, w3, k3, kk3, o3⟩ := i3.in hT
  obtain ⟨j4, e4, K4, w4, k4, kk4, o4⟩ := i4.in hT
  obtain ⟨jb, eb, Kb, wb, kb, kkb, ob⟩ := ib.in hT
  obtain rfl : KK21 P = K0 := Option.some.inj ((show (KT P)[21]? = some (KK21 P) from rfl).symm.trans kk0)
  obtain rfl : KK22 P = K1 := Option.some.inj ((show (KT P)[22]? = some (KK22 P) from rfl).symm.trans kk1)
  obtain rfl : KK23 P = K2 := Option.some.inj ((show (KT P)[23]? = some (KK23 P) from rfl).symm.trans kk2)
  obtain rfl : KK24 P = K3 := Option.some.inj ((show (KT P)[24]? = some (KK24 P) from rfl).symm.trans kk3)
  obtain rfl : KK25 P = K4 := Option.some.inj ((show (KT P)[25]? = some (KK25 P) from rfl).symm.trans kk4)
  obtain rfl : KK42 P = Kb := Option.some.inj ((show (KT P)[42]? = some (KK42 P) from rfl).symm.trans kkb)
  obtain ⟨cx1, cx2, cx3⟩ := ox
  obtain ⟨ct1, ct2, ct3⟩ := ot
  refine ⟨[x, r0, r1, r2, r3, r4, t, rb], [2, 50, 54, 51, 52, 53, 10, 42], ⟨0, rfl, rfl⟩, ⟨6, rfl, rfl⟩, [(x, .inr (cx, fx)), (r0, e0), (r1, e1), (r2, e2), (r3, e3), (r4, e4), (t, .inr (ct, ft)), (rb, eb)], ?_, ?_, ⟨rfl, rfl, ?_⟩, ?_, ?_⟩
  · intro k q hq
    match k, hq with
    | 0, hq => cases hq; exact hP _ _ wx
    | 1, hq => cases hq; exact hP _ _ w0
    | 2, hq => cases hq; exact hP _ _ w1
    | 3, hq => cases hq; exact hP _ _ w2
    | 4, hq => cases hq; exact hP _ _ w3
    | 5, hq => cases hq; exact hP _ _ w4
    | 6, hq => cases hq; exact hP _ _ wt
    | 7, hq => cases hq; exact hP _ _ wb
    | k + 8, hq => cases hq
  · have hall : ∀ (k : Nat) (q : Nat × va_E), [((x, .inr (cx, fx)) : Nat × va_E), (r0, e0), (r1, e1), (r2, e2), (r3, e3), (r4, e4), (t, .inr (ct, ft)), (rb, eb)][k]? = some q → k < 8 ∧ ∃ j : Nat, ws[j]? = some q ∧ ks[j]? = some ([4, 21, 22, 23, 24, 25, 10, 42].getD k 0) := by
      intro k q hq
      match k, hq with
      | 0, hq => cases hq; exact ⟨by decide, jx, wx, kx⟩
      | 1, hq => cases hq; exact ⟨by decide, j0, w0, k0⟩
      | 2, hq => cases hq; exact ⟨by decide, j1, w1, k1⟩
      | 3, hq => cases hq; exact ⟨by decide, j2, w2, k2⟩
      | 4, hq => cases hq; exact ⟨by decide, j3, w3, k3⟩
      | 5, hq => cases hq; exact ⟨by decide, j4, w4, k4⟩
      | 6, hq => cases hq; exact ⟨by decide, jt, wt, kt⟩
      | 7, hq => cases hq; exact ⟨by decide, jb, wb, kb⟩
      | k + 8, hq => cases hq
    have hn : ∀ i : Nat, i < 8 → ∀ j : Nat, j < 8 → [4, 21, 22, 23, 24, 25, 10, 42].getD i 0 = [4, 21, 22, 23, 24, 25, 10, 42].getD j 0 → i = j := by decide
    refine ⟨fun i j p q hp hq hpq => ?_, fun k q hq => ?_⟩
    · obtain ⟨li, ji, wi, ki⟩ := hall i p hp
      obtain ⟨lj, jj, wj, kj⟩ := hall j q hq
      have hj := hD.1 ji jj p q wi wj hpq
      subst hj
      exact hn i li j lj (Option.some.inj (ki.symm.trans kj))
    · obtain ⟨lk, j, wj, kj⟩ := hall k q hq
      exact hD.2 j q wj
  · intro j q k hq hk
    match j, hq, hk with
    | 0, hq, hk =>
      cases hq
      cases hk
      refine ⟨KK2g sgZ0g, rfl, cx1, cx2, fun j t v ht hv => ?_⟩
      match j, ht with
      | 0, ht => cases ht; cases f0.symm.trans hv; exact Or.inr ⟨r0, rfl, 1, rfl, rfl⟩
      | 1, ht => cases ht; cases f1.symm.trans hv; exact Or.inr ⟨r1, rfl, 2, rfl, rfl⟩
      | 2, ht => cases ht; cases f2.symm.trans hv; exact Or.inr ⟨r2, rfl, 3, rfl, rfl⟩
      | 3, ht => cases ht; cases f3.symm.trans hv; exact Or.inr ⟨r3, rfl, 4, rfl, rfl⟩
      | 4, ht => cases ht; cases f4.symm.trans hv; exact Or.inr ⟨r4, rfl, 5, rfl, rfl⟩
      | 5, ht => cases ht; exact cx3 5 _ v rfl hv
      | 6, ht => cases ht; exact cx3 6 _ v rfl hv
      | 7, ht => cases ht; exact cx3 7 _ v rfl hv
      | 8, ht => cases ht; exact cx3 8 _ v rfl hv
      | 9, ht =>
        cases ht
        obtain ⟨y, g1, -⟩ := cx3 9 _ v rfl hv
        exact ⟨y, g1, iv_top y⟩
      | 10, ht => cases ht; exact cx3 10 _ v rfl hv
      | 11, ht =>
        cases ht
        obtain ⟨y, g1, g2, g3⟩ := cx3 11 _ v rfl hv
        exact ⟨y, g1, Int.max_le.mpr ⟨g2, (iv_top y).1⟩, Int.le_min.mpr ⟨g3, (iv_top y).2⟩⟩
      | 12, ht =>
        cases ht
        obtain ⟨y, g1, g2, g3⟩ := cx3 12 _ v rfl hv
        exact ⟨y, g1, Int.max_le.mpr ⟨g2, (iv_top y).1⟩, Int.le_min.mpr ⟨g3, (iv_top y).2⟩⟩
      | 13, ht => cases ht; exact cx3 13 _ v rfl hv
      | 14, ht => cases ht; exact cx3 14 _ v rfl hv
      | j + 15, ht => cases ht
    | 1, hq, hk => cases hq; cases hk; exact ⟨_, rfl, okE_int2 (fun j v _ => okV_top) o0⟩
    | 2, hq, hk => cases hq; cases hk; exact ⟨_, rfl, okE_int2 (fun j v _ => ⟨v, rfl, iv_top v⟩) o1⟩
    | 3, hq, hk => cases hq; cases hk; exact ⟨_, rfl, okE_int2 (fun j v _ => okV_top) o2⟩
    | 4, hq, hk => cases hq; cases hk; exact ⟨_, rfl, okE_int2 (fun j v _ => okV_top) o3⟩
    | 5, hq, hk => cases hq; cases hk; exact ⟨_, rfl, okE_int2 (fun j v _ => okV_top) o4⟩
    | 6, hq, hk =>
      cases hq
      cases hk
      refine ⟨KK10a 0 240 (-2147483648) 2147483647 P, rfl, ct1, ct2, fun j t v ht hv => ?_⟩
      match j, ht with
      | 0, ht => cases ht; cases fb.symm.trans hv; exact Or.inr ⟨rb, rfl, 7, rfl, rfl⟩
      | 1, ht => cases ht; exact ct3 1 _ v rfl hv
      | 2, ht => cases ht; exact ct3 2 _ v rfl hv
      | 3, ht => cases ht; exact ct3 3 _ v rfl hv
      | j + 4, ht => cases ht
    | 7, hq, hk => cases hq; cases hk; exact ⟨_, rfl, okE_int2 (ad := ad) (ks := ks) (el := sg_tp (sgT1 P)) (fun j v h => h) ob⟩
    | j + 8, hq, hk => cases hq
  · intro k hk i j hi hj
    have hb : ∀ i : Nat, ([2, 50, 54, 51, 52, 53, 10, 42] : List Nat)[i]? = some k → i < 8 := fun i h => (List.getElem?_eq_some_iff.mp h).1
    have hn : ∀ i : Nat, i < 8 → ∀ j : Nat, j < 8 → ([2, 50, 54, 51, 52, 53, 10, 42] : List Nat)[i]? = [2, 50, 54, 51, 52, 53, 10, 42][j]? → i = j := by decide
    exact hn i (hb i hi) j (hb j hj) (hi.trans hj.symm)
  · intro j q k hq hk
    match j, hk with
    | 0, hk => cases hk; exact okG_all (fun j v => gof_no rfl) _
    | 1, hk => cases hk; exact okG_all (fun j v => gof_no rfl) _
    | 2, hk => cases hk; exact okG_all (fun j v => gof_no rfl) _
    | 3, hk => cases hk; exact okG_all (fun j v => gof_no rfl) _
    | 4, hk => cases hk; exact okG_all (fun j v => gof_no rfl) _
    | 5, hk => cases hk; exact okG_all (fun j v => gof_no rfl) _
    | 6, hk => cases hk; exact okG_all (fun j v => gof_no rfl) _
    | 7, hk => cases hk; exact okG_all (fun j v => gof_no rfl) _
    | j + 8, hk => cases hk
