/-- cell by cell: each is of its kind -/
def thp (kt : List sgK) (tys : List (ClassId × FieldType)) (ad ks : List Nat) : va_W → List Nat → Prop
  | [], [] => True
  | q :: ws, k :: ks' => (∃ K : sgK, kt[k]? = some K ∧ okE ad ks tys K q.2) ∧ thp kt tys ad ks ws ks'
  | _, _ => False
theorem thp_at {kt : List sgK} {tys : List (ClassId × FieldType)} {ad ks : List Nat} : ∀ {ws : va_W} {ks' : List Nat}, thp kt tys ad ks ws ks' → ∀ (j : Nat) (q : Nat × va_E) (k : Nat), ws[j]? = some q → ks'[j]? = some k → ∃ K : sgK, kt[k]? = some K ∧ okE ad ks tys K q.2
  | [], [], _, j, q, k, h1, _ => by simp at h1
  | q0 :: ws, k0 :: ks', h, 0, q, k, h1, h2 => by
    cases h1
    cases h2
    exact h.1
  | q0 :: ws, k0 :: ks', h, j + 1, q, k, h1, h2 => thp_at h.2 j q k h1 h2
theorem thp_nil {kt : List sgK} {tys : List (ClassId × FieldType)} {ad ks : List Nat} : thp kt tys ad ks [] [] := trivial
theorem thp_cons {kt : List sgK} {tys : List (ClassId × FieldType)} {ad ks : List Nat} {ws : va_W} {ks' : List Nat} {q : Nat × va_E} {k : Nat} (K : sgK) (h1 : kt[k]? = some K) (h2 : okE ad ks tys K q.2) (t : thp kt tys ad ks ws ks') : thp kt tys ad ks (q :: ws) (k :: ks') := ⟨⟨K, h1, h2⟩, t⟩
theorem TH_of {kt : List sgK} {tys : List (ClassId × FieldType)} {ad ks : List Nat} {ws : va_W} (h1 : ws.map Prod.fst = ad) (h2 : ad.length = ks.length) (h : thp kt tys ad ks ws ks) : TH kt tys ad ks ws := ⟨h1, h2, thp_at h⟩
def okl (ad ks : List Nat) : List sgT → List Value → Prop
  | [], [] => True
  | t :: ts, v :: vs => okV ad ks t v ∧ okl ad ks ts vs
  | _, _ => False
theorem okl_at {ad ks : List Nat} : ∀ {ts : List sgT} {vs : List Value}, okl ad ks ts vs → vs.length = ts.length ∧ ∀ (j : Nat) (t : sgT) (v : Value), ts[j]? = some t → vs[j]? = some v → okV ad ks t v
  | [], [], _ => ⟨rfl, fun j t v h1 _ => by simp at h1⟩
  | t0 :: ts, v0 :: vs, h => by
    obtain ⟨h1, h2⟩ := okl_at h.2
    refine ⟨by simp [h1], fun j t v e1 e2 => ?_⟩
    cases j with
    | zero =>
      cases e1
      cases e2
      exact h.1
    | succ j => exact h2 j t v e1 e2
theorem okE_o {ad ks : List Nat} {tys : List (ClassId × FieldType)} {ci : Nat} {ts : List sgT} {vs : List Value} (h : okl ad ks ts vs) : okE ad ks tys (.inl (ci, ts)) (.inr (ci, vs)) := ⟨rfl, (okl_at h).1, (okl_at h).2⟩
theorem okE_i {ad ks : List Nat} {tys : List (ClassId × FieldType)} {n : Nat} {ty : FieldType} {el : Nat → sgT} {cA : ClassId} {f : Nat → Int32} (hm : (cA, ty) ∈ tys) (ht : ty = .int ∨ ty = .byte ∨ ty = .boolean) (h : ∀ i : Nat, i < n → okV ad ks (el i) (.int (f i))) : okE ad ks tys (.inr (n, ty, el)) (.inl (cA, n, .inl f)) := ⟨rfl, hm, h, ht⟩
theorem okE_l {ad ks : List Nat} {tys : List (ClassId × FieldType)} {n : Nat} {el : Nat → sgT} {cA : ClassId} {f : Nat → Int64} (hm : (cA, .long) ∈ tys) (h : ∀ i : Nat, i < n → okV ad ks (el i) (.long (f i))) : okE ad ks tys (.inr (n, .long, el)) (.inl (cA, n, .inr (.inl f))) := ⟨rfl, hm, h, rfl⟩
theorem okE_q {ad ks : List Nat} {tys : List (ClassId × FieldType)} {n : Nat} {C : String} {el : Nat → sgT} {cA : ClassId} {f : Nat → Option Nat} (hm : (cA, .object C) ∈ tys) (h : ∀ i : Nat, i < n → okV ad ks (el i) (va_rf (f i))) : okE ad ks tys (.inr (n, .object C, el)) (.inl (cA, n, .inr (.inr (.inr (.inr f))))) := ⟨rfl, hm, h, C, rfl⟩
theorem okv_c {ad ks : List Nat} (x : Int32) {a b : Int} (hd : decide (a ≤ x.toInt ∧ x.toInt ≤ b) = true) : okV ad ks (.inl (a, b)) (.int x) := ⟨_, rfl, iv_c x hd⟩
theorem okv_z {ad ks : List Nat} {a b : Int} (h1 : a ≤ 0) (h2 : 0 ≤ b) : okV ad ks (.inl (a, b)) (.int 0) := ⟨0, rfl, by rw [show (0 : Int32).toInt = 0 from rfl]; exact h1, by rw [show (0 : Int32).toInt = 0 from rfl]; exact h2⟩
theorem okv_r {ad ks : List Nat} {a k : Nat} {n : Bool} (h : isK ad ks k a) : okV ad ks (.inr (.inl (n, k))) (.ref a) := Or.inr ⟨_, rfl, h⟩
theorem okv_n {ad ks : List Nat} {k : Nat} : okV ad ks (.inr (.inl (true, k))) .null := Or.inl ⟨rfl, rfl⟩
theorem okv_l {ad ks : List Nat} (x : Int64) : okV ad ks (.inr (.inr false)) (.long x) := ⟨_, rfl⟩
theorem okv_t {ad ks : List Nat} (v : Value) : okV ad ks (.inr (.inr true)) v := trivial
theorem upq_0 {ad ks : List Nat} {t : sgT} {f : Nat → Option Nat} : ∀ i : Nat, i < 0 → okV ad ks t (va_rf (f i)) := fun i h => absurd h (Nat.not_lt_zero i)
theorem upq {ad ks : List Nat} {t : sgT} {f : Nat → Option Nat} {n a : Nat} {j : Int32} (h : ∀ i : Nat, i < n → okV ad ks t (va_rf (f i))) (hj : j.toNatClampNeg = n) (ha : okV ad ks t (.ref a)) : ∀ i : Nat, i < n + 1 → okV ad ks t (va_rf (va_up f j.toNatClampNeg (some a) i)) := by
  intro i hi
  by_cases e : i = j.toNatClampNeg
  · subst e
    rw [va_up_self]
    exact ha
  · rw [va_up_ne _ _ e]
    exact h i (by omega)
/-- what the parameters are of two new objects -/
def p0 : sgPm := (false, false, false, 0, false, 0, 0, 0, 0, 0, 0, fun _ => 8256, fun _ => 0, fun _ => 0, fun _ => 0, 0, none, fun _ => 0, 0, fun _ => 0, 0, fun _ => .inl (0, 0))
theorem va_P_of {D : va_G} {cl : List vw_C} {w1 w2 : va_W} {H : Heap} (h : va_P D cl (w1 ++ w2) H) : va_P D cl w1 H ∧ va_P D cl w2 H := by
  refine ⟨fun k q hk => ?_, fun k q hk => ?_⟩
  · exact h k q (by rw [List.getElem?_append_left (List.getElem?_eq_some_iff.mp hk).1]; exact hk)
  · exact h (w1.length + k) q (by rw [List.getElem?_append_right (by omega), Nat.add_sub_cancel_left]; exact hk)
theorem va_D_of {A : Nat → Prop} {w1 w2 : va_W} (h : va_D A (w1 ++ w2)) : va_D A w1 ∧ va_D A w2 ∧ ∀ (i j : Nat) (p q : Nat × va_E), w1[i]? = some p → w2[j]? = some q → p.1 ≠ q.1 := by
  have l : ∀ (i : Nat) (p : Nat × va_E), w1[i]? = some p → (w1 ++ w2)[i]? = some p := fun i p hi => by rw [List.getElem?_append_left (List.getElem?_eq_some_iff.mp hi).1]; exact hi
  have r : ∀ (j : Nat) (p : Nat × va_E), w2[j]? = some p → (w1 ++ w2)[w1.length + j]? = some p := fun j p hj => by rw [List.getElem?_append_right (by omega), Nat.add_sub_cancel_left]; exact hj
  refine ⟨⟨fun i j p q hi hj e => h.1 i j p q (l i p hi) (l j q hj) e, fun k q hk => h.2 k q (l k q hk)⟩, ⟨fun i j p q hi hj e => ?_, fun k q hk => h.2 _ q (r k q hk)⟩, fun i j p q hi hj e => ?_⟩
  · have := h.1 _ _ p q (r i p hi) (r j q hj) e
    omega
  · have := h.1 _ _ p q (l i p hi) (r j q hj) e
    have := (List.getElem?_eq_some_iff.mp hi).1
    omega
theorem va_join2 {A0 : Nat → Prop} {D : va_G} {cl : List vw_C} {w1 w2 : va_W} {a : Nat} {e : va_E} {H H1 : Heap} (hP : va_P D cl (w1 ++ [(a, e)]) H) (hD : va_D A0 (w1 ++ [(a, e)])) (hk : ∀ q : Nat, q < H.size → ¬ va_A [(a, e)] H.size q → H1[q]? = H[q]?) (hF : ∀ q, va_A [(a, e)] H.size q → A0 q) (hP2 : va_P D cl w2 H1) (hD2 : va_D (va_A [(a, e)] H.size) w2) : va_P D cl (w1 ++ w2) H1 ∧ va_D A0 (w1 ++ w2) := by
  obtain ⟨p1, p2⟩ := va_P_of hP
  obtain ⟨d1, d2, d3⟩ := va_D_of hD
  have ap : ∀ (k : Nat) (x : Nat × va_E), w1[k]? = some x → x.1 < H.size ∧ ¬ va_A [(a, e)] H.size x.1 := fun k x hx => by
    have hlt := (p1 k x hx).lt
    refine ⟨hlt, fun h => ?_⟩
    rcases h with ⟨k', e', h'⟩ | h'
    · exact d3 k k' x _ hx h' rfl
    · omega
  exact ⟨(p1.kept fun k x hx => hk x.1 (ap k x hx).1 (ap k x hx).2).app hP2, d1.app (hD2.weaken fun k q hq h => hF _ h) (fun i j p q hi hj he => (ap i p hi).2 (by rw [he]; exact hD2.2 j q hj))⟩
theorem va_free1 {A0 : Nat → Prop} {a : Nat} {e : va_E} {H0 H : Heap} {locs : List Loc} (hD : va_D A0 [(a, e)]) (hS : va_S A0 H0 H locs) (hA : ∀ q, H0.size ≤ q → A0 q) : ∀ q, va_A [(a, e)] H.size q → A0 q := fun q h => by
  rcases h with ⟨k, e', h⟩ | h
  · exact hD.2 k (q, e') h
  · exact hA q (Nat.le_trans hS.1 h)
theorem isK_l {ad1 ks1 ad2 ks2 : List Nat} {k a : Nat} (h : isK ad1 ks1 k a) : isK (ad1 ++ ad2) (ks1 ++ ks2) k a := by
  obtain ⟨j, h1, h2⟩ := h
  exact ⟨j, by rw [List.getElem?_append_left (List.getElem?_eq_some_iff.mp h1).1]; exact h1, by rw [List.getElem?_append_left (List.getElem?_eq_some_iff.mp h2).1]; exact h2⟩
theorem isK_r {ad1 ks1 ad2 ks2 : List Nat} {k a : Nat} (hl : ad1.length = ks1.length) (h : isK ad2 ks2 k a) : isK (ad1 ++ ad2) (ks1 ++ ks2) k a := by
  obtain ⟨j, h1, h2⟩ := h
  exact ⟨ad1.length + j, by rw [List.getElem?_append_right (by omega), Nat.add_sub_cancel_left]; exact h1, by rw [hl, List.getElem?_append_right (by omega), Nat.add_sub_cancel_left]; exact h2⟩
theorem TH_apps {kt : List sgK} {t1 t2 : List (ClassId × FieldType)} {k1 k2 : List Nat} {w1 w2 : va_W} (h1 : TH kt t1 (w1.map Prod.fst) k1 w1) (h2 : TH kt t2 (w2.map Prod.fst) k2 w2) : TH kt (t1 ++ t2) ((w1 ++ w2).map Prod.fst) (k1 ++ k2) (w1 ++ w2) := by
  have l1 : w1.length = k1.length := by rw [← h1.2.1, List.length_map]
  have l2 : w2.length = k2.length := by rw [← h2.2.1, List.length_map]
  refine ⟨rfl, by simp [l1, l2], fun j x k' e1 e2 => ?_⟩
  rw [List.map_append]
  by_cases hj : j < w1.length
  · rw [List.getElem?_append_left hj] at e1
    rw [List.getElem?_append_left (by omega)] at e2
    obtain ⟨K, e3, e4⟩ := h1.2.2 j x k' e1 e2
    exact ⟨K, e3, okE_mo (fun k a h => isK_l h) (fun y hy => List.mem_append_left _ hy) e4⟩
  · rw [List.getElem?_append_right (by omega)] at e1 e2
    rw [← l1] at e2
    obtain ⟨K, e3, e4⟩ := h2.2.2 _ x k' e1 e2
    exact ⟨K, e3, okE_mo (fun k a h => isK_r h1.2.1 h) (fun y hy => List.mem_append_right _ hy) e4⟩
def sgOnce (k : Nat) : List Nat → Bool
  | [] => true
  | x :: l => if x = k then !(l.contains k) else sgOnce k l
theorem sgOnce_at {k : Nat} : ∀ {l : List Nat}, sgOnce k l = true → ∀ i j : Nat, l[i]? = some k → l[j]? = some k → i = j
  | [], _, i, j, hi, _ => by simp at hi
  | x :: l, h, i, j, hi, hj => by
    unfold sgOnce at h
    by_cases hx : x = k
    · rw [if_pos hx] at h
      have hn : k ∉ l := by simpa using h
      cases i with
      | zero => cases j with
        | zero => rfl
        | succ j => exact absurd (List.mem_of_getElem? (show l[j]? = some k from hj)) hn
      | succ i => exact absurd (List.mem_of_getElem? (show l[i]? = some k from hi)) hn
    · rw [if_neg hx] at h
      cases i with
      | zero => exact absurd (Option.some.inj hi) hx
      | succ i => cases j with
        | zero => exact absurd (Option.some.inj hj) hx
        | succ j => rw [sgOnce_at h i j hi hj]
theorem sgU_of {ks : List Nat} (h : ∀ k ∈ [2, 8, 10, 11, 12, 16, 42, 45, 49, 50, 51, 52, 53, 54], sgOnce k ks = true) : sgU ks := fun k hk i j hi hj => sgOnce_at (h k hk) i j hi hj
/-- a new object with all that it made, typed: its cells are of the kinds KS, itself the first -/
def sgNew (KS : List Nat) (D : va_G) (x : Nat) (A : Nat → Prop) (t : State) : Prop := ∃ (ws : va_W) (tys : List (ClassId × FieldType)), va_P D vwCl ws t.heap ∧ va_K D vwCl tys t ∧ va_D A ws ∧ TH (KT p0) tys (ws.map Prod.fst) KS ws ∧ (ws.map Prod.fst)[0]? = some x
/-- what is held by address of a new object: the LAWN at hand, its rules, the spare one, its rules; the games, their moves -/
def gm0 (G R S T : Nat) (L M : List Nat) : Nat → sgT := fun i => if i = 0 then .inr (.inl (false, G)) else if i = 1 then .inr (.inl (false, R)) else if i = 2 then .inr (.inl (false, S)) else if i = 3 then .inr (.inl (false, T)) else if i = 7 then .inr (.inr true) else if i = 14 then .inr (.inr true) else if 40 ≤ i ∧ i < 45 then .inr (.inl (false, L.getD (i - 40) 0)) else if 50 ≤ i ∧ i < 55 then .inr (.inl (false, M.getD (i - 50) 0)) else .inl (0, 0)
theorem gm0_o {G R S T i : Nat} {L M : List Nat} (h : 15 ≤ i) : gm0 G R S T L M i = if 40 ≤ i ∧ i < 45 then .inr (.inl (false, L.getD (i - 40) 0)) else if 50 ≤ i ∧ i < 55 then .inr (.inl (false, M.getD (i - 50) 0)) else .inl (0, 0) := by
  unfold gm0
  rw [if_neg (by omega), if_neg (by omega), if_neg (by omega), if_neg (by omega), if_neg (by omega), if_neg (by omega)]
theorem gm0_i {G R S T i : Nat} {L M : List Nat} (h : 15 ≤ i) : gI (gm0 G R S T L M) i = 0 := by
  unfold gI
  rw [gm0_o h]
  by_cases c : 40 ≤ i ∧ i < 45
  · simp only [if_pos c]
  · by_cases d : 50 ≤ i ∧ i < 55
    · simp only [if_neg c, if_pos d]
    · simp only [if_neg c, if_neg d]
theorem gm0_9 {G R S T : Nat} {L M : List Nat} : gI (gm0 G R S T L M) 9 = 0 := rfl
theorem gm0_gi {G R S T : Nat} {L M : List Nat} (h1 : G ≠ S) (h2 : R ≠ T) : sgGi (gm0 G R S T L M) := ⟨rfl, rfl, ⟨h1, h2⟩, rfl⟩
theorem gm0_G {G R S T j : Nat} {L M : List Nat} (h : j < 5) : gG (gm0 G R S T L M) j = L.getD j 0 := by
  unfold gG gA
  rw [gm0_o (by omega)]
  simp only [if_pos (show 40 ≤ 40 + j ∧ 40 + j < 45 from ⟨by omega, by omega⟩), Nat.add_sub_cancel_left]
theorem gm0_M {G R S T j : Nat} {L M : List Nat} (h : j < 5) : gM (gm0 G R S T L M) j = M.getD j 0 := by
  unfold gM gA
  rw [gm0_o (by omega)]
  simp only [if_neg (show ¬ (40 ≤ 50 + j ∧ 50 + j < 45) from fun z => by omega), if_pos (show 50 ≤ 50 + j ∧ 50 + j < 55 from ⟨by omega, by omega⟩), Nat.add_sub_cancel_left]
theorem gm0_T {G R S T j : Nat} {L M : List Nat} : gTo (gm0 G R S T L M) j = false := by
  unfold gTo gB
  rw [gm0_o (by omega)]
  simp only [if_neg (show ¬ (40 ≤ 70 + j ∧ 70 + j < 45) from fun z => by omega), if_neg (show ¬ (50 ≤ 70 + j ∧ 70 + j < 55) from fun z => by omega)]
theorem gm0_gg {G R S T : Nat} {L M : List Nat} (h : ∀ i j : Nat, i < 6 → j < 6 → i ≠ j → L.getD i 0 ≠ L.getD j 0 ∧ M.getD i 0 ≠ M.getD j 0) : sgGg (gm0 G R S T L M) 0 := by
  refine ⟨fun i j hi hj hne => ?_, fun j hj => ?_⟩
  · rw [gm0_G hi, gm0_G hj, gm0_M hi, gm0_M hj]
    exact h i j (by omega) (by omega) hne
  · rw [gm0_T]
    exact ⟨fun z => Bool.noConfusion z, fun z => absurd z (Nat.not_lt_zero j)⟩
/-- cell by cell: each holds what it must -/
def ghp (g : Nat → sgT) : va_W → List Nat → Prop
  | [], [] => True
  | q :: ws, k :: ks => okG (sgGo g k q.1) q.2 ∧ ghp g ws ks
  | _, _ => False
theorem ghp_nil {g : Nat → sgT} : ghp g [] [] := trivial
theorem ghp_cons {g : Nat → sgT} {ws : va_W} {ks : List Nat} {q : Nat × va_E} {k : Nat} (h : okG (sgGo g k q.1) q.2) (t : ghp g ws ks) : ghp g (q :: ws) (k :: ks) := ⟨h, t⟩
theorem ghp_at {g : Nat → sgT} : ∀ {ws : va_W} {ks : List Nat}, ghp g ws ks → ∀ (j : Nat) (q : Nat × va_E) (k : Nat), ws[j]? = some q → ks[j]? = some k → okG (sgGo g k q.1) q.2
  | [], [], _, j, q, k, h1, _ => by simp at h1
  | q0 :: ws, k0 :: ks, h, 0, q, k, h1, h2 => by
    cases h1
    cases h2
    exact h.1
  | q0 :: ws, k0 :: ks, h, j + 1, q, k, h1, h2 => ghp_at h.2 j q k h1 h2
theorem ghp_no {g : Nat → sgT} {a k : Nat} {e : va_E} (h : k ≠ 11 ∧ k ≠ 4 ∧ k ≠ 21 ∧ k ≠ 44 ∧ k ≠ 3 ∧ k ≠ 20) : okG (sgGo g k a) e := okG_all (fun j v => go_no (sgS_no h)) e
theorem ghp_11 {G R S T a ci : Nat} {L M : List Nat} {fs : List Value} (h1 : fs[10]? = some (.ref G)) (h2 : fs[11]? = some (.ref S)) : okG (sgGo (gm0 G R S T L M) 11 a) (.inr (ci, fs)) := by
  intro i v h
  have h : fs[i]? = some v := h
  by_cases e1 : i = 10
  · subst e1
    cases h1.symm.trans h
    exact go_g fun _ => rfl
  · by_cases e2 : i = 11
    · subst e2
      cases h2.symm.trans h
      exact go_s fun _ => rfl
    · exact go_no (sgS_11 e1 e2)
theorem ghp_4 {g : Nat → sgT} {a r ci : Nat} {fs : List Value} (h1 : fs[0]? = some (.ref r)) (h2 : fs[5]? = some (.int 0)) (hr : go4r g a (.ref r)) (h9 : gI g 9 = 0) : okG (sgGo g 4 a) (.inr (ci, fs)) := by
  intro i v h
  have h : fs[i]? = some v := h
  by_cases e1 : i = 0
  · subst e1
    cases h1.symm.trans h
    exact go_r hr
  · by_cases e2 : i = 5
    · subst e2
      cases h2.symm.trans h
      exact go_c fun _ => ⟨0, rfl, h9.symm⟩
    · exact go_no (sgS_4 e1 e2)
theorem ghp_21 {G R S T a n : Nat} {L M : List Nat} {cA : ClassId} : okG (sgGo (gm0 G R S T L M) 21 a) (.inl (cA, n, .inl (fun _ => 0))) := by
  intro i v h
  obtain ⟨-, rfl⟩ : i < n ∧ v = .int 0 := h
  exact go_e fun _ => ⟨0, rfl, (gm0_i (by omega)).symm⟩
theorem ghp_44 {G R S T a : Nat} {L M : List Nat} {cA : ClassId} {f : Nat → Option Nat} (h : ∀ i : Nat, i < 5 → f i = some (L.getD i 0)) : okG (sgGo (gm0 G R S T L M) 44 a) (.inl (cA, 5, .inr (.inr (.inr (.inr f))))) := by
  intro i v hv
  obtain ⟨hi, rfl⟩ : i < 5 ∧ v = va_rf (f i) := hv
  refine go_h fun hj => ?_
  rw [gm0_G hj, h i hj]
  rfl
theorem gsh_0 {f : Nat → Option Nat} {L : List Nat} : ∀ i : Nat, i < 0 → f i = some (L.getD i 0) := fun i h => absurd h (Nat.not_lt_zero i)
theorem gsh_s {f : Nat → Option Nat} {n a : Nat} {j : Int32} {L : List Nat} (h : ∀ i : Nat, i < n → f i = some (L.getD i 0)) (hj : j.toNatClampNeg = n) (ha : L.getD n 0 = a) : ∀ i : Nat, i < n + 1 → va_up f j.toNatClampNeg (some a) i = some (L.getD i 0) := by
  intro i hi
  by_cases e : i = j.toNatClampNeg
  · subst e
    rw [va_up_self, hj, ha]
  · rw [va_up_ne _ _ e]
    exact h i (by omega)
theorem ghp_3 {G R S T a c ci : Nat} {L M : List Nat} {fs : List Value} (hc : c < 6) (hL : ∀ i j : Nat, i < 6 → j < 6 → i ≠ j → L.getD i 0 ≠ L.getD j 0 ∧ M.getD i 0 ≠ M.getD j 0) (ha : L.getD c 0 = a) (h0 : fs[0]? = some (.ref (M.getD c 0))) : okG (sgGo (gm0 G R S T L M) 3 a) (.inr (ci, fs)) := by
  intro i v h
  have h : fs[i]? = some v := h
  by_cases e1 : i = 0
  · subst e1
    cases h0.symm.trans h
    refine go_m fun j hj e => ?_
    rw [gm0_G hj] at e
    rw [gm0_M hj]
    by_cases q : c = j
    · rw [q]
    · exact absurd (ha.trans e) (hL c j hc (by omega) q).1
  · by_cases e2 : i = 1
    · subst e2
      refine go_k fun j hj ht => ?_
      rw [gm0_T] at ht
      cases ht
    · exact go_no (sgS_3 e1 e2)
theorem ghp_20 {G R S T a n : Nat} {L M : List Nat} {e : va_E} : okG (sgGo (gm0 G R S T L M) 20 a) e := okG_all (fun j v => go_v fun m hm ht => by
  rw [gm0_T] at ht
  cases ht) e
theorem lists_ne {A : Nat → Prop} {ws : va_W} (hD : va_D A ws) {L I : List Nat} (h : ∀ i : Nat, i < 6 → ∃ e : va_E, ws[I.getD i 0]? = some (L.getD i 0, e)) (hI : ∀ i : Nat, i < 6 → ∀ j : Nat, j < 6 → I.getD i 0 = I.getD j 0 → i = j) : ∀ i j : Nat, i < 6 → j < 6 → i ≠ j → L.getD i 0 ≠ L.getD j 0 := by
  intro i j hi hj hne e
  obtain ⟨e1, h1⟩ := h i hi
  obtain ⟨e2, h2⟩ := h j hj
  exact hne (hI i hi j hj (hD.1 _ _ _ _ h1 h2 e))
theorem TH_gh {g : Nat → sgT} {tys : List (ClassId × FieldType)} {ad ks : List Nat} {ws : va_W} (h67 : 67 ∉ ks) (h : TH (KT p0) tys ad ks ws) : TH (KT (sgGh p0 g)) tys ad ks ws := by
  refine ⟨h.1, h.2.1, fun j q k h1 h2 => ?_⟩
  obtain ⟨K, e1, e2⟩ := h.2.2 j q k h1 h2
  exact ⟨K, (KT_but67 (B := p0) sgGh_67 sgS67_rf k (fun e => h67 (e ▸ List.mem_of_getElem? h2))).trans e1, e2⟩
/-- what is held by address, of the whole world -/
theorem GH_0 {g : Nat → sgT} {ks1 ks2 : List Nat} {ws1 ws2 : va_W} (h : ghp g ws1 ks1) (hl : ws1.length = ks1.length) (h2 : ∀ k ∈ ks2, k ≠ 11 ∧ k ≠ 4 ∧ k ≠ 21 ∧ k ≠ 44 ∧ k ≠ 3 ∧ k ≠ 20) : GH (KT (sgGh p0 g)) (ks1 ++ ks2) (ws1 ++ ws2) := by
  intro j q k e1 e2
  rw [show gof (KT (sgGh p0 g)) k q.1 = sgGo g k q.1 from by rw [gof_KT, sgGm_Gh]]
  by_cases hj : j < ws1.length
  · rw [List.getElem?_append_left hj] at e1
    rw [List.getElem?_append_left (by omega)] at e2
    exact ghp_at h j q k e1 e2
  · rw [List.getElem?_append_right (by omega)] at e1 e2
    exact ghp_no (h2 k (List.mem_of_getElem? e2))
/-- a new object of the class, likewise, with what is held by address -/
def sgNewX (KS : List Nat) (D : va_G) (x : Nat) (A : Nat → Prop) (t : State) : Prop := ∃ (ws : va_W) (tys : List (ClassId × FieldType)) (G R S T : Nat) (L M : List Nat), va_P D vwCl ws t.heap ∧ va_K D vwCl tys t ∧ va_D A ws ∧ TH (KT p0) tys (ws.map Prod.fst) KS ws ∧ (ws.map Prod.fst)[0]? = some x ∧ G ≠ S ∧ R ≠ T ∧ (∀ i j : Nat, i < 6 → j < 6 → i ≠ j → L.getD i 0 ≠ L.getD j 0 ∧ M.getD i 0 ≠ M.getD j 0) ∧ ghp (gm0 G R S T L M) ws KS
def KSX : List Nat := [11, 10, 42, 43, 44, 6, 29, 30, 31, 32, 3, 20, 6, 29, 30, 31, 32, 3, 20, 6, 29, 30, 31, 32, 3, 20, 6, 29, 30, 31, 32, 3, 20, 6, 29, 30, 31, 32, 3, 20, 9, 5, 26, 27, 9, 28, 9, 9, 9, 9, 9, 9, 9, 9, 9, 9, 9, 9, 9, 9, 9, 9, 9, 9, 9, 9, 9, 9, 9, 9, 9, 9, 9, 9, 9, 9, 9, 9, 9, 9, 9, 9, 9, 9, 9, 9, 4, 21, 22, 23, 24, 25, 4, 21, 22, 23, 24, 25, 8, 36, 37, 38, 39, 40, 41, 7, 33, 34, 35, 3, 20, 9, 9, 9, 9, 0, 2, 15, 16, 17, 1, 13, 14]
def KSM : List Nat := [12, 45, 46, 47, 48, 49, 50, 51, 52, 53, 54, 55, 56, 57, 58, 59, 60, 61, 62, 63, 64, 65]
theorem sgU_0 : sgU ((KSX ++ KSM) ++ [66]) := sgU_of (by decide +kernel)
theorem sg67_0 : 67 ∉ (KSX ++ KSM) ++ [66] := by decide +kernel
theorem sgM_0 : ∀ k ∈ KSM ++ [66], k ≠ 11 ∧ k ≠ 4 ∧ k ≠ 21 ∧ k ≠ 44 ∧ k ≠ 3 ∧ k ≠ 20 := by decide +kernel
