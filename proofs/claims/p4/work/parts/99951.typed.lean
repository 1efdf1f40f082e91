/-- cell by cell: each is of its kind -/
def thp (kt : List sgK) (tys : List (ClassId × FieldType)) (ad ks : List Nat) : va_W → List Nat → Prop
  | [], [] => True
  | q :: ws, k :: ks' => (∃ K : sgK, kt[k]? = some K ∧ okE ad ks tys K q.2) ∧ thp kt tys ad ks ws ks'
  | _, _ => False
theorem thp_at {kt : List sgK} {tys : List (ClassId × FieldType)} {ad ks : List Nat} : ∀ {ws : va_W} {ks' : List Nat}, thp kt tys ad ks ws ks' → ∀ (j : Nat) (q : Nat × va_E) (k : Nat), ws[j]? = some q → ks'[j]? = some k → ∃ K : sgK, kt[k]? = some K ∧ okE ad ks tys K q.2
  | [], [], _, j, q, k, h1, _ => by simp at h1
  | q0 :: ws, k0 :: ks', h, 0, q, k, h1, h2 => by
    cases h1
    cases h2
    exact h.1
  | q0 :: ws, k0 :: ks', h, j + 1, q, k, h1, h2 => thp_at h.2 j q k h1 h2
theorem thp_nil {kt : List sgK} {tys : List (ClassId × FieldType)} {ad ks : List Nat} : thp kt tys ad ks [] [] := trivial
theorem thp_cons {kt : List sgK} {tys : List (ClassId × FieldType)} {ad ks : List Nat} {ws : va_W} {ks' : List Nat} {q : Nat × va_E} {k : Nat} (K : sgK) (h1 : kt[k]? = some K) (h2 : okE ad ks tys K q.2) (t : thp kt tys ad ks ws ks') : thp kt tys ad ks (q :: ws) (k :: ks') := ⟨⟨K, h1, h2⟩, t⟩
theorem TH_of {kt : List sgK} {tys : List (ClassId × FieldType)} {ad ks : List Nat} {ws : va_W} (h1 : ws.map Prod.fst = ad) (h2 : ad.length = ks.length) (h : thp kt tys ad ks ws ks) : TH kt tys ad ks ws := ⟨h1, h2, thp_at h⟩
def okl (ad ks : List Nat) : List sgT → List Value → Prop
  | [], [] => True
  | t :: ts, v :: vs => okV ad ks t v ∧ okl ad ks ts vs
  | _, _ => False
theorem okl_at {ad ks : List Nat} : ∀ {ts : List sgT} {vs : List Value}, okl ad ks ts vs → vs.length = ts.length ∧ ∀ (j : Nat) (t : sgT) (v : Value), ts[j]? = some t → vs[j]? = some v → okV ad ks t v
  | [], [], _ => ⟨rfl, fun j t v h1 _ => by simp at h1⟩
  | t0 :: ts, v0 :: vs, h => by
    obtain ⟨h1, h2⟩ := okl_at h.2
    refine ⟨by simp [h1], fun j t v e1 e2 => ?_⟩
    cases j with
    | zero =>
      cases e1
      cases e2
      exact h.1
    | succ j => exact h2 j t v e1 e2
theorem okE_o {ad ks : List Nat} {tys : List (ClassId × FieldType)} {ci : Nat} {ts : List sgT} {vs : List Value} (h : okl ad ks ts vs) : okE ad ks tys (.inl (ci, ts)) (.inr (ci, vs)) := ⟨rfl, (okl_at h).1, (okl_at h).2⟩
theorem okE_i {ad ks : List Nat} {tys : List (ClassId × FieldType)} {n : Nat} {ty : FieldType} {el : Nat → sgT} {cA : ClassId} {f : Nat → Int32} (hm : (cA, ty) ∈ tys) (ht : ty = .int ∨ ty = .byte ∨ ty = .boolean) (h : ∀ i : Nat, i < n → okV ad ks (el i) (.int (f i))) : okE ad ks tys (.inr (n, ty, el)) (.inl (cA, n, .inl f)) := ⟨rfl, hm, h, ht⟩
theorem okE_l {ad ks : List Nat} {tys : List (ClassId × FieldType)} {n : Nat} {el : Nat → sgT} {cA : ClassId} {f : Nat → Int64} (hm : (cA, .long) ∈ tys) (h : ∀ i : Nat, i < n → okV ad ks (el i) (.long (f i))) : okE ad ks tys (.inr (n, .long, el)) (.inl (cA, n, .inr (.inl f))) := ⟨rfl, hm, h, rfl⟩
theorem okE_q {ad ks : List Nat} {tys : List (ClassId × FieldType)} {n : Nat} {C : String} {el : Nat → sgT} {cA : ClassId} {f : Nat → Option Nat} (hm : (cA, .object C) ∈ tys) (h : ∀ i : Nat, i < n → okV ad ks (el i) (va_rf (f i))) : okE ad ks tys (.inr (n, .object C, el)) (.inl (cA, n, .inr (.inr (.inr (.inr f))))) := ⟨rfl, hm, h, C, rfl⟩
theorem okv_c {ad ks : List Nat} (x : Int32) {a b : Int} (hd : decide (a ≤ x.toInt ∧ x.toInt ≤ b) = true) : okV ad ks (.inl (a, b)) (.int x) := ⟨_, rfl, iv_c x hd⟩
theorem okv_z {ad ks : List Nat} {a b : Int} (h1 : a ≤ 0) (h2 : 0 ≤ b) : okV ad ks (.inl (a, b)) (.int 0) := ⟨0, rfl, by rw [show (0 : Int32).toInt = 0 from rfl]; exact h1, by rw [show (0 : Int32).toInt = 0 from rfl]; exact h2⟩
theorem okv_r {ad ks : List Nat} {a k : Nat} {n : Bool} (h : isK ad ks k a) : okV ad ks (.inr (.inl (n, k))) (.ref a) := Or.inr ⟨_, rfl, h⟩
theorem okv_n {ad ks : List Nat} {k : Nat} : okV ad ks (.inr (.inl (true, k))) .null := Or.inl ⟨rfl, rfl⟩
theorem okv_l {ad ks : List Nat} (x : Int64) : okV ad ks (.inr (.inr false)) (.long x) := ⟨_, rfl⟩
theorem okv_t {ad ks : List Nat} (v : Value) : okV ad ks (.inr (.inr true)) v := trivial
theorem upq_0 {ad ks : List Nat} {t : sgT} {f : Nat → Option Nat} : ∀ i : Nat, i < 0 → okV ad ks t (va_rf (f i)) := fun i h => absurd h (Nat.not_lt_zero i)
theorem upq {ad ks : List Nat} {t : sgT} {f : Nat → Option Nat} {n a : Nat} {j : Int32} (h : ∀ i : Nat, i < n → okV ad ks t (va_rf (f i))) (hj : j.toNatClampNeg = n) (ha : okV ad ks t (.ref a)) : ∀ i : Nat, i < n + 1 → okV ad ks t (va_rf (va_up f j.toNatClampNeg (some a) i)) := by
  intro i hi
  by_cases e : i = j.toNatClampNeg
  · subst e
    rw [va_up_self]
    exact ha
  · rw [va_up_ne _ _ e]
    exact h i (by omega)
/-- what the parameters are of two new objects -/
def p0 : sgPm := (false, false, false, 0, false, 0, 0, 0, 0, 0, 0, fun _ => 8256, fun _ => 0, fun _ => 0, 0, 0, none, fun _ => 0, 0, fun _ => 0, 0)
theorem va_P_of {D : va_G} {cl : List vw_C} {w1 w2 : va_W} {H : Heap} (h : va_P D cl (w1 ++ w2) H) : va_P D cl w1 H ∧ va_P D cl w2 H := by
  refine ⟨fun k q hk => ?_, fun k q hk => ?_⟩
  · exact h k q (by rw [List.getElem?_append_left (List.getElem?_eq_some_iff.mp hk).1]; exact hk)
  · exact h (w1.length + k) q (by rw [List.getElem?_append_right (by omega), Nat.add_sub_cancel_left]; exact hk)
theorem va_D_of {A : Nat → Prop} {w1 w2 : va_W} (h : va_D A (w1 ++ w2)) : va_D A w1 ∧ va_D A w2 ∧ ∀ (i j : Nat) (p q : Nat × va_E), w1[i]? = some p → w2[j]? = some q → p.1 ≠ q.1 := by
  have l : ∀ (i : Nat) (p : Nat × va_E), w1[i]? = some p → (w1 ++ w2)[i]? = some p := fun i p hi => by rw [List.getElem?_append_left (List.getElem?_eq_some_iff.mp hi).1]; exact hi
  have r : ∀ (j : Nat) (p : Nat × va_E), w2[j]? = some p → (w1 ++ w2)[w1.length + j]? = some p := fun j p hj => by rw [List.getElem?_append_right (by omega), Nat.add_sub_cancel_left]; exact hj
  refine ⟨⟨fun i j p q hi hj e => h.1 i j p q (l i p hi) (l j q hj) e, fun k q hk => h.2 k q (l k q hk)⟩, ⟨fun i j p q hi hj e => ?_, fun k q hk => h.2 _ q (r k q hk)⟩, fun i j p q hi hj e => ?_⟩
  · have := h.1 _ _ p q (r i p hi) (r j q hj) e
    omega
  · have := h.1 _ _ p q (l i p hi) (r j q hj) e
    have := (List.getElem?_eq_some_iff.mp hi).1
    omega
theorem va_join2 {A0 : Nat → Prop} {D : va_G} {cl : List vw_C} {w1 w2 : va_W} {a : Nat} {e : va_E} {H H1 : Heap} (hP : va_P D cl (w1 ++ [(a, e)]) H) (hD : va_D A0 (w1 ++ [(a, e)])) (hk : ∀ q : Nat, q < H.size → ¬ va_A [(a, e)] H.size q → H1[q]? = H[q]?) (hF : ∀ q, va_A [(a, e)] H.size q → A0 q) (hP2 : va_P D cl w2 H1) (hD2 : va_D (va_A [(a, e)] H.size) w2) : va_P D cl (w1 ++ w2) H1 ∧ va_D A0 (w1 ++ w2) := by
  obtain ⟨p1, p2⟩ := va_P_of hP
  obtain ⟨d1, d2, d3⟩ := va_D_of hD
  have ap : ∀ (k : Nat) (x : Nat × va_E), w1[k]? = some x → x.1 < H.size ∧ ¬ va_A [(a, e)] H.size x.1 := fun k x hx => by
    have hlt := (p1 k x hx).lt
    refine ⟨hlt, fun h => ?_⟩
    rcases h with ⟨k', e', h'⟩ | h'
    · exact d3 k k' x _ hx h' rfl
    · omega
  exact ⟨(p1.kept fun k x hx => hk x.1 (ap k x hx).1 (ap k x hx).2).app hP2, d1.app (hD2.weaken fun k q hq h => hF _ h) (fun i j p q hi hj he => (ap i p hi).2 (by rw [he]; exact hD2.2 j q hj))⟩
theorem va_free1 {A0 : Nat → Prop} {a : Nat} {e : va_E} {H0 H : Heap} {locs : List Loc} (hD : va_D A0 [(a, e)]) (hS : va_S A0 H0 H locs) (hA : ∀ q, H0.size ≤ q → A0 q) : ∀ q, va_A [(a, e)] H.size q → A0 q := fun q h => by
  rcases h with ⟨k, e', h⟩ | h
  · exact hD.2 k (q, e') h
  · exact hA q (Nat.le_trans hS.1 h)
theorem isK_l {ad1 ks1 ad2 ks2 : List Nat} {k a : Nat} (h : isK ad1 ks1 k a) : isK (ad1 ++ ad2) (ks1 ++ ks2) k a := by
  obtain ⟨j, h1, h2⟩ := h
  exact ⟨j, by rw [List.getElem?_append_left (List.getElem?_eq_some_iff.mp h1).1]; exact h1, by rw [List.getElem?_append_left (List.getElem?_eq_some_iff.mp h2).1]; exact h2⟩
theorem isK_r {ad1 ks1 ad2 ks2 : List Nat} {k a : Nat} (hl : ad1.length = ks1.length) (h : isK ad2 ks2 k a) : isK (ad1 ++ ad2) (ks1 ++ ks2) k a := by
  obtain ⟨j, h1, h2⟩ := h
  exact ⟨ad1.length + j, by rw [List.getElem?_append_right (by omega), Nat.add_sub_cancel_left]; exact h1, by rw [hl, List.getElem?_append_right (by omega), Nat.add_sub_cancel_left]; exact h2⟩
theorem TH_apps {kt : List sgK} {t1 t2 : List (ClassId × FieldType)} {k1 k2 : List Nat} {w1 w2 : va_W} (h1 : TH kt t1 (w1.map Prod.fst) k1 w1) (h2 : TH kt t2 (w2.map Prod.fst) k2 w2) : TH kt (t1 ++ t2) ((w1 ++ w2).map Prod.fst) (k1 ++ k2) (w1 ++ w2) := by
  have l1 : w1.length = k1.length := by rw [← h1.2.1, List.length_map]
  have l2 : w2.length = k2.length := by rw [← h2.2.1, List.length_map]
  refine ⟨rfl, by simp [l1, l2], fun j x k' e1 e2 => ?_⟩
  rw [List.map_append]
  by_cases hj : j < w1.length
  · rw [List.getElem?_append_left hj] at e1
    rw [List.getElem?_append_left (by omega)] at e2
    obtain ⟨K, e3, e4⟩ := h1.2.2 j x k' e1 e2
    exact ⟨K, e3, okE_mo (fun k a h => isK_l h) (fun y hy => List.mem_append_left _ hy) e4⟩
  · rw [List.getElem?_append_right (by omega)] at e1 e2
    rw [← l1] at e2
    obtain ⟨K, e3, e4⟩ := h2.2.2 _ x k' e1 e2
    exact ⟨K, e3, okE_mo (fun k a h => isK_r h1.2.1 h) (fun y hy => List.mem_append_right _ hy) e4⟩
def sgOnce (k : Nat) : List Nat → Bool
  | [] => true
  | x :: l => if x = k then !(l.contains k) else sgOnce k l
theorem sgOnce_at {k : Nat} : ∀ {l : List Nat}, sgOnce k l = true → ∀ i j : Nat, l[i]? = some k → l[j]? = some k → i = j
  | [], _, i, j, hi, _ => by simp at hi
  | x :: l, h, i, j, hi, hj => by
    unfold sgOnce at h
    by_cases hx : x = k
    · rw [if_pos hx] at h
      have hn : k ∉ l := by simpa using h
      cases i with
      | zero => cases j with
        | zero => rfl
        | succ j => exact absurd (List.mem_of_getElem? (show l[j]? = some k from hj)) hn
      | succ i => exact absurd (List.mem_of_getElem? (show l[i]? = some k from hi)) hn
    · rw [if_neg hx] at h
      cases i with
      | zero => exact absurd (Option.some.inj hi) hx
      | succ i => cases j with
        | zero => exact absurd (Option.some.inj hj) hx
        | succ j => rw [sgOnce_at h i j hi hj]
theorem sgU_of {ks : List Nat} (h : ∀ k ∈ [2, 8, 10, 11, 12, 16, 42, 45, 49, 50, 51, 52, 53, 54], sgOnce k ks = true) : sgU ks := fun k hk i j hi hj => sgOnce_at (h k hk) i j hi hj
/-- a new object with all that it made, typed: its cells are of the kinds KS, itself the first -/
def sgNew (KS : List Nat) (D : va_G) (x : Nat) (A : Nat → Prop) (t : State) : Prop := ∃ (ws : va_W) (tys : List (ClassId × FieldType)), va_P D vwCl ws t.heap ∧ va_K D vwCl tys t ∧ va_D A ws ∧ TH (KT p0) tys (ws.map Prod.fst) KS ws ∧ (ws.map Prod.fst)[0]? = some x
def KSX : List Nat := [11, 10, 42, 43, 44, 6, 29, 30, 31, 32, 3, 20, 6, 29, 30, 31, 32, 3, 20, 6, 29, 30, 31, 32, 3, 20, 6, 29, 30, 31, 32, 3, 20, 6, 29, 30, 31, 32, 3, 20, 9, 5, 26, 27, 9, 28, 9, 9, 9, 9, 9, 9, 9, 9, 9, 9, 9, 9, 9, 9, 9, 9, 9, 9, 9, 9, 9, 9, 9, 9, 9, 9, 9, 9, 9, 9, 9, 9, 9, 9, 9, 9, 9, 9, 9, 9, 4, 21, 22, 23, 24, 25, 4, 21, 22, 23, 24, 25, 8, 36, 37, 38, 39, 40, 41, 7, 33, 34, 35, 3, 20, 9, 9, 9, 9, 0, 2, 15, 16, 17, 1, 13, 14]
def KSM : List Nat := [12, 45, 46, 47, 48, 49, 50, 51, 52, 53, 54, 55, 56, 57, 58, 59, 60, 61, 62, 63, 64, 65]
theorem sgU_0 : sgU ((KSX ++ KSM) ++ [66]) := sgU_of (by decide +kernel)
