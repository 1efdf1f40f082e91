section SGR
variable {p : Program} {l : Launch} {e : Env} {R : Room} {s : State} {m : MethodId} {args : Array Value} {below : List Frame} {meth : Method} {c : Code} {H : Heap} {locs : List Loc} {cells slots : Nat} {Q : State → Prop}
variable {cc : ByteArray} {nL pc : Nat} {ls : Array Slot} {rest : List Value} {own : String} {kt : List sgK} {D : va_G} {cl : List vw_C} {A : Nat → Prop} {a : Nat} {tys : List (ClassId × FieldType)} {ad ks : List Nat} {H0 : Heap}
theorem sg_get (X : CallFix p m c cc nL s args sg_tbl own) (hK : va_K D cl tys s) (hG : sgG kt D cl A tys ad ks H) {k : Nat} (ha : isK ad ks k a) {ci : Nat} {fts : List sgT} (hk : kt[k]? = some (.inl (ci, fts))) {C : String} {T : u_T} {N : Nat} (hc : cl[ci]? = some (C, T, N)) (hin : ∀ w ∈ u_ws C T N, w ∈ sg_tbl) (j : Nat) (hj : j < N) {t : sgT} (ht : fts[j]? = some t) {ref : String} {index : Nat} (hlink : Cond.fieldLink own index ref (T j).2.1 (T j).2.2.1 ∈ sg_tbl) (hsame : ∀ x, s.fieldFound? (T j).1 (T j).2.1 (T j).2.2.1 = some x → s.fieldFound? ref (T j).2.1 (T j).2.2.1 = some x) (hdg : decode cc pc = .ok (.getfield index, 3))
    (kk : ∀ v : Value, okV ad ks t v → fld D H ci a j v → W p l e R s m args below meth c H locs cells slots Q (F0 m (pc + 3) ls (v :: rest))) : W p l e R s m args below meth c H locs cells slots Q (F0 m pc ls (.ref a :: rest)) := by
  obtain ⟨hx, hb, -, hown, hts⟩ := X
  obtain ⟨ws, hP, hD, hT, hU⟩ := hG
  obtain ⟨q0, en, K, hw, -, hK', hE⟩ := ha.in hT
  rw [hk] at hK'
  cases hK'
  cases en with
  | inl z => exact hE.elim
  | inr q =>
    obtain ⟨ci', fs⟩ := q
    obtain ⟨h1, h2, h3⟩ := hE
    dsimp only at h1 h2 h3
    subst h1
    have hlt : j < fts.length := (List.getElem?_eq_some_iff.mp ht).1
    have hjf : j < fs.length := by omega
    have hv : fs[j]? = some fs[j] := List.getElem?_eq_getElem hjf
    refine va_get hx hb hts hin hown hK hP q0 hw hc j hj (hts _ hlink) hsame hv hdg (kk _ (h3 j t _ ht hv) ?_)
    have h9 := fld_of (hP q0 _ hw) hc hj
    rwa [List.getD_eq_getElem?_getD, hv] at h9
theorem sg_getH (X : CallFix p m c cc nL s args sg_tbl own) (hK : va_K D cl tys s) (hG : sgG kt D cl A tys ad ks H) {k : Nat} (ha : isK ad ks k a) {ci : Nat} {fts : List sgT} (hk : kt[k]? = some (.inl (ci, fts))) {C : String} {T : u_T} {N : Nat} (hc : cl[ci]? = some (C, T, N)) (hin : ∀ w ∈ u_ws C T N, w ∈ sg_tbl) (j : Nat) (hj : j < N) {t : sgT} (ht : fts[j]? = some t) {ref : String} {index : Nat} (hlink : Cond.fieldLink own index ref (T j).2.1 (T j).2.2.1 ∈ sg_tbl) (hsame : ∀ x, s.fieldFound? (T j).1 (T j).2.1 (T j).2.2.1 = some x → s.fieldFound? ref (T j).2.1 (T j).2.2.1 = some x) (hdg : decode cc pc = .ok (.getfield index, 3))
    (kk : ∀ v : Value, okV ad ks t v → fld D H ci a j v → gof kt k a j v → W p l e R s m args below meth c H locs cells slots Q (F0 m (pc + 3) ls (v :: rest))) : W p l e R s m args below meth c H locs cells slots Q (F0 m pc ls (.ref a :: rest)) := by
  obtain ⟨hx, hb, -, hown, hts⟩ := X
  obtain ⟨ws, hP, hD, hT, hU⟩ := hG
  obtain ⟨q0, en, K, hw, hkq, hK', hE⟩ := ha.in hT
  rw [hk] at hK'
  cases hK'
  cases en with
  | inl z => exact hE.elim
  | inr q =>
    obtain ⟨ci', fs⟩ := q
    obtain ⟨h1, h2, h3⟩ := hE
    dsimp only at h1 h2 h3
    subst h1
    have hlt : j < fts.length := (List.getElem?_eq_some_iff.mp ht).1
    have hjf : j < fs.length := by omega
    have hv : fs[j]? = some fs[j] := List.getElem?_eq_getElem hjf
    refine va_get hx hb hts hin hown hK hP q0 hw hc j hj (hts _ hlink) hsame hv hdg (kk _ (h3 j t _ ht hv) ?_ (hU.2 q0 _ _ hw hkq j _ hv))
    have h9 := fld_of (hP q0 _ hw) hc hj
    rwa [List.getD_eq_getElem?_getD, hv] at h9
theorem sg_getf (X : CallFix p m c cc nL s args sg_tbl own) (hK : va_K D cl tys s) (hG : sgG kt D cl A tys ad ks H) {k : Nat} (ha : isK ad ks k a) {ci : Nat} {fts : List sgT} (hk : kt[k]? = some (.inl (ci, fts))) {C : String} {T : u_T} {N : Nat} (hc : cl[ci]? = some (C, T, N)) (hin : ∀ w ∈ u_ws C T N, w ∈ sg_tbl) (j : Nat) (hj : j < N) (hlt : j < fts.length) {ref : String} {index : Nat} (hlink : Cond.fieldLink own index ref (T j).2.1 (T j).2.2.1 ∈ sg_tbl) (hsame : ∀ x, s.fieldFound? (T j).1 (T j).2.1 (T j).2.2.1 = some x → s.fieldFound? ref (T j).2.1 (T j).2.2.1 = some x) {v : Value} (hf : fld D H ci a j v) (hdg : decode cc pc = .ok (.getfield index, 3))
    (kk : W p l e R s m args below meth c H locs cells slots Q (F0 m (pc + 3) ls (v :: rest))) : W p l e R s m args below meth c H locs cells slots Q (F0 m pc ls (.ref a :: rest)) :=
  sg_get X hK hG ha hk hc hin j hj (t := fts[j]) (List.getElem?_eq_getElem hlt) hlink hsame hdg fun v' _ hf' => by
    rw [fld_fun hf' hf]
    exact kk
theorem sg_put (X : CallFix p m c cc nL s args sg_tbl own) (hK : va_K D cl tys s) (hG : sgG kt D cl A tys ad ks H) (hS : va_S A H0 H locs) {k : Nat} (ha : isK ad ks k a) {ci : Nat} {fts : List sgT} (hk : kt[k]? = some (.inl (ci, fts))) {C : String} {T : u_T} {N : Nat} (hc : cl[ci]? = some (C, T, N)) (hin : ∀ w ∈ u_ws C T N, w ∈ sg_tbl) (ty0 : Nat → FieldType) (hty : ∀ k, k < N → parseFieldDescriptor (T k).2.2.1 = some (ty0 k)) (hnm : ∀ a, a < N → ∀ b, b < N → a ≠ b → (T a).2.1 ≠ (T b).2.1) (j : Nat) (hj : j < N) {t : sgT} (ht : fts[j]? = some t) {ref : String} {index : Nat} (hlink : Cond.fieldLink own index ref (T j).2.1 (T j).2.2.1 ∈ sg_tbl) (hsame : ∀ x, s.fieldFound? (T j).1 (T j).2.1 (T j).2.2.1 = some x → s.fieldFound? ref (T j).2.1 (T j).2.2.1 = some x) (hfin : (T j).2.2.2 = false) {ty : FieldType} {v : Value} (hd : parseFieldDescriptor (T j).2.2.1 = some ty) (hn : narrow ty v = v) (hfit : fits ty v = true) (hv : okV ad ks t v) (hdg : decode cc pc = .ok (.putfield index, 3))
    (kk : ∀ (H1 : Heap) (locs1 : List Loc), sgG kt D cl A tys ad ks H1 → va_S A H0 H1 locs1 → fld D H1 ci a j v → sgFr kt D cl ad ks H H1 (fun a' j' => a' = a ∧ j' = j) → W p l e R s m args below meth c H1 locs1 cells slots Q (F0 m (pc + 3) ls rest)) (hgo : gof kt k a j v := by exact gof_no rfl) : W p l e R s m args below meth c H locs cells slots Q (F0 m pc ls (v :: .ref a :: rest)) := by
  obtain ⟨hx, hb, -, hown, hts⟩ := X
  obtain ⟨ws, hP, hD, hT, hU⟩ := hG
  obtain ⟨q0, en, K, hw, hkq, hK', hE⟩ := ha.in hT
  rw [hk] at hK'
  cases hK'
  cases en with
  | inl z => exact hE.elim
  | inr q =>
    obtain ⟨ci', fs⟩ := q
    obtain ⟨h1, h2, h3⟩ := hE
    dsimp only at h1 h2 h3
    subst h1
    have hlt : j < fts.length := (List.getElem?_eq_some_iff.mp ht).1
    have hjf : j < fs.length := by omega
    refine va_put hx hb hts hin ty0 hty hnm hown hK hP hD hS q0 hw hc j hj (hts _ hlink) hsame hfin hd hn hfit hjf hdg fun H1 locs1 hP1 hD1 hS1 => ?_
    have hl0 := (List.getElem?_eq_some_iff.mp hw).1
    have hw1 : (ws.set q0 (a, (.inr (ci', fs.set j v) : va_E)))[q0]? = some (a, .inr (ci', fs.set j v)) := List.getElem?_set_self hl0
    refine kk H1 locs1 ⟨_, hP1, hD1, hT.set hw hkq hk ⟨rfl, ?_, fun i t' v' ht' hv' => ?_⟩, hU.1, hU.2.setF hw hkq hgo⟩ hS1 ?_ ?_
    · show (fs.set j v).length = _
      rw [List.length_set]
      exact h2
    · by_cases hi : i = j
      · subst hi
        rw [ht] at ht'
        cases ht'
        have hv2 : (fs.set i v)[i]? = some v' := hv'
        rw [List.getElem?_set_self hjf] at hv2
        cases hv2
        exact hv
      · have hv2 : (fs.set j v)[i]? = some v' := hv'
        rw [List.getElem?_set_ne (Ne.symm hi)] at hv2
        exact h3 i t' v' ht' hv2
    · have h9 := fld_of (hP1 q0 _ hw1) hc hj
      rwa [List.getD_eq_getElem?_getD, List.getElem?_set_self hjf] at h9
    · intro k2 ci2 a2 j2 fts2 r2 v2 ha2 hk2 hc2 hj2 hex hf2
      obtain ⟨q2, en2, K2, hw2, hkq2, hK2, hE2⟩ := ha2.in hT
      rw [hk2] at hK2
      cases hK2
      cases en2 with
      | inl z => exact hE2.elim
      | inr o =>
        obtain ⟨ci3, fs2⟩ := o
        obtain ⟨g1, -, -⟩ := hE2
        dsimp only at g1
        subst g1
        have o1 := fld_of (hP q2 _ hw2) hc2 hj2
        rw [fld_fun hf2 o1]
        by_cases hq : q2 = q0
        · subst hq
          rw [hw] at hw2
          cases hw2
          have hne : ¬ j2 = j := fun z => hex ⟨rfl, z⟩
          have o2 := fld_of (hP1 q2 _ hw1) hc2 hj2
          rwa [List.getD_eq_getElem?_getD, List.getElem?_set_ne (Ne.symm hne), ← List.getD_eq_getElem?_getD] at o2
        · have hw3 : (ws.set q0 (a, (.inr (ci', fs.set j v) : va_E)))[q2]? = some (a2, .inr (ci3, fs2)) := by rw [List.getElem?_set_ne (Ne.symm hq)]; exact hw2
          exact fld_of (hP1 q2 _ hw3) hc2 hj2
theorem sg_frA {ws : va_W} {H1 : Heap} (hP : va_P D cl ws H) (hT : TH kt tys ad ks ws) {q0 : Nat} {z z' : ClassId × vp_A} (hw : ws[q0]? = some (a, .inl z)) (hP1 : va_P D cl (ws.set q0 (a, .inl z')) H1) : sgFr kt D cl ad ks H H1 (fun _ _ => False) := by
  intro k2 ci2 a2 j2 fts2 r2 v2 ha2 hk2 hc2 hj2 hex hf2
  obtain ⟨q2, en2, K2, hw2, hkq2, hK2, hE2⟩ := ha2.in hT
  rw [hk2] at hK2
  cases hK2
  cases en2 with
  | inl z => exact hE2.elim
  | inr o =>
    obtain ⟨ci3, fs2⟩ := o
    obtain ⟨g1, -, -⟩ := hE2
    dsimp only at g1
    subst g1
    have o1 := fld_of (hP q2 _ hw2) hc2 hj2
    rw [fld_fun hf2 o1]
    by_cases hq : q2 = q0
    · subst hq
      rw [hw] at hw2
      cases hw2
    · have hw3 : (ws.set q0 (a, (.inl z' : va_E)))[q2]? = some (a2, .inr (ci3, fs2)) := by rw [List.getElem?_set_ne (Ne.symm hq)]; exact hw2
      exact fld_of (hP1 q2 _ hw3) hc2 hj2
/-- an array of a kind, taken out of the world -/
theorem sg_arr (hK : va_K D cl tys s) {ws : va_W} (hT : TH kt tys ad ks ws) {k : Nat} (ha : isK ad ks k a) {n : Nat} {ty : FieldType} {el : Nat → sgT} (hk : kt[k]? = some (.inr (n, ty, el))) :
    ∃ (q0 t0 : Nat) (cA : ClassId) (z : (Nat → Int32) ⊕ (Nat → Int64) ⊕ (Nat → UInt32) ⊕ (Nat → UInt64) ⊕ (Nat → Option Nat)), ws[q0]? = some (a, .inl (cA, n, z)) ∧ ks[q0]? = some k ∧ tys[t0]? = some (cA, ty) ∧ okA ad ks n el z ∧ (cA, ty) ∈ tys ∧ (match z with | .inl _ => ty = .int ∨ ty = .byte ∨ ty = .boolean | .inr (.inl _) => ty = .long | _ => ∃ C : String, ty = .object C) := by
  obtain ⟨q0, en, K, hw, hkq, hK', hE⟩ := ha.in hT
  rw [hk] at hK'
  cases hK'
  cases en with
  | inr z => exact hE.elim
  | inl q =>
    obtain ⟨cA, n', z⟩ := q
    obtain ⟨h1, h2, h3, h4⟩ := hE
    dsimp only at h1 h2 h3 h4
    subst h1
    obtain ⟨t0, ht0⟩ := List.getElem?_of_mem h2
    exact ⟨q0, t0, cA, z, hw, hkq, ht0, h3, h2, h4⟩
theorem sg_iald (X : CallFix p m c cc nL s args sg_tbl own) (hK : va_K D cl tys s) (hG : sgG kt D cl A tys ad ks H) {k : Nat} (ha : isK ad ks k a) {n : Nat} {el : Nat → sgT} (hk : kt[k]? = some (.inr (n, .int, el))) {i : Int32} (hin : vp_in i n) (hdg : decode cc pc = .ok (.iaload, 1))
    (kk : ∀ x : Int32, okV ad ks (el i.toNatClampNeg) (.int x) → W p l e R s m args below meth c H locs cells slots Q (F0 m (pc + 1) ls (.int x :: rest))) : W p l e R s m args below meth c H locs cells slots Q (F0 m pc ls (.int i :: .ref a :: rest)) := by
  obtain ⟨hx, hb, -, hown, hts⟩ := X
  obtain ⟨ws, hP, hD, hT, hU⟩ := hG
  obtain ⟨q0, t0, cA, z, hw, -, ht0, hok, -, hz⟩ := sg_arr hK hT ha hk
  match z, hw, hok, hz with
  | .inl f, hw, hok, hz => exact va_iald hx hb hK hP q0 t0 hw ht0 hin hdg (kk _ (hok _ (Nat.not_le.mp fun q => hin (Or.inr q))))
  | .inr (.inl f), hw, hok, hz => cases hz
  | .inr (.inr (.inl f)), hw, hok, hz => exact hok.elim
  | .inr (.inr (.inr (.inl f))), hw, hok, hz => exact hok.elim
  | .inr (.inr (.inr (.inr f))), hw, hok, hz => obtain ⟨C, hz⟩ := hz; cases hz
theorem sg_ialdH (X : CallFix p m c cc nL s args sg_tbl own) (hK : va_K D cl tys s) (hG : sgG kt D cl A tys ad ks H) {k : Nat} (ha : isK ad ks k a) {n : Nat} {el : Nat → sgT} (hk : kt[k]? = some (.inr (n, .int, el))) {i : Int32} (hin : vp_in i n) (hdg : decode cc pc = .ok (.iaload, 1))
    (kk : ∀ x : Int32, okV ad ks (el i.toNatClampNeg) (.int x) → gof kt k a i.toNatClampNeg (.int x) → W p l e R s m args below meth c H locs cells slots Q (F0 m (pc + 1) ls (.int x :: rest))) : W p l e R s m args below meth c H locs cells slots Q (F0 m pc ls (.int i :: .ref a :: rest)) := by
  obtain ⟨hx, hb, -, hown, hts⟩ := X
  obtain ⟨ws, hP, hD, hT, hU⟩ := hG
  obtain ⟨q0, t0, cA, z, hw, hkq, ht0, hok, -, hz⟩ := sg_arr hK hT ha hk
  match z, hw, hok, hz with
  | .inl f, hw, hok, hz => exact va_iald hx hb hK hP q0 t0 hw ht0 hin hdg (kk _ (hok _ (Nat.not_le.mp fun q => hin (Or.inr q))) (hU.2 q0 _ _ hw hkq _ _ ⟨Nat.not_le.mp fun q => hin (Or.inr q), rfl⟩))
  | .inr (.inl f), hw, hok, hz => cases hz
  | .inr (.inr (.inl f)), hw, hok, hz => exact hok.elim
  | .inr (.inr (.inr (.inl f))), hw, hok, hz => exact hok.elim
  | .inr (.inr (.inr (.inr f))), hw, hok, hz => obtain ⟨C, hz⟩ := hz; cases hz
def ele (H : Heap) (a i : Nat) (x : Int32) : Prop := ∃ cell : Cell, H[a]? = some cell ∧ cell.slots[i]? = some (.int x)
theorem ele_fun {H : Heap} {a i : Nat} {x y : Int32} (h : ele H a i x) (h' : ele H a i y) : x = y := by
  obtain ⟨c, h1, h2⟩ := h
  obtain ⟨c', h3, h4⟩ := h'
  cases h1.symm.trans h3
  cases h2.symm.trans h4
  rfl
theorem ele_of {D : va_G} {cl : List vw_C} {H : Heap} {a n i : Nat} {cA : ClassId} {f : Nat → Int32} (h : va_at D cl (a, .inl (cA, n, .inl f)) H) (hi : i < n) : ele H a i (f i) :=
  ⟨_, h, by show (arrV cA n (fun j => .int (f j))).slots[i]? = _; rw [arrV_read _ _ hi]⟩
theorem sg_ialdE (X : CallFix p m c cc nL s args sg_tbl own) (hK : va_K D cl tys s) (hG : sgG kt D cl A tys ad ks H) {k : Nat} (ha : isK ad ks k a) {n : Nat} {el : Nat → sgT} (hk : kt[k]? = some (.inr (n, .int, el))) {i : Int32} (hin : vp_in i n) {n0 : Nat} (hn : i.toNatClampNeg = n0) (hdg : decode cc pc = .ok (.iaload, 1))
    (kk : ∀ x : Int32, okV ad ks (el i.toNatClampNeg) (.int x) → ele H a n0 x → W p l e R s m args below meth c H locs cells slots Q (F0 m (pc + 1) ls (.int x :: rest))) : W p l e R s m args below meth c H locs cells slots Q (F0 m pc ls (.int i :: .ref a :: rest)) := by
  obtain ⟨hx, hb, -, hown, hts⟩ := X
  obtain ⟨ws, hP, hD, hT, hU⟩ := hG
  obtain ⟨q0, t0, cA, z, hw, -, ht0, hok, -, hz⟩ := sg_arr hK hT ha hk
  have hlt : i.toNatClampNeg < n := Nat.not_le.mp fun q => hin (Or.inr q)
  match z, hw, hok, hz with
  | .inl f, hw, hok, hz => exact va_iald hx hb hK hP q0 t0 hw ht0 hin hdg (kk _ (hok _ hlt) (by subst hn; exact ele_of (hP q0 _ hw) hlt))
  | .inr (.inl f), hw, hok, hz => cases hz
  | .inr (.inr (.inl f)), hw, hok, hz => exact hok.elim
  | .inr (.inr (.inr (.inl f))), hw, hok, hz => exact hok.elim
  | .inr (.inr (.inr (.inr f))), hw, hok, hz => obtain ⟨C, hz⟩ := hz; cases hz
theorem sg_ialdK (X : CallFix p m c cc nL s args sg_tbl own) (hK : va_K D cl tys s) (hG : sgG kt D cl A tys ad ks H) {k : Nat} (ha : isK ad ks k a) {n : Nat} {el : Nat → sgT} (hk : kt[k]? = some (.inr (n, .int, el))) {i : Int32} (hin : vp_in i n) {n0 : Nat} (hn : i.toNatClampNeg = n0) {x : Int32} (he : ele H a n0 x) (hdg : decode cc pc = .ok (.iaload, 1))
    (kk : W p l e R s m args below meth c H locs cells slots Q (F0 m (pc + 1) ls (.int x :: rest))) : W p l e R s m args below meth c H locs cells slots Q (F0 m pc ls (.int i :: .ref a :: rest)) :=
  sg_ialdE X hK hG ha hk hin hn hdg (fun y _ hy => by rw [ele_fun hy he]; exact kk)
theorem sg_bald (X : CallFix p m c cc nL s args sg_tbl own) (hK : va_K D cl tys s) (hG : sgG kt D cl A tys ad ks H) {k : Nat} (ha : isK ad ks k a) {n : Nat} {el : Nat → sgT} (hk : kt[k]? = some (.inr (n, .byte, el))) {i : Int32} (hin : vp_in i n) (hdg : decode cc pc = .ok (.baload, 1))
    (kk : ∀ x : Int32, okV ad ks (el i.toNatClampNeg) (.int x) → W p l e R s m args below meth c H locs cells slots Q (F0 m (pc + 1) ls (.int x :: rest))) : W p l e R s m args below meth c H locs cells slots Q (F0 m pc ls (.int i :: .ref a :: rest)) := by
  obtain ⟨hx, hb, -, hown, hts⟩ := X
  obtain ⟨ws, hP, hD, hT, hU⟩ := hG
  obtain ⟨q0, t0, cA, z, hw, -, ht0, hok, -, hz⟩ := sg_arr hK hT ha hk
  match z, hw, hok, hz with
  | .inl f, hw, hok, hz => exact va_bald hx hb hK hP q0 t0 hw ht0 hin hdg (kk _ (hok _ (Nat.not_le.mp fun q => hin (Or.inr q))))
  | .inr (.inl f), hw, hok, hz => cases hz
  | .inr (.inr (.inl f)), hw, hok, hz => exact hok.elim
  | .inr (.inr (.inr (.inl f))), hw, hok, hz => exact hok.elim
  | .inr (.inr (.inr (.inr f))), hw, hok, hz => obtain ⟨C, hz⟩ := hz; cases hz
theorem sg_zald (X : CallFix p m c cc nL s args sg_tbl own) (hK : va_K D cl tys s) (hG : sgG kt D cl A tys ad ks H) {k : Nat} (ha : isK ad ks k a) {n : Nat} {el : Nat → sgT} (hk : kt[k]? = some (.inr (n, .boolean, el))) {i : Int32} (hin : vp_in i n) (hdg : decode cc pc = .ok (.baload, 1))
    (kk : ∀ x : Int32, okV ad ks (el i.toNatClampNeg) (.int x) → W p l e R s m args below meth c H locs cells slots Q (F0 m (pc + 1) ls (.int x :: rest))) : W p l e R s m args below meth c H locs cells slots Q (F0 m pc ls (.int i :: .ref a :: rest)) := by
  obtain ⟨hx, hb, -, hown, hts⟩ := X
  obtain ⟨ws, hP, hD, hT, hU⟩ := hG
  obtain ⟨q0, t0, cA, z, hw, -, ht0, hok, -, hz⟩ := sg_arr hK hT ha hk
  match z, hw, hok, hz with
  | .inl f, hw, hok, hz => exact va_zald hx hb hK hP q0 t0 hw ht0 hin hdg (kk _ (hok _ (Nat.not_le.mp fun q => hin (Or.inr q))))
  | .inr (.inl f), hw, hok, hz => cases hz
  | .inr (.inr (.inl f)), hw, hok, hz => exact hok.elim
  | .inr (.inr (.inr (.inl f))), hw, hok, hz => exact hok.elim
  | .inr (.inr (.inr (.inr f))), hw, hok, hz => obtain ⟨C, hz⟩ := hz; cases hz
theorem sg_lald (X : CallFix p m c cc nL s args sg_tbl own) (hK : va_K D cl tys s) (hG : sgG kt D cl A tys ad ks H) {k : Nat} (ha : isK ad ks k a) {n : Nat} {el : Nat → sgT} (hk : kt[k]? = some (.inr (n, .long, el))) {i : Int32} (hin : vp_in i n) (hdg : decode cc pc = .ok (.laload, 1))
    (kk : ∀ x : Int64, W p l e R s m args below meth c H locs cells slots Q (F0 m (pc + 1) ls (.long x :: rest))) : W p l e R s m args below meth c H locs cells slots Q (F0 m pc ls (.int i :: .ref a :: rest)) := by
  obtain ⟨hx, hb, -, hown, hts⟩ := X
  obtain ⟨ws, hP, hD, hT, hU⟩ := hG
  obtain ⟨q0, t0, cA, z, hw, -, ht0, hok, -, hz⟩ := sg_arr hK hT ha hk
  match z, hw, hok, hz with
  | .inl f, hw, hok, hz => rcases hz with hz | hz | hz <;> cases hz
  | .inr (.inl f), hw, hok, hz => exact va_lald hx hb hK hP q0 t0 hw ht0 hin hdg (kk _)
  | .inr (.inr (.inl f)), hw, hok, hz => exact hok.elim
  | .inr (.inr (.inr (.inl f))), hw, hok, hz => exact hok.elim
  | .inr (.inr (.inr (.inr f))), hw, hok, hz => obtain ⟨C, hz⟩ := hz; cases hz
theorem sg_aald (X : CallFix p m c cc nL s args sg_tbl own) (hK : va_K D cl tys s) (hG : sgG kt D cl A tys ad ks H) {k : Nat} (ha : isK ad ks k a) {n : Nat} {C : String} {el : Nat → sgT} (hk : kt[k]? = some (.inr (n, .object C, el))) {i : Int32} (hin : vp_in i n) (hdg : decode cc pc = .ok (.aaload, 1))
    (kk : ∀ v : Value, okV ad ks (el i.toNatClampNeg) v → W p l e R s m args below meth c H locs cells slots Q (F0 m (pc + 1) ls (v :: rest))) : W p l e R s m args below meth c H locs cells slots Q (F0 m pc ls (.int i :: .ref a :: rest)) := by
  obtain ⟨hx, hb, -, hown, hts⟩ := X
  obtain ⟨ws, hP, hD, hT, hU⟩ := hG
  obtain ⟨q0, t0, cA, z, hw, -, ht0, hok, -, hz⟩ := sg_arr hK hT ha hk
  match z, hw, hok, hz with
  | .inl f, hw, hok, hz => rcases hz with hz | hz | hz <;> cases hz
  | .inr (.inl f), hw, hok, hz => cases hz
  | .inr (.inr (.inl f)), hw, hok, hz => exact hok.elim
  | .inr (.inr (.inr (.inl f))), hw, hok, hz => exact hok.elim
  | .inr (.inr (.inr (.inr f))), hw, hok, hz => exact va_aldq hx hb hK hP q0 t0 hw ht0 hin hdg (kk _ (hok _ (Nat.not_le.mp fun q => hin (Or.inr q))))
theorem sg_aaldH (X : CallFix p m c cc nL s args sg_tbl own) (hK : va_K D cl tys s) (hG : sgG kt D cl A tys ad ks H) {k : Nat} (ha : isK ad ks k a) {n : Nat} {C : String} {el : Nat → sgT} (hk : kt[k]? = some (.inr (n, .object C, el))) {i : Int32} (hin : vp_in i n) (hdg : decode cc pc = .ok (.aaload, 1))
    (kk : ∀ v : Value, okV ad ks (el i.toNatClampNeg) v → gof kt k a i.toNatClampNeg v → W p l e R s m args below meth c H locs cells slots Q (F0 m (pc + 1) ls (v :: rest))) : W p l e R s m args below meth c H locs cells slots Q (F0 m pc ls (.int i :: .ref a :: rest)) := by
  obtain ⟨hx, hb, -, hown, hts⟩ := X
  obtain ⟨ws, hP, hD, hT, hU⟩ := hG
  obtain ⟨q0, t0, cA, z, hw, hkq, ht0, hok, -, hz⟩ := sg_arr hK hT ha hk
  match z, hw, hok, hz with
  | .inl f, hw, hok, hz => rcases hz with hz | hz | hz <;> cases hz
  | .inr (.inl f), hw, hok, hz => cases hz
  | .inr (.inr (.inl f)), hw, hok, hz => exact hok.elim
  | .inr (.inr (.inr (.inl f))), hw, hok, hz => exact hok.elim
  | .inr (.inr (.inr (.inr f))), hw, hok, hz => exact va_aldq hx hb hK hP q0 t0 hw ht0 hin hdg (kk _ (hok _ (Nat.not_le.mp fun q => hin (Or.inr q))) (hU.2 q0 _ _ hw hkq _ _ ⟨Nat.not_le.mp fun q => hin (Or.inr q), rfl⟩))
theorem sg_alen (X : CallFix p m c cc nL s args sg_tbl own) (hK : va_K D cl tys s) (hG : sgG kt D cl A tys ad ks H) {k : Nat} (ha : isK ad ks k a) {n : Nat} {ty : FieldType} {el : Nat → sgT} (hk : kt[k]? = some (.inr (n, ty, el))) {v : Int32} (hv : Int32.ofNat n = v) (hdg : decode cc pc = .ok (.arraylength, 1))
    (kk : W p l e R s m args below meth c H locs cells slots Q (F0 m (pc + 1) ls (.int v :: rest))) : W p l e R s m args below meth c H locs cells slots Q (F0 m pc ls (.ref a :: rest)) := by
  obtain ⟨hx, hb, -, hown, hts⟩ := X
  obtain ⟨ws, hP, hD, hT, hU⟩ := hG
  obtain ⟨q0, t0, cA, z, hw, -, ht0, hok, -, hz⟩ := sg_arr hK hT ha hk
  exact va_alen hx hb hK hP q0 t0 hw ht0 hv hdg kk
theorem okA_upd {n : Nat} {el : Nat → sgT} {f : Nat → Int32} {i : Nat} {x : Int32} (h : okA ad ks n el (.inl f)) (hx : okV ad ks (el i) (.int x)) : okA ad ks n el (.inl (upd f i x)) := by
  intro j hj
  show okV ad ks (el j) (.int (upd f i x j))
  by_cases hji : j = i
  · subst hji
    rw [show upd f j x j = x by simp [upd]]
    exact hx
  · rw [show upd f i x j = f j by simp [upd, hji]]
    exact h j hj
theorem sg_iast (X : CallFix p m c cc nL s args sg_tbl own) (hK : va_K D cl tys s) (hG : sgG kt D cl A tys ad ks H) (hS : va_S A H0 H locs) {k : Nat} (ha : isK ad ks k a) {n : Nat} {el : Nat → sgT} (hk : kt[k]? = some (.inr (n, .int, el))) {i x : Int32} (hin : vp_in i n) (hv : okV ad ks (el i.toNatClampNeg) (.int x)) (hdg : decode cc pc = .ok (.iastore, 1))
    (kk : ∀ (H1 : Heap) (locs1 : List Loc), sgG kt D cl A tys ad ks H1 → va_S A H0 H1 locs1 → sgFr kt D cl ad ks H H1 (fun _ _ => False) → W p l e R s m args below meth c H1 locs1 cells slots Q (F0 m (pc + 1) ls rest)) (hgo : gof kt k a i.toNatClampNeg (.int x) := by exact gof_no rfl) : W p l e R s m args below meth c H locs cells slots Q (F0 m pc ls (.int x :: .int i :: .ref a :: rest)) := by
  obtain ⟨hx, hb, -, hown, hts⟩ := X
  obtain ⟨ws, hP, hD, hT, hU⟩ := hG
  obtain ⟨q0, t0, cA, z, hw, hkq, ht0, hok, hmem, hz⟩ := sg_arr hK hT ha hk
  match z, hw, hok, hz with
  | .inl f, hw, hok, hz => exact va_iast hx hb hK hP hD hS q0 t0 hw ht0 hin hdg fun H1 locs1 hP1 hD1 hS1 => kk H1 locs1 ⟨_, hP1, hD1, hT.set hw hkq hk ⟨rfl, hmem, okA_upd hok hv, hz⟩, hU.1, hU.2.setA hw hkq hgo⟩ hS1 (sg_frA hP hT hw hP1)
  | .inr (.inl f), hw, hok, hz => cases hz
  | .inr (.inr (.inl f)), hw, hok, hz => exact hok.elim
  | .inr (.inr (.inr (.inl f))), hw, hok, hz => exact hok.elim
  | .inr (.inr (.inr (.inr f))), hw, hok, hz => obtain ⟨C, hz⟩ := hz; cases hz
theorem sg_iastE (X : CallFix p m c cc nL s args sg_tbl own) (hK : va_K D cl tys s) (hG : sgG kt D cl A tys ad ks H) (hS : va_S A H0 H locs) {k : Nat} (ha : isK ad ks k a) {n : Nat} {el : Nat → sgT} (hk : kt[k]? = some (.inr (n, .int, el))) {i x : Int32} (hin : vp_in i n) (hv : okV ad ks (el i.toNatClampNeg) (.int x)) (hdg : decode cc pc = .ok (.iastore, 1))
    (kk : ∀ (H1 : Heap) (locs1 : List Loc), sgG kt D cl A tys ad ks H1 → va_S A H0 H1 locs1 → sgFr kt D cl ad ks H H1 (fun _ _ => False) → ele H1 a i.toNatClampNeg x → (∀ (j : Nat) (v : Int32), j ≠ i.toNatClampNeg → ele H a j v → ele H1 a j v) → W p l e R s m args below meth c H1 locs1 cells slots Q (F0 m (pc + 1) ls rest)) (hgo : gof kt k a i.toNatClampNeg (.int x) := by exact gof_no rfl) : W p l e R s m args below meth c H locs cells slots Q (F0 m pc ls (.int x :: .int i :: .ref a :: rest)) := by
  obtain ⟨hx, hb, -, hown, hts⟩ := X
  obtain ⟨ws, hP, hD, hT, hU⟩ := hG
  obtain ⟨q0, t0, cA, z, hw, hkq, ht0, hok, hmem, hz⟩ := sg_arr hK hT ha hk
  have hlt : i.toNatClampNeg < n := Nat.not_le.mp fun q => hin (Or.inr q)
  match z, hw, hok, hz with
  | .inl f, hw, hok, hz =>
    refine va_iast hx hb hK hP hD hS q0 t0 hw ht0 hin hdg fun H1 locs1 hP1 hD1 hS1 => ?_
    have hw1 : (ws.set q0 (a, .inl (cA, n, .inl (upd f i.toNatClampNeg x))))[q0]? = some (a, .inl (cA, n, .inl (upd f i.toNatClampNeg x))) := List.getElem?_set_self (List.getElem?_eq_some_iff.mp hw).1
    refine kk H1 locs1 ⟨_, hP1, hD1, hT.set hw hkq hk ⟨rfl, hmem, okA_upd hok hv, hz⟩, hU.1, hU.2.setA hw hkq hgo⟩ hS1 (sg_frA hP hT hw hP1) ?_ fun j v hj hv0 => ?_
    · have h1 := ele_of (hP1 q0 _ hw1) hlt
      rwa [show upd f i.toNatClampNeg x i.toNatClampNeg = x by simp [upd]] at h1
    · have hjn : j < n := by
        obtain ⟨c0, g1, g2⟩ := hv0
        have g3 := hP q0 _ hw
        have g4 : H[a]? = some (arrV cA n (fun j => .int (f j))) := g3
        cases g1.symm.trans g4
        have g5 := (Array.getElem?_eq_some_iff.mp g2).1
        rwa [arrV_size] at g5
      have h2 := ele_fun hv0 (ele_of (hP q0 _ hw) hjn)
      have h3 := ele_of (hP1 q0 _ hw1) hjn
      rwa [show upd f i.toNatClampNeg x j = f j by simp [upd, hj], ← h2] at h3
  | .inr (.inl f), hw, hok, hz => cases hz
  | .inr (.inr (.inl f)), hw, hok, hz => exact hok.elim
  | .inr (.inr (.inr (.inl f))), hw, hok, hz => exact hok.elim
  | .inr (.inr (.inr (.inr f))), hw, hok, hz => obtain ⟨C, hz⟩ := hz; cases hz
theorem sg_bast (X : CallFix p m c cc nL s args sg_tbl own) (hK : va_K D cl tys s) (hG : sgG kt D cl A tys ad ks H) (hS : va_S A H0 H locs) {k : Nat} (ha : isK ad ks k a) {n : Nat} {el : Nat → sgT} (hk : kt[k]? = some (.inr (n, .byte, el))) {i x : Int32} (hin : vp_in i n) (hv : okV ad ks (el i.toNatClampNeg) (.int (vp_nar .byte x))) (hdg : decode cc pc = .ok (.bastore, 1))
    (kk : ∀ (H1 : Heap) (locs1 : List Loc), sgG kt D cl A tys ad ks H1 → va_S A H0 H1 locs1 → sgFr kt D cl ad ks H H1 (fun _ _ => False) → W p l e R s m args below meth c H1 locs1 cells slots Q (F0 m (pc + 1) ls rest)) (hgo : gof kt k a i.toNatClampNeg (.int (vp_nar .byte x)) := by exact gof_no rfl) : W p l e R s m args below meth c H locs cells slots Q (F0 m pc ls (.int x :: .int i :: .ref a :: rest)) := by
  obtain ⟨hx, hb, -, hown, hts⟩ := X
  obtain ⟨ws, hP, hD, hT, hU⟩ := hG
  obtain ⟨q0, t0, cA, z, hw, hkq, ht0, hok, hmem, hz⟩ := sg_arr hK hT ha hk
  match z, hw, hok, hz with
  | .inl f, hw, hok, hz => exact va_bast hx hb hK hP hD hS q0 t0 hw ht0 hin hdg fun H1 locs1 hP1 hD1 hS1 => kk H1 locs1 ⟨_, hP1, hD1, hT.set hw hkq hk ⟨rfl, hmem, okA_upd hok hv, hz⟩, hU.1, hU.2.setA hw hkq hgo⟩ hS1 (sg_frA hP hT hw hP1)
  | .inr (.inl f), hw, hok, hz => cases hz
  | .inr (.inr (.inl f)), hw, hok, hz => exact hok.elim
  | .inr (.inr (.inr (.inl f))), hw, hok, hz => exact hok.elim
  | .inr (.inr (.inr (.inr f))), hw, hok, hz => obtain ⟨C, hz⟩ := hz; cases hz
theorem sg_zast (X : CallFix p m c cc nL s args sg_tbl own) (hK : va_K D cl tys s) (hG : sgG kt D cl A tys ad ks H) (hS : va_S A H0 H locs) {k : Nat} (ha : isK ad ks k a) {n : Nat} {el : Nat → sgT} (hk : kt[k]? = some (.inr (n, .boolean, el))) {i x : Int32} (hin : vp_in i n) (hv : okV ad ks (el i.toNatClampNeg) (.int (vp_nar .boolean x))) (hdg : decode cc pc = .ok (.bastore, 1))
    (kk : ∀ (H1 : Heap) (locs1 : List Loc), sgG kt D cl A tys ad ks H1 → va_S A H0 H1 locs1 → sgFr kt D cl ad ks H H1 (fun _ _ => False) → W p l e R s m args below meth c H1 locs1 cells slots Q (F0 m (pc + 1) ls rest)) (hgo : gof kt k a i.toNatClampNeg (.int (vp_nar .boolean x)) := by exact gof_no rfl) : W p l e R s m args below meth c H locs cells slots Q (F0 m pc ls (.int x :: .int i :: .ref a :: rest)) := by
  obtain ⟨hx, hb, -, hown, hts⟩ := X
  obtain ⟨ws, hP, hD, hT, hU⟩ := hG
  obtain ⟨q0, t0, cA, z, hw, hkq, ht0, hok, hmem, hz⟩ := sg_arr hK hT ha hk
  match z, hw, hok, hz with
  | .inl f, hw, hok, hz => exact va_zast hx hb hK hP hD hS q0 t0 hw ht0 hin hdg fun H1 locs1 hP1 hD1 hS1 => kk H1 locs1 ⟨_, hP1, hD1, hT.set hw hkq hk ⟨rfl, hmem, okA_upd hok hv, hz⟩, hU.1, hU.2.setA hw hkq hgo⟩ hS1 (sg_frA hP hT hw hP1)
  | .inr (.inl f), hw, hok, hz => cases hz
  | .inr (.inr (.inl f)), hw, hok, hz => exact hok.elim
  | .inr (.inr (.inr (.inl f))), hw, hok, hz => exact hok.elim
  | .inr (.inr (.inr (.inr f))), hw, hok, hz => obtain ⟨C, hz⟩ := hz; cases hz
theorem sg_last (X : CallFix p m c cc nL s args sg_tbl own) (hK : va_K D cl tys s) (hG : sgG kt D cl A tys ad ks H) (hS : va_S A H0 H locs) {k : Nat} (ha : isK ad ks k a) {n : Nat} {el : Nat → sgT} (hk : kt[k]? = some (.inr (n, .long, el))) {i : Int32} {x : Int64} (hin : vp_in i n) (hdg : decode cc pc = .ok (.lastore, 1))
    (kk : ∀ (H1 : Heap) (locs1 : List Loc), sgG kt D cl A tys ad ks H1 → va_S A H0 H1 locs1 → sgFr kt D cl ad ks H H1 (fun _ _ => False) → W p l e R s m args below meth c H1 locs1 cells slots Q (F0 m (pc + 1) ls rest)) (hgo : ∀ (j : Nat) (v : Value), gof kt k a j v := by exact fun _ _ => gof_no rfl) : W p l e R s m args below meth c H locs cells slots Q (F0 m pc ls (.long x :: .int i :: .ref a :: rest)) := by
  obtain ⟨hx, hb, -, hown, hts⟩ := X
  obtain ⟨ws, hP, hD, hT, hU⟩ := hG
  obtain ⟨q0, t0, cA, z, hw, hkq, ht0, hok, hmem, hz⟩ := sg_arr hK hT ha hk
  match z, hw, hok, hz with
  | .inl f, hw, hok, hz => rcases hz with hz | hz | hz <;> cases hz
  | .inr (.inl f), hw, hok, hz =>
    refine va_last hx hb hK hP hD hS q0 t0 hw ht0 hin hdg fun H1 locs1 hP1 hD1 hS1 => kk H1 locs1 ⟨_, hP1, hD1, hT.set hw hkq hk ⟨rfl, hmem, fun j hj => ?_, hz⟩, hU.1, hU.2.set hw hkq (okG_all hgo _)⟩ hS1 (sg_frA hP hT hw hP1)
    show okV ad ks (el j) (.long (vp_updL f i.toNatClampNeg x j))
    have h := hok j hj
    show okV ad ks (el j) _
    match hel : el j, h with
    | .inl b, h => obtain ⟨z, h1, -⟩ := h; cases h1
    | .inr (.inl r), h => rcases h with ⟨-, h⟩ | ⟨z, h, -⟩ <;> cases h
    | .inr (.inr false), h => exact ⟨_, rfl⟩
    | .inr (.inr true), h => exact trivial
  | .inr (.inr (.inl f)), hw, hok, hz => exact hok.elim
  | .inr (.inr (.inr (.inl f))), hw, hok, hz => exact hok.elim
  | .inr (.inr (.inr (.inr f))), hw, hok, hz => obtain ⟨C, hz⟩ := hz; cases hz
/-- what a field holds, without reading it -/
theorem sg_peek (hG : sgG kt D cl A tys ad ks H) {k : Nat} (ha : isK ad ks k a) {ci : Nat} {fts : List sgT} (hk : kt[k]? = some (.inl (ci, fts))) {r : vw_C} (hc : cl[ci]? = some r) (j : Nat) (hj : j < r.2.2) {t : sgT} (ht : fts[j]? = some t) : ∃ v : Value, okV ad ks t v ∧ fld D H ci a j v := by
  obtain ⟨ws, hP, hD, hT, hU⟩ := hG
  obtain ⟨q0, en, K, hw, -, hK', hE⟩ := ha.in hT
  rw [hk] at hK'
  cases hK'
  cases en with
  | inl z => exact hE.elim
  | inr q =>
    obtain ⟨ci', fs⟩ := q
    obtain ⟨h1, h2, h3⟩ := hE
    dsimp only at h1 h2 h3
    subst h1
    have hlt : j < fts.length := (List.getElem?_eq_some_iff.mp ht).1
    have hjf : j < fs.length := by omega
    have hv : fs[j]? = some fs[j] := List.getElem?_eq_getElem hjf
    refine ⟨fs[j], h3 j t _ ht hv, ?_⟩
    have h9 := fld_of (hP q0 _ hw) hc hj
    rwa [List.getD_eq_getElem?_getD, hv] at h9
theorem sg_peekH (hG : sgG kt D cl A tys ad ks H) {k : Nat} (ha : isK ad ks k a) {ci : Nat} {fts : List sgT} (hk : kt[k]? = some (.inl (ci, fts))) {r : vw_C} (hc : cl[ci]? = some r) (j : Nat) (hj : j < r.2.2) {t : sgT} (ht : fts[j]? = some t) : ∃ v : Value, okV ad ks t v ∧ fld D H ci a j v ∧ gof kt k a j v := by
  obtain ⟨ws, hP, hD, hT, hU⟩ := hG
  obtain ⟨q0, en, K, hw, hkq, hK', hE⟩ := ha.in hT
  rw [hk] at hK'
  cases hK'
  cases en with
  | inl z => exact hE.elim
  | inr q =>
    obtain ⟨ci', fs⟩ := q
    obtain ⟨h1, h2, h3⟩ := hE
    dsimp only at h1 h2 h3
    subst h1
    have hlt : j < fts.length := (List.getElem?_eq_some_iff.mp ht).1
    have hjf : j < fs.length := by omega
    have hv : fs[j]? = some fs[j] := List.getElem?_eq_getElem hjf
    refine ⟨fs[j], h3 j t _ ht hv, ?_, hU.2 q0 _ _ hw hkq j _ hv⟩
    have h9 := fld_of (hP q0 _ hw) hc hj
    rwa [List.getD_eq_getElem?_getD, hv] at h9
/-- the world under another table of kinds -/
theorem sg_kinds {kt' : List sgK} (hG : sgG kt D cl A tys ad ks H) (hgk : kt'[67]? = kt[67]?) (h : ∀ (k : Nat) (K : sgK) (e : va_E), kt[k]? = some K → okE ad ks tys K e → ∃ K' : sgK, kt'[k]? = some K' ∧ okE ad ks tys K' e) : sgG kt' D cl A tys ad ks H := by
  obtain ⟨ws, hP, hD, hT, hU⟩ := hG
  refine ⟨ws, hP, hD, ⟨hT.1, hT.2.1, fun j q k hq hk => ?_⟩, hU.1, hU.2.kt hgk⟩
  obtain ⟨K, h1, h2⟩ := hT.2.2 j q k hq hk
  exact h k K q.2 h1 h2
/-- a store that closes: the world under another table, that differs for this one cell's kind alone -/
theorem sg_put1 {kt' : List sgK} (X : CallFix p m c cc nL s args sg_tbl own) (hK : va_K D cl tys s) (hG : sgG kt D cl A tys ad ks H) (hS : va_S A H0 H locs) {k : Nat} (ha : isK ad ks k a) (hu : k ∈ [2, 8, 10, 11, 12, 16, 42, 45, 49, 50, 51, 52, 53, 54]) {ci : Nat} {fts fts' : List sgT} (hk : kt[k]? = some (.inl (ci, fts))) (hk' : kt'[k]? = some (.inl (ci, fts'))) {C : String} {T : u_T} {N : Nat} (hc : cl[ci]? = some (C, T, N)) (hin : ∀ w ∈ u_ws C T N, w ∈ sg_tbl) (ty0 : Nat → FieldType) (hty : ∀ k, k < N → parseFieldDescriptor (T k).2.2.1 = some (ty0 k)) (hnm : ∀ a, a < N → ∀ b, b < N → a ≠ b → (T a).2.1 ≠ (T b).2.1) (j : Nat) (hj : j < N) {t' : sgT} (hlen : fts'.length = fts.length) (ht : fts'[j]? = some t') (hsm : ∀ i : Nat, i ≠ j → fts'[i]? = fts[i]?) (hsk : ∀ i : Nat, i ≠ k → kt'[i]? = kt[i]?) {ref : String} {index : Nat} (hlink : Cond.fieldLink own index ref (T j).2.1 (T j).2.2.1 ∈ sg_tbl) (hsame : ∀ x, s.fieldFound? (T j).1 (T j).2.1 (T j).2.2.1 = some x → s.fieldFound? ref (T j).2.1 (T j).2.2.1 = some x) (hfin : (T j).2.2.2 = false) {ty : FieldType} {v : Value} (hd : parseFieldDescriptor (T j).2.2.1 = some ty) (hn : narrow ty v = v) (hfit : fits ty v = true) (hv : okV ad ks t' v) (hdg : decode cc pc = .ok (.putfield index, 3))
    (kk : ∀ (H1 : Heap) (locs1 : List Loc), sgG kt' D cl A tys ad ks H1 → va_S A H0 H1 locs1 → W p l e R s m args below meth c H1 locs1 cells slots Q (F0 m (pc + 3) ls rest)) (hgo : gof kt k a j v := by exact gof_no rfl) : W p l e R s m args below meth c H locs cells slots Q (F0 m pc ls (v :: .ref a :: rest)) := by
  obtain ⟨hx, hb, -, hown, hts⟩ := X
  obtain ⟨ws, hP, hD, hT, hU⟩ := hG
  obtain ⟨q0, en, K, hw, hkq, hK', hE⟩ := ha.in hT
  rw [hk] at hK'
  cases hK'
  cases en with
  | inl z => exact hE.elim
  | inr q =>
    obtain ⟨ci', fs⟩ := q
    obtain ⟨h1, h2, h3⟩ := hE
    dsimp only at h1 h2 h3
    subst h1
    have hlt : j < fts'.length := (List.getElem?_eq_some_iff.mp ht).1
    have hjf : j < fs.length := by omega
    refine va_put hx hb hts hin ty0 hty hnm hown hK hP hD hS q0 hw hc j hj (hts _ hlink) hsame hfin hd hn hfit hjf hdg fun H1 locs1 hP1 hD1 hS1 => ?_
    have hl0 := (List.getElem?_eq_some_iff.mp hw).1
    refine kk H1 locs1 ⟨_, hP1, hD1, ⟨?_, hT.2.1, fun i q2 k2 hq hk2 => ?_⟩, hU.1, (hU.2.setF hw hkq hgo).kt (hsk 67 (by rintro rfl; revert hu; decide))⟩ hS1
    · rw [← hT.1]
      apply List.ext_getElem?
      intro i
      rw [List.getElem?_map, List.getElem?_map]
      by_cases hi : i = q0
      · subst hi
        rw [List.getElem?_set_self hl0, hw]
        rfl
      · rw [List.getElem?_set_ne (Ne.symm hi)]
    · by_cases hi : i = q0
      · subst hi
        rw [List.getElem?_set_self hl0] at hq
        cases hq
        rw [hkq] at hk2
        cases hk2
        refine ⟨_, hk', rfl, ?_, fun i2 t2 v2 ht2 hv2 => ?_⟩
        · show (fs.set j v).length = _
          rw [List.length_set]
          exact h2.trans hlen.symm
        · by_cases hi2 : i2 = j
          · subst hi2
            rw [ht] at ht2
            cases ht2
            have hv3 : (fs.set i2 v)[i2]? = some v2 := hv2
            rw [List.getElem?_set_self hjf] at hv3
            cases hv3
            exact hv
          · have hv3 : (fs.set j v)[i2]? = some v2 := hv2
            rw [List.getElem?_set_ne (Ne.symm hi2)] at hv3
            have ht3 : fts[i2]? = some t2 := (hsm i2 hi2).symm.trans ht2
            exact h3 i2 t2 v2 ht3 hv3
      · rw [List.getElem?_set_ne (Ne.symm hi)] at hq
        have hne : k2 ≠ k := by
          rintro rfl
          exact hi (hU.1 _ hu i q0 hk2 hkq)
        obtain ⟨K2, g1, g2⟩ := hT.2.2 i q2 k2 hq hk2
        exact ⟨K2, (hsk k2 hne).trans g1, g2⟩
theorem sg_copyi (X : CallFix p m c cc nL s args sg_tbl own) (hsize : ls.size = nL) (hK : va_K D cl tys s) (hG : sgG kt D cl A tys ad ks H) (hS : va_S A H0 H locs) {k0 a0 n0 : Nat} {el0 : Nat → sgT} (ha0 : isK ad ks k0 a0) (hk0 : kt[k0]? = some (.inr (n0, .int, el0))) {k n1 : Nat} (ha : isK ad ks k a) (hk : kt[k]? = some (.inr (n1, .int, fun _ => .inl (-2147483648, 2147483647))))
    {sp dp n : Int32} (h1 : ¬ sp < 0) (h2 : ¬ dp < 0) (h3 : ¬ n < 0) (h4 : sp.toNatClampNeg + n.toNatClampNeg ≤ n0) (h5 : dp.toNatClampNeg + n.toNatClampNeg ≤ n1) {index : Nat} (hlink : Cond.methodLink own index arraycopyName ∈ sg_tbl) (hnat : Cond.native arraycopyName ∈ sg_tbl) (hstat : Cond.static arraycopyName ∈ sg_tbl) (hini : Cond.initialized "java/lang/System" ∈ sg_tbl)
    (hframes : 1 ≤ R.frames) (hlocals : (rest.map fun v => v.category).sum + (nativeFrameWords "java/lang/System" "arraycopy" 5 + 11) ≤ R.locals) (hdg : decode cc pc = .ok (.invokestatic index, 3))
    (kk : ∀ (H1 : Heap) (locs1 : List Loc), sgG kt D cl A tys ad ks H1 → va_S A H0 H1 locs1 → sgFr kt D cl ad ks H H1 (fun _ _ => False) → W p l e R s m args below meth c H1 locs1 cells slots Q (F0 m (pc + 3) ls rest)) (hgo : ∀ (j : Nat) (v : Value), gof kt k a j v := by exact fun _ _ => gof_no rfl) : W p l e R s m args below meth c H locs cells slots Q (F0 m pc ls (.int n :: .int dp :: .ref a :: .int sp :: .ref a0 :: rest)) := by
  obtain ⟨hx, hb, hml, hown, hts⟩ := X
  obtain ⟨ws, hP, hD, hT, hU⟩ := hG
  obtain ⟨q0, t0, c0, z0, hw0, hkq0, ht0, hok0, hmem0, hz0⟩ := sg_arr hK hT ha0 hk0
  obtain ⟨q1, t1, c1, z1, hw1, hkq1, ht1, hok1, hmem1, hz1⟩ := sg_arr hK hT ha hk
  match z0, hw0, hok0, hz0, z1, hw1, hok1, hz1 with
  | .inl f, hw0, hok0, hz0, .inl g, hw1, hok1, hz1 =>
    refine va_copyi hx hb (hml.trans hsize.symm) hown (hts _ hlink) (hts _ hnat) (hts _ hstat) (hts _ hini) hK hP hD hS q0 q1 t0 t1 hw0 hw1 ht0 ht1 rfl h1 h2 h3 h4 h5 (fun i _ => rfl) hframes hlocals hdg fun H1 locs1 hP1 hD1 hS1 => ?_
    exact kk H1 locs1 ⟨_, hP1, hD1, hT.set hw1 hkq1 hk ⟨rfl, hmem1, fun j _ => ⟨_, rfl, iv_top _⟩, hz1⟩, hU.1, hU.2.set hw1 hkq1 (okG_all hgo _)⟩ hS1 (sg_frA hP hT hw1 hP1)
  | .inr (.inl f), hw0, hok0, hz0, _, _, _, _ => cases hz0
  | .inr (.inr (.inl f)), hw0, hok0, hz0, _, _, _, _ => exact hok0.elim
  | .inr (.inr (.inr (.inl f))), hw0, hok0, hz0, _, _, _, _ => exact hok0.elim
  | .inr (.inr (.inr (.inr f))), hw0, hok0, hz0, _, _, _, _ => obtain ⟨C, hz⟩ := hz0; cases hz
  | .inl _, _, _, _, .inr (.inl f), hw1, hok1, hz1 => cases hz1
  | .inl _, _, _, _, .inr (.inr (.inl f)), hw1, hok1, hz1 => exact hok1.elim
  | .inl _, _, _, _, .inr (.inr (.inr (.inl f))), hw1, hok1, hz1 => exact hok1.elim
  | .inl _, _, _, _, .inr (.inr (.inr (.inr f))), hw1, hok1, hz1 => obtain ⟨C, hz⟩ := hz1; cases hz
end SGR
theorem sg_copyT0 {p : Program} {l : Launch} {e : Env} {R : Room} {s : State} {m : MethodId} {args : Array Value} {below : List Frame} {meth : Method} {c : Code} {H : Heap} {locs : List Loc} {cells slots : Nat} {Q : State → Prop} {cc : ByteArray} {pc : Nat} {ls : Array Slot} {rest : List Value} {D : va_G} {cl : List vw_C} {A : Nat → Prop} {a : Nat} {tys : List (ClassId × FieldType)} {ws : va_W} (hexec : p.tables.exec = Jvm.exec) (hb : c.code = cc) (hml : c.maxLocals = ls.size) {own : String} {index : Nat} (hown : s.vm.findClass own = some m.cls) (hlink : (Cond.methodLink own index arraycopyName).before args s = true) (hnat : (Cond.native arraycopyName).before args s = true) (hstat : (Cond.static arraycopyName).before args s = true) (hini : (Cond.initialized "java/lang/System").before args s = true)
    (hK : va_K D cl tys s) (hP : va_P D cl ws H) (hD : va_D A ws) (hS : va_S A s.heap H locs) {b0 n0 : Nat} {f : Nat → Int32} (hX : va_T .int b0 n0 (fun j => .int (f j)) A s s.heap) (q1 t1 : Nat) {c1 : ClassId} {n1 : Nat} {g : Nat → Int32} (ha1 : ws[q1]? = some (a, .inl (c1, n1, .inl g))) (ht1 : tys[t1]? = some (c1, .int))
    {sp dp n : Int32} (h1 : ¬ sp < 0) (h2 : ¬ dp < 0) (h3 : ¬ n < 0) (h4 : sp.toNatClampNeg + n.toNatClampNeg ≤ n0) (h5 : dp.toNatClampNeg + n.toNatClampNeg ≤ n1)
    (hframes : 1 ≤ R.frames) (hlocals : (rest.map fun v => v.category).sum + (nativeFrameWords "java/lang/System" "arraycopy" 5 + 11) ≤ R.locals) (hdg : decode cc pc = .ok (.invokestatic index, 3))
    (kk : ∀ (H1 : Heap) (locs1 : List Loc) (g1 : Nat → Int32), g1 = va_cpy f g sp.toNatClampNeg dp.toNatClampNeg n.toNatClampNeg → va_P D cl (ws.set q1 (a, .inl (c1, n1, .inl g1))) H1 → va_D A (ws.set q1 (a, .inl (c1, n1, .inl g1))) → va_S A s.heap H1 locs1 → W p l e R s m args below meth c H1 locs1 cells slots Q (F0 m (pc + 3) ls rest)) : W p l e R s m args below meth c H locs cells slots Q (F0 m pc ls (.int n :: .int dp :: .ref a :: .int sp :: .ref b0 :: rest)) := by
  have clampI : ∀ z : Int32, ¬ z < 0 → z.toInt = (z.toNatClampNeg : Int) := fun z hz => by
    have q : (0 : Int) ≤ z.toInt := by simpa using Int32.le_iff_toInt_le.mp (Int32.not_lt.mp hz)
    show z.toInt = ((z.toInt.toNat : Nat) : Int)
    omega
  intro T hT X
  obtain ⟨src, r1, ⟨r2, k0, r3, cm0, r4⟩, r5, r6, -, r7, r8⟩ := hX
  have hsrc : H[b0]? = some src := (hS.2.1 b0 (Array.getElem?_eq_some_iff.mp r1).1 r8).trans r1
  have hdst : H[a]? = some (vp_cell c1 (n1, .inl g)) := hP q1 _ ha1
  obtain ⟨-, k1, u1, cm1, u2⟩ := (hK.2 t1 _ ht1).1 n1 (fun j => .int (g j))
  obtain ⟨vm', X', step⟩ := X.arraycopy hexec hown hlink hnat hstat hini (src := b0) (dst := a) (cs := src) (cd := vp_cell c1 (n1, .inl g)) (srcPos := sp) (destPos := dp) (n := n) (by rw [hT]; exact hsrc) (by rw [hT]; exact hdst)
    r2 (fun _ h => by cases h) r5 (fun h => by cases h) r3 u1 r4 u2 (by simp [refKind]) h1 h2 h3
    (by rw [clampI sp h1, clampI n h3]; omega)
    (by rw [clampI dp h2, clampI n h3]; show ¬ _ > ((arrV c1 n1 (fun j => .int (g j))).slots.size : Int); rw [arrV_size]; omega)
    (fun vm₁ _ i hi => by
      have w : src.slots.getD (sp.toNatClampNeg + i) .null = .int (f (sp.toNatClampNeg + i)) := by
        rw [Array.getD_eq_getD_getElem?, r7 _ (by omega)]
        rfl
      exact ⟨by rw [w]; rfl, by rw [w]; exact trivial⟩)
    (g := F0 m pc ls (.int n :: .int dp :: .ref a :: .int sp :: .ref b0 :: rest)) rfl (by rw [hml]) (rest := rest) rfl (by rw [hb]; exact hdg) hframes (by show 2 * 0 + _ + _ ≤ _; omega)
  rw [show copied src (vp_cell c1 (n1, .inl g)) sp dp n = vp_cell c1 (n1, .inl (va_cpy f g sp.toNatClampNeg dp.toNatClampNeg n.toNatClampNeg)) from va_copiedX (fun z => .int z) src c1 f g r7 h4] at X' step
  generalize hg1 : va_cpy f g sp.toNatClampNeg dp.toNatClampNeg n.toNatClampNeg = g1 at X' step
  have hl : a < H.size := (Array.getElem?_eq_some_iff.mp hdst).1
  have hheap : ((T.setVm vm').setCell a (vp_cell c1 (n1, .inl g1))).heap = H.setIfInBounds a (vp_cell c1 (n1, .inl g1)) := by rw [← hT]; rfl
  have off : ∀ q : Nat, q ≠ a → (H.setIfInBounds a (vp_cell c1 (n1, .inl g1)))[q]? = H[q]? := fun q hq => by simp [Array.getElem?_setIfInBounds, Ne.symm hq]
  obtain ⟨t, a1, b1⟩ := kk _ _ g1 hg1.symm (hP.set hD ha1 (show (H.setIfInBounds a _)[a]? = some _ by simp [Array.getElem?_setIfInBounds, hl]) off) (hD.set ha1) ⟨by simp; exact hS.1, fun q g1 g2 => by
      rw [off q (fun e => g2 (by rw [e]; exact hD.2 q1 _ ha1))]
      exact hS.2.1 q g1 g2, fun q hq => by
      rcases List.mem_append.mp hq with h | h
      · exact hS.2.2 q h
      · obtain ⟨z, -, hz⟩ := List.mem_map.mp h
        rw [← hz]
        exact hD.2 q1 _ ha1⟩ _ hheap X'
  exact ⟨t, step t a1, b1⟩
section SGT
variable {p : Program} {l : Launch} {e : Env} {R : Room} {s : State} {m : MethodId} {args : Array Value} {below : List Frame} {meth : Method} {c : Code} {H : Heap} {locs : List Loc} {cells slots : Nat} {Q : State → Prop}
variable {cc : ByteArray} {nL pc : Nat} {ls : Array Slot} {rest : List Value} {own : String} {kt : List sgK} {D : va_G} {cl : List vw_C} {A : Nat → Prop} {a : Nat} {tys : List (ClassId × FieldType)} {ad ks : List Nat}
/-- a whole static table copied over an array of the same length -/
theorem sg_copyT (X : CallFix p m c cc nL s args sg_tbl own) (hsize : ls.size = nL) (hK : va_K D cl tys s) (hG : sgG kt D cl A tys ad ks H) (hS : va_S A s.heap H locs) {b0 k n0 : Nat} {f : Nat → Int32} {el : Nat → sgT} (hX : va_T .int b0 n0 (fun j => .int (f j)) A s s.heap) (ha : isK ad ks k a) (hk : kt[k]? = some (.inr (n0, .int, el))) (hok : ∀ j : Nat, j < n0 → okV ad ks (el j) (.int (f j)))
    {n : Int32} (h3 : ¬ n < 0) (h4 : n.toNatClampNeg = n0) {index : Nat} (hlink : Cond.methodLink own index arraycopyName ∈ sg_tbl) (hnat : Cond.native arraycopyName ∈ sg_tbl) (hstat : Cond.static arraycopyName ∈ sg_tbl) (hini : Cond.initialized "java/lang/System" ∈ sg_tbl)
    (hframes : 1 ≤ R.frames) (hlocals : (rest.map fun v => v.category).sum + (nativeFrameWords "java/lang/System" "arraycopy" 5 + 11) ≤ R.locals) (hdg : decode cc pc = .ok (.invokestatic index, 3))
    (kk : ∀ (H1 : Heap) (locs1 : List Loc), sgG kt D cl A tys ad ks H1 → va_S A s.heap H1 locs1 → sgFr kt D cl ad ks H H1 (fun _ _ => False) → W p l e R s m args below meth c H1 locs1 cells slots Q (F0 m (pc + 3) ls rest)) (hgo : ∀ (j : Nat) (v : Value), gof kt k a j v := by exact fun _ _ => gof_no rfl) : W p l e R s m args below meth c H locs cells slots Q (F0 m pc ls (.int n :: .int 0 :: .ref a :: .int 0 :: .ref b0 :: rest)) := by
  obtain ⟨hx, hb, hml, hown, hts⟩ := X
  obtain ⟨ws, hP, hD, hT, hU⟩ := hG
  obtain ⟨q1, t1, c1, z1, hw1, hkq1, ht1, hok1, hmem1, hz1⟩ := sg_arr hK hT ha hk
  match z1, hw1, hok1, hz1 with
  | .inl g, hw1, hok1, hz1 =>
    refine sg_copyT0 hx hb (hml.trans hsize.symm) hown (hts _ hlink) (hts _ hnat) (hts _ hstat) (hts _ hini) hK hP hD hS hX q1 t1 hw1 ht1 (by decide +kernel) (by decide +kernel) h3 (by rw [h4]; show 0 + n0 ≤ n0; omega) (by rw [h4]; show 0 + n0 ≤ n0; omega) hframes hlocals hdg fun H1 locs1 g1 hg1 hP1 hD1 hS1 => ?_
    refine kk H1 locs1 ⟨_, hP1, hD1, hT.set hw1 hkq1 hk ⟨rfl, hmem1, fun j hj => ?_, hz1⟩, hU.1, hU.2.set hw1 hkq1 (okG_all hgo _)⟩ hS1 (sg_frA hP hT hw1 hP1)
    have hj : j < n0 := hj
    show okV ad ks (el j) (.int (g1 j))
    have e0 : (0 : Int32).toNatClampNeg = 0 := rfl
    rw [hg1, h4, e0, pk_cpy_in (Nat.zero_le j) (by omega), show 0 + (j - 0) = j by omega]
    exact hok j hj
  | .inr (.inl f), hw1, hok1, hz1 => cases hz1
  | .inr (.inr (.inl f)), hw1, hok1, hz1 => exact hok1.elim
  | .inr (.inr (.inr (.inl f))), hw1, hok1, hz1 => exact hok1.elim
  | .inr (.inr (.inr (.inr f))), hw1, hok1, hz1 => obtain ⟨C, hz⟩ := hz1; cases hz
end SGT
