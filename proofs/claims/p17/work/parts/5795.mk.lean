/-- what is of a kind stays of it: a world that has grown -/
def sgMo (ad ks ad' ks' : List Nat) : Prop := ∀ k a : Nat, isK ad ks k a → isK ad' ks' k a
theorem sgMo.rf (ad ks : List Nat) : sgMo ad ks ad ks := fun _ _ h => h
theorem sgMo.tr {ad ks ad' ks' ad2 ks2 : List Nat} (h : sgMo ad ks ad' ks') (h2 : sgMo ad' ks' ad2 ks2) : sgMo ad ks ad2 ks2 := fun k a z => h2 k a (h k a z)
theorem sgMo.app {ad ks : List Nat} (q k : Nat) : sgMo ad ks (ad ++ [q]) (ks ++ [k]) := fun k' a ⟨j, h1, h2⟩ =>
  ⟨j, by rw [List.getElem?_append_left (List.getElem?_eq_some_iff.mp h1).1]; exact h1, by rw [List.getElem?_append_left (List.getElem?_eq_some_iff.mp h2).1]; exact h2⟩
theorem okV_mo {ad ks ad' ks' : List Nat} (h : sgMo ad ks ad' ks') {t : sgT} {v : Value} (hv : okV ad ks t v) : okV ad' ks' t v := by
  match t, hv with
  | .inl _, hv => exact hv
  | .inr (.inl r), hv =>
    rcases hv with hv | ⟨a, h1, h2⟩
    · exact Or.inl hv
    · exact Or.inr ⟨a, h1, h _ _ h2⟩
  | .inr (.inr false), hv => exact hv
  | .inr (.inr true), hv => exact hv
theorem okA_mo {ad ks ad' ks' : List Nat} (h : sgMo ad ks ad' ks') {n : Nat} {el : Nat → sgT} {a : (Nat → Int32) ⊕ (Nat → Int64) ⊕ (Nat → UInt32) ⊕ (Nat → UInt64) ⊕ (Nat → Option Nat)} (hv : okA ad ks n el a) : okA ad' ks' n el a := by
  match a, hv with
  | .inl f, hv => exact fun i hi => okV_mo h (hv i hi)
  | .inr (.inl f), hv => exact fun i hi => okV_mo h (hv i hi)
  | .inr (.inr (.inr (.inr f))), hv => exact fun i hi => okV_mo h (hv i hi)
theorem okE_mo {ad ks ad' ks' : List Nat} {tys tys' : List (ClassId × FieldType)} (h : sgMo ad ks ad' ks') (ht : ∀ x, x ∈ tys → x ∈ tys') {K : sgK} {e : va_E} (hE : okE ad ks tys K e) : okE ad' ks' tys' K e := by
  match K, e, hE with
  | .inl o, .inr q, hE => exact ⟨hE.1, hE.2.1, fun j t v h1 h2 => okV_mo h (hE.2.2 j t v h1 h2)⟩
  | .inr z, .inl q, hE => exact ⟨hE.1, ht _ hE.2.1, okA_mo h hE.2.2.1, hE.2.2.2⟩
theorem TH_app {kt : List sgK} {tys tys' : List (ClassId × FieldType)} {ad ks : List Nat} {ws : va_W} (hT : TH kt tys ad ks ws) (ht : ∀ x, x ∈ tys → x ∈ tys') {q k : Nat} {e : va_E} {K : sgK} (hk : kt[k]? = some K) (hE : okE (ad ++ [q]) (ks ++ [k]) tys' K e) : TH kt tys' (ad ++ [q]) (ks ++ [k]) (ws ++ [(q, e)]) := by
  have hl : ws.length = ks.length := by rw [← hT.2.1, ← hT.1, List.length_map]
  refine ⟨by rw [List.map_append, hT.1]; rfl, by simp [hT.2.1], fun j x k' h1 h2 => ?_⟩
  by_cases hj : j < ws.length
  · rw [List.getElem?_append_left hj] at h1
    rw [List.getElem?_append_left (by omega)] at h2
    obtain ⟨K', h3, h4⟩ := hT.2.2 j x k' h1 h2
    exact ⟨K', h3, okE_mo (sgMo.app q k) ht h4⟩
  · rw [List.getElem?_append_right (by omega)] at h1 h2
    have hz : j - ws.length < 1 := (List.getElem?_eq_some_iff.mp h1).1
    rw [show j - ws.length = 0 by omega] at h1
    rw [show j - ks.length = 0 by omega] at h2
    cases h1
    cases h2
    exact ⟨K, hk, hE⟩
theorem sgU_app {ks : List Nat} (hU : sgU ks) {k : Nat} (hk : k ∉ [2, 8, 10, 11, 12, 16, 42, 45, 49, 50, 51, 52, 53, 54]) : sgU (ks ++ [k]) := by
  have hlt : ∀ (k0 : Nat), k0 ∈ [2, 8, 10, 11, 12, 16, 42, 45, 49, 50, 51, 52, 53, 54] → ∀ i : Nat, (ks ++ [k])[i]? = some k0 → ks[i]? = some k0 := by
    intro k0 h0 i hi
    by_cases hl : i < ks.length
    · rw [List.getElem?_append_left hl] at hi
      exact hi
    · rw [List.getElem?_append_right (by omega)] at hi
      have hz : i - ks.length < 1 := (List.getElem?_eq_some_iff.mp hi).1
      rw [show i - ks.length = 0 by omega] at hi
      cases hi
      exact absurd h0 hk
  exact fun k0 h0 i j hi hj => hU k0 h0 i j (hlt k0 h0 i hi) (hlt k0 h0 j hj)
theorem GH_app {kt : List sgK} {tys : List (ClassId × FieldType)} {ad ks : List Nat} {ws : va_W} (hT : TH kt tys ad ks ws) (hg : GH kt ks ws) {q : Nat × va_E} {k : Nat} (hgo : ∀ (a j : Nat) (v : Value), gof kt k a j v) : GH kt (ks ++ [k]) (ws ++ [q]) := by
  have hl : ws.length = ks.length := by
    have := hT.2.1
    rw [← hT.1, List.length_map] at this
    exact this
  intro j x k' h1 h2
  by_cases hj : j < ws.length
  · rw [List.getElem?_append_left hj] at h1
    rw [List.getElem?_append_left (by omega)] at h2
    exact hg j x k' h1 h2
  · rw [List.getElem?_append_right (by omega)] at h2
    have hz : j - ks.length < 1 := (List.getElem?_eq_some_iff.mp h2).1
    rw [show j - ks.length = 0 by omega] at h2
    cases h2
    exact okG_all (fun j v => hgo _ j v) _
section SGN
variable {p : Program} {l : Launch} {e : Env} {R : Room} {s : State} {m : MethodId} {args : Array Value} {below : List Frame} {meth : Method} {c : Code} {H : Heap} {locs : List Loc} {cells slots : Nat} {Q : State → Prop}
variable {cc : ByteArray} {nL pc : Nat} {ls : Array Slot} {rest : List Value} {own : String} {kt : List sgK} {D : va_G} {cl : List vw_C} {base : Nat} {a : Nat} {tys : List (ClassId × FieldType)} {ad ks : List Nat} {H0 : Heap}
variable {y : MethodName} {bytes : ByteArray} {maxL index n : Nat} {ret : Option FieldType} {rm : Room} {As : List Value} {st0 : List Value} {mc ms : Nat}
theorem sg_newi (X : CallFix p m c cc nL s args sg_tbl own) (hK : va_K D cl tys s) (hG : sgG kt D cl (fun q : Nat => base ≤ q) tys ad ks H) (hS : va_S (fun q : Nat => base ≤ q) s.heap H locs) (hb : base ≤ s.heap.size)
    {n : Int32} {N k : Nat} {el : Nat → sgT} (hk : kt[k]? = some (.inr (N, .int, el))) (hz : ∀ (ad ks : List Nat) (i : Nat), okV ad ks (el i) (.int 0)) (hu : k ∉ [2, 8, 10, 11, 12, 16, 42, 45, 49, 50, 51, 52, 53, 54]) (harr : Cond.arrayClass .int ∈ sg_tbl)
    (hn : ¬ n < 0) (hN : n.toNatClampNeg = N) (hby : N * componentBytes .int ≤ 536870912) (hc : cells + 1 ≤ R.cells) (hs : slots + N ≤ R.slots) (hdg : decode cc pc = .ok (.newarray .int, 2))
    (kk : ∀ (q : Nat) (tys1 : List (ClassId × FieldType)) (ad1 ks1 : List Nat) (H1 : Heap), sgMo ad ks ad1 ks1 → isK ad1 ks1 k q → va_K D cl tys1 s → sgG kt D cl (fun q : Nat => base ≤ q) tys1 ad1 ks1 H1 → va_S (fun q : Nat => base ≤ q) s.heap H1 locs →
      W p l e R s m args below meth c H1 locs (cells + 1) (slots + N) Q (F0 m (pc + 2) ls (.ref q :: rest))) (hgo : ∀ (a j : Nat) (v : Value), gof kt k a j v := by exact fun _ _ _ => gof_no rfl) : W p l e R s m args below meth c H locs cells slots Q (F0 m pc ls (.int n :: rest)) := by
  obtain ⟨ws, hP, hD, hT, hU⟩ := hG
  have hl : ad.length = ks.length := hT.2.1
  refine va_newa (atype := .int) (ty := .int) (a0 := (N, .inl (fun _ => 0))) X.1 X.2.1 (X.2.2.2.2 _ harr) rfl hK hP hD hS (fun q hq => Nat.le_trans hb hq) (N' := N) (fun _ => rfl) hn hN hby hc hs hdg (fun q cA H1 hK1 hP1 hD1 hS1 => ?_)
  refine kk q (tys ++ [(cA, .int)]) (ad ++ [q]) (ks ++ [k]) H1 (sgMo.app q k) ⟨ad.length, by simp, by rw [hl]; simp⟩ hK1 ⟨_, hP1, hD1, TH_app hT (fun x hx => List.mem_append_left _ hx) hk ?_, sgU_app hU.1 hu, GH_app hT hU.2 hgo⟩ hS1
  exact ⟨rfl, List.mem_append_right _ (List.mem_singleton.mpr rfl), fun i _ => hz _ _ _, Or.inl rfl⟩
theorem sg_iretN {post : Int32 → Prop} {PW : Int32 → State → Prop} {v : Int32} (X : CallFix p m c cc nL s args sg_tbl own) (hr : meth.sig.returnType = some .int) (hlocks : meth.locks = false) (hS : va_S (fun q : Nat => base ≤ q) s.heap H locs) (hp : post v) (hw : ∀ t : State, t.heap = H → s.WarmedH t.vm → PW v t) (hdg : decode cc pc = .ok (.ireturn, 1)) :
    W p l e R s m args below meth c H locs mc ms (MQ below (va_Qi (fun r (u : Int32) => u = r ∧ post r) PW (fun q : Nat => base ≤ q)) args s mc ms (fun q : Nat => base ≤ q)) (F0 m pc ls [.int v]) :=
  W.iret (v := v) X.1 X.2.1 hr (fun t ht hW => ⟨⟨v, v, rfl, ⟨rfl, hp⟩, hw t ht hW⟩, hS.F ht⟩) hS.2.2 hdg hlocks
theorem sg_vretN {PW : State → Prop} (X : CallFix p m c cc nL s args sg_tbl own) (hr : meth.sig.returnType = none) (hlocks : meth.locks = false) (hS : va_S (fun q : Nat => base ≤ q) s.heap H locs) (hw : ∀ t : State, t.heap = H → s.WarmedH t.vm → PW t) (hdg : decode cc pc = .ok (.return_, 1)) :
    W p l e R s m args below meth c H locs mc ms (MQ below (va_Qv (fun (_ : Unit) => True) (fun _ => PW) (fun q : Nat => base ≤ q)) args s mc ms (fun q : Nat => base ≤ q)) (F0 m pc ls []) :=
  W.vret X.1 X.2.1 hr (fun t ht hW => ⟨⟨(), rfl, trivial, hw t ht hW⟩, hS.F ht⟩) hS.2.2 hdg hlocks
theorem sg_cbN (hts : ∀ w ∈ sg_tbl, w.before args s = true) (hcode : Cond.code y bytes maxL ret ∈ sg_tbl) (hrc : rm.cells = mc) (hrs : rm.slots = ms) (hini : Cond.initialized y.cls ∈ sg_tbl) (hl : Cond.methodLink own index y ∈ sg_tbl) (hd : y.cls ≠ "java/lang/invoke/MethodHandle" ∧ y.cls ≠ "java/lang/invoke/VarHandle" ∧ (parseMethodDescriptor y.desc).map (fun d => d.parameters.length) = some n) (hR : rm.frames + 1 ≤ R.frames ∧ 8 + (maxL + 11) + rm.locals ≤ R.locals) :
    CallB R s args own index y bytes maxL ret (Cond.code y bytes maxL ret :: sg_tbl) rm mc ms n := callB_of n hts (sg_goodc hcode) rfl hrc hrs (hts _ hini) (hts _ hl) hd hR
theorem sg_callNi {PW : Int32 → State → Prop} (X : CallFix p m c cc nL s args sg_tbl own) (hK : va_K D cl tys s) (hG : sgG kt D cl (fun q : Nat => base ≤ q) tys ad ks H) (hC : sgC base s) (hS : va_S (fun q : Nat => base ≤ q) s.heap H locs) (hb : base ≤ s.heap.size) {post : Int32 → Prop}
    (hM : Met l y (Cond.code y bytes maxL ret :: sg_tbl) rm (va_Pc (.ref a :: As) (sgB kt D cl base tys ad ks)) (va_Qi (fun r (u : Int32) => u = r ∧ post r) PW (fun q : Nat => base ≤ q)) mc ms (fun q : Nat => base ≤ q)) {k ci : Nat} (ha : isK ad ks k a) {fts : List sgT} (hk : kt[k]? = some (.inl (ci, fts))) {C : String} {T : u_T} {N : Nat} (hc : cl[ci]? = some (C, T, N))
    (hcode : Cond.code y bytes maxL ret ∈ sg_tbl) (hini : Cond.initialized y.cls ∈ sg_tbl) (hinst : Cond.instanceMethod y ∈ sg_tbl) (hsel : Cond.selects C y y ∈ sg_tbl) (hd : y.cls ≠ "java/lang/invoke/MethodHandle" ∧ y.cls ≠ "java/lang/invoke/VarHandle" ∧ (parseMethodDescriptor y.desc).map (fun d => d.parameters.length) = some n) (hrc : rm.cells = mc) (hrs : rm.slots = ms) (hn : As.length = n)
    (hl : Cond.methodLink own index y ∈ sg_tbl) (hsize : ls.size = nL) (hst : st0 = As.reverse ++ .ref a :: rest) (hW : (rest.map fun v => v.category).sum ≤ 8) (hR : rm.frames + 1 ≤ R.frames ∧ 8 + (maxL + 11) + rm.locals ≤ R.locals) (hf : cells + mc ≤ R.cells ∧ slots + ms ≤ R.slots) (hdg : decode cc pc = .ok (.invokevirtual index, 3))
    (kk : ∀ (r : Int32) (t : State) (H1 : Heap) (locs1 : List Loc), s.vm.Alike t.vm → t.heap = H1 → post r → PW r t → va_S (fun q : Nat => base ≤ q) s.heap H1 locs1 → W p l e R s m args below meth c H1 locs1 (cells + mc) (slots + ms) Q (F0 m (pc + 3) ls (.int r :: rest))) : W p l e R s m args below meth c H locs cells slots Q (F0 m pc ls st0) := by
  obtain ⟨hx, hbc, hml, hown, hts⟩ := id X
  have hG' := hG
  obtain ⟨ws, hP, hD, hT, hU⟩ := hG'
  obtain ⟨q0, en, K, hw, hkq, hK', hE⟩ := ha.in hT
  rw [hk] at hK'
  cases hK'
  cases en with
  | inl z => exact hE.elim
  | inr q =>
    obtain ⟨ci', fs⟩ := q
    obtain ⟨h1, -, -⟩ := hE
    dsimp only at h1
    subst h1
    have hrun := va_runV (H := H) (locs := locs) (cells := cells) (slots := slots) (below := below) (meth := meth) (R := R) (l := l) (e := e) (C := C) (b := a) (As := As) (rest := rest) (g := F0 m pc ls st0) X hM ⟨sg_cbN hts hcode hrc hrs hini hl hd hR, hts _ hinst, hts _ hsel⟩ ⟨sgB.blind, va_recv hK hP hc hw, sg_into hK hG hC hS hb⟩ rfl hn hsize hst (lv_room hW) hdg hf
    refine va_calli hrun hS (fun q _ h => h) (fun q h => h) fun r u t H1 locs1 ht hvm hp hB hz hk1 hS1 => ?_
    obtain ⟨rfl, hp⟩ := hp
    exact kk _ t H1 locs1 hvm ht hp hB hS1
theorem sg_callNv {PW : State → Prop} (X : CallFix p m c cc nL s args sg_tbl own) (hK : va_K D cl tys s) (hG : sgG kt D cl (fun q : Nat => base ≤ q) tys ad ks H) (hC : sgC base s) (hS : va_S (fun q : Nat => base ≤ q) s.heap H locs) (hb : base ≤ s.heap.size)
    (hM : Met l y (Cond.code y bytes maxL ret :: sg_tbl) rm (va_Pc (.ref a :: As) (sgB kt D cl base tys ad ks)) (va_Qv (fun (_ : Unit) => True) (fun _ => PW) (fun q : Nat => base ≤ q)) mc ms (fun q : Nat => base ≤ q)) {k ci : Nat} (ha : isK ad ks k a) {fts : List sgT} (hk : kt[k]? = some (.inl (ci, fts))) {C : String} {T : u_T} {N : Nat} (hc : cl[ci]? = some (C, T, N))
    (hcode : Cond.code y bytes maxL ret ∈ sg_tbl) (hini : Cond.initialized y.cls ∈ sg_tbl) (hinst : Cond.instanceMethod y ∈ sg_tbl) (hsel : Cond.selects C y y ∈ sg_tbl) (hd : y.cls ≠ "java/lang/invoke/MethodHandle" ∧ y.cls ≠ "java/lang/invoke/VarHandle" ∧ (parseMethodDescriptor y.desc).map (fun d => d.parameters.length) = some n) (hrc : rm.cells = mc) (hrs : rm.slots = ms) (hn : As.length = n)
    (hl : Cond.methodLink own index y ∈ sg_tbl) (hsize : ls.size = nL) (hst : st0 = As.reverse ++ .ref a :: rest) (hW : (rest.map fun v => v.category).sum ≤ 8) (hR : rm.frames + 1 ≤ R.frames ∧ 8 + (maxL + 11) + rm.locals ≤ R.locals) (hf : cells + mc ≤ R.cells ∧ slots + ms ≤ R.slots) (hdg : decode cc pc = .ok (.invokevirtual index, 3))
    (kk : ∀ (t : State) (H1 : Heap) (locs1 : List Loc), s.vm.Alike t.vm → t.heap = H1 → PW t → va_S (fun q : Nat => base ≤ q) s.heap H1 locs1 → W p l e R s m args below meth c H1 locs1 (cells + mc) (slots + ms) Q (F0 m (pc + 3) ls rest)) : W p l e R s m args below meth c H locs cells slots Q (F0 m pc ls st0) := by
  obtain ⟨hx, hbc, hml, hown, hts⟩ := id X
  have hG' := hG
  obtain ⟨ws, hP, hD, hT, hU⟩ := hG'
  obtain ⟨q0, en, K, hw, hkq, hK', hE⟩ := ha.in hT
  rw [hk] at hK'
  cases hK'
  cases en with
  | inl z => exact hE.elim
  | inr q =>
    obtain ⟨ci', fs⟩ := q
    obtain ⟨h1, -, -⟩ := hE
    dsimp only at h1
    subst h1
    have hrun := va_runV (H := H) (locs := locs) (cells := cells) (slots := slots) (below := below) (meth := meth) (R := R) (l := l) (e := e) (C := C) (b := a) (As := As) (rest := rest) (g := F0 m pc ls st0) X hM ⟨sg_cbN hts hcode hrc hrs hini hl hd hR, hts _ hinst, hts _ hsel⟩ ⟨sgB.blind, va_recv hK hP hc hw, sg_into hK hG hC hS hb⟩ rfl hn hsize hst (lv_room hW) hdg hf
    refine va_callv hrun hS (fun q _ h => h) (fun q h => h) fun u t H1 locs1 ht hvm hp hB hz hk1 hS1 => ?_
    exact kk t H1 locs1 hvm ht hB hS1
theorem sg_hKb {t : State} (hvm : s.vm.Alike t.vm) (hB : sgB kt D cl base tys ad ks t) : va_K D cl tys s := va_K.moved hvm.symm hB.2.1
theorem sg_pc30 {x : Int32} (hx : iv 0 1073741823 x) : sg_pc 32 x.toBitVec.toNat ≤ 30 := by
  have h1 := iv_nn hx (by decide)
  have h2 := hx.2
  have h3 : x.toBitVec.toNat < 1073741824 := by omega
  have h4 : x.toBitVec.toNat.testBit 30 = false := Nat.testBit_lt_two_pow (by omega)
  have h5 : x.toBitVec.toNat.testBit 31 = false := Nat.testBit_lt_two_pow (by omega)
  have h6 := sg_pc_le x.toBitVec.toNat 30
  show sg_pc 30 _ + (if x.toBitVec.toNat.testBit 30 = true then 1 else 0) + (if x.toBitVec.toNat.testBit 31 = true then 1 else 0) ≤ 30
  rw [h4, h5]
  simpa using h6
theorem sg_popb30 {x r : Int32} (h : r.toInt = (sg_pc 32 x.toBitVec.toNat : Int)) (hx : iv 0 1073741823 x) (hr : iv 0 63 r) : iv 0 30 r := ⟨hr.1, by have := sg_pc30 hx; omega⟩
theorem sg_ofN {Pq : Array Value → State → Outcome → State → Prop} {av : List Value} (hy : plainName y.cls = true) (hfit : (lg_sl av).length ≤ maxL)
    (body : ∀ (p : Program) (e : Env) (s : State) (m : MethodId) (below : List Frame) (meth : Method) (c : Code), CallFix p m c bytes maxL s av.toArray sg_tbl y.cls → meth.sig.returnType = ret → meth.locks = false → base ≤ s.heap.size → va_K D cl tys s → sgC base s → sgG kt D cl (fun q : Nat => base ≤ q) tys ad ks s.heap → ∀ ls : Array Slot, lv_has ls maxL (lv_args 0 av) →
      W p l e (headSpec (Cond.code y bytes maxL ret :: sg_tbl) rm).room s m av.toArray below meth c s.heap [] 0 0 (MQ below Pq av.toArray s mc ms (fun q : Nat => base ≤ q)) (F0 m 0 ls [])) :
    Met l y (Cond.code y bytes maxL ret :: sg_tbl) rm (va_Pc av (sgB kt D cl base tys ad ks)) Pq mc ms (fun q : Nat => base ≤ q) := by
  refine Met.ofW (cc := bytes) (maxL := maxL) (ret := ret) hy rfl ?_
  intro p e s m args below meth c s₁ B hml hv
  obtain ⟨rfl, hb, hK, hC, hG⟩ := hv
  have hts := atoms_spec (ws := Cond.code y bytes maxL ret :: sg_tbl) B.pre
  have hown : s.vm.findClass y.cls = some m.cls := findClass_of_methodNamed B.named
  rw [lg_entry_eq]
  exact body p e s m below meth c ⟨B.exec, B.bytes, hml, hown, fun w hw => hts w (List.mem_cons_of_mem _ hw)⟩ B.returns B.notSynchronized hb hK hC hG _ (lv_entry av hfit)
end SGN
theorem sg_plTopF {P : sgPm} {D : va_G} {A : Nat → Prop} {tys : List (ClassId × FieldType)} {ad ks : List Nat} {H : Heap} (hp : P.2.1 = false) (hG : sgG (KT P) D vwCl A tys ad ks H) : sgG (KT (sgPlTop (P.1, false, P.2.2))) D vwCl A tys ad ks H := by
  have e : ((P.1, false, P.2.2) : sgPm) = P := by rw [← hp]
  rw [e]
  exact sg_plTop hG
theorem sg_fewF {P : sgPm} {D : va_G} {A : Nat → Prop} {tys : List (ClassId × FieldType)} {ad ks : List Nat} {H : Heap} (hp : P.2.2.1 = false) (hG : sgG (KT P) D vwCl A tys ad ks H) : sgG (KT (P.1, P.2.1, false, P.2.2.2)) D vwCl A tys ad ks H := by
  have e : ((P.1, P.2.1, false, P.2.2.2) : sgPm) = P := by rw [← hp]
  rw [e]
  exact hG
