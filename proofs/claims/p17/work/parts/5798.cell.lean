/-- what a throw stands on -/
def sgX (base : Nat) (U : State) : Prop := vx_Zq Bundle.tN "UNASSIGNED_STACK" Bundle.steD (fun q : Nat => base ≤ q) U U.heap ∧ vx_Zq Bundle.tN "SUPPRESSED_SENTINEL" Bundle.listD (fun q : Nat => base ≤ q) U U.heap ∧ va_Nw (.declares (Bundle.init0 "java/lang/RuntimeException")) U ∧ va_Nw (.declares (Bundle.init0 "java/lang/Exception")) U ∧ va_Nw (.declares (Bundle.init0 Bundle.tN)) U ∧ va_Nw (.castable "java/util/NoSuchElementException" "java/util/NoSuchElementException") U
theorem sgX.blind {base : Nat} {U : State} {g : JFrame} {mk : MethodId} {ar : Array Value} (h : sgX base U) : sgX base (U.calling g mk ar) := by
  obtain ⟨n0, n1, n2, n3, n4, n5⟩ := h
  exact ⟨vx_Zq.moved (Vm.Alike.refl _) n0, vx_Zq.moved (Vm.Alike.refl _) n1, va_Nw.same rfl rfl n2, va_Nw.same rfl rfl n3, va_Nw.same rfl rfl n4, va_Nw.same rfl rfl n5⟩
theorem sgX.call {base : Nat} {s U : State} {H : Heap} {locs : List Loc} (h : sgX base s) (hS : va_S (fun q : Nat => base ≤ q) s.heap H locs) (hU : U.heap = H) (hW : s.WarmedH U.vm) : sgX base U := by
  obtain ⟨n0, n1, n2, n3, n4, n5⟩ := h
  exact ⟨by rw [hU]; exact (n0.kept hS.2.1).moved hW.alike, by rw [hU]; exact (n1.kept hS.2.1).moved hW.alike, va_Nw.warmD hW n2, va_Nw.warmD hW n3, va_Nw.warmD hW n4, va_Nw.warmC hW n5⟩
theorem sg_ext {kt : List sgK} {D : va_G} {cl : List vw_C} {A : Nat → Prop} {tys : List (ClassId × FieldType)} {ad ks : List Nat} {H H1 : Heap} (hG : sgG kt D cl A tys ad ks H) (h2 : H.size ≤ H1.size) (h3 : ∀ q : Nat, q < H.size → H1[q]? = H[q]?) : sgG kt D cl A tys ad ks H1 := by
  obtain ⟨ws, hP, hD, hT⟩ := hG
  exact ⟨ws, hP.kept (fun k x hx => h3 x.1 ((hP k x hx).lt)), hD, hT⟩
/-- a contract out of a walk, for a method with a table of its own -/
theorem p1_ofWH {l : Launch} {y : MethodName} {ws ws' : List Cond} {rm : Room} {Pc : Array Value → State → Prop} {Qc : Array Value → State → Outcome → State → Prop} {mc ms : Nat} {free : Addr → Prop} {cc : ByteArray} {maxL : Nat} {ret : Option FieldType} {hh : List (Nat × Nat × Nat × Nat)}
    (hy : plainName y.cls = true) (hw : ws = Cond.codeWith y cc maxL ret hh :: ws')
    (body : ∀ p e s m args below meth c s₁, BodyLoose p l y (headSpec ws rm) cc maxL ret e s m args below meth c s₁ → c.maxLocals = maxL → Pc args s →
      W p l e (headSpec ws rm).room s m args below meth c s.heap [] 0 0 (MQ below Qc args s mc ms free) (entryFrame m args maxL)) : Met l y ws rm Pc Qc mc ms free := by
  refine MetFree.of_bodyS (code := cc) (maxLocals := maxL) (ret := ret) hy ?_ ?_
  · intro args s m h hn
    obtain ⟨m9, meth, c, hn9, h1, h2, h3, h4, -, h5, h6, -⟩ := Cond.codeWith_spec (atoms_spec (ws := ws) h _ (by rw [hw]; exact List.mem_cons_self))
    cases hn.symm.trans hn9
    exact ⟨meth, c, h1, h2, h3, h4, h5, h6⟩
  · intro p e s m args below meth c s₁ B hml hP _
    have hh0 : s₁.heap = s.heap := by rw [B.state]; rfl
    obtain ⟨t, a1, o, b1, b2, b3⟩ := body p e s m args below meth c s₁ B hml hP s₁ hh0 (Stand.of_body B)
    exact ⟨t, o, a1, b1, b2, ⟨b3.1, b3.2⟩⟩
section SGE
variable {p : Program} {l : Launch} {e : Env} {R : Room} {s : State} {m : MethodId} {args : Array Value} {below : List Frame} {meth : Method} {c : Code} {H : Heap} {locs : List Loc} {cells slots : Nat} {Q : State → Prop}
variable {cc : ByteArray} {nL pc : Nat} {ls : Array Slot} {rest : List Value} {own : String} {kt : List sgK} {D : va_G} {cl : List vw_C} {base : Nat} {a : Nat} {tys : List (ClassId × FieldType)} {ad ks : List Nat} {H0 : Heap}
variable {y : MethodName} {bytes : ByteArray} {maxL index n : Nat} {ret : Option FieldType} {rm : Room} {As : List Value} {st0 : List Value} {mc ms : Nat}
theorem sgX.blindP {av : List Value} : FrameBlind (va_Pc av (fun U => sgX base U ∧ sgB kt D cl base tys ad ks U)) := fun ar U g mk q => ⟨q.1, q.2.1.blind, (sgB.blind (av := av) ar U g mk ⟨q.1, q.2.2⟩).2⟩
theorem sg_cellrun (X : CallFix p m c cc nL s args sg_tbl own) (hK : va_K D cl tys s) (hG : sgG kt D cl (fun q : Nat => base ≤ q) tys ad ks H) (hC : sgC base s) (hS : va_S (fun q : Nat => base ≤ q) s.heap H locs) (hb : base ≤ s.heap.size) (hXX : sgX base s)
    (hM : vx_Met l y (Cond.code y bytes maxL ret :: sg_tbl) rm (va_Pc (.ref a :: As) (fun U => sgX base U ∧ sgB kt D cl base tys ad ks U)) (va_Qi (fun _ (_ : Unit) => True) (fun _ t => sgG kt D cl (fun q : Nat => base ≤ q) tys ad ks t.heap) (fun q : Nat => base ≤ q)) (vx_X (fun (_ : Unit) => True) (fun E _ t => E = "java/util/NoSuchElementException" ∧ sgG kt D cl (fun q : Nat => base ≤ q) tys ad ks t.heap) (fun q : Nat => base ≤ q)) mc ms (fun q : Nat => base ≤ q)) {k ci : Nat} (ha : isK ad ks k a) {fts : List sgT} (hk : kt[k]? = some (.inl (ci, fts))) {C : String} {T : u_T} {N : Nat} (hc : cl[ci]? = some (C, T, N))
    (hcode : Cond.code y bytes maxL ret ∈ sg_tbl) (hini : Cond.initialized y.cls ∈ sg_tbl) (hinst : Cond.instanceMethod y ∈ sg_tbl) (hsel : Cond.selects C y y ∈ sg_tbl) (hd : y.cls ≠ "java/lang/invoke/MethodHandle" ∧ y.cls ≠ "java/lang/invoke/VarHandle" ∧ (parseMethodDescriptor y.desc).map (fun d => d.parameters.length) = some n) (hrc : rm.cells = mc) (hrs : rm.slots = ms) (hn : As.length = n)
    (hl : Cond.methodLink own index y ∈ sg_tbl) (hsize : ls.size = nL) (hst : st0 = As.reverse ++ .ref a :: rest) (hW : (rest.map fun v => v.category).sum ≤ 8) (hR : rm.frames + 1 ≤ R.frames ∧ 8 + (maxL + 11) + rm.locals ≤ R.locals) (hf : cells + mc ≤ R.cells ∧ slots + ms ≤ R.slots) (hdg : decode cc pc = .ok (.invokevirtual index, 3))
    (kx : ∀ (ce : Cell) (q9 : Nat) (H1 : Heap) (locs1 : List Loc), H1[q9]? = some ce → ce.vm = .none → s.vm.findClass "java/util/NoSuchElementException" = some ce.cls → sgG kt D cl (fun q : Nat => base ≤ q) tys ad ks H1 → va_S (fun q : Nat => base ≤ q) s.heap H1 locs1 → vx_W p l e R s m args below meth c H1 locs1 (cells + mc) (slots + ms) Q (F0 m pc ls rest) q9)
    (kk : ∀ (r : Int32) (H1 : Heap) (locs1 : List Loc), sgG kt D cl (fun q : Nat => base ≤ q) tys ad ks H1 → va_S (fun q : Nat => base ≤ q) s.heap H1 locs1 → W p l e R s m args below meth c H1 locs1 (cells + mc) (slots + ms) Q (F0 m (pc + 3) ls (.int r :: rest))) : W p l e R s m args below meth c H locs cells slots Q (F0 m pc ls st0) := by
  obtain ⟨hx, hbc, hml, hown, hts⟩ := id X
  have hG' := hG
  obtain ⟨ws, hP, hD, hT, hU⟩ := hG'
  obtain ⟨q0, en, K, hw, hkq, hK', hE⟩ := ha.in hT
  rw [hk] at hK'
  cases hK'
  cases en with
  | inl z => exact hE.elim
  | inr q =>
    obtain ⟨ci', fs⟩ := q
    obtain ⟨h1, -, -⟩ := hE
    dsimp only at h1
    subst h1
    have hrun := vx_runV (H := H) (locs := locs) (cells := cells) (slots := slots) (below := below) (meth := meth) (R := R) (l := l) (e := e) (C := C) (b := a) (As := As) (rest := rest) (g := F0 m pc ls st0) X hM ⟨sg_cbN hts hcode hrc hrs hini hl hd hR, hts _ hinst, hts _ hsel⟩ ⟨sgX.blindP, va_recv hK hP hc hw, fun U hU hW => ⟨rfl, hXX.call hS hU hW, (sg_into hK hG hC hS hb (av := .ref a :: As) U hU hW).2⟩⟩ rfl hn hsize hst (lv_room hW) hdg hf
    refine vx_calli hrun hS (fun q _ h => h) (fun q h => h) (fun q _ h => h) (fun E ce q9 u t H1 locs1 ht hvm _ hB hz hk1 hS1 hce hcv hcl => ?_) (fun r u t H1 locs1 ht hvm hp hB hz hk1 hS1 => ?_)
    · obtain ⟨rfl, hB⟩ := hB
      exact kx ce q9 H1 locs1 hce hcv hcl (by rw [← ht]; exact hB) hS1
    · exact kk r H1 locs1 (by rw [← ht]; exact hB) hS1
theorem sg_lcellrun {hh : List (Nat × Nat × Nat × Nat)} (X : CallFix p m c cc nL s args sg_tbl own) (hK : va_K D cl tys s) (hG : sgG kt D cl (fun q : Nat => base ≤ q) tys ad ks H) (hC : sgC base s) (hS : va_S (fun q : Nat => base ≤ q) s.heap H locs) (hb : base ≤ s.heap.size) (hXX : sgX base s)
    (hM : Met l y (Cond.codeWith y bytes maxL ret hh :: sg_tbl) rm (va_Pc As (fun U => sgX base U ∧ sgB kt D cl base tys ad ks U)) (va_Qi (fun _ (_ : Unit) => True) (fun _ t => sgG kt D cl (fun q : Nat => base ≤ q) tys ad ks t.heap) (fun q : Nat => base ≤ q)) mc ms (fun q : Nat => base ≤ q))
    (hcw : Cond.codeWith y bytes maxL ret hh ∈ sg_tbl) (hl : Cond.methodLink own index y ∈ sg_tbl) (hstt : Cond.static y ∈ sg_tbl) (hini : Cond.initialized y.cls ∈ sg_tbl) (hd : y.cls ≠ "java/lang/invoke/MethodHandle" ∧ y.cls ≠ "java/lang/invoke/VarHandle" ∧ (parseMethodDescriptor y.desc).map (fun d => d.parameters.length) = some n) (hrc : rm.cells = mc) (hrs : rm.slots = ms) (hn : As.length = n)
    (hsize : ls.size = nL) (hst : st0 = As.reverse ++ rest) (hW : (rest.map fun v => v.category).sum ≤ 8) (hR : rm.frames + 1 ≤ R.frames ∧ 8 + (maxL + 11) + rm.locals ≤ R.locals) (hf : cells + mc ≤ R.cells ∧ slots + ms ≤ R.slots) (hdg : decode cc pc = .ok (.invokestatic index, 3))
    (kk : ∀ (r : Int32) (H1 : Heap) (locs1 : List Loc), sgG kt D cl (fun q : Nat => base ≤ q) tys ad ks H1 → va_S (fun q : Nat => base ≤ q) s.heap H1 locs1 → W p l e R s m args below meth c H1 locs1 (cells + mc) (slots + ms) Q (F0 m (pc + 3) ls (.int r :: rest))) : W p l e R s m args below meth c H locs cells slots Q (F0 m pc ls st0) := by
  obtain ⟨hx, hbc, hml, hown, hts⟩ := id X
  have hgi : GoodIn sg_tbl (va_wsS own index y (Cond.codeWith y bytes maxL ret hh :: sg_tbl)) := by
    intro w hw
    unfold va_wsS at hw
    rcases List.mem_append.mp hw with h | h
    · rcases List.mem_cons.mp h with rfl | h
      · exact sg_goodc hl _ List.mem_cons_self
      · rcases List.mem_cons.mp h with rfl | h
        · exact sg_goodc hstt _ List.mem_cons_self
        · rw [List.mem_singleton.mp h]
          exact sg_goodc hini _ List.mem_cons_self
    · exact sg_goodc hcw w h
  have hrun := vx_runSW (hh := hh) (H := H) (locs := locs) (cells := cells) (slots := slots) (below := below) (meth := meth) (R := R) (l := l) (e := e) (As := As) (rest := rest) (g := F0 m pc ls st0) X hM (vx_cwSW n hts hgi rfl hrc hrs hd hR) ⟨sgX.blindP, fun U hU hW => ⟨rfl, hXX.call hS hU hW, (sg_into hK hG hC hS hb (av := As) U hU hW).2⟩⟩ rfl hn hsize hst (lv_room hW) hdg hf
  refine va_calli hrun hS (fun q _ h => h) (fun q h => h) fun r u t H1 locs1 ht hvm hp hB hz hk1 hS1 => ?_
  exact kk r H1 locs1 (by rw [← ht]; exact hB) hS1
end SGE
theorem sg_th {kt : List sgK} {D : va_G} {cl : List vw_C} {A : Nat → Prop} {tys : List (ClassId × FieldType)} {ad ks : List Nat} {H : Heap} {t : State} (ht : t.heap = H) (hG : sgG kt D cl A tys ad ks H) : sgG kt D cl A tys ad ks t.heap := by rw [ht]; exact hG
