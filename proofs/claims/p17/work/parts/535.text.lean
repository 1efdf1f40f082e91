theorem va_ldcSW {p : Program} {l : Launch} {e : Env} {R : Room} {s : State} {m : MethodId} {args : Array Value} {below : List Frame} {meth : Method} {c : Code} {H : Heap} {locs : List Loc} {cells slots : Nat} {Q : State → Prop} {cc : ByteArray} {pc : Nat} {ls : Array Slot} {rest : List Value} (hexec : p.tables.exec = Jvm.exec) (hb : c.code = cc) {own tx : String} {index q : Nat} (hown : s.vm.findClass own = some m.cls) (hZ : vk_R own index tx q s) (hdg : decode cc pc = .ok (.ldc_w index, 3))
    (k : W p l e R s m args below meth c H locs cells slots Q (F0 m (pc + 3) ls (.ref q :: rest))) : W p l e R s m args below meth c H locs cells slots Q (F0 m pc ls rest) := by
  intro T hT X
  obtain ⟨t, a1, b1⟩ := k T hT X
  exact ⟨t, X.ldcStringW hexec hown (text := tx) (a := q) hZ.1 hZ.2 (g := F0 m pc ls rest) rfl (by rw [hb]; exact hdg) t a1, b1⟩
theorem sgB.blindQ {kt : List sgK} {D : va_G} {cl : List vw_C} {base : Nat} {tys : List (ClassId × FieldType)} {ad ks : List Nat} {av : List Value} {ta tv tn : Nat} {tb : List Int32} : FrameBlind (va_Pc av (fun U => P_S ta tv tn tb (fun q : Nat => base ≤ q) U ∧ sgB kt D cl base tys ad ks U)) := by
  intro a U g mk q
  obtain ⟨q0, qE, q1, qK, qC, qG⟩ := q
  exact ⟨q0, qE.blind, q1, va_K.moved (u := U) (U := U.calling g mk a) (Vm.Alike.refl U.vm) qK, qC.blind, qG⟩
section
variable {p : Program} {l : Launch} {e : Env} {R : Room} {s : State} {m : MethodId} {args : Array Value} {below : List Frame} {meth : Method} {c : Code} {H : Heap} {locs : List Loc} {cells slots : Nat} {Q : State → Prop}
variable {cc : ByteArray} {nL pc : Nat} {ls : Array Slot} {rest : List Value} {own : String} {kt : List sgK} {D : va_G} {cl : List vw_C} {base : Nat} {a : Nat} {tys : List (ClassId × FieldType)} {ad ks : List Nat} {H0 : Heap}
variable {y : MethodName} {bytes : ByteArray} {maxL index n : Nat} {ret : Option FieldType} {rm : Room} {As : List Value} {st0 : List Value}
theorem sg_ofQ {Pq : Array Value → State → Outcome → State → Prop} {av : List Value} {ta tv tn : Nat} {tb : List Int32} (hy : plainName y.cls = true) (hfit : (lg_sl av).length ≤ maxL)
    (body : ∀ (p : Program) (e : Env) (s : State) (m : MethodId) (below : List Frame) (meth : Method) (c : Code), CallFix p m c bytes maxL s av.toArray sg_tbl y.cls → meth.sig.returnType = ret → meth.locks = false → base ≤ s.heap.size → va_K D cl tys s → sgC base s → sgG kt D cl (fun q : Nat => base ≤ q) tys ad ks s.heap → ∀ ls : Array Slot, lv_has ls maxL (lv_args 0 av) → P_S ta tv tn tb (fun q : Nat => base ≤ q) s →
      W p l e (headSpec (Cond.code y bytes maxL ret :: sg_tbl) rm).room s m av.toArray below meth c s.heap [] 0 0 (MQ below Pq av.toArray s 0 0 (fun q : Nat => base ≤ q)) (F0 m 0 ls [])) :
    Met l y (Cond.code y bytes maxL ret :: sg_tbl) rm (va_Pc av (fun U => P_S ta tv tn tb (fun q : Nat => base ≤ q) U ∧ sgB kt D cl base tys ad ks U)) Pq 0 0 (fun q : Nat => base ≤ q) := by
  refine Met.ofW (cc := bytes) (maxL := maxL) (ret := ret) hy rfl ?_
  intro p e s m args below meth c s₁ B hml hv
  obtain ⟨rfl, hp, hb, hK, hC, hG⟩ := hv
  have hts := atoms_spec (ws := Cond.code y bytes maxL ret :: sg_tbl) B.pre
  have hown : s.vm.findClass y.cls = some m.cls := findClass_of_methodNamed B.named
  rw [lg_entry_eq]
  exact body p e s m below meth c ⟨B.exec, B.bytes, hml, hown, fun w hw => hts w (List.mem_cons_of_mem _ hw)⟩ B.returns B.notSynchronized hb hK hC hG _ (lv_entry av hfit) hp
theorem sg_callQv {PW : State → Prop} {ta tv tn : Nat} {tb : List Int32} (X : CallFix p m c cc nL s args sg_tbl own) (hK : va_K D cl tys s) (hG : sgG kt D cl (fun q : Nat => base ≤ q) tys ad ks H) (hC : sgC base s) (hS : va_S (fun q : Nat => base ≤ q) s.heap H locs) (hb : base ≤ s.heap.size) (hp : P_S ta tv tn tb (fun q : Nat => base ≤ q) s)
    (hM : Met l y (Cond.code y bytes maxL ret :: sg_tbl) rm (va_Pc (.ref a :: As) (fun U => P_S ta tv tn tb (fun q : Nat => base ≤ q) U ∧ sgB kt D cl base tys ad ks U)) (va_Qv (fun (_ : Unit) => True) (fun _ => PW) (fun q : Nat => base ≤ q)) 0 0 (fun q : Nat => base ≤ q)) {k ci : Nat} (ha : isK ad ks k a) {fts : List sgT} (hk : kt[k]? = some (.inl (ci, fts))) {C : String} {T : u_T} {N : Nat} (hc : cl[ci]? = some (C, T, N))
    (hcode : Cond.code y bytes maxL ret ∈ sg_tbl) (hini : Cond.initialized y.cls ∈ sg_tbl) (hinst : Cond.instanceMethod y ∈ sg_tbl) (hsel : Cond.selects C y y ∈ sg_tbl) (hd : y.cls ≠ "java/lang/invoke/MethodHandle" ∧ y.cls ≠ "java/lang/invoke/VarHandle" ∧ (parseMethodDescriptor y.desc).map (fun d => d.parameters.length) = some n) (hrc : rm.cells = 0) (hrs : rm.slots = 0) (hn : As.length = n)
    (hl : Cond.methodLink own index y ∈ sg_tbl) (hsize : ls.size = nL) (hst : st0 = As.reverse ++ .ref a :: rest) (hW : (rest.map fun v => v.category).sum ≤ 8) (hR : rm.frames + 1 ≤ R.frames ∧ 8 + (maxL + 11) + rm.locals ≤ R.locals) (hf : cells ≤ R.cells ∧ slots ≤ R.slots) (hdg : decode cc pc = .ok (.invokevirtual index, 3))
    (kk : ∀ (t : State) (H1 : Heap) (locs1 : List Loc), t.heap = H1 → PW t → va_S (fun q : Nat => base ≤ q) s.heap H1 locs1 → W p l e R s m args below meth c H1 locs1 cells slots Q (F0 m (pc + 3) ls rest)) : W p l e R s m args below meth c H locs cells slots Q (F0 m pc ls st0) := by
  obtain ⟨hx, hbc, hml, hown, hts⟩ := id X
  have hG' := hG
  obtain ⟨ws, hP, hD, hT, hU⟩ := hG'
  obtain ⟨q0, en, K, hw, hkq, hK', hE⟩ := ha.in hT
  rw [hk] at hK'
  cases hK'
  cases en with
  | inl z => exact hE.elim
  | inr q =>
    obtain ⟨ci', fs⟩ := q
    obtain ⟨h1, -, -⟩ := hE
    dsimp only at h1
    subst h1
    have hrun := va_runV (H := H) (locs := locs) (cells := cells) (slots := slots) (below := below) (meth := meth) (R := R) (l := l) (e := e) (C := C) (b := a) (As := As) (rest := rest) (g := F0 m pc ls st0) X hM ⟨sg_cb hts hcode hrc hrs hini hl hd hR, hts _ hinst, hts _ hsel⟩ ⟨sgB.blindQ, va_recv hK hP hc hw, fun U hU hW => ⟨rfl, hp.call hS (fun q z => z) hU hW.alike, (sg_into (av := []) hK hG hC hS hb U hU hW).2⟩⟩ rfl hn hsize hst (lv_room hW) hdg hf
    refine va_callv hrun hS (fun q _ h => h) (fun q h => h) fun u t H1 locs1 ht hvm hp hB hz hk1 hS1 => ?_
    exact kk t H1 locs1 ht hB hS1
theorem sg_callS2i (X : CallFix p m c cc nL s args sg_tbl own) (hK : va_K D cl tys s) (hG : sgG kt D cl (fun q : Nat => base ≤ q) tys ad ks H) (hC : sgC base s) (hS : va_S (fun q : Nat => base ≤ q) s.heap H locs) (hb : base ≤ s.heap.size) {post : Int32 → Prop} {PW : Int32 → State → Prop}
    (hM : Met l y (Cond.code y bytes maxL ret :: sg_tbl) rm (va_Pc As (sgB kt D cl base tys ad ks)) (va_Qi (fun r (u : Int32) => u = r ∧ post r) PW (fun q : Nat => base ≤ q)) 0 0 (fun q : Nat => base ≤ q))
    (hcode : Cond.code y bytes maxL ret ∈ sg_tbl) (hini : Cond.initialized y.cls ∈ sg_tbl) (hstt : Cond.static y ∈ sg_tbl) (hd : y.cls ≠ "java/lang/invoke/MethodHandle" ∧ y.cls ≠ "java/lang/invoke/VarHandle" ∧ (parseMethodDescriptor y.desc).map (fun d => d.parameters.length) = some n) (hrc : rm.cells = 0) (hrs : rm.slots = 0) (hn : As.length = n)
    (hl : Cond.methodLink own index y ∈ sg_tbl) (hsize : ls.size = nL) (hst : st0 = As.reverse ++ rest) (hW : (rest.map fun v => v.category).sum ≤ 8) (hR : rm.frames + 1 ≤ R.frames ∧ 8 + (maxL + 11) + rm.locals ≤ R.locals) (hf : cells ≤ R.cells ∧ slots ≤ R.slots) (hdg : decode cc pc = .ok (.invokestatic index, 3))
    (kk : ∀ (r : Int32) (t : State) (H1 : Heap) (locs1 : List Loc), t.heap = H1 → post r → PW r t → va_S (fun q : Nat => base ≤ q) s.heap H1 locs1 → W p l e R s m args below meth c H1 locs1 cells slots Q (F0 m (pc + 3) ls (.int r :: rest))) : W p l e R s m args below meth c H locs cells slots Q (F0 m pc ls st0) := by
  obtain ⟨hx, hbc, hml, hown, hts⟩ := id X
  have hrun := va_runS (H := H) (locs := locs) (cells := cells) (slots := slots) (below := below) (meth := meth) (R := R) (l := l) (e := e) (As := As) (rest := rest) (g := F0 m pc ls st0) X hM ⟨sg_cb hts hcode hrc hrs hini hl hd hR, hts _ hstt⟩ ⟨sgB.blind, sg_into hK hG hC hS hb⟩ rfl hn hsize hst (lv_room hW) hdg hf
  refine va_calli hrun hS (fun q _ h => h) (fun q h => h) fun r u t H1 locs1 ht hvm hp hB hz hk1 hS1 => ?_
  obtain ⟨rfl, hp⟩ := hp
  exact kk _ t H1 locs1 ht hp hB hS1
end
