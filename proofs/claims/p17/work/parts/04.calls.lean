/-- a String constant, as it lies: the object a, its bytes v -/
def P_S (a v n : Nat) (bs : List Int32) (A : Nat → Prop) (U : State) : Prop := va_O "java/lang/String" a A U U.heap ∧ va_OF "java/lang/String" "coder" "B" (.int 0) a A U U.heap ∧ va_OF "java/lang/String" "value" "[B" (.ref v) a A U U.heap ∧ va_T .byte v n (fun j => .int (bs.getD j 0)) A U U.heap ∧ va_Z "java/lang/String" "COMPACT_STRINGS" "Z" (.int 1) A U U.heap ∧ va_Zq "jdk/internal/util/Preconditions" "SIOOBE_FORMATTER" "Ljava/util/function/BiFunction;" A U U.heap
theorem P_S.blind {a v n : Nat} {bs : List Int32} {A : Nat → Prop} {U : State} {g : JFrame} {mk : MethodId} {ar : Array Value} (h : P_S a v n bs A U) : P_S a v n bs A (U.calling g mk ar) := ⟨va_O.moved (Vm.Alike.refl _) h.1, va_OF.moved (Vm.Alike.refl _) h.2.1, va_OF.moved (Vm.Alike.refl _) h.2.2.1, va_T.moved (Vm.Alike.refl _) h.2.2.2.1, va_Z.moved (Vm.Alike.refl _) h.2.2.2.2.1, va_Zq.moved (Vm.Alike.refl _) h.2.2.2.2.2⟩
theorem P_S.call {a v n : Nat} {bs : List Int32} {A B : Nat → Prop} {s U : State} {H : Heap} {locs : List Loc} (h : P_S a v n bs A s) (hS : va_S A s.heap H locs) (hF : ∀ q, B q → A q) (hU : U.heap = H) (hW : s.vm.Alike U.vm) : P_S a v n bs B U := by
  subst hU
  exact ⟨((h.1.kept hS.2.1).narrow hF).moved hW, ((h.2.1.kept hS.2.1).narrow hF).moved hW, ((h.2.2.1.kept hS.2.1).narrow hF).moved hW, ((h.2.2.2.1.kept hS.2.1).narrow hF).moved hW, ((h.2.2.2.2.1.kept hS.2.1).narrow hF).moved hW, ((h.2.2.2.2.2.kept hS.2.1).narrow hF).moved hW⟩
theorem P_S.recv {a v n : Nat} {bs : List Int32} {A : Nat → Prop} {s : State} {H : Heap} {locs : List Loc} (h : P_S a v n bs A s) (hS : va_S A s.heap H locs) : ∃ cell : Cell, H[a]? = some cell ∧ cell.vm.isStatics = false ∧ s.vm.findClass RJ0 = some cell.cls := by
  obtain ⟨cell, h1, h2, h3, -⟩ := h.1.kept hS.2.1
  exact ⟨cell, h1, h2, h3⟩
/-- a text of a class's constants; a static table -/
def sgStr (own : String) (k : Nat) (tx : String) (n : Nat) (bs : List Int32) (A : Nat → Prop) (U : State) : Prop := ∃ a v : Nat, P_S a v n bs A U ∧ vk_R own k tx a U
def sgTab (C nm : String) (n : Nat) (vs : List Int32) (A : Nat → Prop) (U : State) : Prop := ∃ t : Nat, va_Z C nm "[I" (.ref t) A U U.heap ∧ va_T .int t n (fun j => .int (vs.getD j 0)) A U U.heap
/-- the constants, as they lie below base -/
def sgC (base : Nat) (U : State) : Prop :=
  (sgStr RX4 99 "whqklux" 7 [119, 104, 113, 107, 108, 117, 120] (fun q : Nat => base ≤ q) U ∧ sgStr RX6 86 "trcbdo" 6 [116, 114, 99, 98, 100, 111] (fun q : Nat => base ≤ q) U ∧ sgTab RX4 "LEAST" 7 [1, 1, 2, 1, 0, 0, 0] (fun q : Nat => base ≤ q) U ∧ sgTab RX4 "MOST" 7 [6, 5, 5, 5, 8, 8, 1] (fun q : Nat => base ≤ q) U ∧ sgTab RX4 "USUAL" 7 [5, 4, 3, 2, 0, 8, 0] (fun q : Nat => base ≤ q) U) ∧
  (sgStr RX12 26 "y" 1 [121] (fun q : Nat => base ≤ q) U ∧ sgStr RX12 32 "trcbdo" 6 [116, 114, 99, 98, 100, 111] (fun q : Nat => base ≤ q) U ∧ sgStr RX12 249 "whqklux" 7 [119, 104, 113, 107, 108, 117, 120] (fun q : Nat => base ≤ q) U ∧ sgStr RX12 255 "c" 1 [99] (fun q : Nat => base ≤ q) U ∧ sgStr RX12 273 "gcmx" 4 [103, 99, 109, 120] (fun q : Nat => base ≤ q) U ∧ sgStr RX12 275 "rd" 2 [114, 100] (fun q : Nat => base ≤ q) U)
theorem sgStr.blind {own tx : String} {k n : Nat} {bs : List Int32} {A : Nat → Prop} {U : State} {g : JFrame} {mk : MethodId} {ar : Array Value} (h : sgStr own k tx n bs A U) : sgStr own k tx n bs A (U.calling g mk ar) := by
  obtain ⟨a, v, h1, h2⟩ := h
  exact ⟨a, v, h1.blind, vk_R.same rfl h2⟩
theorem sgTab.blind {C nm : String} {n : Nat} {vs : List Int32} {A : Nat → Prop} {U : State} {g : JFrame} {mk : MethodId} {ar : Array Value} (h : sgTab C nm n vs A U) : sgTab C nm n vs A (U.calling g mk ar) := by
  obtain ⟨t, h1, h2⟩ := h
  exact ⟨t, va_Z.moved (Vm.Alike.refl _) h1, va_T.moved (Vm.Alike.refl _) h2⟩
theorem sgStr.call {own tx : String} {k n : Nat} {bs : List Int32} {A : Nat → Prop} {s U : State} {H : Heap} {locs : List Loc} (h : sgStr own k tx n bs A s) (hS : va_S A s.heap H locs) (hU : U.heap = H) (hW : s.WarmedH U.vm) : sgStr own k tx n bs A U := by
  obtain ⟨a, v, h1, h2⟩ := h
  exact ⟨a, v, h1.call hS (fun q z => z) hU hW.alike, vk_R.warm hW h2⟩
theorem sgTab.call {C nm : String} {n : Nat} {vs : List Int32} {A : Nat → Prop} {s U : State} {H : Heap} {locs : List Loc} (h : sgTab C nm n vs A s) (hS : va_S A s.heap H locs) (hU : U.heap = H) (hW : s.WarmedH U.vm) : sgTab C nm n vs A U := by
  obtain ⟨t, h1, h2⟩ := h
  subst hU
  exact ⟨t, (h1.kept hS.2.1).moved hW.alike, (h2.kept hS.2.1).moved hW.alike⟩
theorem sgC.blind {base : Nat} {U : State} {g : JFrame} {mk : MethodId} {ar : Array Value} (h : sgC base U) : sgC base (U.calling g mk ar) := by
  obtain ⟨⟨a1, a2, a3, a4, a5⟩, b1, b2, b3, b4, b5, b6⟩ := h
  exact ⟨⟨a1.blind, a2.blind, a3.blind, a4.blind, a5.blind⟩, b1.blind, b2.blind, b3.blind, b4.blind, b5.blind, b6.blind⟩
theorem sgC.call {base : Nat} {s U : State} {H : Heap} {locs : List Loc} (h : sgC base s) (hS : va_S (fun q : Nat => base ≤ q) s.heap H locs) (hU : U.heap = H) (hW : s.WarmedH U.vm) : sgC base U := by
  obtain ⟨⟨a1, a2, a3, a4, a5⟩, b1, b2, b3, b4, b5, b6⟩ := h
  exact ⟨⟨a1.call hS hU hW, a2.call hS hU hW, a3.call hS hU hW, a4.call hS hU hW, a5.call hS hU hW⟩, b1.call hS hU hW, b2.call hS hU hW, b3.call hS hU hW, b4.call hS hU hW, b5.call hS hU hW, b6.call hS hU hW⟩
theorem va_S.weak {A B : Nat → Prop} {H0 H : Heap} {locs : List Loc} (h : va_S A H0 H locs) (hAB : ∀ q, A q → B q) : va_S B H0 H locs := ⟨h.1, fun q h1 h2 => h.2.1 q h1 (fun z => h2 (hAB q z)), fun l hl => hAB _ (h.2.2 l hl)⟩
def sgB (kt : List sgK) (D : va_G) (cl : List vw_C) (base : Nat) (tys : List (ClassId × FieldType)) (ad ks : List Nat) (U : State) : Prop := base ≤ U.heap.size ∧ va_K D cl tys U ∧ sgC base U ∧ sgG kt D cl (fun q : Nat => base ≤ q) tys ad ks U.heap
theorem sg_good : GoodIn sg_tbl sg_tbl := by
  exact fun w hw => ⟨hw, good_of_word (List.mem_filter.mp hw).2⟩
theorem sg_goodc {w : Cond} (h : w ∈ sg_tbl) : GoodIn sg_tbl (w :: sg_tbl) := by
  intro x hx
  rcases List.mem_cons.mp hx with rfl | hx
  · exact sg_good _ h
  · exact sg_good _ hx
theorem sgB.blind {kt : List sgK} {D : va_G} {cl : List vw_C} {base : Nat} {tys : List (ClassId × FieldType)} {ad ks : List Nat} {av : List Value} : FrameBlind (va_Pc av (sgB kt D cl base tys ad ks)) := by
  intro a U g mk q
  obtain ⟨q0, q1, qK, qC, qG⟩ := q
  exact ⟨q0, q1, va_K.moved (u := U) (U := U.calling g mk a) (Vm.Alike.refl U.vm) qK, qC.blind, qG⟩
/-- the contracts: by what is answered -/
abbrev sgMi (l : Launch) (kt : List sgK) (D : va_G) (cl : List vw_C) (base : Nat) (tys : List (ClassId × FieldType)) (ad ks : List Nat) (y : MethodName) (cc : ByteArray) (maxL : Nat) (ret : Option FieldType) (rm : Room) (av : List Value) (post : Int32 → Prop) : Prop :=
  Met l y (Cond.code y cc maxL ret :: sg_tbl) rm (va_Pc av (sgB kt D cl base tys ad ks)) (va_Qi (fun r (_ : Unit) => post r) (fun _ => sgB kt D cl base tys ad ks) (fun q : Nat => base ≤ q)) 0 0 (fun q : Nat => base ≤ q)
abbrev sgMl (l : Launch) (kt : List sgK) (D : va_G) (cl : List vw_C) (base : Nat) (tys : List (ClassId × FieldType)) (ad ks : List Nat) (y : MethodName) (cc : ByteArray) (maxL : Nat) (ret : Option FieldType) (rm : Room) (av : List Value) (post : Int64 → Prop) : Prop :=
  Met l y (Cond.code y cc maxL ret :: sg_tbl) rm (va_Pc av (sgB kt D cl base tys ad ks)) (va_Ql (fun r (_ : Unit) => post r) (fun _ => sgB kt D cl base tys ad ks) (fun q : Nat => base ≤ q)) 0 0 (fun q : Nat => base ≤ q)
abbrev sgMv (l : Launch) (kt : List sgK) (D : va_G) (cl : List vw_C) (base : Nat) (tys : List (ClassId × FieldType)) (ad ks : List Nat) (y : MethodName) (cc : ByteArray) (maxL : Nat) (ret : Option FieldType) (rm : Room) (av : List Value) : Prop :=
  Met l y (Cond.code y cc maxL ret :: sg_tbl) rm (va_Pc av (sgB kt D cl base tys ad ks)) (va_Qv (fun (_ : Unit) => True) (fun _ => sgB kt D cl base tys ad ks) (fun q : Nat => base ≤ q)) 0 0 (fun q : Nat => base ≤ q)
/-- a contract of a method that leaves the heap as it is -/
abbrev sgPi (l : Launch) (kt : List sgK) (D : va_G) (cl : List vw_C) (base : Nat) (tys : List (ClassId × FieldType)) (ad ks : List Nat) (Hx : Heap) (y : MethodName) (cc : ByteArray) (maxL : Nat) (ret : Option FieldType) (rm : Room) (av : List Value) (post : Int32 → Prop) : Prop :=
  Met l y (Cond.code y cc maxL ret :: sg_tbl) rm (va_Pc av (fun U => U.heap = Hx ∧ sgB kt D cl base tys ad ks U)) (va_Qi (fun r (_ : Unit) => post r) (fun _ t => t.heap = Hx) (fun _ : Nat => False)) 0 0 (fun _ : Nat => False)
abbrev sgPv (l : Launch) (kt : List sgK) (D : va_G) (cl : List vw_C) (base : Nat) (tys : List (ClassId × FieldType)) (ad ks : List Nat) (Hx : Heap) (y : MethodName) (cc : ByteArray) (maxL : Nat) (ret : Option FieldType) (rm : Room) (av : List Value) : Prop :=
  Met l y (Cond.code y cc maxL ret :: sg_tbl) rm (va_Pc av (fun U => U.heap = Hx ∧ sgB kt D cl base tys ad ks U)) (va_Qv (fun (_ : Unit) => True) (fun _ t => t.heap = Hx) (fun _ : Nat => False)) 0 0 (fun _ : Nat => False)
theorem sgB.blindP {kt : List sgK} {D : va_G} {cl : List vw_C} {base : Nat} {tys : List (ClassId × FieldType)} {ad ks : List Nat} {av : List Value} {Hx : Heap} : FrameBlind (va_Pc av (fun U => U.heap = Hx ∧ sgB kt D cl base tys ad ks U)) := by
  intro a U g mk q
  obtain ⟨q0, q2, q1, qK, qC, qG⟩ := q
  exact ⟨q0, q2, q1, va_K.moved (u := U) (U := U.calling g mk a) (Vm.Alike.refl U.vm) qK, qC.blind, qG⟩
/-- a contract of a method that leaves the heap as it is, and is given a text -/
abbrev sgEi (l : Launch) (kt : List sgK) (D : va_G) (cl : List vw_C) (base : Nat) (tys : List (ClassId × FieldType)) (ad ks : List Nat) (Hx : Heap) (ta tv tn : Nat) (tb : List Int32) (y : MethodName) (cc : ByteArray) (maxL : Nat) (ret : Option FieldType) (rm : Room) (av : List Value) (post : Int32 → Prop) : Prop :=
  Met l y (Cond.code y cc maxL ret :: sg_tbl) rm (va_Pc av (fun U => U.heap = Hx ∧ P_S ta tv tn tb (fun _ : Nat => False) U ∧ sgB kt D cl base tys ad ks U)) (va_Qi (fun r (_ : Unit) => post r) (fun _ t => t.heap = Hx) (fun _ : Nat => False)) 0 0 (fun _ : Nat => False)
abbrev sgEv (l : Launch) (kt : List sgK) (D : va_G) (cl : List vw_C) (base : Nat) (tys : List (ClassId × FieldType)) (ad ks : List Nat) (Hx : Heap) (ta tv tn : Nat) (tb : List Int32) (y : MethodName) (cc : ByteArray) (maxL : Nat) (ret : Option FieldType) (rm : Room) (av : List Value) : Prop :=
  Met l y (Cond.code y cc maxL ret :: sg_tbl) rm (va_Pc av (fun U => U.heap = Hx ∧ P_S ta tv tn tb (fun _ : Nat => False) U ∧ sgB kt D cl base tys ad ks U)) (va_Qv (fun (_ : Unit) => True) (fun _ t => t.heap = Hx) (fun _ : Nat => False)) 0 0 (fun _ : Nat => False)
theorem sgB.blindE {kt : List sgK} {D : va_G} {cl : List vw_C} {base : Nat} {tys : List (ClassId × FieldType)} {ad ks : List Nat} {av : List Value} {Hx : Heap} {ta tv tn : Nat} {tb : List Int32} : FrameBlind (va_Pc av (fun U => U.heap = Hx ∧ P_S ta tv tn tb (fun _ : Nat => False) U ∧ sgB kt D cl base tys ad ks U)) := by
  intro a U g mk q
  obtain ⟨q0, q2, qE, q1, qK, qC, qG⟩ := q
  exact ⟨q0, q2, qE.blind, q1, va_K.moved (u := U) (U := U.calling g mk a) (Vm.Alike.refl U.vm) qK, qC.blind, qG⟩
section SGC
variable {p : Program} {l : Launch} {e : Env} {R : Room} {s : State} {m : MethodId} {args : Array Value} {below : List Frame} {meth : Method} {c : Code} {H : Heap} {locs : List Loc} {cells slots : Nat} {Q : State → Prop}
variable {cc : ByteArray} {nL pc : Nat} {ls : Array Slot} {rest : List Value} {own : String} {kt : List sgK} {D : va_G} {cl : List vw_C} {base : Nat} {a : Nat} {tys : List (ClassId × FieldType)} {ad ks : List Nat} {H0 : Heap}
variable {y : MethodName} {bytes : ByteArray} {maxL index n : Nat} {ret : Option FieldType} {rm : Room} {As : List Value} {st0 : List Value}
theorem sg_cb (hts : ∀ w ∈ sg_tbl, w.before args s = true) (hcode : Cond.code y bytes maxL ret ∈ sg_tbl) (hrc : rm.cells = 0) (hrs : rm.slots = 0) (hini : Cond.initialized y.cls ∈ sg_tbl) (hl : Cond.methodLink own index y ∈ sg_tbl) (hd : y.cls ≠ "java/lang/invoke/MethodHandle" ∧ y.cls ≠ "java/lang/invoke/VarHandle" ∧ (parseMethodDescriptor y.desc).map (fun d => d.parameters.length) = some n) (hR : rm.frames + 1 ≤ R.frames ∧ 8 + (maxL + 11) + rm.locals ≤ R.locals) :
    CallB R s args own index y bytes maxL ret (Cond.code y bytes maxL ret :: sg_tbl) rm 0 0 n := callB_of n hts (sg_goodc hcode) rfl hrc hrs (hts _ hini) (hts _ hl) hd hR
theorem sg_into (hK : va_K D cl tys s) (hG : sgG kt D cl (fun q : Nat => base ≤ q) tys ad ks H) (hC : sgC base s) (hS : va_S (fun q : Nat => base ≤ q) s.heap H locs) (hb : base ≤ s.heap.size) {av : List Value} : ∀ U : State, U.heap = H → s.WarmedH U.vm → va_Pc av (sgB kt D cl base tys ad ks) av.toArray U := by
  intro U hU hW
  exact ⟨rfl, by rw [hU]; exact Nat.le_trans hb hS.1, va_K.moved hW.alike hK, hC.call hS hU hW, by rw [hU]; exact hG⟩
theorem sg_callVi (X : CallFix p m c cc nL s args sg_tbl own) (hK : va_K D cl tys s) (hG : sgG kt D cl (fun q : Nat => base ≤ q) tys ad ks H) (hC : sgC base s) (hS : va_S (fun q : Nat => base ≤ q) s.heap H locs) (hb : base ≤ s.heap.size) {post : Int32 → Prop}
    (hM : sgMi l kt D cl base tys ad ks y bytes maxL ret rm (.ref a :: As) post) {k ci : Nat} (ha : isK ad ks k a) {fts : List sgT} (hk : kt[k]? = some (.inl (ci, fts))) {C : String} {T : u_T} {N : Nat} (hc : cl[ci]? = some (C, T, N))
    (hcode : Cond.code y bytes maxL ret ∈ sg_tbl) (hini : Cond.initialized y.cls ∈ sg_tbl) (hinst : Cond.instanceMethod y ∈ sg_tbl) (hsel : Cond.selects C y y ∈ sg_tbl) (hd : y.cls ≠ "java/lang/invoke/MethodHandle" ∧ y.cls ≠ "java/lang/invoke/VarHandle" ∧ (parseMethodDescriptor y.desc).map (fun d => d.parameters.length) = some n) (hrc : rm.cells = 0) (hrs : rm.slots = 0) (hn : As.length = n)
    (hl : Cond.methodLink own index y ∈ sg_tbl) (hsize : ls.size = nL) (hst : st0 = As.reverse ++ .ref a :: rest) (hW : (rest.map fun v => v.category).sum ≤ 8) (hR : rm.frames + 1 ≤ R.frames ∧ 8 + (maxL + 11) + rm.locals ≤ R.locals) (hf : cells ≤ R.cells ∧ slots ≤ R.slots) (hdg : decode cc pc = .ok (.invokevirtual index, 3))
    (kk : ∀ (r : Int32) (H1 : Heap) (locs1 : List Loc), post r → sgG kt D cl (fun q : Nat => base ≤ q) tys ad ks H1 → va_S (fun q : Nat => base ≤ q) s.heap H1 locs1 → W p l e R s m args below meth c H1 locs1 cells slots Q (F0 m (pc + 3) ls (.int r :: rest))) : W p l e R s m args below meth c H locs cells slots Q (F0 m pc ls st0) := by
  obtain ⟨hx, hbc, hml, hown, hts⟩ := id X
  have hG' := hG
  obtain ⟨ws, hP, hD, hT, hU⟩ := hG'
  obtain ⟨q0, en, K, hw, hkq, hK', hE⟩ := ha.in hT
  rw [hk] at hK'
  cases hK'
  cases en with
  | inl z => exact hE.elim
  | inr q =>
    obtain ⟨ci', fs⟩ := q
    obtain ⟨h1, -, -⟩ := hE
    dsimp only at h1
    subst h1
    have hrun := va_runV (H := H) (locs := locs) (cells := cells) (slots := slots) (below := below) (meth := meth) (R := R) (l := l) (e := e) (C := C) (b := a) (As := As) (rest := rest) (g := F0 m pc ls st0) X hM ⟨sg_cb hts hcode hrc hrs hini hl hd hR, hts _ hinst, hts _ hsel⟩ ⟨sgB.blind, va_recv hK hP hc hw, sg_into hK hG hC hS hb⟩ rfl hn hsize hst (lv_room hW) hdg hf
    refine va_calli hrun hS (fun q _ h => h) (fun q h => h) fun r u t H1 locs1 ht hvm hp hB hz hk1 hS1 => ?_
    exact kk r H1 locs1 hp (by rw [← ht]; exact hB.2.2.2) hS1
theorem sg_callVl (X : CallFix p m c cc nL s args sg_tbl own) (hK : va_K D cl tys s) (hG : sgG kt D cl (fun q : Nat => base ≤ q) tys ad ks H) (hC : sgC base s) (hS : va_S (fun q : Nat => base ≤ q) s.heap H locs) (hb : base ≤ s.heap.size) {post : Int64 → Prop}
    (hM : sgMl l kt D cl base tys ad ks y bytes maxL ret rm (.ref a :: As) post) {k ci : Nat} (ha : isK ad ks k a) {fts : List sgT} (hk : kt[k]? = some (.inl (ci, fts))) {C : String} {T : u_T} {N : Nat} (hc : cl[ci]? = some (C, T, N))
    (hcode : Cond.code y bytes maxL ret ∈ sg_tbl) (hini : Cond.initialized y.cls ∈ sg_tbl) (hinst : Cond.instanceMethod y ∈ sg_tbl) (hsel : Cond.selects C y y ∈ sg_tbl) (hd : y.cls ≠ "java/lang/invoke/MethodHandle" ∧ y.cls ≠ "java/lang/invoke/VarHandle" ∧ (parseMethodDescriptor y.desc).map (fun d => d.parameters.length) = some n) (hrc : rm.cells = 0) (hrs : rm.slots = 0) (hn : As.length = n)
    (hl : Cond.methodLink own index y ∈ sg_tbl) (hsize : ls.size = nL) (hst : st0 = As.reverse ++ .ref a :: rest) (hW : (rest.map fun v => v.category).sum ≤ 8) (hR : rm.frames + 1 ≤ R.frames ∧ 8 + (maxL + 11) + rm.locals ≤ R.locals) (hf : cells ≤ R.cells ∧ slots ≤ R.slots) (hdg : decode cc pc = .ok (.invokevirtual index, 3))
    (kk : ∀ (r : Int64) (H1 : Heap) (locs1 : List Loc), post r → sgG kt D cl (fun q : Nat => base ≤ q) tys ad ks H1 → va_S (fun q : Nat => base ≤ q) s.heap H1 locs1 → W p l e R s m args below meth c H1 locs1 cells slots Q (F0 m (pc + 3) ls (.long r :: rest))) : W p l e R s m args below meth c H locs cells slots Q (F0 m pc ls st0) := by
  obtain ⟨hx, hbc, hml, hown, hts⟩ := id X
  have hG' := hG
  obtain ⟨ws, hP, hD, hT, hU⟩ := hG'
  obtain ⟨q0, en, K, hw, hkq, hK', hE⟩ := ha.in hT
  rw [hk] at hK'
  cases hK'
  cases en with
  | inl z => exact hE.elim
  | inr q =>
    obtain ⟨ci', fs⟩ := q
    obtain ⟨h1, -, -⟩ := hE
    dsimp only at h1
    subst h1
    have hrun := va_runV (H := H) (locs := locs) (cells := cells) (slots := slots) (below := below) (meth := meth) (R := R) (l := l) (e := e) (C := C) (b := a) (As := As) (rest := rest) (g := F0 m pc ls st0) X hM ⟨sg_cb hts hcode hrc hrs hini hl hd hR, hts _ hinst, hts _ hsel⟩ ⟨sgB.blind, va_recv hK hP hc hw, sg_into hK hG hC hS hb⟩ rfl hn hsize hst (lv_room hW) hdg hf
    refine va_calll hrun hS (fun q _ h => h) (fun q h => h) fun r u t H1 locs1 ht hvm hp hB hz hk1 hS1 => ?_
    exact kk r H1 locs1 hp (by rw [← ht]; exact hB.2.2.2) hS1
theorem sg_callVv (X : CallFix p m c cc nL s args sg_tbl own) (hK : va_K D cl tys s) (hG : sgG kt D cl (fun q : Nat => base ≤ q) tys ad ks H) (hC : sgC base s) (hS : va_S (fun q : Nat => base ≤ q) s.heap H locs) (hb : base ≤ s.heap.size)
    (hM : sgMv l kt D cl base tys ad ks y bytes maxL ret rm (.ref a :: As)) {k ci : Nat} (ha : isK ad ks k a) {fts : List sgT} (hk : kt[k]? = some (.inl (ci, fts))) {C : String} {T : u_T} {N : Nat} (hc : cl[ci]? = some (C, T, N))
    (hcode : Cond.code y bytes maxL ret ∈ sg_tbl) (hini : Cond.initialized y.cls ∈ sg_tbl) (hinst : Cond.instanceMethod y ∈ sg_tbl) (hsel : Cond.selects C y y ∈ sg_tbl) (hd : y.cls ≠ "java/lang/invoke/MethodHandle" ∧ y.cls ≠ "java/lang/invoke/VarHandle" ∧ (parseMethodDescriptor y.desc).map (fun d => d.parameters.length) = some n) (hrc : rm.cells = 0) (hrs : rm.slots = 0) (hn : As.length = n)
    (hl : Cond.methodLink own index y ∈ sg_tbl) (hsize : ls.size = nL) (hst : st0 = As.reverse ++ .ref a :: rest) (hW : (rest.map fun v => v.category).sum ≤ 8) (hR : rm.frames + 1 ≤ R.frames ∧ 8 + (maxL + 11) + rm.locals ≤ R.locals) (hf : cells ≤ R.cells ∧ slots ≤ R.slots) (hdg : decode cc pc = .ok (.invokevirtual index, 3))
    (kk : ∀ (H1 : Heap) (locs1 : List Loc), sgG kt D cl (fun q : Nat => base ≤ q) tys ad ks H1 → va_S (fun q : Nat => base ≤ q) s.heap H1 locs1 → W p l e R s m args below meth c H1 locs1 cells slots Q (F0 m (pc + 3) ls rest)) : W p l e R s m args below meth c H locs cells slots Q (F0 m pc ls st0) := by
  obtain ⟨hx, hbc, hml, hown, hts⟩ := id X
  have hG' := hG
  obtain ⟨ws, hP, hD, hT, hU⟩ := hG'
  obtain ⟨q0, en, K, hw, hkq, hK', hE⟩ := ha.in hT
  rw [hk] at hK'
  cases hK'
  cases en with
  | inl z => exact hE.elim
  | inr q =>
    obtain ⟨ci', fs⟩ := q
    obtain ⟨h1, -, -⟩ := hE
    dsimp only at h1
    subst h1
    have hrun := va_runV (H := H) (locs := locs) (cells := cells) (slots := slots) (below := below) (meth := meth) (R := R) (l := l) (e := e) (C := C) (b := a) (As := As) (rest := rest) (g := F0 m pc ls st0) X hM ⟨sg_cb hts hcode hrc hrs hini hl hd hR, hts _ hinst, hts _ hsel⟩ ⟨sgB.blind, va_recv hK hP hc hw, sg_into hK hG hC hS hb⟩ rfl hn hsize hst (lv_room hW) hdg hf
    refine va_callv hrun hS (fun q _ h => h) (fun q h => h) fun u t H1 locs1 ht hvm hp hB hz hk1 hS1 => ?_
    exact kk H1 locs1 (by rw [← ht]; exact hB.2.2.2) hS1
theorem sg_callSi (X : CallFix p m c cc nL s args sg_tbl own) (hK : va_K D cl tys s) (hG : sgG kt D cl (fun q : Nat => base ≤ q) tys ad ks H) (hC : sgC base s) (hS : va_S (fun q : Nat => base ≤ q) s.heap H locs) (hb : base ≤ s.heap.size) {post : Int32 → Prop}
    (hM : sgMi l kt D cl base tys ad ks y bytes maxL ret rm As post)
    (hcode : Cond.code y bytes maxL ret ∈ sg_tbl) (hini : Cond.initialized y.cls ∈ sg_tbl) (hstt : Cond.static y ∈ sg_tbl) (hd : y.cls ≠ "java/lang/invoke/MethodHandle" ∧ y.cls ≠ "java/lang/invoke/VarHandle" ∧ (parseMethodDescriptor y.desc).map (fun d => d.parameters.length) = some n) (hrc : rm.cells = 0) (hrs : rm.slots = 0) (hn : As.length = n)
    (hl : Cond.methodLink own index y ∈ sg_tbl) (hsize : ls.size = nL) (hst : st0 = As.reverse ++ rest) (hW : (rest.map fun v => v.category).sum ≤ 8) (hR : rm.frames + 1 ≤ R.frames ∧ 8 + (maxL + 11) + rm.locals ≤ R.locals) (hf : cells ≤ R.cells ∧ slots ≤ R.slots) (hdg : decode cc pc = .ok (.invokestatic index, 3))
    (kk : ∀ (r : Int32) (H1 : Heap) (locs1 : List Loc), post r → sgG kt D cl (fun q : Nat => base ≤ q) tys ad ks H1 → va_S (fun q : Nat => base ≤ q) s.heap H1 locs1 → W p l e R s m args below meth c H1 locs1 cells slots Q (F0 m (pc + 3) ls (.int r :: rest))) : W p l e R s m args below meth c H locs cells slots Q (F0 m pc ls st0) := by
  obtain ⟨hx, hbc, hml, hown, hts⟩ := id X
  have hrun := va_runS (H := H) (locs := locs) (cells := cells) (slots := slots) (below := below) (meth := meth) (R := R) (l := l) (e := e) (As := As) (rest := rest) (g := F0 m pc ls st0) X hM ⟨sg_cb hts hcode hrc hrs hini hl hd hR, hts _ hstt⟩ ⟨sgB.blind, sg_into hK hG hC hS hb⟩ rfl hn hsize hst (lv_room hW) hdg hf
  refine va_calli hrun hS (fun q _ h => h) (fun q h => h) fun r u t H1 locs1 ht hvm hp hB hz hk1 hS1 => ?_
  exact kk r H1 locs1 hp (by rw [← ht]; exact hB.2.2.2) hS1
theorem sg_callSv (X : CallFix p m c cc nL s args sg_tbl own) (hK : va_K D cl tys s) (hG : sgG kt D cl (fun q : Nat => base ≤ q) tys ad ks H) (hC : sgC base s) (hS : va_S (fun q : Nat => base ≤ q) s.heap H locs) (hb : base ≤ s.heap.size)
    (hM : sgMv l kt D cl base tys ad ks y bytes maxL ret rm As)
    (hcode : Cond.code y bytes maxL ret ∈ sg_tbl) (hini : Cond.initialized y.cls ∈ sg_tbl) (hstt : Cond.static y ∈ sg_tbl) (hd : y.cls ≠ "java/lang/invoke/MethodHandle" ∧ y.cls ≠ "java/lang/invoke/VarHandle" ∧ (parseMethodDescriptor y.desc).map (fun d => d.parameters.length) = some n) (hrc : rm.cells = 0) (hrs : rm.slots = 0) (hn : As.length = n)
    (hl : Cond.methodLink own index y ∈ sg_tbl) (hsize : ls.size = nL) (hst : st0 = As.reverse ++ rest) (hW : (rest.map fun v => v.category).sum ≤ 8) (hR : rm.frames + 1 ≤ R.frames ∧ 8 + (maxL + 11) + rm.locals ≤ R.locals) (hf : cells ≤ R.cells ∧ slots ≤ R.slots) (hdg : decode cc pc = .ok (.invokestatic index, 3))
    (kk : ∀ (H1 : Heap) (locs1 : List Loc), sgG kt D cl (fun q : Nat => base ≤ q) tys ad ks H1 → va_S (fun q : Nat => base ≤ q) s.heap H1 locs1 → W p l e R s m args below meth c H1 locs1 cells slots Q (F0 m (pc + 3) ls rest)) : W p l e R s m args below meth c H locs cells slots Q (F0 m pc ls st0) := by
  obtain ⟨hx, hbc, hml, hown, hts⟩ := id X
  have hrun := va_runS (H := H) (locs := locs) (cells := cells) (slots := slots) (below := below) (meth := meth) (R := R) (l := l) (e := e) (As := As) (rest := rest) (g := F0 m pc ls st0) X hM ⟨sg_cb hts hcode hrc hrs hini hl hd hR, hts _ hstt⟩ ⟨sgB.blind, sg_into hK hG hC hS hb⟩ rfl hn hsize hst (lv_room hW) hdg hf
  refine va_callv hrun hS (fun q _ h => h) (fun q h => h) fun u t H1 locs1 ht hvm hp hB hz hk1 hS1 => ?_
  exact kk H1 locs1 (by rw [← ht]; exact hB.2.2.2) hS1
/-- a method's body, from its entry -/
theorem sg_ofW {Pq : Array Value → State → Outcome → State → Prop} {av : List Value} (hy : plainName y.cls = true) (hfit : (lg_sl av).length ≤ maxL)
    (body : ∀ (p : Program) (e : Env) (s : State) (m : MethodId) (below : List Frame) (meth : Method) (c : Code), CallFix p m c bytes maxL s av.toArray sg_tbl y.cls → meth.sig.returnType = ret → meth.locks = false → base ≤ s.heap.size → va_K D cl tys s → sgC base s → sgG kt D cl (fun q : Nat => base ≤ q) tys ad ks s.heap → ∀ ls : Array Slot, lv_has ls maxL (lv_args 0 av) →
      W p l e (headSpec (Cond.code y bytes maxL ret :: sg_tbl) rm).room s m av.toArray below meth c s.heap [] 0 0 (MQ below Pq av.toArray s 0 0 (fun q : Nat => base ≤ q)) (F0 m 0 ls [])) :
    Met l y (Cond.code y bytes maxL ret :: sg_tbl) rm (va_Pc av (sgB kt D cl base tys ad ks)) Pq 0 0 (fun q : Nat => base ≤ q) := by
  refine Met.ofW (cc := bytes) (maxL := maxL) (ret := ret) hy rfl ?_
  intro p e s m args below meth c s₁ B hml hv
  obtain ⟨rfl, hb, hK, hC, hG⟩ := hv
  have hts := atoms_spec (ws := Cond.code y bytes maxL ret :: sg_tbl) B.pre
  have hown : s.vm.findClass y.cls = some m.cls := findClass_of_methodNamed B.named
  rw [lg_entry_eq]
  exact body p e s m below meth c ⟨B.exec, B.bytes, hml, hown, fun w hw => hts w (List.mem_cons_of_mem _ hw)⟩ B.returns B.notSynchronized hb hK hC hG _ (lv_entry av hfit)
theorem sg_post (hb : base ≤ s.heap.size) (hK : va_K D cl tys s) (hC : sgC base s) (hG : sgG kt D cl (fun q : Nat => base ≤ q) tys ad ks H) (hS : va_S (fun q : Nat => base ≤ q) s.heap H locs) {t : State} (ht : t.heap = H) (hW : s.WarmedH t.vm) : sgB kt D cl base tys ad ks t :=
  ⟨by rw [ht]; exact Nat.le_trans hb hS.1, va_K.moved hW.alike hK, hC.call hS ht hW, by rw [ht]; exact hG⟩
theorem sg_iret {post : Int32 → Prop} {v : Int32} (X : CallFix p m c cc nL s args sg_tbl own) (hr : meth.sig.returnType = some .int) (hlocks : meth.locks = false) (hb : base ≤ s.heap.size) (hK : va_K D cl tys s) (hC : sgC base s) (hG : sgG kt D cl (fun q : Nat => base ≤ q) tys ad ks H) (hS : va_S (fun q : Nat => base ≤ q) s.heap H locs) (hp : post v) (hdg : decode cc pc = .ok (.ireturn, 1)) :
    W p l e R s m args below meth c H locs 0 0 (MQ below (va_Qi (fun r (_ : Unit) => post r) (fun _ => sgB kt D cl base tys ad ks) (fun q : Nat => base ≤ q)) args s 0 0 (fun q : Nat => base ≤ q)) (F0 m pc ls [.int v]) :=
  W.iret (v := v) X.1 X.2.1 hr (fun t ht hW => ⟨⟨v, (), rfl, hp, sg_post hb hK hC hG hS ht hW⟩, hS.F ht⟩) hS.2.2 hdg hlocks
theorem sg_zret {post : Int32 → Prop} {v : Int32} {ty : FieldType} (X : CallFix p m c cc nL s args sg_tbl own) (hr : meth.sig.returnType = some ty) (hn : narrow ty (.int v) = .int v) (hlocks : meth.locks = false) (hb : base ≤ s.heap.size) (hK : va_K D cl tys s) (hC : sgC base s) (hG : sgG kt D cl (fun q : Nat => base ≤ q) tys ad ks H) (hS : va_S (fun q : Nat => base ≤ q) s.heap H locs) (hp : post v) (hdg : decode cc pc = .ok (.ireturn, 1)) :
    W p l e R s m args below meth c H locs 0 0 (MQ below (va_Qi (fun r (_ : Unit) => post r) (fun _ => sgB kt D cl base tys ad ks) (fun q : Nat => base ≤ q)) args s 0 0 (fun q : Nat => base ≤ q)) (F0 m pc ls [.int v]) :=
  W.zret (ty := ty) (v := v) X.1 X.2.1 hr hn (fun t ht hW => ⟨⟨v, (), rfl, hp, sg_post hb hK hC hG hS ht hW⟩, hS.F ht⟩) hS.2.2 hdg hlocks
theorem sg_lret {post : Int64 → Prop} {v : Int64} (X : CallFix p m c cc nL s args sg_tbl own) (hr : meth.sig.returnType = some .long) (hlocks : meth.locks = false) (hb : base ≤ s.heap.size) (hK : va_K D cl tys s) (hC : sgC base s) (hG : sgG kt D cl (fun q : Nat => base ≤ q) tys ad ks H) (hS : va_S (fun q : Nat => base ≤ q) s.heap H locs) (hp : post v) (hdg : decode cc pc = .ok (.lreturn, 1)) :
    W p l e R s m args below meth c H locs 0 0 (MQ below (va_Ql (fun r (_ : Unit) => post r) (fun _ => sgB kt D cl base tys ad ks) (fun q : Nat => base ≤ q)) args s 0 0 (fun q : Nat => base ≤ q)) (F0 m pc ls [.long v]) :=
  W.lret (v := v) X.1 X.2.1 hr (fun t ht hW => ⟨⟨v, (), rfl, hp, sg_post hb hK hC hG hS ht hW⟩, hS.F ht⟩) hS.2.2 hdg hlocks
theorem sg_vret (X : CallFix p m c cc nL s args sg_tbl own) (hr : meth.sig.returnType = none) (hlocks : meth.locks = false) (hb : base ≤ s.heap.size) (hK : va_K D cl tys s) (hC : sgC base s) (hG : sgG kt D cl (fun q : Nat => base ≤ q) tys ad ks H) (hS : va_S (fun q : Nat => base ≤ q) s.heap H locs) (hdg : decode cc pc = .ok (.return_, 1)) :
    W p l e R s m args below meth c H locs 0 0 (MQ below (va_Qv (fun (_ : Unit) => True) (fun _ => sgB kt D cl base tys ad ks) (fun q : Nat => base ≤ q)) args s 0 0 (fun q : Nat => base ≤ q)) (F0 m pc ls []) :=
  W.vret X.1 X.2.1 hr (fun t ht hW => ⟨⟨(), rfl, trivial, sg_post hb hK hC hG hS ht hW⟩, hS.F ht⟩) hS.2.2 hdg hlocks
theorem sg_callPVi {A : Nat → Prop} (X : CallFix p m c cc nL s args sg_tbl own) (hK : va_K D cl tys s) (hG : sgG kt D cl (fun q : Nat => base ≤ q) tys ad ks H) (hC : sgC base s) (hA : ∀ q : Nat, A q → base ≤ q) (hS : va_S A s.heap H locs) (hb : base ≤ s.heap.size) {post : Int32 → Prop}
    (hM : sgPi l kt D cl base tys ad ks H y bytes maxL ret rm (.ref a :: As) post) {k ci : Nat} (ha : isK ad ks k a) {fts : List sgT} (hk : kt[k]? = some (.inl (ci, fts))) {C : String} {T : u_T} {N : Nat} (hc : cl[ci]? = some (C, T, N))
    (hcode : Cond.code y bytes maxL ret ∈ sg_tbl) (hini : Cond.initialized y.cls ∈ sg_tbl) (hinst : Cond.instanceMethod y ∈ sg_tbl) (hsel : Cond.selects C y y ∈ sg_tbl) (hd : y.cls ≠ "java/lang/invoke/MethodHandle" ∧ y.cls ≠ "java/lang/invoke/VarHandle" ∧ (parseMethodDescriptor y.desc).map (fun d => d.parameters.length) = some n) (hrc : rm.cells = 0) (hrs : rm.slots = 0) (hn : As.length = n)
    (hl : Cond.methodLink own index y ∈ sg_tbl) (hsize : ls.size = nL) (hst : st0 = As.reverse ++ .ref a :: rest) (hW : (rest.map fun v => v.category).sum ≤ 8) (hR : rm.frames + 1 ≤ R.frames ∧ 8 + (maxL + 11) + rm.locals ≤ R.locals) (hf : cells ≤ R.cells ∧ slots ≤ R.slots) (hdg : decode cc pc = .ok (.invokevirtual index, 3))
    (kk : ∀ (r : Int32) (locs1 : List Loc), post r → va_S A s.heap H locs1 → W p l e R s m args below meth c H locs1 cells slots Q (F0 m (pc + 3) ls (.int r :: rest))) : W p l e R s m args below meth c H locs cells slots Q (F0 m pc ls st0) := by
  obtain ⟨hx, hbc, hml, hown, hts⟩ := id X
  have hG' := hG
  obtain ⟨ws, hP, hD, hT, hU⟩ := hG'
  obtain ⟨q0, en, K, hw, hkq, hK', hE⟩ := ha.in hT
  rw [hk] at hK'
  cases hK'
  cases en with
  | inl z => exact hE.elim
  | inr q =>
    obtain ⟨ci', fs⟩ := q
    obtain ⟨h1, -, -⟩ := hE
    dsimp only at h1
    subst h1
    have hrun := va_runV (H := H) (locs := locs) (cells := cells) (slots := slots) (below := below) (meth := meth) (R := R) (l := l) (e := e) (C := C) (b := a) (As := As) (rest := rest) (g := F0 m pc ls st0) X hM ⟨sg_cb hts hcode hrc hrs hini hl hd hR, hts _ hinst, hts _ hsel⟩ ⟨sgB.blindP, va_recv hK hP hc hw, fun U hU hW => ⟨rfl, hU, by rw [hU]; exact Nat.le_trans hb hS.1, va_K.moved hW.alike hK, hC.call (hS.weak hA) hU hW, by rw [hU]; exact hG⟩⟩ rfl hn hsize hst (lv_room hW) hdg hf
    refine va_calli hrun hS (fun q _ h => h.elim) (fun q h => h.elim) fun r u t H1 locs1 ht hvm hp hB hz hk1 hS1 => ?_
    have e1 : H1 = H := ht.symm.trans hB
    subst e1
    exact kk r locs1 hp hS1
theorem sg_callPSi {A : Nat → Prop} (X : CallFix p m c cc nL s args sg_tbl own) (hK : va_K D cl tys s) (hG : sgG kt D cl (fun q : Nat => base ≤ q) tys ad ks H) (hC : sgC base s) (hA : ∀ q : Nat, A q → base ≤ q) (hS : va_S A s.heap H locs) (hb : base ≤ s.heap.size) {post : Int32 → Prop}
    (hM : sgPi l kt D cl base tys ad ks H y bytes maxL ret rm As post)
    (hcode : Cond.code y bytes maxL ret ∈ sg_tbl) (hini : Cond.initialized y.cls ∈ sg_tbl) (hstt : Cond.static y ∈ sg_tbl) (hd : y.cls ≠ "java/lang/invoke/MethodHandle" ∧ y.cls ≠ "java/lang/invoke/VarHandle" ∧ (parseMethodDescriptor y.desc).map (fun d => d.parameters.length) = some n) (hrc : rm.cells = 0) (hrs : rm.slots = 0) (hn : As.length = n)
    (hl : Cond.methodLink own index y ∈ sg_tbl) (hsize : ls.size = nL) (hst : st0 = As.reverse ++ rest) (hW : (rest.map fun v => v.category).sum ≤ 8) (hR : rm.frames + 1 ≤ R.frames ∧ 8 + (maxL + 11) + rm.locals ≤ R.locals) (hf : cells ≤ R.cells ∧ slots ≤ R.slots) (hdg : decode cc pc = .ok (.invokestatic index, 3))
    (kk : ∀ (r : Int32) (locs1 : List Loc), post r → va_S A s.heap H locs1 → W p l e R s m args below meth c H locs1 cells slots Q (F0 m (pc + 3) ls (.int r :: rest))) : W p l e R s m args below meth c H locs cells slots Q (F0 m pc ls st0) := by
  obtain ⟨hx, hbc, hml, hown, hts⟩ := id X
  have hrun := va_runS (H := H) (locs := locs) (cells := cells) (slots := slots) (below := below) (meth := meth) (R := R) (l := l) (e := e) (As := As) (rest := rest) (g := F0 m pc ls st0) X hM ⟨sg_cb hts hcode hrc hrs hini hl hd hR, hts _ hstt⟩ ⟨sgB.blindP, fun U hU hW => ⟨rfl, hU, by rw [hU]; exact Nat.le_trans hb hS.1, va_K.moved hW.alike hK, hC.call (hS.weak hA) hU hW, by rw [hU]; exact hG⟩⟩ rfl hn hsize hst (lv_room hW) hdg hf
  refine va_calli hrun hS (fun q _ h => h.elim) (fun q h => h.elim) fun r u t H1 locs1 ht hvm hp hB hz hk1 hS1 => ?_
  have e1 : H1 = H := ht.symm.trans hB
  subst e1
  exact kk r locs1 hp hS1
theorem sg_callPSv {A : Nat → Prop} (X : CallFix p m c cc nL s args sg_tbl own) (hK : va_K D cl tys s) (hG : sgG kt D cl (fun q : Nat => base ≤ q) tys ad ks H) (hC : sgC base s) (hA : ∀ q : Nat, A q → base ≤ q) (hS : va_S A s.heap H locs) (hb : base ≤ s.heap.size)
    (hM : sgPv l kt D cl base tys ad ks H y bytes maxL ret rm As)
    (hcode : Cond.code y bytes maxL ret ∈ sg_tbl) (hini : Cond.initialized y.cls ∈ sg_tbl) (hstt : Cond.static y ∈ sg_tbl) (hd : y.cls ≠ "java/lang/invoke/MethodHandle" ∧ y.cls ≠ "java/lang/invoke/VarHandle" ∧ (parseMethodDescriptor y.desc).map (fun d => d.parameters.length) = some n) (hrc : rm.cells = 0) (hrs : rm.slots = 0) (hn : As.length = n)
    (hl : Cond.methodLink own index y ∈ sg_tbl) (hsize : ls.size = nL) (hst : st0 = As.reverse ++ rest) (hW : (rest.map fun v => v.category).sum ≤ 8) (hR : rm.frames + 1 ≤ R.frames ∧ 8 + (maxL + 11) + rm.locals ≤ R.locals) (hf : cells ≤ R.cells ∧ slots ≤ R.slots) (hdg : decode cc pc = .ok (.invokestatic index, 3))
    (kk : ∀ (locs1 : List Loc), va_S A s.heap H locs1 → W p l e R s m args below meth c H locs1 cells slots Q (F0 m (pc + 3) ls rest)) : W p l e R s m args below meth c H locs cells slots Q (F0 m pc ls st0) := by
  obtain ⟨hx, hbc, hml, hown, hts⟩ := id X
  have hrun := va_runS (H := H) (locs := locs) (cells := cells) (slots := slots) (below := below) (meth := meth) (R := R) (l := l) (e := e) (As := As) (rest := rest) (g := F0 m pc ls st0) X hM ⟨sg_cb hts hcode hrc hrs hini hl hd hR, hts _ hstt⟩ ⟨sgB.blindP, fun U hU hW => ⟨rfl, hU, by rw [hU]; exact Nat.le_trans hb hS.1, va_K.moved hW.alike hK, hC.call (hS.weak hA) hU hW, by rw [hU]; exact hG⟩⟩ rfl hn hsize hst (lv_room hW) hdg hf
  refine va_callv hrun hS (fun q _ h => h.elim) (fun q h => h.elim) fun u t H1 locs1 ht hvm hp hB hz hk1 hS1 => ?_
  have e1 : H1 = H := ht.symm.trans hB
  subst e1
  exact kk locs1 hS1
theorem sg_ofP {Pq : Heap → Array Value → State → Outcome → State → Prop} {av : List Value} {Hx : Heap} (hy : plainName y.cls = true) (hfit : (lg_sl av).length ≤ maxL)
    (body : ∀ (p : Program) (e : Env) (s : State) (m : MethodId) (below : List Frame) (meth : Method) (c : Code), CallFix p m c bytes maxL s av.toArray sg_tbl y.cls → meth.sig.returnType = ret → meth.locks = false → base ≤ s.heap.size → va_K D cl tys s → sgC base s → sgG kt D cl (fun q : Nat => base ≤ q) tys ad ks s.heap → ∀ ls : Array Slot, lv_has ls maxL (lv_args 0 av) →
      W p l e (headSpec (Cond.code y bytes maxL ret :: sg_tbl) rm).room s m av.toArray below meth c s.heap [] 0 0 (MQ below (Pq s.heap) av.toArray s 0 0 (fun _ : Nat => False)) (F0 m 0 ls [])) :
    Met l y (Cond.code y bytes maxL ret :: sg_tbl) rm (va_Pc av (fun U => U.heap = Hx ∧ sgB kt D cl base tys ad ks U)) (Pq Hx) 0 0 (fun _ : Nat => False) := by
  refine Met.ofW (cc := bytes) (maxL := maxL) (ret := ret) hy rfl ?_
  intro p e s m args below meth c s₁ B hml hv
  obtain ⟨rfl, rfl, hb, hK, hC, hG⟩ := hv
  have hts := atoms_spec (ws := Cond.code y bytes maxL ret :: sg_tbl) B.pre
  have hown : s.vm.findClass y.cls = some m.cls := findClass_of_methodNamed B.named
  rw [lg_entry_eq]
  exact body p e s m below meth c ⟨B.exec, B.bytes, hml, hown, fun w hw => hts w (List.mem_cons_of_mem _ hw)⟩ B.returns B.notSynchronized hb hK hC hG _ (lv_entry av hfit)
theorem sg_iretP {post : Int32 → Prop} {v : Int32} (X : CallFix p m c cc nL s args sg_tbl own) (hr : meth.sig.returnType = some .int) (hlocks : meth.locks = false) (hS : va_S (fun _ : Nat => False) s.heap s.heap locs) (hp : post v) (hdg : decode cc pc = .ok (.ireturn, 1)) :
    W p l e R s m args below meth c s.heap locs 0 0 (MQ below (va_Qi (fun r (_ : Unit) => post r) (fun _ t => t.heap = s.heap) (fun _ : Nat => False)) args s 0 0 (fun _ : Nat => False)) (F0 m pc ls [.int v]) :=
  W.iret (v := v) X.1 X.2.1 hr (fun t ht hW => ⟨⟨v, (), rfl, hp, ht⟩, hS.F ht⟩) hS.2.2 hdg hlocks
theorem sg_zretP {post : Int32 → Prop} {v : Int32} {ty : FieldType} (X : CallFix p m c cc nL s args sg_tbl own) (hr : meth.sig.returnType = some ty) (hn : narrow ty (.int v) = .int v) (hlocks : meth.locks = false) (hS : va_S (fun _ : Nat => False) s.heap s.heap locs) (hp : post v) (hdg : decode cc pc = .ok (.ireturn, 1)) :
    W p l e R s m args below meth c s.heap locs 0 0 (MQ below (va_Qi (fun r (_ : Unit) => post r) (fun _ t => t.heap = s.heap) (fun _ : Nat => False)) args s 0 0 (fun _ : Nat => False)) (F0 m pc ls [.int v]) :=
  W.zret (ty := ty) (v := v) X.1 X.2.1 hr hn (fun t ht hW => ⟨⟨v, (), rfl, hp, ht⟩, hS.F ht⟩) hS.2.2 hdg hlocks
theorem sg_callEVi {A : Nat → Prop} {ta tv tn : Nat} {tb : List Int32} (X : CallFix p m c cc nL s args sg_tbl own) (hK : va_K D cl tys s) (hG : sgG kt D cl (fun q : Nat => base ≤ q) tys ad ks H) (hC : sgC base s) (hA : ∀ q : Nat, A q → base ≤ q) (hS : va_S A s.heap H locs) (hb : base ≤ s.heap.size) (hp : P_S ta tv tn tb A s) {post : Int32 → Prop}
    (hM : sgEi l kt D cl base tys ad ks H ta tv tn tb y bytes maxL ret rm (.ref ta :: As) post)
    (hcode : Cond.code y bytes maxL ret ∈ sg_tbl) (hini : Cond.initialized y.cls ∈ sg_tbl) (hinst : Cond.instanceMethod y ∈ sg_tbl) (hsel : Cond.selects RJ0 y y ∈ sg_tbl) (hd : y.cls ≠ "java/lang/invoke/MethodHandle" ∧ y.cls ≠ "java/lang/invoke/VarHandle" ∧ (parseMethodDescriptor y.desc).map (fun d => d.parameters.length) = some n) (hrc : rm.cells = 0) (hrs : rm.slots = 0) (hn : As.length = n)
    (hl : Cond.methodLink own index y ∈ sg_tbl) (hsize : ls.size = nL) (hst : st0 = As.reverse ++ .ref ta :: rest) (hW : (rest.map fun v => v.category).sum ≤ 8) (hR : rm.frames + 1 ≤ R.frames ∧ 8 + (maxL + 11) + rm.locals ≤ R.locals) (hf : cells ≤ R.cells ∧ slots ≤ R.slots) (hdg : decode cc pc = .ok (.invokevirtual index, 3))
    (kk : ∀ (r : Int32) (locs1 : List Loc), post r → va_S A s.heap H locs1 → W p l e R s m args below meth c H locs1 cells slots Q (F0 m (pc + 3) ls (.int r :: rest))) : W p l e R s m args below meth c H locs cells slots Q (F0 m pc ls st0) := by
  obtain ⟨hx, hbc, hml, hown, hts⟩ := id X
  have hrun := va_runV (H := H) (locs := locs) (cells := cells) (slots := slots) (below := below) (meth := meth) (R := R) (l := l) (e := e) (C := RJ0) (b := ta) (As := As) (rest := rest) (g := F0 m pc ls st0) X hM ⟨sg_cb hts hcode hrc hrs hini hl hd hR, hts _ hinst, hts _ hsel⟩ ⟨sgB.blindE, hp.recv hS, fun U hU hW => ⟨rfl, hU, hp.call hS (fun q z => z.elim) hU hW.alike, by rw [hU]; exact Nat.le_trans hb hS.1, va_K.moved hW.alike hK, hC.call (hS.weak hA) hU hW, by rw [hU]; exact hG⟩⟩ rfl hn hsize hst (lv_room hW) hdg hf
  refine va_calli hrun hS (fun q _ h => h.elim) (fun q h => h.elim) fun r u t H1 locs1 ht hvm hp hB hz hk1 hS1 => ?_
  have e1 : H1 = H := ht.symm.trans hB
  subst e1
  exact kk r locs1 hp hS1
theorem sg_callESi {A : Nat → Prop} {ta tv tn : Nat} {tb : List Int32} (X : CallFix p m c cc nL s args sg_tbl own) (hK : va_K D cl tys s) (hG : sgG kt D cl (fun q : Nat => base ≤ q) tys ad ks H) (hC : sgC base s) (hA : ∀ q : Nat, A q → base ≤ q) (hS : va_S A s.heap H locs) (hb : base ≤ s.heap.size) (hp : P_S ta tv tn tb A s) {post : Int32 → Prop}
    (hM : sgEi l kt D cl base tys ad ks H ta tv tn tb y bytes maxL ret rm As post)
    (hcode : Cond.code y bytes maxL ret ∈ sg_tbl) (hini : Cond.initialized y.cls ∈ sg_tbl) (hstt : Cond.static y ∈ sg_tbl) (hd : y.cls ≠ "java/lang/invoke/MethodHandle" ∧ y.cls ≠ "java/lang/invoke/VarHandle" ∧ (parseMethodDescriptor y.desc).map (fun d => d.parameters.length) = some n) (hrc : rm.cells = 0) (hrs : rm.slots = 0) (hn : As.length = n)
    (hl : Cond.methodLink own index y ∈ sg_tbl) (hsize : ls.size = nL) (hst : st0 = As.reverse ++ rest) (hW : (rest.map fun v => v.category).sum ≤ 8) (hR : rm.frames + 1 ≤ R.frames ∧ 8 + (maxL + 11) + rm.locals ≤ R.locals) (hf : cells ≤ R.cells ∧ slots ≤ R.slots) (hdg : decode cc pc = .ok (.invokestatic index, 3))
    (kk : ∀ (r : Int32) (locs1 : List Loc), post r → va_S A s.heap H locs1 → W p l e R s m args below meth c H locs1 cells slots Q (F0 m (pc + 3) ls (.int r :: rest))) : W p l e R s m args below meth c H locs cells slots Q (F0 m pc ls st0) := by
  obtain ⟨hx, hbc, hml, hown, hts⟩ := id X
  have hrun := va_runS (H := H) (locs := locs) (cells := cells) (slots := slots) (below := below) (meth := meth) (R := R) (l := l) (e := e) (As := As) (rest := rest) (g := F0 m pc ls st0) X hM ⟨sg_cb hts hcode hrc hrs hini hl hd hR, hts _ hstt⟩ ⟨sgB.blindE, fun U hU hW => ⟨rfl, hU, hp.call hS (fun q z => z.elim) hU hW.alike, by rw [hU]; exact Nat.le_trans hb hS.1, va_K.moved hW.alike hK, hC.call (hS.weak hA) hU hW, by rw [hU]; exact hG⟩⟩ rfl hn hsize hst (lv_room hW) hdg hf
  refine va_calli hrun hS (fun q _ h => h.elim) (fun q h => h.elim) fun r u t H1 locs1 ht hvm hp hB hz hk1 hS1 => ?_
  have e1 : H1 = H := ht.symm.trans hB
  subst e1
  exact kk r locs1 hp hS1
theorem sg_callESv {A : Nat → Prop} {ta tv tn : Nat} {tb : List Int32} (X : CallFix p m c cc nL s args sg_tbl own) (hK : va_K D cl tys s) (hG : sgG kt D cl (fun q : Nat => base ≤ q) tys ad ks H) (hC : sgC base s) (hA : ∀ q : Nat, A q → base ≤ q) (hS : va_S A s.heap H locs) (hb : base ≤ s.heap.size) (hp : P_S ta tv tn tb A s)
    (hM : sgEv l kt D cl base tys ad ks H ta tv tn tb y bytes maxL ret rm As)
    (hcode : Cond.code y bytes maxL ret ∈ sg_tbl) (hini : Cond.initialized y.cls ∈ sg_tbl) (hstt : Cond.static y ∈ sg_tbl) (hd : y.cls ≠ "java/lang/invoke/MethodHandle" ∧ y.cls ≠ "java/lang/invoke/VarHandle" ∧ (parseMethodDescriptor y.desc).map (fun d => d.parameters.length) = some n) (hrc : rm.cells = 0) (hrs : rm.slots = 0) (hn : As.length = n)
    (hl : Cond.methodLink own index y ∈ sg_tbl) (hsize : ls.size = nL) (hst : st0 = As.reverse ++ rest) (hW : (rest.map fun v => v.category).sum ≤ 8) (hR : rm.frames + 1 ≤ R.frames ∧ 8 + (maxL + 11) + rm.locals ≤ R.locals) (hf : cells ≤ R.cells ∧ slots ≤ R.slots) (hdg : decode cc pc = .ok (.invokestatic index, 3))
    (kk : ∀ (locs1 : List Loc), va_S A s.heap H locs1 → W p l e R s m args below meth c H locs1 cells slots Q (F0 m (pc + 3) ls rest)) : W p l e R s m args below meth c H locs cells slots Q (F0 m pc ls st0) := by
  obtain ⟨hx, hbc, hml, hown, hts⟩ := id X
  have hrun := va_runS (H := H) (locs := locs) (cells := cells) (slots := slots) (below := below) (meth := meth) (R := R) (l := l) (e := e) (As := As) (rest := rest) (g := F0 m pc ls st0) X hM ⟨sg_cb hts hcode hrc hrs hini hl hd hR, hts _ hstt⟩ ⟨sgB.blindE, fun U hU hW => ⟨rfl, hU, hp.call hS (fun q z => z.elim) hU hW.alike, by rw [hU]; exact Nat.le_trans hb hS.1, va_K.moved hW.alike hK, hC.call (hS.weak hA) hU hW, by rw [hU]; exact hG⟩⟩ rfl hn hsize hst (lv_room hW) hdg hf
  refine va_callv hrun hS (fun q _ h => h.elim) (fun q h => h.elim) fun u t H1 locs1 ht hvm hp0 hB hz hk1 hS1 => ?_
  have e1 : H1 = H := ht.symm.trans hB
  subst e1
  exact kk locs1 hS1
theorem sg_ofE {Pq : Heap → Array Value → State → Outcome → State → Prop} {av : List Value} {Hx : Heap} {ta tv tn : Nat} {tb : List Int32} (hy : plainName y.cls = true) (hfit : (lg_sl av).length ≤ maxL)
    (body : ∀ (p : Program) (e : Env) (s : State) (m : MethodId) (below : List Frame) (meth : Method) (c : Code), CallFix p m c bytes maxL s av.toArray sg_tbl y.cls → meth.sig.returnType = ret → meth.locks = false → base ≤ s.heap.size → va_K D cl tys s → sgC base s → sgG kt D cl (fun q : Nat => base ≤ q) tys ad ks s.heap → ∀ ls : Array Slot, lv_has ls maxL (lv_args 0 av) → P_S ta tv tn tb (fun _ : Nat => False) s →
      W p l e (headSpec (Cond.code y bytes maxL ret :: sg_tbl) rm).room s m av.toArray below meth c s.heap [] 0 0 (MQ below (Pq s.heap) av.toArray s 0 0 (fun _ : Nat => False)) (F0 m 0 ls [])) :
    Met l y (Cond.code y bytes maxL ret :: sg_tbl) rm (va_Pc av (fun U => U.heap = Hx ∧ P_S ta tv tn tb (fun _ : Nat => False) U ∧ sgB kt D cl base tys ad ks U)) (Pq Hx) 0 0 (fun _ : Nat => False) := by
  refine Met.ofW (cc := bytes) (maxL := maxL) (ret := ret) hy rfl ?_
  intro p e s m args below meth c s₁ B hml hv
  obtain ⟨rfl, rfl, hp, hb, hK, hC, hG⟩ := hv
  have hts := atoms_spec (ws := Cond.code y bytes maxL ret :: sg_tbl) B.pre
  have hown : s.vm.findClass y.cls = some m.cls := findClass_of_methodNamed B.named
  rw [lg_entry_eq]
  exact body p e s m below meth c ⟨B.exec, B.bytes, hml, hown, fun w hw => hts w (List.mem_cons_of_mem _ hw)⟩ B.returns B.notSynchronized hb hK hC hG _ (lv_entry av hfit) hp
theorem sg_callV2i {PW : Int32 → State → Prop} (X : CallFix p m c cc nL s args sg_tbl own) (hK : va_K D cl tys s) (hG : sgG kt D cl (fun q : Nat => base ≤ q) tys ad ks H) (hC : sgC base s) (hS : va_S (fun q : Nat => base ≤ q) s.heap H locs) (hb : base ≤ s.heap.size) {post : Int32 → Prop}
    (hM : Met l y (Cond.code y bytes maxL ret :: sg_tbl) rm (va_Pc (.ref a :: As) (sgB kt D cl base tys ad ks)) (va_Qi (fun r (u : Int32) => u = r ∧ post r) PW (fun q : Nat => base ≤ q)) 0 0 (fun q : Nat => base ≤ q)) {k ci : Nat} (ha : isK ad ks k a) {fts : List sgT} (hk : kt[k]? = some (.inl (ci, fts))) {C : String} {T : u_T} {N : Nat} (hc : cl[ci]? = some (C, T, N))
    (hcode : Cond.code y bytes maxL ret ∈ sg_tbl) (hini : Cond.initialized y.cls ∈ sg_tbl) (hinst : Cond.instanceMethod y ∈ sg_tbl) (hsel : Cond.selects C y y ∈ sg_tbl) (hd : y.cls ≠ "java/lang/invoke/MethodHandle" ∧ y.cls ≠ "java/lang/invoke/VarHandle" ∧ (parseMethodDescriptor y.desc).map (fun d => d.parameters.length) = some n) (hrc : rm.cells = 0) (hrs : rm.slots = 0) (hn : As.length = n)
    (hl : Cond.methodLink own index y ∈ sg_tbl) (hsize : ls.size = nL) (hst : st0 = As.reverse ++ .ref a :: rest) (hW : (rest.map fun v => v.category).sum ≤ 8) (hR : rm.frames + 1 ≤ R.frames ∧ 8 + (maxL + 11) + rm.locals ≤ R.locals) (hf : cells ≤ R.cells ∧ slots ≤ R.slots) (hdg : decode cc pc = .ok (.invokevirtual index, 3))
    (kk : ∀ (r : Int32) (t : State) (H1 : Heap) (locs1 : List Loc), t.heap = H1 → post r → PW r t → va_S (fun q : Nat => base ≤ q) s.heap H1 locs1 → W p l e R s m args below meth c H1 locs1 cells slots Q (F0 m (pc + 3) ls (.int r :: rest))) : W p l e R s m args below meth c H locs cells slots Q (F0 m pc ls st0) := by
  obtain ⟨hx, hbc, hml, hown, hts⟩ := id X
  have hG' := hG
  obtain ⟨ws, hP, hD, hT, hU⟩ := hG'
  obtain ⟨q0, en, K, hw, hkq, hK', hE⟩ := ha.in hT
  rw [hk] at hK'
  cases hK'
  cases en with
  | inl z => exact hE.elim
  | inr q =>
    obtain ⟨ci', fs⟩ := q
    obtain ⟨h1, -, -⟩ := hE
    dsimp only at h1
    subst h1
    have hrun := va_runV (H := H) (locs := locs) (cells := cells) (slots := slots) (below := below) (meth := meth) (R := R) (l := l) (e := e) (C := C) (b := a) (As := As) (rest := rest) (g := F0 m pc ls st0) X hM ⟨sg_cb hts hcode hrc hrs hini hl hd hR, hts _ hinst, hts _ hsel⟩ ⟨sgB.blind, va_recv hK hP hc hw, sg_into hK hG hC hS hb⟩ rfl hn hsize hst (lv_room hW) hdg hf
    refine va_calli hrun hS (fun q _ h => h) (fun q h => h) fun r u t H1 locs1 ht hvm hp hB hz hk1 hS1 => ?_
    obtain ⟨rfl, hp⟩ := hp
    exact kk _ t H1 locs1 ht hp hB hS1
theorem sg_callV2v {PW : State → Prop} (X : CallFix p m c cc nL s args sg_tbl own) (hK : va_K D cl tys s) (hG : sgG kt D cl (fun q : Nat => base ≤ q) tys ad ks H) (hC : sgC base s) (hS : va_S (fun q : Nat => base ≤ q) s.heap H locs) (hb : base ≤ s.heap.size)
    (hM : Met l y (Cond.code y bytes maxL ret :: sg_tbl) rm (va_Pc (.ref a :: As) (sgB kt D cl base tys ad ks)) (va_Qv (fun (_ : Unit) => True) (fun _ => PW) (fun q : Nat => base ≤ q)) 0 0 (fun q : Nat => base ≤ q)) {k ci : Nat} (ha : isK ad ks k a) {fts : List sgT} (hk : kt[k]? = some (.inl (ci, fts))) {C : String} {T : u_T} {N : Nat} (hc : cl[ci]? = some (C, T, N))
    (hcode : Cond.code y bytes maxL ret ∈ sg_tbl) (hini : Cond.initialized y.cls ∈ sg_tbl) (hinst : Cond.instanceMethod y ∈ sg_tbl) (hsel : Cond.selects C y y ∈ sg_tbl) (hd : y.cls ≠ "java/lang/invoke/MethodHandle" ∧ y.cls ≠ "java/lang/invoke/VarHandle" ∧ (parseMethodDescriptor y.desc).map (fun d => d.parameters.length) = some n) (hrc : rm.cells = 0) (hrs : rm.slots = 0) (hn : As.length = n)
    (hl : Cond.methodLink own index y ∈ sg_tbl) (hsize : ls.size = nL) (hst : st0 = As.reverse ++ .ref a :: rest) (hW : (rest.map fun v => v.category).sum ≤ 8) (hR : rm.frames + 1 ≤ R.frames ∧ 8 + (maxL + 11) + rm.locals ≤ R.locals) (hf : cells ≤ R.cells ∧ slots ≤ R.slots) (hdg : decode cc pc = .ok (.invokevirtual index, 3))
    (kk : ∀ (t : State) (H1 : Heap) (locs1 : List Loc), t.heap = H1 → PW t → va_S (fun q : Nat => base ≤ q) s.heap H1 locs1 → W p l e R s m args below meth c H1 locs1 cells slots Q (F0 m (pc + 3) ls rest)) : W p l e R s m args below meth c H locs cells slots Q (F0 m pc ls st0) := by
  obtain ⟨hx, hbc, hml, hown, hts⟩ := id X
  have hG' := hG
  obtain ⟨ws, hP, hD, hT, hU⟩ := hG'
  obtain ⟨q0, en, K, hw, hkq, hK', hE⟩ := ha.in hT
  rw [hk] at hK'
  cases hK'
  cases en with
  | inl z => exact hE.elim
  | inr q =>
    obtain ⟨ci', fs⟩ := q
    obtain ⟨h1, -, -⟩ := hE
    dsimp only at h1
    subst h1
    have hrun := va_runV (H := H) (locs := locs) (cells := cells) (slots := slots) (below := below) (meth := meth) (R := R) (l := l) (e := e) (C := C) (b := a) (As := As) (rest := rest) (g := F0 m pc ls st0) X hM ⟨sg_cb hts hcode hrc hrs hini hl hd hR, hts _ hinst, hts _ hsel⟩ ⟨sgB.blind, va_recv hK hP hc hw, sg_into hK hG hC hS hb⟩ rfl hn hsize hst (lv_room hW) hdg hf
    refine va_callv hrun hS (fun q _ h => h) (fun q h => h) fun u t H1 locs1 ht hvm hp hB hz hk1 hS1 => ?_
    exact kk t H1 locs1 ht hB hS1
theorem sg_iret2 {post : Int32 → Prop} {PW : Int32 → State → Prop} {v : Int32} (X : CallFix p m c cc nL s args sg_tbl own) (hr : meth.sig.returnType = some .int) (hlocks : meth.locks = false) (hS : va_S (fun q : Nat => base ≤ q) s.heap H locs) (hp : post v) (hw : ∀ t : State, t.heap = H → s.WarmedH t.vm → PW v t) (hdg : decode cc pc = .ok (.ireturn, 1)) :
    W p l e R s m args below meth c H locs 0 0 (MQ below (va_Qi (fun r (u : Int32) => u = r ∧ post r) PW (fun q : Nat => base ≤ q)) args s 0 0 (fun q : Nat => base ≤ q)) (F0 m pc ls [.int v]) :=
  W.iret (v := v) X.1 X.2.1 hr (fun t ht hW => ⟨⟨v, v, rfl, ⟨rfl, hp⟩, hw t ht hW⟩, hS.F ht⟩) hS.2.2 hdg hlocks
theorem sg_zret2 {post : Int32 → Prop} {PW : Int32 → State → Prop} {v : Int32} {ty : FieldType} (X : CallFix p m c cc nL s args sg_tbl own) (hr : meth.sig.returnType = some ty) (hn : narrow ty (.int v) = .int v) (hlocks : meth.locks = false) (hS : va_S (fun q : Nat => base ≤ q) s.heap H locs) (hp : post v) (hw : ∀ t : State, t.heap = H → s.WarmedH t.vm → PW v t) (hdg : decode cc pc = .ok (.ireturn, 1)) :
    W p l e R s m args below meth c H locs 0 0 (MQ below (va_Qi (fun r (u : Int32) => u = r ∧ post r) PW (fun q : Nat => base ≤ q)) args s 0 0 (fun q : Nat => base ≤ q)) (F0 m pc ls [.int v]) :=
  W.zret (ty := ty) (v := v) X.1 X.2.1 hr hn (fun t ht hW => ⟨⟨v, v, rfl, ⟨rfl, hp⟩, hw t ht hW⟩, hS.F ht⟩) hS.2.2 hdg hlocks
theorem sg_vret2 {PW : State → Prop} (X : CallFix p m c cc nL s args sg_tbl own) (hr : meth.sig.returnType = none) (hlocks : meth.locks = false) (hS : va_S (fun q : Nat => base ≤ q) s.heap H locs) (hw : ∀ t : State, t.heap = H → s.WarmedH t.vm → PW t) (hdg : decode cc pc = .ok (.return_, 1)) :
    W p l e R s m args below meth c H locs 0 0 (MQ below (va_Qv (fun (_ : Unit) => True) (fun _ => PW) (fun q : Nat => base ≤ q)) args s 0 0 (fun q : Nat => base ≤ q)) (F0 m pc ls []) :=
  W.vret X.1 X.2.1 hr (fun t ht hW => ⟨⟨(), rfl, trivial, hw t ht hW⟩, hS.F ht⟩) hS.2.2 hdg hlocks
theorem sg_vretP (X : CallFix p m c cc nL s args sg_tbl own) (hr : meth.sig.returnType = none) (hlocks : meth.locks = false) (hS : va_S (fun _ : Nat => False) s.heap s.heap locs) (hdg : decode cc pc = .ok (.return_, 1)) :
    W p l e R s m args below meth c s.heap locs 0 0 (MQ below (va_Qv (fun (_ : Unit) => True) (fun _ t => t.heap = s.heap) (fun _ : Nat => False)) args s 0 0 (fun _ : Nat => False)) (F0 m pc ls []) :=
  W.vret X.1 X.2.1 hr (fun t ht hW => ⟨⟨(), rfl, trivial, ht⟩, hS.F ht⟩) hS.2.2 hdg hlocks
end SGC
