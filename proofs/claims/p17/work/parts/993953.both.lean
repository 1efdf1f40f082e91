/-- a contract, and what a second one says of the same run -/
theorem sg_both3 {l : Launch} {y : MethodName} {ws : List Cond} {rm : Room} {P1 : Array Value → State → Prop} {Q1 Q3 : Array Value → State → Outcome → State → Prop} {mc ms : Nat} {f1 f2 : Addr → Prop} (h1 : Met l y ws rm P1 Q1 mc ms f1) (h2 : ∀ (args : Array Value) (s : State), P1 args s → ∃ (P2 : Array Value → State → Prop) (Q2 : Array Value → State → Outcome → State → Prop), Met l y ws rm P2 Q2 mc ms f2 ∧ P2 args s ∧ ∀ (o : Outcome) (t : State), Q1 args s o t → Q2 args s o t → Q3 args s o t) : Met l y ws rm P1 Q3 mc ms f1 := by
  intro p e he hf hc s m args below hs ha hp hk
  obtain ⟨P2, Q2, hM, hp2, hX⟩ := h2 args s hp
  obtain ⟨n, o, a1, a2, a3, a4, a5⟩ := h1 p e he hf hc s m args below hs ha hp trivial
  obtain ⟨n', o', b1, b2, b3, b4, b5⟩ := hM p e he hf hc s m args below hs ha hp2 trivial
  obtain ⟨hn, ho⟩ := Jvm.the_end_unique a1 a3 b1 b3
  subst hn
  subst ho
  exact ⟨n, o, a1, a2, a3, hX _ _ a4 b4, a5⟩
theorem sg_monoP {l : Launch} {y : MethodName} {ws : List Cond} {rm : Room} {P1 : Array Value → State → Prop} {Q1 Q3 : Array Value → State → Outcome → State → Prop} {mc ms : Nat} {f1 : Addr → Prop} (h1 : Met l y ws rm P1 Q1 mc ms f1) (h2 : ∀ (args : Array Value) (s : State) (o : Outcome) (t : State), Q1 args s o t → Q3 args s o t) : Met l y ws rm P1 Q3 mc ms f1 := by
  intro p e he hf hc s m args below hs ha hp hk
  obtain ⟨n, o, a1, a2, a3, a4, a5⟩ := h1 p e he hf hc s m args below hs ha hp trivial
  exact ⟨n, o, a1, a2, a3, h2 _ _ _ _ a4, a5⟩
theorem sg_qi {post : Int32 → Int32 → Prop} {PW PW3 : Int32 → State → Prop} {A : Nat → Prop} {args : Array Value} {s : State} {o : Outcome} {t : State} (h : va_Qi post PW A args s o t) (hm : ∀ u : Int32, PW u t → PW3 u t) : va_Qi post PW3 A args s o t := by
  obtain ⟨⟨r, u, ho, hp, hW⟩, hF⟩ := h
  exact ⟨⟨r, u, ho, hp, hm u hW⟩, hF⟩
theorem sg_conj {B : State → Prop} {PW PW3 : Int32 → State → Prop} {A A' : Nat → Prop} {args : Array Value} {s : State} {o : Outcome} {t : State} (h1 : va_Qi (fun r (_ : Unit) => iv 0 1 r) (fun _ => B) A args s o t) (h2 : va_Qi (fun r (u : Int32) => u = r ∧ iv 0 1 r) PW A' args s o t) (hm : ∀ u : Int32, PW u t → B t → PW3 u t) : va_Qi (fun r (u : Int32) => u = r ∧ iv 0 1 r) PW3 A args s o t := by
  obtain ⟨⟨r, u, ho, hp, hB⟩, hF⟩ := h1
  obtain ⟨⟨r', u', ho', ⟨hu, hp'⟩, hW⟩, -⟩ := h2
  subst hu
  rw [ho] at ho'
  cases ho'
  exact ⟨⟨_, _, ho, ⟨rfl, hp⟩, hm _ hW hB⟩, hF⟩
theorem lnTk1_no {b : Nat → Int} {n a1 w : Int} {ok : Bool} {q : sgLwn} (h : vLnC b n lw0 (vX b n 0) = (ok, a1, q)) (hk : (ok = false ∧ w = a1) ∨ (ok = true ∧ ¬ vC b n a1 = 0 ∧ w = a1) ∨ (ok = true ∧ vC b n a1 = 0 ∧ ¬ lwOkC q ∧ w = n)) : ¬ lnTk1 b n := by
  rintro ⟨a2, q2, h1, h2, h3⟩
  rw [h1] at h
  cases h
  rcases hk with ⟨g, -⟩ | ⟨-, g, -⟩ | ⟨-, -, g, -⟩
  · cases g
  · exact g h2
  · exact g h3
/-- is a text taken, by its sort: the class, the reference -/
def sgTk1 (x : Int) (P : sgPm) : Prop := (x = 0 ∧ lnTk1 (sgT1 P) (sgL1 P)) ∨ (x = 1 ∧ P.2.2.2.2.2.2.1.val < 4 ∧ ∃ a1 : Int, vLaw (sgT1 P) (sgL1 P) = (true, a1)) ∨ (x = 2 ∧ P.2.2.2.2.2.2.2.1.val < 4 ∧ ∃ a1 : Int, vGame (sgT1 P) (sgL1 P) = (true, a1))
def sgTk2 (x : Int) (P : sgPm) : Prop := (x = 0 ∧ lnTk2 (sgU2 P) (sgL2 P)) ∨ (x = 1 ∧ P.2.2.2.2.2.2.2.2.1.val < 4 ∧ ∃ a1 : Int, vLawM (sgU2 P) (sgL2 P) = (true, a1)) ∨ (x = 2 ∧ P.2.2.2.2.2.2.2.2.2.1.val < 4 ∧ ∃ a1 : Int, vGame (sgU2 P) (sgL2 P) = (true, a1))
def sgTx1 (x : Int) (P P1 : sgPm) : Prop := (sgTk1 x P ∧ sgEf1 0 (if x = 1 then 1 else 0) (if x = 2 then 1 else 0) P P1) ∨ (¬ sgTk1 x P ∧ sgEf1 (sgL1 P) 0 0 P P1)
def sgTx2 (x : Int) (P P1 : sgPm) : Prop := (sgTk2 x P ∧ sgEf2 0 (if x = 1 then 1 else 0) (if x = 2 then 1 else 0) P P1) ∨ (¬ sgTk2 x P ∧ sgEf2 (sgL2 P) 0 0 P P1)
theorem sgTk1_0 {P : sgPm} {x : Int32} (hx : iv 0 0 x) : sgTk1 x.toInt P ↔ lnTk1 (sgT1 P) (sgL1 P) := by
  have h := vq_iv hx
  unfold sgTk1
  rw [h]
  exact ⟨fun z => by rcases z with z | z | z; exact z.2; exact absurd z.1 (by decide); exact absurd z.1 (by decide), fun z => Or.inl ⟨rfl, z⟩⟩
theorem sgTk1_1 {P : sgPm} {x : Int32} (hx : iv 1 1 x) : sgTk1 x.toInt P ↔ (P.2.2.2.2.2.2.1.val < 4 ∧ ∃ a1 : Int, vLaw (sgT1 P) (sgL1 P) = (true, a1)) := by
  have h := vq_iv hx
  unfold sgTk1
  rw [h]
  exact ⟨fun z => by rcases z with z | z | z; exact absurd z.1 (by decide); exact z.2; exact absurd z.1 (by decide), fun z => Or.inr (Or.inl ⟨rfl, z⟩)⟩
theorem sgTk1_2 {P : sgPm} {x : Int32} (hx : iv 2 2 x) : sgTk1 x.toInt P ↔ (P.2.2.2.2.2.2.2.1.val < 4 ∧ ∃ a1 : Int, vGame (sgT1 P) (sgL1 P) = (true, a1)) := by
  have h := vq_iv hx
  unfold sgTk1
  rw [h]
  exact ⟨fun z => by rcases z with z | z | z; exact absurd z.1 (by decide); exact absurd z.1 (by decide); exact z.2, fun z => Or.inr (Or.inr ⟨rfl, z⟩)⟩
theorem sgTk2_0 {P : sgPm} {x : Int32} (hx : iv 0 0 x) : sgTk2 x.toInt P ↔ lnTk2 (sgU2 P) (sgL2 P) := by
  have h := vq_iv hx
  unfold sgTk2
  rw [h]
  exact ⟨fun z => by rcases z with z | z | z; exact z.2; exact absurd z.1 (by decide); exact absurd z.1 (by decide), fun z => Or.inl ⟨rfl, z⟩⟩
theorem sgTk2_1 {P : sgPm} {x : Int32} (hx : iv 1 1 x) : sgTk2 x.toInt P ↔ (P.2.2.2.2.2.2.2.2.1.val < 4 ∧ ∃ a1 : Int, vLawM (sgU2 P) (sgL2 P) = (true, a1)) := by
  have h := vq_iv hx
  unfold sgTk2
  rw [h]
  exact ⟨fun z => by rcases z with z | z | z; exact absurd z.1 (by decide); exact z.2; exact absurd z.1 (by decide), fun z => Or.inr (Or.inl ⟨rfl, z⟩)⟩
theorem sgTk2_2 {P : sgPm} {x : Int32} (hx : iv 2 2 x) : sgTk2 x.toInt P ↔ (P.2.2.2.2.2.2.2.2.2.1.val < 4 ∧ ∃ a1 : Int, vGame (sgU2 P) (sgL2 P) = (true, a1)) := by
  have h := vq_iv hx
  unfold sgTk2
  rw [h]
  exact ⟨fun z => by rcases z with z | z | z; exact absurd z.1 (by decide); exact absurd z.1 (by decide); exact z.2, fun z => Or.inr (Or.inr ⟨rfl, z⟩)⟩
theorem sgTk1_n {P : sgPm} {x : Int} (hx : x < 0 ∨ 2 < x) : ¬ sgTk1 x P := by
  rintro (z | z | z)
  · exact absurd z.1 (by omega)
  · exact absurd z.1 (by omega)
  · exact absurd z.1 (by omega)
theorem sgTk2_n {P : sgPm} {x : Int} (hx : x < 0 ∨ 2 < x) : ¬ sgTk2 x P := by
  rintro (z | z | z)
  · exact absurd z.1 (by omega)
  · exact absurd z.1 (by omega)
  · exact absurd z.1 (by omega)
theorem sgTx1_of {P P1 : sgPm} {x : Int32} {k : Int} {i j : Nat} {T : Prop} (hx : iv k k x) (ht : sgTk1 x.toInt P ↔ T) (hi : (if k = 1 then 1 else 0) = i) (hj : (if k = 2 then 1 else 0) = j) (h : (T ∧ sgEf1 0 i j P P1) ∨ (¬ T ∧ sgEf1 (sgL1 P) 0 0 P P1)) : sgTx1 x.toInt P P1 := by
  have h0 := vq_iv hx
  unfold sgTx1
  rw [ht, h0, hi, hj]
  exact h
theorem sgTx2_of {P P1 : sgPm} {x : Int32} {k : Int} {i j : Nat} {T : Prop} (hx : iv k k x) (ht : sgTk2 x.toInt P ↔ T) (hi : (if k = 1 then 1 else 0) = i) (hj : (if k = 2 then 1 else 0) = j) (h : (T ∧ sgEf2 0 i j P P1) ∨ (¬ T ∧ sgEf2 (sgL2 P) 0 0 P P1)) : sgTx2 x.toInt P P1 := by
  have h0 := vq_iv hx
  unfold sgTx2
  rw [ht, h0, hi, hj]
  exact h
theorem sg_so {x : Int32} (h0 : ¬ x = 0) (h1 : ¬ x = 1) (h2 : ¬ x = 2) : x.toInt < 0 ∨ 2 < x.toInt := by
  have g : ∀ (k : Int32) (z : Int), k.toInt = z → ¬ x = k → ¬ x.toInt = z := fun k z hz hn q => hn (Int32.toInt_inj.mp (q.trans hz.symm))
  have g0 := g 0 0 (by decide +kernel) h0
  have g1 := g 1 1 (by decide +kernel) h1
  have g2 := g 2 2 (by decide +kernel) h2
  omega
