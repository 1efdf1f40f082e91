/-- the answer of drought: by the number and the drought that is -/
def sgDr (v : Int32) (d : Int) (r : Int32) : Prop := (r = 0 ∧ (v.toInt < 0 ∨ 99 < v.toInt ∨ v.toInt = d)) ∨ (r = 1 ∧ ¬ (v.toInt < 0 ∨ 99 < v.toInt ∨ v.toInt = d))
theorem sgDr.fun {v : Int32} {d : Int} {r r' : Int32} (h : sgDr v d r) (h' : sgDr v d r') : r = r' := by
  rcases h with ⟨rfl, h1⟩ | ⟨rfl, h1⟩ <;> rcases h' with ⟨rfl, h2⟩ | ⟨rfl, h2⟩
  · rfl
  · exact absurd h1 h2
  · exact absurd h2 h1
  · rfl
theorem sg_drA {v : Int32} {d : Int} (h : v < 0) : v.toInt < 0 ∨ 99 < v.toInt ∨ v.toInt = d := by
  have h1 := Int32.lt_iff_toInt_lt.mp h
  have h2 : (0 : Int32).toInt = 0 := by decide +kernel
  omega
theorem sg_drB {v : Int32} {d : Int} (h : 99 < v) : v.toInt < 0 ∨ 99 < v.toInt ∨ v.toInt = d := by
  have h1 := Int32.lt_iff_toInt_lt.mp h
  have h2 : (99 : Int32).toInt = 99 := by decide +kernel
  omega
theorem sg_drC {v f : Int32} {d : Int} (h : v = f) (hf : iv d d f) : v.toInt < 0 ∨ 99 < v.toInt ∨ v.toInt = d := by
  subst h
  obtain ⟨h1, h2⟩ := hf
  omega
theorem sg_drN {v f : Int32} {d : Int} (h0 : 0 ≤ v) (h9 : v ≤ 99) (h : ¬ v = f) (hf : iv d d f) : ¬ (v.toInt < 0 ∨ 99 < v.toInt ∨ v.toInt = d) := by
  have h1 := Int32.le_iff_toInt_le.mp h0
  have h2 : (0 : Int32).toInt = 0 := by decide +kernel
  have h3 := Int32.le_iff_toInt_le.mp h9
  have h4 : (99 : Int32).toInt = 99 := by decide +kernel
  obtain ⟨f1, f2⟩ := hf
  have h5 : v.toInt ≠ f.toInt := fun q => h (Int32.toInt_inj.mp q)
  omega
