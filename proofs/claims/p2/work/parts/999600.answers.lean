/-- the answer of feed: by how long the tape was -/
def sgFa (x1 x2 x3 x4 x5 : Int32) (l : Int) (r : Int32) : Prop := (240 < l + sgN5 x1 x2 x3 x4 x5 ∧ r = -1) ∨ (l + sgN5 x1 x2 x3 x4 x5 ≤ 240 ∧ r.toInt = l + sgN5 x1 x2 x3 x4 x5)
theorem sgFa.fun {x1 x2 x3 x4 x5 : Int32} {l : Int} {r r' : Int32} (h : sgFa x1 x2 x3 x4 x5 l r) (h' : sgFa x1 x2 x3 x4 x5 l r') : r = r' := by
  rcases h with ⟨c, h⟩ | ⟨c, h⟩
  · rcases h' with ⟨c', h'⟩ | ⟨c', h'⟩
    · exact h.trans h'.symm
    · exact absurd c (by omega)
  · rcases h' with ⟨c', h'⟩ | ⟨c', h'⟩
    · exact absurd c (by omega)
    · exact Int32.toInt_inj.mp (h.trans h'.symm)
theorem sgFa_of {x1 x2 x3 x4 x5 r : Int32} {l : Int} {B1 B2 : Prop} (h : (r = -1 ∧ 240 < l + sgN5 x1 x2 x3 x4 x5 ∧ B1) ∨ (l + sgN5 x1 x2 x3 x4 x5 ≤ 240 ∧ r.toInt = l + sgN5 x1 x2 x3 x4 x5 ∧ B2)) : sgFa x1 x2 x3 x4 x5 l r := by
  rcases h with ⟨e, c, -⟩ | ⟨c, e, -⟩
  · exact Or.inl ⟨c, e⟩
  · exact Or.inr ⟨c, e⟩
