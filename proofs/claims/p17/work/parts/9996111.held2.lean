theorem sgHx_feed {x1 x2 x3 x4 x5 : Int32} {P P1 P2 : sgPm} (h : sgHx P) (g1 : sgFe1 x1 x2 x3 x4 x5 P P1) (g2 : sgFe2 x1 x2 x3 x4 x5 P1 P2) : sgHx P2 := by
  have h1 : sgHx P1 := by
    rcases g1 with ⟨-, e⟩ | ⟨-, e⟩
    · rw [e]; exact h
    · rw [e]; exact sgHx_St h
  rcases g2 with ⟨-, e⟩ | ⟨-, e⟩
  · rw [e]; exact h1
  · rw [e]; exact sgHx_St h1
theorem sgHx_end {x : Int32} {P P1 P2 : sgPm} (h : sgHx P) (g1 : sgEd1 x P P1) (g2 : sgEd2 x P1 P2) : sgHx P2 := by
  have h1 : sgHx P1 := by
    rcases g1 with ⟨-, e⟩ | ⟨-, e⟩
    · rw [e]; exact h
    · rw [e]; exact sgHx_St h
  rcases g2 with ⟨-, e⟩ | ⟨-, e⟩
  · rw [e]; exact h1
  · rw [e]; exact sgHx_St h1
