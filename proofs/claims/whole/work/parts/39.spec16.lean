/-! ===== SET in the reference ===== -/
theorem bMay_04 {what q : Int32} (h : bMay what q) : bIn what 0 4 := by
  rcases h with h | h | h | h
  · rcases h.1 with e | e
    · rw [e]; decide
    · rw [e]; decide
  · rw [h.1]; decide
  · rw [h.1]; decide
  · rw [h.1]; decide
theorem in04 {x : Int32} (h : bIn x 0 4) : x = 0 ∨ x = 1 ∨ x = 2 ∨ x = 3 ∨ x = 4 := by
  have a := i32le.mp h.1
  have b := i32le.mp h.2
  have z0 : (0 : Int32).toInt = 0 := rfl
  have z4 : (4 : Int32).toInt = 4 := rfl
  rcases (show x.toInt = 0 ∨ x.toInt = 1 ∨ x.toInt = 2 ∨ x.toInt = 3 ∨ x.toInt = 4 by omega) with e | e | e | e | e
  · exact Or.inl (Int32.toInt_inj.mp e)
  · exact Or.inr (Or.inl (Int32.toInt_inj.mp e))
  · exact Or.inr (Or.inr (Or.inl (Int32.toInt_inj.mp e)))
  · exact Or.inr (Or.inr (Or.inr (Or.inl (Int32.toInt_inj.mp e))))
  · exact Or.inr (Or.inr (Or.inr (Or.inr (Int32.toInt_inj.mp e))))
theorem may0 {q : Int32} : bMay 0 q ↔ bIn q 0 100 := by
  constructor
  · intro h
    rcases h with h | h | h | h
    · exact h.2
    · exact absurd h.1 (by decide)
    · exact absurd h.1 (by decide)
    · exact absurd h.1 (by decide)
  · intro h; exact Or.inl ⟨Or.inl rfl, h⟩
theorem may1 {q : Int32} : bMay 1 q ↔ bIn q 0 100 := by
  constructor
  · intro h
    rcases h with h | h | h | h
    · exact h.2
    · exact absurd h.1 (by decide)
    · exact absurd h.1 (by decide)
    · exact absurd h.1 (by decide)
  · intro h; exact Or.inl ⟨Or.inr rfl, h⟩
theorem may2 {q : Int32} : bMay 2 q ↔ bIn q 0 2 := by
  constructor
  · intro h
    rcases h with h | h | h | h
    · exact absurd h.1 (by decide)
    · exact h.2
    · exact absurd h.1 (by decide)
    · exact absurd h.1 (by decide)
  · intro h; exact Or.inr (Or.inl ⟨rfl, h⟩)
theorem may3 {q : Int32} : bMay 3 q ↔ bIn q 10 9999 := by
  constructor
  · intro h
    rcases h with h | h | h | h
    · exact absurd h.1 (by decide)
    · exact absurd h.1 (by decide)
    · exact h.2
    · exact absurd h.1 (by decide)
  · intro h; exact Or.inr (Or.inr (Or.inl ⟨rfl, h⟩))
theorem may4 {q : Int32} : bMay 4 q ↔ bIn q 1 400 := by
  constructor
  · intro h
    rcases h with h | h | h | h
    · exact absurd h.1 (by decide)
    · exact absurd h.1 (by decide)
    · exact absurd h.1 (by decide)
    · exact h.2
  · intro h; exact Or.inr (Or.inr (Or.inr ⟨rfl, h⟩))
theorem sSetS_0 (sc : Scn) (q : Int32) : sSetS sc 0 q = ((q, sc.1.2), sc.2) := rfl
theorem sSetS_1 (sc : Scn) (q : Int32) : sSetS sc 1 q = ((sc.1.1, q, sc.1.2.2), sc.2) := rfl
theorem sSetS_2 (sc : Scn) (q : Int32) : sSetS sc 2 q = ((sc.1.1, sc.1.2.1, q, sc.1.2.2.2), sc.2) := rfl
theorem sSetS_3 (sc : Scn) (q : Int32) : sSetS sc 3 q = (sc.1, q, sc.2.2) := rfl
theorem sSetS_4 (sc : Scn) (q : Int32) : sSetS sc 4 q = ((sc.1.1, sc.1.2.1, sc.1.2.2.1, q), sc.2) := rfl
