theorem j_cat2 {P : Nat → Prop} (a n : Nat) (h1 : ∀ pc, pc < a → P pc) (h2 : ∀ i, i < n → P (a + i)) : ∀ pc, pc < a + n → P pc := by
  intro pc hp
  by_cases ha : pc < a
  · exact h1 pc ha
  · have := h2 (pc - a) (by omega)
    rwa [show a + (pc - a) = pc by omega] at this
