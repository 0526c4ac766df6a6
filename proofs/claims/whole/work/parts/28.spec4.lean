theorem xn_none {n : Nat} {Z : Option (Int64 × (Nat → Int64) × (Nat → Int64))} {r : Int32} {gp gv : Nat → Int64} {E : Int64} (h : Z = none ∧ r = 0 ∨ ∃ t, Z = some t ∧ r = 1 ∧ (∀ j, j < n → gp (8 + j) = t.2.1 j ∧ gv (8 + j) = t.2.2 j) ∧ E = t.1) (c : r = 0) : Z = none := by
  rcases h with h | ⟨t, -, h, -⟩
  · exact h.1
  · rw [h] at c; exact absurd c (by decide)
theorem xn_some {n : Nat} {Z : Option (Int64 × (Nat → Int64) × (Nat → Int64))} {r : Int32} {gp gv : Nat → Int64} {E : Int64} (h : Z = none ∧ r = 0 ∨ ∃ t, Z = some t ∧ r = 1 ∧ (∀ j, j < n → gp (8 + j) = t.2.1 j ∧ gv (8 + j) = t.2.2 j) ∧ E = t.1) (c : ¬ r = 0) : ∃ t, Z = some t ∧ (∀ j, j < n → gp (8 + j) = t.2.1 j ∧ gv (8 + j) = t.2.2 j) ∧ E = t.1 := by
  rcases h with h | ⟨t, h1, -, h2, h3⟩
  · exact absurd h.2 c
  · exact ⟨t, h1, h2, h3⟩
