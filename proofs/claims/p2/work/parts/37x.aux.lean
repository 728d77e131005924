/-! the size of a letter, by its place -/
theorem uW5 {N : Int} {k : Nat} (h1 : 576 ≤ k ∧ k < 976) (h2 : (k - 576) % 20 = 5) : uW N k = 8 := by
  rw [uWl h1.1 h1.2, h2]
  rfl
