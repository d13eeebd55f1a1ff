/-! pure functions: how many are greater; two numbers that are one -/
def cab (fv : Nat → Int) (x : Int) : Nat → Nat
  | 0 => 0
  | n + 1 => cab fv x n + (if x < fv n then 1 else 0)
theorem cab_t {fv : Nat → Int} {x : Int} {n : Nat} (h : x < fv n) : ((cab fv x (n + 1) : Nat) : Int) = (cab fv x n : Int) + 1 := by simp [cab, h]
theorem cab_f {fv : Nat → Int} {x : Int} {n : Nat} (h : ¬ x < fv n) : cab fv x (n + 1) = cab fv x n := by simp [cab, h]
theorem lt_or {j i : Nat} {p : Nat → Prop} (hj : j < i + 1) (h : ∀ j, j < i → p j) (hi : p i) : p j := by
  rcases Nat.lt_or_eq_of_le (Nat.le_of_lt_succ hj) with h1 | h1
  · exact h j h1
  · rw [h1]; exact hi
