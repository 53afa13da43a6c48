theorem nar01 {a : Int32} (ha : a = 0 ∨ a = 1) : narrow .boolean (.int a) = .int a := by
  rcases ha with rfl | rfl <;> rfl

