/-! How far the moments reach; truth values as ints. -/
theorem rLast_bd {mo wk wd mi t sh : Int} (h : rOk mo wk wd mi) (h1 : -31536000000 ≤ t + sh * 60000) (h2 : t + sh * 60000 ≤ 10540000000000) (h3 : -2000 ≤ sh) (h4 : sh ≤ 2000) : -2000000000000000 ≤ rLast mo wk wd mi t sh ∧ rLast mo wk wd mi t sh ≤ 2000000000000000 := by
  rcases rLast_is h h1 h2 with ⟨a, -⟩ | ⟨z, a, b, c, -, -⟩
  · rw [a]; omega
  · have := rMom_bd h (y := z) (by omega) (by omega)
    rw [c]; omega
theorem rNext_bd {mo wk wd mi t sh : Int} (h : rOk mo wk wd mi) (h1 : -31536000000 ≤ t + sh * 60000) (h2 : t + sh * 60000 ≤ 10540000000000) (h3 : -2000 ≤ sh) (h4 : sh ≤ 2000) : -2000000000000000 ≤ rNext mo wk wd mi t sh ∧ rNext mo wk wd mi t sh ≤ 2000000000000000 := by
  rcases rNext_is h h1 h2 with ⟨a, -⟩ | ⟨z, a, b, c, -, -⟩
  · rw [a]; omega
  · have := rMom_bd h (y := z) (by omega) (by omega)
    rw [c]; omega
theorem bI_01 (b : Bool) : bI b = 0 ∨ bI b = 1 := by cases b <;> decide
theorem bI_e0 {b : Bool} (h : bI b = 0) : b = false := by cases b <;> first | rfl | exact absurd h (by decide)
theorem bI_e1 {b : Bool} (h : bI b ≠ 0) : b = true := by cases b <;> first | rfl | exact absurd rfl h
