theorem sq_rg {z : Int} (h : -6 ≤ z ∧ z ≤ 6) : 0 ≤ z * z ∧ z * z ≤ 36 := by
  rcases (show z = -6 ∨ z = -5 ∨ z = -4 ∨ z = -3 ∨ z = -2 ∨ z = -1 ∨ z = 0 ∨ z = 1 ∨ z = 2 ∨ z = 3 ∨ z = 4 ∨ z = 5 ∨ z = 6 by omega) with rfl | rfl | rfl | rfl | rfl | rfl | rfl | rfl | rfl | rfl | rfl | rfl | rfl <;> decide
theorem mJar_rg {s : Int → Int} (h0 : 1 ≤ s 0 ∧ s 0 ≤ 4) (h1 : 1 ≤ s 1 ∧ s 1 ≤ 6) : 0 ≤ mJar s ∧ mJar s ≤ 576 := by
  have hc := cells_rg h0 h1
  have := sI_rg (f := fun i => sI (mJarX s i) i) (B := 24) (c := s 0 * s 1) (by omega) (fun j a b => by
    have h2 := sI_rg (f := mJarX s j) (B := 1) (c := j) a (fun i _ _ => bz_rg _)
    omega)
  unfold mJar
  omega
