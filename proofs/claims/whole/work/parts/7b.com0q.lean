theorem mAll_24 {s : Int → Int} (h0 : 1 ≤ s 0 ∧ s 0 ≤ 4) (h1 : 1 ≤ s 1 ∧ s 1 ≤ 6) : mAll s = 1000 ∨ mAll s ≤ 24 := by
  obtain ⟨b1, b2, b3⟩ := lsN_spec (cst := mCst s 0) (ok := fun _ => true) (mPow (s 0)).toNat
  have e : mAll s = lsN (mCst s 0) (fun _ => true) (mPow (s 0)).toNat := rfl
  by_cases h : mAll s < 1000
  · obtain ⟨r, c1, c2, c3, c4⟩ := b2 (by omega)
    have := mCst_rg h0 h1 0 r (by decide)
    omega
  · omega
theorem mCh_le {s : Int → Int} (h0 : 1 ≤ s 0 ∧ s 0 ≤ 4) (h1 : 1 ≤ s 1 ∧ s 1 ≤ 6) (ha : mAll s < 1000) (y : Nat) (hy : (y : Int) < s 1) : 0 ≤ (mCh s y).1 ∧ (mCh s y).1 ≤ 24 := by
  obtain ⟨c1, c2, row, d1, d2, d3, d4⟩ := mCh_ok h0 h1 ha y hy
  have := mCst_rg h0 h1 (y : Int) row (by omega)
  omega
