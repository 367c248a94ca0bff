/-! pure words of the reference, fifth part -/
theorem mKd_rg (sq fi kn : Int → Int) : ∀ (n : Nat), 0 ≤ (mKd sq fi kn n).1 ∧ (mKd sq fi kn n).1 ≤ n ∧ (∀ j, 0 ≤ j → j < (mKd sq fi kn n).1 → 0 ≤ (mKd sq fi kn n).2.1 j ∧ (mKd sq fi kn n).2.1 j < n) ∧ ∀ c : Int, 0 ≤ c → c < n → 0 ≤ (mKd sq fi kn n).2.2 c ∧ (mKd sq fi kn n).2.2 c < (mKd sq fi kn n).1 := by
  intro n
  induction n with
  | zero => exact ⟨Int.le_refl 0, Int.le_refl 0, fun j a b => absurd b (by show ¬ j < 0; omega), fun j a b => absurd b (by omega)⟩
  | succ n ih =>
    obtain ⟨h1, h2, h3, h4⟩ := ih
    have hs := mKd_s sq fi kn n (by omega) (mKd sq fi kn n).1 (mKd sq fi kn n).2.1 (mKd sq fi kn n).2.2 (by rw [Int.toNat_natCast])
    rw [show ((n : Int) + 1).toNat = n + 1 by omega] at hs
    obtain ⟨f1, f2, f3, f4⟩ := fdI_spec (p := fun j => mAlq sq ((mKd sq fi kn n).2.1 j) n) (n := (mKd sq fi kn n).1) _ 0 rfl h1
    generalize hz : fdI (fun j => mAlq sq ((mKd sq fi kn n).2.1 j) n) (mKd sq fi kn n).1 0 = z at *
    rw [hs]
    by_cases hm : z = (mKd sq fi kn n).1
    · rw [if_pos hm, if_pos hm]
      refine ⟨by show 0 ≤ _ + 1; omega, by show _ + 1 ≤ _; omega, fun j a b => ?_, fun c a b => ?_⟩
      · show 0 ≤ uz _ _ _ j ∧ uz _ _ _ j < _
        by_cases hj : j = (mKd sq fi kn n).1
        · rw [hj, uz_s]; omega
        · rw [uz_n hj]
          have b2 : j < (mKd sq fi kn n).1 + 1 := b
          have := h3 j a (by omega)
          omega
      · show 0 ≤ uz _ _ _ c ∧ uz _ _ _ c < _ + 1
        by_cases hc : c = n
        · rw [hc, uz_s]; omega
        · rw [uz_n hc]
          have := h4 c a (by omega)
          omega
    · rw [if_neg hm, if_neg hm]
      refine ⟨h1, by show _ ≤ ((n + 1 : Nat) : Int); omega, fun j a b => ?_, fun c a b => ?_⟩
      · have := h3 j a b
        show 0 ≤ (mKd sq fi kn n).2.1 j ∧ (mKd sq fi kn n).2.1 j < _
        omega
      · show 0 ≤ uz _ _ _ c ∧ uz _ _ _ c < (mKd sq fi kn n).1
        by_cases hc : c = n
        · rw [hc, uz_s]; omega
        · rw [uz_n hc]
          exact h4 c a (by omega)
theorem mSqOk_rg {s sr : Int → Int} {n : Int} (hu : mSqOk s sr n) {d t : Int} (h1 : 0 ≤ d) (h2 : d < n) (h3 : 0 ≤ t) (h4 : t < 3) : -9 ≤ sr (3 * d + t) ∧ sr (3 * d + t) ≤ 46 := by
  have e := hu d (t + 1) h1 h2 (by omega) (by omega)
  rw [show 3 * d + (t + 1) - 1 = 3 * d + t by omega] at e
  rw [e]
  exact mSq_rg _ _ _ _
