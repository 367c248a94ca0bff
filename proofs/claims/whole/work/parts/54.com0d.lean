/-! how many of some cells have each square, and the most -/
def gAlS (b : Bool) (q : Int) (z : (Int → Int) × Int) : (Int → Int) × Int := if b = true then (uz z.1 q (z.1 q + 1), max z.2 (z.1 q + 1)) else z
def gAl (s : Int → Int) (cl la : Int) (al : Int → Int) : Nat → (Int → Int) × Int
  | 0 => (cpz (fun _ => 0) al 0 0 48, 0)
  | n + 1 => gAlS (mBit cl (n : Int)) (gSq s ((n : Int) % s 0) ((n : Int) / s 0) la) (gAl s cl la al n)
theorem gAl_s {s al : Int → Int} {cl la x y : Int} (hs0 : 1 ≤ s 0 ∧ s 0 ≤ 4) (hx : 0 ≤ x ∧ x < s 0) (hy : 0 ≤ s 0 * y) : gAl s cl la al (s 0 * y + (x + 1)).toNat = gAlS (mBit cl (s 0 * y + x)) (gSq s x y la) (gAl s cl la al (s 0 * y + x).toNat) := by
  rw [show (s 0 * y + (x + 1)).toNat = (s 0 * y + x).toNat + 1 by omega]
  show gAlS (mBit cl ((s 0 * y + x).toNat : Int)) (gSq s (((s 0 * y + x).toNat : Int) % s 0) (((s 0 * y + x).toNat : Int) / s 0) la) _ = _
  rw [Int.toNat_of_nonneg (by omega), (dm_eq hs0 hx).1, (dm_eq hs0 hx).2]
theorem gAl_rg (s : Int → Int) (cl la : Int) (al : Int → Int) : ∀ n : Nat, (0 ≤ (gAl s cl la al n).2 ∧ (gAl s cl la al n).2 ≤ n) ∧ ∀ q, 0 ≤ q → q < 48 → 0 ≤ (gAl s cl la al n).1 q ∧ (gAl s cl la al n).1 q ≤ n := by
  intro n
  induction n with
  | zero =>
    refine ⟨⟨Int.le_refl 0, Int.le_refl 0⟩, fun q a b => ?_⟩
    show 0 ≤ cpz (fun _ => 0) al 0 0 48 q ∧ cpz (fun _ => 0) al 0 0 48 q ≤ 0
    rw [cpz_in (by omega)]
    exact ⟨Int.le_refl 0, Int.le_refl 0⟩
  | succ n ih =>
    have hq := gSq_rg s ((n : Int) % s 0) ((n : Int) / s 0) la
    have h2 := ih.2 _ hq.1 (by omega)
    show (0 ≤ (gAlS _ _ _).2 ∧ (gAlS _ _ _).2 ≤ _) ∧ ∀ q, 0 ≤ q → q < 48 → 0 ≤ (gAlS _ _ _).1 q ∧ (gAlS _ _ _).1 q ≤ _
    unfold gAlS
    split
    · refine ⟨⟨?_, ?_⟩, fun q a b => ?_⟩
      · show 0 ≤ max _ _; omega
      · show max _ _ ≤ ((n + 1 : Nat) : Int); omega
      · show 0 ≤ uz _ _ _ q ∧ uz _ _ _ q ≤ ((n + 1 : Nat) : Int)
        by_cases hj : q = gSq s ((n : Int) % s 0) ((n : Int) / s 0) la
        · rw [hj, uz_s]; omega
        · rw [uz_n hj]; have := ih.2 q a b; omega
    · refine ⟨⟨ih.1.1, by omega⟩, fun q a b => ?_⟩
      have := ih.2 q a b
      omega
