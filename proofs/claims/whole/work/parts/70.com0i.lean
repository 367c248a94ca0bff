theorem gAlS_ind {b : Bool} {q : Int} {z z2 : (Int → Int) × Int} (hq : 0 ≤ q ∧ q < 48) (h : z.2 = z2.2 ∧ ∀ j, 0 ≤ j → j < 48 → z.1 j = z2.1 j) : (gAlS b q z).2 = (gAlS b q z2).2 ∧ ∀ j, 0 ≤ j → j < 48 → (gAlS b q z).1 j = (gAlS b q z2).1 j := by
  unfold gAlS
  split
  · refine ⟨?_, fun j a c => ?_⟩
    · show max z.2 (z.1 q + 1) = max z2.2 (z2.1 q + 1)
      rw [h.1, h.2 q hq.1 hq.2]
    · show uz z.1 q (z.1 q + 1) j = uz z2.1 q (z2.1 q + 1) j
      by_cases hj : j = q
      · rw [hj, uz_s, uz_s, h.2 q hq.1 hq.2]
      · rw [uz_n hj, uz_n hj, h.2 j a c]
  · exact h
theorem gAl_ind (s : Int → Int) (cl la : Int) (al al2 : Int → Int) : ∀ n : Nat, (gAl s cl la al n).2 = (gAl s cl la al2 n).2 ∧ ∀ j, 0 ≤ j → j < 48 → (gAl s cl la al n).1 j = (gAl s cl la al2 n).1 j := by
  intro n
  induction n with
  | zero =>
    refine ⟨rfl, fun j a b => ?_⟩
    show cpz (fun _ => 0) al 0 0 48 j = cpz (fun _ => 0) al2 0 0 48 j
    rw [cpz_in (by omega), cpz_in (by omega)]
  | succ n ih =>
    have hq := gSq_rg s ((n : Int) % s 0) ((n : Int) / s 0) la
    exact gAlS_ind (by omega) ih
/-- the most of cells cl that are alike in a layer -/
def gMo (s : Int → Int) (cl la : Int) : Int := (gAl s cl la (fun _ => 0) (s 0 * s 1).toNat).2
theorem gMo_eq (s : Int → Int) (cl la : Int) (al : Int → Int) : (gAl s cl la al (s 0 * s 1).toNat).2 = gMo s cl la := (gAl_ind s cl la al _ _).1
def gLk (mo : Int → Int) : Nat → Int × Int
  | 0 => (-9, 25)
  | n + 1 => if mo (n + 1) < (gLk mo n).2 then ((n : Int) + 1, mo (n + 1)) else gLk mo n
theorem gLk_s {mo : Int → Int} {la : Int} (h : 1 ≤ la) : gLk mo (la + 1 - 1).toNat = if mo la < (gLk mo (la - 1).toNat).2 then (la, mo la) else gLk mo (la - 1).toNat := by
  rw [show (la + 1 - 1).toNat = (la - 1).toNat + 1 by omega]
  show (if mo (((la - 1).toNat : Int) + 1) < (gLk mo (la - 1).toNat).2 then (((la - 1).toNat : Int) + 1, mo (((la - 1).toNat : Int) + 1)) else gLk mo (la - 1).toNat) = _
  rw [show ((la - 1).toNat : Int) + 1 = la by omega]
theorem pop8_rg (a : Nat) : pop8 a ≤ 8 := by unfold pop8; omega
theorem popN_rg : ∀ k n : Nat, popN k n ≤ 8 * k := by
  intro k
  induction k with
  | zero => intro n; exact Nat.le_refl 0
  | succ k ih =>
    intro n
    have h1 := pop8_rg (n % 256)
    have h2 := ih (n / 256)
    show pop8 (n % 256) + popN k (n / 256) ≤ _
    omega
theorem gBits_24 (p : Int → Bool) {n : Nat} (h : n ≤ 24) : 0 ≤ gBits p n ∧ gBits p n < 16777216 := by
  have h1 := gBits_rg p n
  have h2 : (2 : Int) ^ n ≤ (2 : Int) ^ 24 := by
    have : ((2 ^ n : Nat) : Int) ≤ ((2 ^ 24 : Nat) : Int) := Int.ofNat_le.mpr (Nat.pow_le_pow_right (by decide) h)
    rwa [Int.natCast_pow, Int.natCast_pow] at this
  have h3 : (2 : Int) ^ 24 = 16777216 := by decide
  omega
