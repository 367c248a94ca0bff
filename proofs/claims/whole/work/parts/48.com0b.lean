/-! pure words of the component: kinds, what was seen -/
abbrev kO (a qr qc : Nat) (kn : Int) : Nat × va_E := (a, .inr (2, [.ref qr, .ref qc, .int (iI kn)]))
abbrev eO (a ql qs qa : Nat) (kn : Int) : Nat × va_E := (a, .inr (5, [.ref ql, .ref qs, .ref qa, .int (iI kn)]))
theorem dm_eq {w x y : Int} (hw : 1 ≤ w ∧ w ≤ 4) (hx : 0 ≤ x ∧ x < w) : (w * y + x) % w = x ∧ (w * y + x) / w = y := by
  rcases (show w = 1 ∨ w = 2 ∨ w = 3 ∨ w = 4 by omega) with rfl | rfl | rfl | rfl <;> omega
/-- unlike rows as they come first: how many, which, how many cells of each -/
def gKdS (row : Int) (z : Int × (Int → Int) × (Int → Int)) : Int × (Int → Int) × (Int → Int) :=
  if fdI (fun j => decide (z.2.1 j = row)) z.1 0 = z.1 then (z.1 + 1, uz z.2.1 z.1 row, uz (uz z.2.2 z.1 0) z.1 (uz z.2.2 z.1 0 z.1 + 1)) else (z.1, z.2.1, uz z.2.2 (fdI (fun j => decide (z.2.1 j = row)) z.1 0) (z.2.2 (fdI (fun j => decide (z.2.1 j = row)) z.1 0) + 1))
def gKd (s ro ce : Int → Int) : Nat → Int × (Int → Int) × (Int → Int)
  | 0 => (0, ro, ce)
  | n + 1 => gKdS (gRow s ((n : Int) % s 0) ((n : Int) / s 0)) (gKd s ro ce n)
theorem gRow_rg (s : Int → Int) (x y : Int) : 0 ≤ gRow s x y ∧ gRow s x y < 262144 := by
  have a1 := gSq_rg s x y 1
  have a2 := gSq_rg s x y 2
  have a3 := gSq_rg s x y 3
  unfold gRow
  omega
theorem gKdS_rg {row : Int} {z : Int × (Int → Int) × (Int → Int)} {n : Int} (hr : 0 ≤ row ∧ row < 262144) (h1 : 0 ≤ z.1 ∧ z.1 ≤ n) (h2 : ∀ j, 0 ≤ j → j < z.1 → 0 ≤ z.2.1 j ∧ z.2.1 j < 262144) : (0 ≤ (gKdS row z).1 ∧ (gKdS row z).1 ≤ n + 1) ∧ ∀ j, 0 ≤ j → j < (gKdS row z).1 → 0 ≤ (gKdS row z).2.1 j ∧ (gKdS row z).2.1 j < 262144 := by
  unfold gKdS
  split
  · refine ⟨⟨by show 0 ≤ z.1 + 1; omega, by show z.1 + 1 ≤ _; omega⟩, fun j a b => ?_⟩
    show 0 ≤ uz z.2.1 z.1 row j ∧ uz z.2.1 z.1 row j < _
    by_cases hj : j = z.1
    · rw [hj, uz_s]; exact hr
    · rw [uz_n hj]
      have b2 : j < z.1 + 1 := b
      exact h2 j a (by omega)
  · exact ⟨⟨h1.1, by show z.1 ≤ _; omega⟩, h2⟩
theorem gKd_rg (s ro ce : Int → Int) : ∀ n : Nat, (0 ≤ (gKd s ro ce n).1 ∧ (gKd s ro ce n).1 ≤ n) ∧ ∀ j, 0 ≤ j → j < (gKd s ro ce n).1 → 0 ≤ (gKd s ro ce n).2.1 j ∧ (gKd s ro ce n).2.1 j < 262144 := by
  intro n
  induction n with
  | zero => exact ⟨⟨Int.le_refl 0, Int.le_refl 0⟩, fun j a b => absurd b (by show ¬ j < 0; omega)⟩
  | succ n ih => exact gKdS_rg (gRow_rg _ _ _) ih.1 ih.2
theorem gKd_s {s ro ce : Int → Int} {x y : Int} (hs0 : 1 ≤ s 0 ∧ s 0 ≤ 4) (hx : 0 ≤ x ∧ x < s 0) (hy : 0 ≤ s 0 * y) : gKd s ro ce (s 0 * y + (x + 1)).toNat = gKdS (gRow s x y) (gKd s ro ce (s 0 * y + x).toNat) := by
  rw [show (s 0 * y + (x + 1)).toNat = (s 0 * y + x).toNat + 1 by omega]
  show gKdS (gRow s (((s 0 * y + x).toNat : Int) % s 0) (((s 0 * y + x).toNat : Int) / s 0)) _ = _
  rw [Int.toNat_of_nonneg (by omega), (dm_eq hs0 hx).1, (dm_eq hs0 hx).2]
/-- the k-th row's square in a layer -/
theorem row_sh {r l : Int} (hr : 0 ≤ r ∧ r < 262144) (hl : 1 ≤ l ∧ l ≤ 3) : iI r >>> (iI (6 * (l - 1)) &&& 31) &&& iI 63 = iI (r / (64 : Int) ^ (l - 1).toNat % 64) := by
  have key : ∀ (s : Int32) (k : Nat), (s.toBitVec.smod 32).toNat = k → iI r >>> s &&& iI 63 = iI (r / (2 : Int) ^ k % 64) := by
    intro s k hs
    obtain ⟨n, rfl⟩ := Int.eq_ofNat_of_zero_le hr.1
    rw [← iI_nI, pk_shrN (by omega) s k hs, show iI 63 = (63 : Int32) from rfl, pk_andN (by have := Nat.div_le_self n (2 ^ k); omega) 6 (by decide), iI_nI]
    congr 1
  rcases (show l = 1 ∨ l = 2 ∨ l = 3 by omega) with rfl | rfl | rfl
  · exact key _ 0 (by decide)
  · exact key _ 6 (by decide)
  · exact key _ 12 (by decide)
/-- the cell fits what was seen -/
def gFit (s la sq : Int → Int) (kn x y : Int) : Bool := alI (fun i => decide (gSq s x y (la i) = sq i)) kn
def gFitN (s la sq : Int → Int) (kn : Int) (c : Int) : Bool := gFit s la sq kn (c % s 0) (c / s 0)
/-- a bit for each of cells 0 .. n - 1 that has p -/
def gBits (p : Int → Bool) : Nat → Int
  | 0 => 0
  | n + 1 => gBits p n + (if p n = true then (2 : Int) ^ n else 0)
theorem gBits_rg (p : Int → Bool) : ∀ n : Nat, 0 ≤ gBits p n ∧ gBits p n < (2 : Int) ^ n := by
  intro n
  induction n with
  | zero => exact ⟨Int.le_refl 0, (by decide : (0 : Int) < (2 : Int) ^ 0)⟩
  | succ n ih =>
    show 0 ≤ gBits p n + (if p n = true then (2 : Int) ^ n else 0) ∧ gBits p n + (if p n = true then (2 : Int) ^ n else 0) < (2 : Int) ^ (n + 1)
    rw [Int.pow_succ]
    split <;> omega
theorem gBits_or {n c : Int} (hc : 0 ≤ c ∧ c < 24) (hn : 0 ≤ n ∧ n < (2 : Int) ^ c.toNat) : iI n ||| (iI 1 <<< (iI c &&& 31)) = iI (n + (2 : Int) ^ c.toNat) := by
  have h31 := sh_k c.toNat (by omega)
  rw [iI_tn hn.1, iI_tn hc.1, show iI 1 = nI 1 from rfl]
  have hp : 2 ^ c.toNat ≤ 2 ^ 23 := Nat.pow_le_pow_right (by decide) (by omega)
  have hp2 : 2 ^ 23 = 8388608 := by decide
  rw [pk_shlN (n := 1) _ c.toNat h31 (by omega), nI_or, Nat.one_mul]
  have hlt : n.toNat < 2 ^ c.toNat := by
    have h1 : ((n.toNat : Nat) : Int) < ((2 ^ c.toNat : Nat) : Int) := by rw [Int.toNat_of_nonneg hn.1, Int.natCast_pow]; exact hn.2
    omega
  have h2 : n.toNat ||| 2 ^ c.toNat = 2 ^ c.toNat + n.toNat := by
    rw [Nat.or_comm, ← Nat.one_mul (2 ^ c.toNat), ← Nat.shiftLeft_eq, Nat.shiftLeft_add_eq_or_of_lt hlt]
  rw [h2, iI_nI]
  congr 1
  rw [Int.natCast_add, Int.toNat_of_nonneg hn.1, Int.natCast_pow, Int.add_comm]
  rfl
