/-! pure words of the component: masks, squares, rows of squares, pairs that jar -/
theorem colG_eq {k : Int} (h : 0 ≤ k ∧ k < 8) : colG k = mDx k := by
  unfold colG mDx
  rcases (show k = 0 ∨ k = 1 ∨ k = 2 ∨ k = 3 ∨ k = 4 ∨ k = 5 ∨ k = 6 ∨ k = 7 by omega) with rfl | rfl | rfl | rfl | rfl | rfl | rfl | rfl <;> decide
theorem rowG_eq {k : Int} (h : 0 ≤ k ∧ k < 8) : rowG k = mDy k := by
  unfold rowG mDy
  rcases (show k = 0 ∨ k = 1 ∨ k = 2 ∨ k = 3 ∨ k = 4 ∨ k = 5 ∨ k = 6 ∨ k = 7 by omega) with rfl | rfl | rfl | rfl | rfl | rfl | rfl | rfl <;> decide
def mBsd (j : Nat) : Int := (2 : Int) ^ (2 * j) + (2 : Int) ^ ((2 * j + 2) % 8)
theorem mBsd_rg : ∀ j : Nat, j < 4 → 0 ≤ mBsd j ∧ mBsd j < 256 := by decide +kernel
theorem mBsd_eq {j : Nat} {z : Int} (hj : j < 4) (hz : z = 2 * (j : Int) + 1) : (iI 1 <<< (iI (z - 1) &&& 31)) ||| (iI 1 <<< ((iI (z + 1) &&& iI 7) &&& 31)) = iI (mBsd j) := by
  subst hz
  rcases (show j = 0 ∨ j = 1 ∨ j = 2 ∨ j = 3 by omega) with rfl | rfl | rfl | rfl <;> decide
def mAndB (n : Int) (j : Nat) : Int := (if mBit n (2 * (j : Int)) = true then (2 : Int) ^ (2 * j) else 0) + (if mBit n ((2 * (j : Int) + 2) % 8) = true then (2 : Int) ^ ((2 * j + 2) % 8) else 0)
theorem mAndB_dec : ∀ j : Nat, j < 4 → ∀ n : Nat, n < 256 → iI (n : Int) &&& iI (mBsd j) = iI (mAndB (n : Int) j) ∧ (0 ≤ mAndB (n : Int) j ∧ mAndB (n : Int) j < 256) ∧ (mAndB (n : Int) j = mBsd j ↔ mBit (n : Int) (2 * (j : Int)) = true ∧ mBit (n : Int) ((2 * (j : Int) + 2) % 8) = true) := by decide +kernel
theorem mAndB_eq {j : Nat} {n : Int} (hj : j < 4) (h : 0 ≤ n ∧ n < 256) : iI n &&& iI (mBsd j) = iI (mAndB n j) ∧ (0 ≤ mAndB n j ∧ mAndB n j < 256) ∧ (mAndB n j = mBsd j ↔ mBit n (2 * (j : Int)) = true ∧ mBit n ((2 * (j : Int) + 2) % 8) = true) := by
  have := mAndB_dec j hj n.toNat (by omega)
  rwa [Int.toNat_of_nonneg h.1] at this
/-- a square inside: 47 stands for NONE -/
def gSq (s : Int → Int) (x y l : Int) : Int := if s (3 + s 0 * y + x) < l then 47 else mSqN (mMask s x y l)
theorem gSq_rg (s : Int → Int) (x y l : Int) : 0 ≤ gSq s x y l ∧ gSq s x y l ≤ 47 := by
  have := mSqN_rg (mMask_rg s x y l)
  unfold gSq
  split <;> omega
theorem gSq_mSq (s : Int → Int) (x y l : Int) : (if gSq s x y l = 47 then -9 else gSq s x y l) = mSq s x y l := by
  have := mSqN_rg (mMask_rg s x y l)
  unfold gSq mSq
  by_cases h : s (3 + s 0 * y + x) < l
  · rw [if_pos h, if_pos h, if_pos rfl]
  · rw [if_neg h, if_neg h, if_neg (by omega)]
theorem gSq_inj {s : Int → Int} {x y l x2 y2 : Int} : gSq s x y l = gSq s x2 y2 l ↔ mSq s x y l = mSq s x2 y2 l := by
  have h1 := gSq_mSq s x y l
  have h2 := gSq_mSq s x2 y2 l
  have h3 := gSq_rg s x y l
  have h4 := gSq_rg s x2 y2 l
  constructor
  · intro h; rw [← h1, ← h2, h]
  · intro h
    rw [← h1, ← h2] at h
    split at h <;> split at h <;> omega
theorem mskG_rg : ∀ j : Nat, j < 47 → 0 ≤ mskG (j : Int) ∧ mskG (j : Int) < 256 := by decide +kernel
theorem msk_sqN : ∀ m : Nat, m < 256 → fdI (fun i => decide ((m : Int) ≤ mskG i)) 47 0 = mSqN (m : Int) := by decide +kernel
theorem msk_sq {m : Int} (h : 0 ≤ m ∧ m < 256) : fdI (fun i => decide (m ≤ mskG i)) 47 0 = mSqN m := by
  have := msk_sqN m.toNat (by omega)
  rwa [Int.toNat_of_nonneg h.1] at this
theorem nI_or (a b : Nat) : nI a ||| nI b = nI (a ||| b) := by
  apply Int32.toBitVec_inj.mp
  rw [Int32.toBitVec_or]
  show BitVec.ofNat 32 a ||| BitVec.ofNat 32 b = BitVec.ofNat 32 (a ||| b)
  exact BitVec.ofNat_or.symm
theorem or6 {r q : Int} (hr : 0 ≤ r ∧ r < 65536) (hq : 0 ≤ q ∧ q < 64) : (iI r <<< (iI 6 &&& 31)) ||| iI q = iI (r * 64 + q) := by
  rw [iI_tn hr.1, iI_tn hq.1, pk_shlN (iI 6 &&& 31) 6 (by decide) (by omega), nI_or]
  have h1 : r.toNat * 2 ^ 6 ||| q.toNat = r.toNat * 2 ^ 6 + q.toNat := by
    rw [← Nat.shiftLeft_eq, Nat.shiftLeft_add_eq_or_of_lt (by omega)]
  rw [h1, iI_nI]
  congr 1
  omega
/-- the row of squares of a cell as one number -/
def gRow (s : Int → Int) (x y : Int) : Int := (gSq s x y 3 * 64 + gSq s x y 2) * 64 + gSq s x y 1
theorem gRow_inj {s : Int → Int} {x y x2 y2 : Int} : gRow s x y = gRow s x2 y2 ↔ gSq s x y 1 = gSq s x2 y2 1 ∧ gSq s x y 2 = gSq s x2 y2 2 ∧ gSq s x y 3 = gSq s x2 y2 3 := by
  have a1 := gSq_rg s x y 1
  have a2 := gSq_rg s x y 2
  have a3 := gSq_rg s x y 3
  have b1 := gSq_rg s x2 y2 1
  have b2 := gSq_rg s x2 y2 2
  have b3 := gSq_rg s x2 y2 3
  unfold gRow
  omega
/-- what jars with a cell ahead of it, in direction k -/
def gJX (s : Int → Int) (x y k : Int) : Int := if 0 ≤ x + mDx k ∧ x + mDx k < s 0 ∧ 0 ≤ y + mDy k ∧ y + mDy k < s 1 then if -1 ≤ s (3 + (s 0 * (y + mDy k) + (x + mDx k))) - s (3 + (s 0 * y + x)) ∧ s (3 + (s 0 * (y + mDy k) + (x + mDx k))) - s (3 + (s 0 * y + x)) ≤ 1 then 0 else 1 else 0
def gJA (s : Int → Int) (x y : Int) : Int := sI (fun k => gJX s x y (k + 2)) 4
def gJar (s : Int → Int) : Int := sI (fun y => sI (fun x => gJA s x y) (s 0)) (s 1)
theorem gJX_rg (s : Int → Int) (x y k : Int) : 0 ≤ gJX s x y k ∧ gJX s x y k ≤ 1 := by
  unfold gJX
  split
  · split <;> omega
  · omega
theorem iI_abs {z : Int} (h : -2147483648 < z ∧ z < 2147483648) : (if 0 ≤ iI z then iI z else 0 - iI z) = iI (if z < 0 then -z else z) := by
  have h0 : 0 ≤ iI z ↔ 0 ≤ z := iI_le (a := 0) (by omega) (by omega)
  have h1 : 0 - iI z = iI (0 - z) := iI_sub 0 z
  by_cases hz : z < 0
  · rw [if_pos hz, if_neg (fun q => absurd (h0.mp q) (by omega)), h1, Int.zero_sub]
  · rw [if_neg hz, if_pos (h0.mpr (by omega))]
