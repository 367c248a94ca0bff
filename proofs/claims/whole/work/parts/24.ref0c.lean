/-! pure words of the reference, third part: masks, squares -/
theorem mDx_rg (k : Int) : -1 ≤ mDx k ∧ mDx k ≤ 1 := by unfold mDx; split <;> (try split) <;> omega
theorem mDy_rg (k : Int) : -1 ≤ mDy k ∧ mDy k ≤ 1 := by unfold mDy; split <;> (try split) <;> omega
theorem mHAt_rg {s : Int → Int} (hS : mS s) (x y : Int) : -9 ≤ mHAt s x y ∧ mHAt s x y ≤ 3 := by
  obtain ⟨hs0, hs1, hs2, hsh, hsf⟩ := hS
  unfold mHAt
  have key : ∀ a b : Int, 0 ≤ a ∧ a < s 0 → 0 ≤ b ∧ b < s 1 → -9 ≤ s (3 + s 0 * b + a) ∧ s (3 + s 0 * b + a) ≤ 3 := by
    intro a b ha hb
    have h1 := cell_rg hs0 ha hb
    have h2 := cells_rg hs0 hs1
    have h3 := hsh (3 + s 0 * b + a) (by omega) (by omega)
    omega
  split
  · rename_i h
    exact key x y ⟨h.1, h.2.1⟩ h.2.2
  · split
    · apply key
      · split
        · omega
        · split <;> omega
      · split
        · omega
        · split <;> omega
    · omega
theorem p2_s {k : Int} (h : 0 ≤ k) : (2 : Int) ^ (k + 1).toNat = 2 * (2 : Int) ^ k.toNat := by
  rw [show (k + 1).toNat = k.toNat + 1 by omega, Int.pow_succ, Int.mul_comm]
theorem p2_8 {k : Int} (h : 0 ≤ k ∧ k ≤ 8) : 1 ≤ (2 : Int) ^ k.toNat ∧ (2 : Int) ^ k.toNat ≤ 256 := by
  rcases (show k = 0 ∨ k = 1 ∨ k = 2 ∨ k = 3 ∨ k = 4 ∨ k = 5 ∨ k = 6 ∨ k = 7 ∨ k = 8 by omega) with rfl | rfl | rfl | rfl | rfl | rfl | rfl | rfl | rfl <;> decide
def mSetX (s : Int → Int) (x y l k : Int) : Int := if l ≤ mHAt s (x + mDx k) (y + mDy k) then (2 : Int) ^ k.toNat else 0
def mSet (s : Int → Int) (x y l : Int) : Int := sI (mSetX s x y l) 8
theorem mSet_rgN {s : Int → Int} {x y l : Int} : ∀ n : Nat, 0 ≤ smN (mSetX s x y l) n ∧ smN (mSetX s x y l) n < (2 : Int) ^ n := by
  intro n
  induction n with
  | zero => exact ⟨Int.le_refl 0, (by decide : (0 : Int) < (2 : Int) ^ 0)⟩
  | succ n ih =>
    show 0 ≤ smN (mSetX s x y l) n + mSetX s x y l n ∧ smN (mSetX s x y l) n + mSetX s x y l n < (2 : Int) ^ (n + 1)
    rw [Int.pow_succ]
    unfold mSetX at *
    rw [Int.toNat_natCast]
    split <;> omega
theorem mSet_rg {s : Int → Int} {x y l : Int} (k : Int) : 0 ≤ sI (mSetX s x y l) k ∧ sI (mSetX s x y l) k < (2 : Int) ^ k.toNat := mSet_rgN _
theorem shl_eq {k : Int} (h : 0 ≤ k ∧ k < 8) : iI 1 <<< (iI k &&& 31) = iI ((2 : Int) ^ k.toNat) := by
  rcases (show k = 0 ∨ k = 1 ∨ k = 2 ∨ k = 3 ∨ k = 4 ∨ k = 5 ∨ k = 6 ∨ k = 7 by omega) with rfl | rfl | rfl | rfl | rfl | rfl | rfl | rfl <;> decide
theorem or_dec : ∀ k : Nat, k < 8 → ∀ n : Nat, n < 2 ^ k → iI (n : Int) ||| iI ((2 : Int) ^ k) = iI ((n : Int) + (2 : Int) ^ k) := by decide +kernel
theorem or_add {k n d : Int} (hk : 0 ≤ k ∧ k < 8) (hn : 0 ≤ n ∧ n < (2 : Int) ^ k.toNat) (hd : d = 0 ∨ d = (2 : Int) ^ k.toNat) : iI n ||| iI d = iI (n + d) := by
  rcases hd with rfl | rfl
  · rw [Int.add_zero]
    show iI n ||| 0 = iI n
    simp
  · have h := or_dec k.toNat (by omega) n.toNat (by
      have : ((n.toNat : Nat) : Int) < ((2 ^ k.toNat : Nat) : Int) := by rw [Int.toNat_of_nonneg hn.1, Int.natCast_pow]; exact hn.2
      omega)
    rwa [Int.toNat_of_nonneg hn.1] at h
/-- the set without corners that don't count, after j corners -/
def mMsk (n : Int) : Nat → Int
  | 0 => n
  | j + 1 => if mBit n (2 * (j : Int)) = true ∧ mBit n ((2 * (j : Int) + 2) % 8) = true then mMsk n j else mMsk n j - (2 : Int) ^ (2 * j + 1) * (mMsk n j / (2 : Int) ^ (2 * j + 1) % 2)
def mMaskN (n : Int) : Int := mMsk n 4
theorem mMsk_rgN : ∀ n : Nat, n < 256 → ∀ j : Nat, j < 5 → 0 ≤ mMsk (n : Int) j ∧ mMsk (n : Int) j < 256 := by decide +kernel
theorem mMsk_rg {n : Int} (h : 0 ≤ n ∧ n < 256) {j : Nat} (hj : j < 5) : 0 ≤ mMsk n j ∧ mMsk n j < 256 := by
  have := mMsk_rgN n.toNat (by omega) j hj
  rwa [Int.toNat_of_nonneg h.1] at this
theorem and255 {n : Int} (h : 0 ≤ n ∧ n < 256) : iI n &&& iI 255 = iI n := by
  obtain ⟨n, rfl⟩ := Int.eq_ofNat_of_zero_le h.1
  rw [← iI_nI, show iI 255 = (255 : Int32) from rfl, pk_andN (by omega) 8 (by decide)]
  congr 1
  omega
theorem clr_dec : ∀ j : Nat, j < 8 → ∀ n : Nat, n < 256 → iI (n : Int) &&& (iI ((2 : Int) ^ j) ^^^ iI (-1)) = iI ((n : Int) - (2 : Int) ^ j * ((n : Int) / (2 : Int) ^ j % 2)) := by decide +kernel
theorem clr_eq {j : Nat} {n : Int} (hj : j < 8) (h : 0 ≤ n ∧ n < 256) : iI n &&& (iI ((2 : Int) ^ j) ^^^ iI (-1)) = iI (n - (2 : Int) ^ j * (n / (2 : Int) ^ j % 2)) := by
  have := clr_dec j hj n.toNat (by omega)
  rwa [Int.toNat_of_nonneg h.1] at this
def mMask (s : Int → Int) (x y l : Int) : Int := mMaskN (mSet s x y l)
theorem mSet_256 (s : Int → Int) (x y l : Int) : 0 ≤ mSet s x y l ∧ mSet s x y l < 256 := mSet_rg 8
theorem mMask_rg (s : Int → Int) (x y l : Int) : 0 ≤ mMask s x y l ∧ mMask s x y l < 256 := mMsk_rg (mSet_256 s x y l) (by decide)
/-- whether a number is a mask, after j corners -/
def mIsM (n : Int) : Nat → Bool
  | 0 => true
  | j + 1 => mIsM n j && (!(mBit n (2 * (j : Int) + 1)) || (mBit n (2 * (j : Int)) && mBit n ((2 * (j : Int) + 2) % 8)))
def mIsMask (n : Int) : Bool := mIsM n 4
def mSqN (n : Int) : Int := sI (fun k => bz (mIsMask k)) n
def mSq (s : Int → Int) (x y l : Int) : Int := if s (3 + s 0 * y + x) < l then -9 else mSqN (mMask s x y l)
theorem mSqN_rgN : ∀ n : Nat, n < 256 → 0 ≤ mSqN (n : Int) ∧ mSqN (n : Int) ≤ 46 := by decide +kernel
theorem mSqN_rg {n : Int} (h : 0 ≤ n ∧ n < 256) : 0 ≤ mSqN n ∧ mSqN n ≤ 46 := by
  have := mSqN_rgN n.toNat (by omega)
  rwa [Int.toNat_of_nonneg h.1] at this
theorem mSq_rg (s : Int → Int) (x y l : Int) : -9 ≤ mSq s x y l ∧ mSq s x y l ≤ 46 := by
  have := mSqN_rg (mMask_rg s x y l)
  unfold mSq
  split <;> omega
def mFixesC (s : Int → Int) (x y i : Int) : Bool := decide ((0 ≤ x ∧ x < s 0 ∧ 0 ≤ y ∧ y < s 1) ∧ (0 ≤ i ∧ i ≤ 1) ∧ ¬ s (27 + s 0 * y + x) = i)
def mPaintC (s : Int → Int) (x y x2 y2 h : Int) : Bool := decide ((0 ≤ x ∧ x ≤ x2 ∧ x2 < s 0 ∧ 0 ≤ y ∧ y ≤ y2 ∧ y2 < s 1 ∧ 0 ≤ h ∧ h ≤ 3) ∧ ¬ mPaintN s x y x2 y2 h = 0)
def mPaintR (s : Int → Int) (x y x2 y2 h : Int) : Int := if 0 ≤ x ∧ x ≤ x2 ∧ x2 < s 0 ∧ 0 ≤ y ∧ y ≤ y2 ∧ y2 < s 1 ∧ 0 ≤ h ∧ h ≤ 3 then if mPaintN s x y x2 y2 h = 0 then -2 else mPaintN s x y x2 y2 h else -1
theorem mPaintS_lo {s : Int → Int} {x y x2 y2 h c j : Int} (hj : j < 3) : mPaintS s x y x2 y2 h c j = s j := by
  unfold mPaintS
  rw [if_neg (by omega)]
theorem mPaintS_0 (s : Int → Int) (x y x2 y2 h : Int) : mPaintS s x y x2 y2 h 0 = s := by
  funext j
  unfold mPaintS
  rw [if_neg (by omega)]
theorem mPaintS_s {s : Int → Int} {x y x2 y2 h c v : Int} (hc : 0 ≤ c) (hv : v = if mRect (s 0) x y x2 y2 c = true then h else s (3 + c)) : uz (mPaintS s x y x2 y2 h c) (3 + c) v = mPaintS s x y x2 y2 h (c + 1) := by
  funext j
  unfold uz mPaintS
  by_cases h1 : j = 3 + c
  · subst h1
    rw [if_pos rfl, hv, show 3 + c - 3 = c by omega]
    by_cases h2 : mRect (s 0) x y x2 y2 c = true
    · rw [if_pos h2, if_pos ⟨by omega, by omega, h2⟩]
    · rw [if_neg h2, if_neg (fun q => h2 q.2.2)]
  · rw [if_neg h1]
    by_cases h2 : 3 ≤ j ∧ j < 3 + c ∧ mRect (s 0) x y x2 y2 (j - 3) = true
    · rw [if_pos h2, if_pos ⟨h2.1, by omega, h2.2.2⟩]
    · rw [if_neg h2, if_neg (fun q => h2 ⟨q.1, by omega, q.2.2⟩)]
theorem mPaintS_hi {s : Int → Int} {x y x2 y2 h c : Int} : mPaintS s x y x2 y2 h c (3 + c) = s (3 + c) := by
  unfold mPaintS
  rw [if_neg (by omega)]
theorem mS_fix {s : Int → Int} {z i : Int} (hS : mS s) (hz : 27 ≤ z) (hi : 0 ≤ i ∧ i ≤ 1) : mS (uz s z i) := by
  obtain ⟨h0, h1, h2, h3, h4⟩ := hS
  refine ⟨?_, ?_, ?_, fun j a b => ?_, fun j a b => ?_⟩
  · rw [uz_n (by omega)]; exact h0
  · rw [uz_n (by omega)]; exact h1
  · rw [uz_n (by omega)]; exact h2
  · rw [uz_n (by omega)]; exact h3 j a b
  · by_cases h : j = z
    · rw [h, uz_s]; exact hi
    · rw [uz_n h]; exact h4 j a b
