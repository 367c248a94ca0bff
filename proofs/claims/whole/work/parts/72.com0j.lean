/-! the object that looks for the least change -/
abbrev lO (a qa qr qs qn qf : Nat) (li ch : Int) (hh : Int64) : Nat × va_E := (a, .inr (3, [.ref qa, .ref qr, .ref qs, .ref qn, .ref qf, .int (iI li), .int (iI ch), .long hh]))
/-- a row's two-bit figures as one number -/
def gHr (s : Int → Int) (b y : Int) : Int := (((pkL s b 24 / 2 ^ (2 * (23 - (s 0 * (y + 1) - 1))).toNat) % (mPow (s 0)).toNat : Nat) : Int)
theorem nI_mp {w : Int} (h : 1 ≤ w ∧ w ≤ 4) (m : Nat) : nI m &&& iI (mPow w - 1) = iI ((m % (mPow w).toNat : Nat) : Int) := by
  have key : ∀ (x : Int32) (k : Nat), x.toBitVec.toNat = 2 ^ k - 1 → k ≤ 8 → nI m &&& x = iI ((m % 2 ^ k : Nat) : Int) := by
    intro x k hx hk
    rw [pk_and (nI m) k hx, iI_nI]
    congr 1
    show (((BitVec.ofNat 32 m).toNat % 2 ^ k : Nat) : Int) = _
    rw [BitVec.toNat_ofNat]
    congr 1
    exact Nat.mod_mod_of_dvd m (Nat.pow_dvd_pow 2 (by omega))
  rcases (show w = 1 ∨ w = 2 ∨ w = 3 ∨ w = 4 by omega) with rfl | rfl | rfl | rfl
  · exact key _ 2 (by decide) (by decide)
  · exact key _ 4 (by decide) (by decide)
  · exact key _ 6 (by decide) (by decide)
  · exact key _ 8 (by decide) (by decide)
theorem gHr_eq {s : Int → Int} {b y : Int} (h : pkR s b) (h0 : 1 ≤ s 0 ∧ s 0 ≤ 4) (hz : 0 ≤ 2 * (23 - (s 0 * (y + 1) - 1)) ∧ 2 * (23 - (s 0 * (y + 1) - 1)) < 64) : ((pk s b).toUInt64 >>> ((iI (2 * (23 - (s 0 * (y + 1) - 1)))).toInt64.toUInt64 &&& Int64.toUInt64 63)).toInt64.toInt32 &&& iI (mPow (s 0) - 1) = iI (gHr s b y) := by
  rw [pkl_shr h hz, nI_mp h0]
  rfl
def gMeet (x y : Int) : Bool := decide ((iI x &&& (iI y ^^^ iI (-1))) = 0)
theorem row_end {w h y : Int} (hw : 1 ≤ w ∧ w ≤ 4) (hh : 1 ≤ h ∧ h ≤ 6) (hy : 0 ≤ y ∧ y < h) : 1 ≤ w * (y + 1) ∧ w * (y + 1) ≤ 24 := by
  rcases (show w = 1 ∨ w = 2 ∨ w = 3 ∨ w = 4 by omega) with rfl | rfl | rfl | rfl <;> omega
