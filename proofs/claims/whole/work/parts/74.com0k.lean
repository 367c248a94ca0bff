/-! rows of heights as numbers: figures, what stands, what is near -/
theorem gb_bit (p : Int → Bool) : ∀ n k : Nat, (gBits p n).toNat.testBit k = (decide (k < n) && p k) := by
  intro n
  induction n with
  | zero => intro k; show (0 : Nat).testBit k = _; rw [Nat.zero_testBit]; simp
  | succ n ih =>
    intro k
    have h1 := gBits_rg p n
    have h2 : (gBits p n).toNat < 2 ^ n := by
      have : (((gBits p n).toNat : Nat) : Int) < ((2 ^ n : Nat) : Int) := by rw [Int.toNat_of_nonneg h1.1, Int.natCast_pow]; exact h1.2
      omega
    have e : (gBits p (n + 1)).toNat = (if p n = true then 2 ^ n else 0) + (gBits p n).toNat := by
      show (gBits p n + (if p n = true then (2 : Int) ^ n else 0)).toNat = _
      split
      · have : ((2 : Int) ^ n) = ((2 ^ n : Nat) : Int) := by rw [Int.natCast_pow]; rfl
        omega
      · omega
    rw [e]
    by_cases hp : p n = true
    · rw [if_pos hp]
      by_cases hk : k < n
      · rw [Nat.testBit_two_pow_add_gt hk, ih k]
        simp [hk, show k < n + 1 by omega]
      · by_cases hk2 : k = n
        · subst hk2
          rw [Nat.testBit_two_pow_add_eq, Nat.testBit_lt_two_pow h2]
          simp [hp]
        · rw [Nat.testBit_lt_two_pow (Nat.lt_of_lt_of_le (show 2 ^ n + (gBits p n).toNat < 2 ^ (n + 1) by rw [Nat.pow_succ]; omega) (Nat.pow_le_pow_right (by decide) (by omega)))]
          simp [show ¬ k < n + 1 by omega]
    · rw [if_neg hp, Nat.zero_add, ih k]
      by_cases hk2 : k = n
      · subst hk2
        have hp2 : p k = false := by simpa using hp
        simp [hp2]
      · by_cases hk : k < n
        · simp [hk, show k < n + 1 by omega]
        · simp [hk, show ¬ k < n + 1 by omega]
theorem mBit_tb {n k : Int} (hn : 0 ≤ n) : mBit n k = n.toNat.testBit k.toNat := by
  rw [Nat.testBit_eq_decide_div_mod_eq]
  unfold mBit
  obtain ⟨m, rfl⟩ := Int.eq_ofNat_of_zero_le hn
  have e : ((2 : Int) ^ k.toNat) = ((2 ^ k.toNat : Nat) : Int) := by rw [Int.natCast_pow]; rfl
  rw [e, Int.toNat_natCast]
  have e2 : ((m : Int) / ((2 ^ k.toNat : Nat) : Int) % 2) = ((m / 2 ^ k.toNat % 2 : Nat) : Int) := rfl
  rw [e2]
  by_cases h : m / 2 ^ k.toNat % 2 = 1
  · rw [decide_eq_true h, decide_eq_true (by omega)]
  · rw [decide_eq_false h, decide_eq_false (by omega)]
theorem mBit_gBits (p : Int → Bool) (n : Nat) {c : Int} (hc : 0 ≤ c) : mBit (gBits p n) c = (decide (c < n) && p c) := by
  rw [mBit_tb (gBits_rg p n).1, gb_bit, Int.toNat_of_nonneg hc]
  congr 1
  by_cases h : c < n
  · rw [decide_eq_true h, decide_eq_true (by omega)]
  · rw [decide_eq_false h, decide_eq_false (by omega)]
theorem gMeet_iff {x y : Int} (hx : 0 ≤ x ∧ x < 65536) (hy : 0 ≤ y ∧ y < 65536) : gMeet x y = true ↔ ∀ k : Nat, k < 16 → x.toNat.testBit k = true → y.toNat.testBit k = true := by
  have e : (iI x &&& (iI y ^^^ iI (-1))).toBitVec = BitVec.ofNat 32 x.toNat &&& ~~~(BitVec.ofNat 32 y.toNat) := by
    rw [iI_tn hx.1, iI_tn hy.1, Int32.toBitVec_and, Int32.toBitVec_xor, show (iI (-1)).toBitVec = BitVec.allOnes 32 from by decide, BitVec.xor_allOnes]
    rfl
  unfold gMeet
  rw [decide_eq_true_eq]
  constructor
  · intro h k hk h1
    have h2 := congrArg (fun b : Int32 => b.toBitVec.getLsbD k) h
    have h3 : (iI x &&& (iI y ^^^ iI (-1))).toBitVec.getLsbD k = (0 : Int32).toBitVec.getLsbD k := h2
    rw [e, BitVec.getLsbD_and, BitVec.getLsbD_not, BitVec.getLsbD_ofNat, BitVec.getLsbD_ofNat, h1] at h3
    have h4 : (0 : Int32).toBitVec.getLsbD k = false := by show (0#32).getLsbD k = false; simp
    rw [h4] at h3
    have h5 : k < 32 := by omega
    simp [h5] at h3
    exact h3
  · intro h
    apply Int32.toBitVec_inj.mp
    rw [e]
    apply BitVec.eq_of_getLsbD_eq
    intro k hk
    rw [BitVec.getLsbD_and, BitVec.getLsbD_not, BitVec.getLsbD_ofNat, BitVec.getLsbD_ofNat]
    have h4 : (0 : Int32).toBitVec.getLsbD k = false := by show (0#32).getLsbD k = false; simp
    rw [h4]
    by_cases hk16 : k < 16
    · by_cases h1 : x.toNat.testBit k = true
      · rw [h k hk16 h1]; simp [hk]
      · simp [hk]; intro q; exact absurd q h1
    · rw [Nat.testBit_lt_two_pow (x := x.toNat) (i := k) (Nat.lt_of_lt_of_le (show x.toNat < 2 ^ 16 by omega) (Nat.pow_le_pow_right (by decide) (by omega)))]
      simp
def gDg (r i : Int) : Int := r / (4 : Int) ^ i.toNat % 4
theorem gDg_rg (r i : Int) : 0 ≤ gDg r i ∧ gDg r i ≤ 3 := by unfold gDg; omega
theorem gDg_sh {r i : Int} (hr : 0 ≤ r ∧ r < 2147483648) (hi : 0 ≤ i ∧ i < 4) : iI r >>> (iI (2 * i) &&& 31) &&& iI 3 = iI (gDg r i) := by
  unfold gDg
  rcases (show i = 0 ∨ i = 1 ∨ i = 2 ∨ i = 3 by omega) with e | e | e | e <;> subst e
  · exact fig_sh hr _ 0 (by decide)
  · exact fig_sh hr _ 2 (by decide)
  · exact fig_sh hr _ 4 (by decide)
  · exact fig_sh hr _ 6 (by decide)
theorem mFig_dg (w r x : Int) : mFig w r x = gDg r (w - 1 - x) := rfl
def gSdB (w r k : Int) : Bool := decide (k / 4 < w ∧ k % 4 = gDg r (k / 4))
def gSd (w r : Int) : Int := gBits (gSdB w r) 16
def gNbB (w r k : Int) : Bool := decide (k / 4 < w) && mNear (k % 4) (gDg r (k / 4))
def gNb (w r : Int) : Int := gBits (gNbB w r) 16
def gNeB (w r k : Int) : Bool := decide (k / 4 < w) && mNear (k % 4) (gDg r (k / 4)) && (decide (k / 4 = 0) || mNear (k % 4) (gDg r (k / 4 - 1))) && (decide (k / 4 + 1 = w) || mNear (k % 4) (gDg r (k / 4 + 1)))
def gNe (w r : Int) : Int := gBits (gNeB w r) 16
theorem gSd_dec : ∀ i : Nat, i < 4 → ∀ r : Nat, r < 256 → iI (gSd i r) ||| (iI 1 <<< ((iI (4 * i) + iI (gDg r i)) &&& 31)) = iI (gSd ((i : Int) + 1) r) := by decide +kernel
theorem gNb_dec : ∀ i : Nat, i < 4 → ∀ r : Nat, r < 256 → iI (gNb i r) ||| (iI (neaG (gDg r i)) <<< (iI (4 * i) &&& 31)) = iI (gNb ((i : Int) + 1) r) := by decide +kernel
theorem gNe_dec : ∀ w : Nat, w < 5 → 0 < w → ∀ r : Nat, r < 256 → iI (gNb w r) &&& ((iI (gNb w r) <<< (iI 4 &&& 31)) ||| iI 15) &&& ((iI (gNb w r) >>> (iI 4 &&& 31)) ||| (iI 15 <<< (iI (4 * ((w : Int) - 1)) &&& 31))) = iI (gNe w r) := by decide +kernel
