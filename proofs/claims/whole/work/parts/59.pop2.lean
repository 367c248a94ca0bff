theorem nI_and (a b : Nat) : nI a &&& nI b = nI (a &&& b) := by
  apply Int32.toBitVec_inj.mp
  rw [Int32.toBitVec_and]
  show BitVec.ofNat 32 a &&& BitVec.ofNat 32 b = BitVec.ofNat 32 (a &&& b)
  exact BitVec.ofNat_and.symm
theorem ush_k {n : Nat} (h : n < 2 ^ 32) (k : Nat) (z : Int) (hz : ((iI z).toUInt32 &&& Int32.toUInt32 31).toBitVec.toNat % 32 = k) (hz2 : (((iI z).toUInt32 &&& Int32.toUInt32 31).toBitVec % 32).toNat = k) : ((nI n).toUInt32 >>> ((iI z).toUInt32 &&& Int32.toUInt32 31)).toInt32 = nI (n / 2 ^ k) := pk_ushrN h (iI z) k hz2
theorem bc_1 {z : Int} (h : 0 ≤ z ∧ z < 2147483648) : iI z - (((iI z).toUInt32 >>> ((iI 1).toUInt32 &&& Int32.toUInt32 31)).toInt32 &&& iI 1431655765) = nI (b1 (mkB 85 4) z.toNat) := by
  rw [iI_tn h.1, ush_k (by omega) 1 1 (by decide) (by decide), show iI 1431655765 = nI (mkB 85 4) from by decide, nI_and, pk_sub (Nat.le_trans Nat.and_le_left (Nat.div_le_self _ _))]
  rfl
theorem bc_2 {m : Nat} (h : m < 2 ^ 32) : (nI m &&& iI 858993459) + (((nI m).toUInt32 >>> ((iI 2).toUInt32 &&& Int32.toUInt32 31)).toInt32 &&& iI 858993459) = nI (b2 (mkB 51 4) m) := by
  rw [ush_k h 2 2 (by decide) (by decide), show iI 858993459 = nI (mkB 51 4) from by decide, nI_and, nI_and, nI_add]
  rfl
theorem bc_3 {m : Nat} (h : m < 2 ^ 32) : nI m + ((nI m).toUInt32 >>> ((iI 4).toUInt32 &&& Int32.toUInt32 31)).toInt32 &&& iI 252645135 = nI (b3 (mkB 15 4) m) := by
  rw [ush_k h 4 4 (by decide) (by decide), show iI 252645135 = nI (mkB 15 4) from by decide, nI_add, nI_and]
  rfl
theorem bc_4 {m : Nat} (h : m < 2 ^ 32) : nI m + ((nI m).toUInt32 >>> ((iI 8).toUInt32 &&& Int32.toUInt32 31)).toInt32 = nI (m + m / 256) := by
  rw [ush_k h 8 8 (by decide) (by decide), nI_add]
theorem bc_5 {m : Nat} (h : m < 2 ^ 32) : nI m + ((nI m).toUInt32 >>> ((iI 16).toUInt32 &&& Int32.toUInt32 31)).toInt32 = nI (m + m / 65536) := by
  rw [ush_k h 16 16 (by decide) (by decide), nI_add]
theorem bc_6 {m : Nat} (h : m < 2 ^ 32) : nI m &&& iI 63 = iI ((m % 64 : Nat) : Int) := by
  rw [show iI 63 = (63 : Int32) from rfl, pk_andN h 6 (by decide), iI_nI]
theorem b1_lt {m n : Nat} (h : n < 2 ^ 32) : b1 m n < 2 ^ 32 := by unfold b1; omega
theorem b2_lt {n : Nat} : b2 (mkB 51 4) n < 2 ^ 32 := by
  unfold b2
  have h1 : n &&& mkB 51 4 ≤ mkB 51 4 := Nat.and_le_right
  have h2 : n / 4 &&& mkB 51 4 ≤ mkB 51 4 := Nat.and_le_right
  have h3 : mkB 51 4 = 858993459 := by decide
  omega
theorem b3_lt {n : Nat} : b3 (mkB 15 4) n ≤ 252645135 := by
  unfold b3
  have h1 : (n + n / 16) &&& mkB 15 4 ≤ mkB 15 4 := Nat.and_le_right
  have h3 : mkB 15 4 = 252645135 := by decide
  omega
theorem ls_k {n : Nat} (h : n < 2 ^ 64) (k : Nat) (hk : k < 64) : ((lN n).toUInt64 >>> ((iI (k : Int)).toInt64.toUInt64 &&& Int64.toUInt64 63)).toInt64 = lN (n / 2 ^ k) := by
  rw [← iI_nI]
  exact wb_shr h hk
theorem lc_1 {n : Nat} (h : n < 2 ^ 64) : lN n - (((lN n).toUInt64 >>> ((iI 1).toInt64.toUInt64 &&& Int64.toUInt64 63)).toInt64 &&& (6148914691236517205)) = lN (b1 (mkB 85 8) n) := by
  have e := ls_k h 1 (by decide)
  rw [show ((1 : Nat) : Int) = 1 from rfl] at e
  rw [e, show (6148914691236517205 : Int64) = lN (mkB 85 8) from by decide, wb_and (by omega) (by decide), lN_sub (Nat.le_trans Nat.and_le_left (Nat.div_le_self _ _))]
  rfl
theorem lc_2 {n : Nat} (h : n < 2 ^ 64) : (lN n &&& (3689348814741910323)) + (((lN n).toUInt64 >>> ((iI 2).toInt64.toUInt64 &&& Int64.toUInt64 63)).toInt64 &&& (3689348814741910323)) = lN (b2 (mkB 51 8) n) := by
  have e := ls_k h 2 (by decide)
  rw [show ((2 : Nat) : Int) = 2 from rfl] at e
  rw [e, show (3689348814741910323 : Int64) = lN (mkB 51 8) from by decide, wb_and h (by decide), wb_and (by omega) (by decide), lN_add]
  rfl
theorem lc_3 {n : Nat} (h : n < 2 ^ 63) : (lN n + ((lN n).toUInt64 >>> ((iI 4).toInt64.toUInt64 &&& Int64.toUInt64 63)).toInt64) &&& (1085102592571150095) = lN (b3 (mkB 15 8) n) := by
  have e := ls_k (n := n) (by omega) 4 (by decide)
  rw [show ((4 : Nat) : Int) = 4 from rfl] at e
  rw [e, show (1085102592571150095 : Int64) = lN (mkB 15 8) from by decide, lN_add, wb_and (by omega) (by decide)]
  rfl
theorem lc_k {n : Nat} (h : n < 2 ^ 64) (k : Nat) (hk : k < 64) : lN n + ((lN n).toUInt64 >>> ((iI (k : Int)).toInt64.toUInt64 &&& Int64.toUInt64 63)).toInt64 = lN (n + n / 2 ^ k) := by
  rw [ls_k h k hk, lN_add]
theorem lc_6 (m : Nat) : (lN m).toInt32 &&& iI 127 = iI ((m % 128 : Nat) : Int) := by
  rw [lN_i, show iI 127 = (127 : Int32) from rfl, pk_and (nI m) 7 (by decide), iI_nI]
  congr 1
  show (((BitVec.ofNat 32 m).toNat % 2 ^ 7 : Nat) : Int) = _
  rw [BitVec.toNat_ofNat]
  omega
theorem c2_lt {n : Nat} : b2 (mkB 51 8) n < 2 ^ 63 := by
  unfold b2
  have h1 : n &&& mkB 51 8 ≤ mkB 51 8 := Nat.and_le_right
  have h2 : n / 4 &&& mkB 51 8 ≤ mkB 51 8 := Nat.and_le_right
  have h3 : mkB 51 8 = 3689348814741910323 := by decide
  omega
theorem c3_lt {n : Nat} : b3 (mkB 15 8) n ≤ 1085102592571150095 := by
  unfold b3
  have h1 : (n + n / 16) &&& mkB 15 8 ≤ mkB 15 8 := Nat.and_le_right
  have h3 : mkB 15 8 = 1085102592571150095 := by decide
  omega
