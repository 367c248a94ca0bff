theorem wb_tb (n : Nat) : (lN n).toBitVec = BitVec.ofNat 64 n := rfl
theorem wb_inj {a b : Int64} (h : a.toBitVec = b.toBitVec) : a = b := Int64.toBitVec_inj.mp h
theorem wb_tn {n : Nat} (h : n < 2 ^ 64) : (lN n).toBitVec.toNat = n := by rw [wb_tb, BitVec.toNat_ofNat, Nat.mod_eq_of_lt h]
theorem wb_of (x : Int64) : ∃ n, n < 2 ^ 64 ∧ x = lN n := ⟨x.toBitVec.toNat, x.toBitVec.isLt, wb_inj (by rw [wb_tb]; simp)⟩
theorem wb_of32 (x : Int32) : ∃ n, n < 2 ^ 32 ∧ x = nI n := ⟨x.toBitVec.toNat, x.toBitVec.isLt, Int32.toBitVec_inj.mp (by show _ = BitVec.ofNat 32 _; simp)⟩
theorem wb_c : ∀ k, k < 64 → ((nI k).toInt64 &&& 63) = lN k := by decide +kernel
theorem wb_cu : ∀ k, k < 64 → ((nI k).toInt64.toUInt64 &&& Int64.toUInt64 63) = UInt64.ofNat k := by decide +kernel
theorem wb_sm : ∀ k, k < 64 → (BitVec.ofNat 64 k).smod 64 = BitVec.ofNat 64 k := by decide +kernel
theorem wb_pw {a b : Nat} (h : a ≤ b) : 2 ^ b = 2 ^ a * 2 ^ (b - a) := by rw [← Nat.pow_add]; congr 1; omega
theorem wb_lt2 {a b : Nat} (h : a < b) : 2 ^ a < 2 ^ b := Nat.pow_lt_pow_right (by decide) h
theorem wb_mod (n : Nat) : lN n = lN (n % 2 ^ 64) := wb_inj (by rw [wb_tb, wb_tb]; apply BitVec.eq_of_toNat_eq; rw [BitVec.toNat_ofNat, BitVec.toNat_ofNat, Nat.mod_mod])
theorem wb_shr {n k : Nat} (hn : n < 2 ^ 64) (hk : k < 64) : ((lN n).toUInt64 >>> ((nI k).toInt64.toUInt64 &&& Int64.toUInt64 63)).toInt64 = lN (n / 2 ^ k) := by
  rw [wb_cu k hk]
  apply wb_inj
  apply BitVec.eq_of_toNat_eq
  show ((lN n).toUInt64 >>> UInt64.ofNat k).toNat = (BitVec.ofNat 64 _).toNat
  have h1 : (UInt64.ofNat k).toNat = k := by
    show (BitVec.ofNat 64 k).toNat = k
    rw [BitVec.toNat_ofNat, Nat.mod_eq_of_lt (by omega)]
  have h2 : (lN n).toUInt64.toNat = n := wb_tn hn
  rw [UInt64.toNat_shiftRight, h1, h2, Nat.mod_eq_of_lt hk, Nat.shiftRight_eq_div_pow, BitVec.toNat_ofNat, Nat.mod_eq_of_lt (Nat.lt_of_le_of_lt (Nat.div_le_self _ _) hn)]
theorem wb_shl (n : Nat) {k : Nat} (hk : k < 64) : lN n <<< ((nI k).toInt64 &&& 63) = lN (n * 2 ^ k) := by
  rw [wb_c k hk]
  apply wb_inj
  rw [Int64.toBitVec_shiftLeft, wb_tb, wb_tb, wb_tb, wb_sm k hk]
  apply BitVec.eq_of_toNat_eq
  rw [BitVec.shiftLeft_eq', BitVec.toNat_shiftLeft, BitVec.toNat_ofNat, BitVec.toNat_ofNat, BitVec.toNat_ofNat, Nat.mod_eq_of_lt (show k < 2 ^ 64 by omega), Nat.shiftLeft_eq, Nat.mul_mod, Nat.mod_mod, ← Nat.mul_mod]
theorem wb_and {a b : Nat} (ha : a < 2 ^ 64) (hb : b < 2 ^ 64) : lN a &&& lN b = lN (a &&& b) := by
  apply wb_inj
  rw [Int64.toBitVec_and, wb_tb, wb_tb, wb_tb]
  apply BitVec.eq_of_toNat_eq
  rw [BitVec.toNat_and, BitVec.toNat_ofNat, BitVec.toNat_ofNat, BitVec.toNat_ofNat, Nat.mod_eq_of_lt ha, Nat.mod_eq_of_lt hb, Nat.mod_eq_of_lt (Nat.and_lt_two_pow _ hb)]
theorem wb_or {a b : Nat} (ha : a < 2 ^ 64) (hb : b < 2 ^ 64) : lN a ||| lN b = lN (a ||| b) := by
  apply wb_inj
  rw [Int64.toBitVec_or, wb_tb, wb_tb, wb_tb]
  apply BitVec.eq_of_toNat_eq
  rw [BitVec.toNat_or, BitVec.toNat_ofNat, BitVec.toNat_ofNat, BitVec.toNat_ofNat, Nat.mod_eq_of_lt ha, Nat.mod_eq_of_lt hb, Nat.mod_eq_of_lt (Nat.or_lt_two_pow ha hb)]
/-! heights and fixed cells as two bits a cell of a long, the first cell on top -/
def pkL (s : Int → Int) (b : Int) : Nat → Nat
  | 0 => 0
  | n + 1 => pkL s b n * 4 + (s (b + n)).toNat
def pk (s : Int → Int) (b : Int) : Int64 := lN (pkL s b 24)
def pkR (s : Int → Int) (b : Int) : Prop := ∀ j, b ≤ j → j < b + 24 → 0 ≤ s j ∧ s j ≤ 3
theorem pkL_lt {s : Int → Int} {b : Int} (h : pkR s b) : ∀ n : Nat, n ≤ 24 → pkL s b n < 4 ^ n := by
  intro n
  induction n with
  | zero => intro _; exact (by decide : (0 : Nat) < 4 ^ 0)
  | succ n ih =>
    intro hn
    have h1 := ih (by omega)
    have h2 := h (b + n) (by omega) (by omega)
    show pkL s b n * 4 + (s (b + n)).toNat < 4 ^ (n + 1)
    rw [Nat.pow_succ]
    omega
theorem pkL_div {s : Int → Int} {b : Int} (h : pkR s b) : ∀ m n : Nat, n + m ≤ 24 → pkL s b (n + m) / 4 ^ m = pkL s b n := by
  intro m
  induction m with
  | zero => intro n _; rw [Nat.pow_zero, Nat.div_one]; rfl
  | succ m ih =>
    intro n hn
    have h2 := h (b + ((n + m : Nat) : Int)) (by omega) (by omega)
    show (pkL s b (n + m) * 4 + (s (b + ((n + m : Nat) : Int))).toNat) / 4 ^ (m + 1) = _
    rw [Nat.pow_succ, Nat.mul_comm (4 ^ m) 4, ← Nat.div_div_eq_div_mul, show (pkL s b (n + m) * 4 + (s (b + ((n + m : Nat) : Int))).toNat) / 4 = pkL s b (n + m) by omega]
    exact ih n (by omega)
theorem p42 (n : Nat) : 4 ^ n = 2 ^ (2 * n) := by rw [Nat.pow_mul]
theorem pkL_at {s : Int → Int} {b : Int} (h : pkR s b) {c : Nat} (hc : c < 24) : pkL s b 24 / 2 ^ (2 * (23 - c)) % 4 = (s (b + c)).toNat := by
  have h1 := pkL_div h (23 - c) (c + 1) (by omega)
  rw [show c + 1 + (23 - c) = 24 by omega, p42] at h1
  rw [h1]
  have h2 := h (b + c) (by omega) (by omega)
  show (pkL s b c * 4 + (s (b + c)).toNat) % 4 = _
  omega
theorem pkL_64 {s : Int → Int} {b : Int} (h : pkR s b) : pkL s b 24 < 2 ^ 64 := by
  have := pkL_lt h 24 (by decide)
  have h2 : 4 ^ 24 < 2 ^ 64 := by decide
  omega
theorem nI_m4 (m : Nat) : nI m &&& iI 3 = nI (m % 4) := by
  rw [show iI 3 = (3 : Int32) from rfl, pk_and (nI m) 2 (by decide)]
  congr 1
  show (BitVec.ofNat 32 m).toNat % 2 ^ 2 = _
  rw [BitVec.toNat_ofNat]
  omega
theorem nI_m2 (m : Nat) : nI m &&& iI 1 = nI (m % 2) := by
  rw [show iI 1 = (1 : Int32) from rfl, pk_and (nI m) 1 (by decide)]
  congr 1
  show (BitVec.ofNat 32 m).toNat % 2 ^ 1 = _
  rw [BitVec.toNat_ofNat]
  omega
theorem iI_tn {z : Int} (h : 0 ≤ z) : iI z = nI z.toNat := by rw [iI_nI, Int.toNat_of_nonneg h]
theorem pkl_shr {s : Int → Int} {b z : Int} (h : pkR s b) (hz : 0 ≤ z ∧ z < 64) : ((pk s b).toUInt64 >>> ((iI z).toInt64.toUInt64 &&& Int64.toUInt64 63)).toInt64.toInt32 = nI (pkL s b 24 / 2 ^ z.toNat) := by
  unfold pk
  rw [iI_tn hz.1, wb_shr (pkL_64 h) (by omega), lN_i]
theorem pk_get {s : Int → Int} {b c : Int} (h : pkR s b) (hc : 0 ≤ c ∧ c < 24) : ((pk s b).toUInt64 >>> ((iI (2 * (23 - c))).toInt64.toUInt64 &&& Int64.toUInt64 63)).toInt64.toInt32 &&& iI 3 = iI (s (b + c)) := by
  rw [pkl_shr h (by omega), nI_m4, show (2 * (23 - c)).toNat = 2 * (23 - c.toNat) by omega, pkL_at h (by omega), iI_nI, Int.toNat_of_nonneg hc.1, Int.toNat_of_nonneg (h (b + c) (by omega) (by omega)).1]
theorem pk_get1 {s : Int → Int} {b c : Int} (h : ∀ j, b ≤ j → j < b + 24 → 0 ≤ s j ∧ s j ≤ 1) (hc : 0 ≤ c ∧ c < 24) : ((pk s b).toUInt64 >>> ((iI (2 * (23 - c))).toInt64.toUInt64 &&& Int64.toUInt64 63)).toInt64.toInt32 &&& iI 1 = iI (s (b + c)) := by
  have h3 : pkR s b := fun j a d => by have := h j a d; omega
  have h4 := pkL_at h3 (c := c.toNat) (by omega)
  have h5 := h (b + c) (by omega) (by omega)
  rw [Int.toNat_of_nonneg hc.1] at h4
  rw [pkl_shr h3 (by omega), nI_m2, show (2 * (23 - c)).toNat = 2 * (23 - c.toNat) by omega, show pkL s b 24 / 2 ^ (2 * (23 - c.toNat)) % 2 = (s (b + c)).toNat by omega, iI_nI, Int.toNat_of_nonneg h5.1]
/-- two bits at p become h -/
theorem put2 {N p h w : Nat} (hh : h < 2 ^ w) (hp : p + w ≤ 64) (hN : N < 2 ^ 64) : (N &&& (2 ^ 64 - ((2 ^ w - 1) * 2 ^ p + 1))) ||| (h * 2 ^ p) = N / 2 ^ (p + w) * 2 ^ (p + w) + (h * 2 ^ p + N % 2 ^ p) := by
  have hL : N % 2 ^ p < 2 ^ p := Nat.mod_lt _ (Nat.two_pow_pos p)
  have hb : h * 2 ^ p + N % 2 ^ p < 2 ^ (p + w) := by
    rw [Nat.pow_add]
    have h1 : (h + 1) * 2 ^ p ≤ 2 ^ w * 2 ^ p := Nat.mul_le_mul_right _ (by omega)
    rw [Nat.add_mul, Nat.one_mul, Nat.mul_comm (2 ^ w)] at h1
    omega
  have hm : (2 ^ w - 1) * 2 ^ p < 2 ^ 64 := by
    have h1 : 2 ^ w * 2 ^ p ≤ 2 ^ 64 := by rw [← Nat.pow_add]; exact Nat.pow_le_pow_right (by decide) (by omega)
    have h2 : (2 ^ w - 1) * 2 ^ p < 2 ^ w * 2 ^ p := Nat.mul_lt_mul_of_pos_right (by have := Nat.two_pow_pos w; omega) (Nat.two_pow_pos p)
    omega
  apply Nat.eq_of_testBit_eq
  intro i
  rw [Nat.testBit_or, Nat.testBit_and, Nat.testBit_two_pow_sub_succ hm, Nat.testBit_mul_two_pow, Nat.testBit_mul_two_pow, Nat.testBit_two_pow_sub_one, Nat.mul_comm (N / 2 ^ (p + w)), Nat.testBit_two_pow_mul_add _ hb, Nat.mul_comm h, Nat.testBit_two_pow_mul_add _ hL, Nat.testBit_mod_two_pow, Nat.testBit_div_two_pow]
  by_cases h1 : i < p
  · have h0 : ¬ p ≤ i := by omega
    have h2 : i < p + w := by omega
    simp [h0, h1, h2]
    intro hq
    omega
  · by_cases h2 : i < p + w
    · have h0 : p ≤ i := by omega
      have h3 : i - p < w := by omega
      simp [h0, h1, h2, h3]
    · have h0 : p ≤ i := by omega
      have h3 : ¬ i - p < w := by omega
      have h4 : i - (p + w) + (p + w) = i := by omega
      have h5 : h.testBit (i - p) = false := Nat.testBit_lt_two_pow (Nat.lt_of_lt_of_le hh (Nat.pow_le_pow_right (by decide) (by omega)))
      by_cases h6 : i < 64
      · simp [h0, h2, h3, h5, h6, Nat.add_comm (p + w)]
        rw [show i - (p + w) + (p + w) = i by omega]
      · have h7 : N.testBit i = false := Nat.testBit_lt_two_pow (Nat.lt_of_lt_of_le hN (Nat.pow_le_pow_right (by decide) (by omega)))
        simp [h0, h2, h3, h5, h6, h7, Nat.add_comm (p + w)]
        rw [show i - (p + w) + (p + w) = i by omega, h7]
theorem lN_not {x : Nat} (h : x < 2 ^ 64) : lN x ^^^ (-1) = lN (2 ^ 64 - (x + 1)) := by
  apply wb_inj
  rw [Int64.toBitVec_xor, wb_tb, wb_tb]
  apply BitVec.eq_of_toNat_eq
  rw [show ((-1 : Int64).toBitVec) = BitVec.allOnes 64 from by decide, BitVec.xor_allOnes, BitVec.toNat_not, BitVec.toNat_ofNat, BitVec.toNat_ofNat, Nat.mod_eq_of_lt h, Nat.mod_eq_of_lt (by omega)]
  omega
theorem pkL_uz {s : Int → Int} {b : Int} {c v : Nat} (h : pkR s b) (hc : c < 24) : ∀ m : Nat, c + 1 + m ≤ 24 → pkL (uz s (b + c) v) b (c + 1 + m) = (pkL s b c * 4 + v) * 4 ^ m + pkL s b (c + 1 + m) % 4 ^ m := by
  have low : ∀ n : Nat, n ≤ c → pkL (uz s (b + c) v) b n = pkL s b n := by
    intro n
    induction n with
    | zero => intro _; rfl
    | succ n ih =>
      intro hn
      show pkL (uz s (b + c) v) b n * 4 + (uz s (b + c) v (b + n)).toNat = pkL s b n * 4 + _
      rw [ih (by omega), uz_n (by omega)]
  intro m
  induction m with
  | zero =>
    intro _
    show pkL (uz s (b + c) v) b c * 4 + (uz s (b + c) v (b + c)).toNat = _
    rw [low c (Nat.le_refl c), uz_s, Nat.pow_zero, Nat.mod_one, Nat.mul_one, Nat.add_zero, Int.toNat_natCast]
  | succ m ih =>
    intro hm
    have h2 := h (b + ((c + 1 + m : Nat) : Int)) (by omega) (by omega)
    show pkL (uz s (b + c) v) b (c + 1 + m) * 4 + (uz s (b + c) v (b + ((c + 1 + m : Nat) : Int))).toNat = _ * 4 ^ (m + 1) + (pkL s b (c + 1 + m) * 4 + (s (b + ((c + 1 + m : Nat) : Int))).toNat) % 4 ^ (m + 1)
    rw [ih (by omega), uz_n (by omega), Nat.pow_succ, Nat.mul_comm (4 ^ m) 4, Nat.mod_mul, show (pkL s b (c + 1 + m) * 4 + (s (b + ((c + 1 + m : Nat) : Int))).toNat) % 4 = (s (b + ((c + 1 + m : Nat) : Int))).toNat by omega, show (pkL s b (c + 1 + m) * 4 + (s (b + ((c + 1 + m : Nat) : Int))).toNat) / 4 = pkL s b (c + 1 + m) by omega, Nat.add_mul, Nat.mul_assoc, Nat.mul_comm (4 ^ m) 4]
    omega
theorem pkL_set {s : Int → Int} {b : Int} {c v : Nat} (h : pkR s b) (hc : c < 24) : pkL (uz s (b + c) v) b 24 = pkL s b 24 / 2 ^ (2 * (23 - c) + 2) * 2 ^ (2 * (23 - c) + 2) + (v * 2 ^ (2 * (23 - c)) + pkL s b 24 % 2 ^ (2 * (23 - c))) := by
  have h1 := pkL_uz (v := v) h hc (23 - c) (by omega)
  rw [show c + 1 + (23 - c) = 24 by omega] at h1
  have h2 := pkL_div h (24 - c) c (by omega)
  rw [show c + (24 - c) = 24 by omega, p42, show 2 * (24 - c) = 2 * (23 - c) + 2 by omega] at h2
  rw [h1, h2, p42, Nat.pow_add, Nat.add_mul, Nat.mul_assoc, Nat.mul_comm 4]
  show _ + _ + _ = _ * (_ * 4) + _
  omega
theorem pk_set {s : Int → Int} {b c v : Int} (h : pkR s b) (hc : 0 ≤ c ∧ c < 24) (hv : 0 ≤ v ∧ v ≤ 3) : (pk s b &&& (((3 : Int64) <<< ((iI (2 * (23 - c))).toInt64 &&& 63)) ^^^ (-1))) ||| ((iI v).toInt64 <<< ((iI (2 * (23 - c))).toInt64 &&& 63)) = pk (uz s (b + c) v) b := by
  unfold pk
  have hp : iI (2 * (23 - c)) = nI (2 * (23 - c.toNat)) := by rw [iI_tn (by omega), show (2 * (23 - c)).toNat = 2 * (23 - c.toNat) by omega]
  have h64 := pkL_64 h
  have e := pkL_set (v := v.toNat) h (c := c.toNat) (by omega)
  rw [Int.toNat_of_nonneg hc.1, Int.toNat_of_nonneg hv.1] at e
  have hb : 3 * 2 ^ (2 * (23 - c.toNat)) < 2 ^ 64 := by
    have : 2 ^ (2 * (23 - c.toNat)) ≤ 2 ^ 46 := Nat.pow_le_pow_right (by decide) (by omega)
    have h9 : 2 ^ 46 * 4 < 2 ^ 64 := by decide
    omega
  have hb2 : v.toNat * 2 ^ (2 * (23 - c.toNat)) < 2 ^ 64 := by
    have : v.toNat * 2 ^ (2 * (23 - c.toNat)) ≤ 3 * 2 ^ (2 * (23 - c.toNat)) := Nat.mul_le_mul_right _ (by omega)
    omega
  have e1 : (3 : Int64) <<< ((nI (2 * (23 - c.toNat))).toInt64 &&& 63) = lN (3 * 2 ^ (2 * (23 - c.toNat))) := wb_shl 3 (by omega)
  rw [hp, iI_tn hv.1, nI_l (n := v.toNat) (by omega), e1, wb_shl v.toNat (by omega), lN_not hb, wb_and h64 (by omega), wb_or (Nat.and_lt_two_pow _ (by omega)) hb2, e, ← put2 (w := 2) (h := v.toNat) (p := 2 * (23 - c.toNat)) (by omega) (by omega) h64]
theorem pk_set1 {s : Int → Int} {b c v : Int} (h : ∀ j, b ≤ j → j < b + 24 → 0 ≤ s j ∧ s j ≤ 1) (hc : 0 ≤ c ∧ c < 24) (hv : 0 ≤ v ∧ v ≤ 1) : (pk s b &&& (((1 : Int64) <<< ((iI (2 * (23 - c))).toInt64 &&& 63)) ^^^ (-1))) ||| ((iI v).toInt64 <<< ((iI (2 * (23 - c))).toInt64 &&& 63)) = pk (uz s (b + c) v) b := by
  unfold pk
  have h3 : pkR s b := fun j a d => by have := h j a d; omega
  have hp : iI (2 * (23 - c)) = nI (2 * (23 - c.toNat)) := by rw [iI_tn (by omega), show (2 * (23 - c)).toNat = 2 * (23 - c.toNat) by omega]
  have h64 := pkL_64 h3
  have e := pkL_set (v := v.toNat) h3 (c := c.toNat) (by omega)
  rw [Int.toNat_of_nonneg hc.1, Int.toNat_of_nonneg hv.1] at e
  have hg := pkL_at h3 (c := c.toNat) (by omega)
  have hd := h (b + c.toNat) (by omega) (by omega)
  have hb : 1 * 2 ^ (2 * (23 - c.toNat)) < 2 ^ 64 := by
    have : 2 ^ (2 * (23 - c.toNat)) ≤ 2 ^ 46 := Nat.pow_le_pow_right (by decide) (by omega)
    have h9 : 2 ^ 46 * 4 < 2 ^ 64 := by decide
    omega
  have hb2 : v.toNat * 2 ^ (2 * (23 - c.toNat)) < 2 ^ 64 := by
    have : v.toNat * 2 ^ (2 * (23 - c.toNat)) ≤ 1 * 2 ^ (2 * (23 - c.toNat)) := Nat.mul_le_mul_right _ (by omega)
    omega
  have h5 := put2 (w := 1) (h := v.toNat) (p := 2 * (23 - c.toNat)) (N := pkL s b 24) (by omega) (by omega) h64
  have h6 : pkL s b 24 / 2 ^ (2 * (23 - c.toNat) + 1) * 2 ^ (2 * (23 - c.toNat) + 1) = pkL s b 24 / 2 ^ (2 * (23 - c.toNat) + 2) * 2 ^ (2 * (23 - c.toNat) + 2) := by
    rw [Nat.pow_add, Nat.pow_add, ← Nat.div_div_eq_div_mul, ← Nat.div_div_eq_div_mul, show (2 : Nat) ^ 1 = 2 from rfl, show (2 : Nat) ^ 2 = 4 from rfl]
    generalize pkL s b 24 / 2 ^ (2 * (23 - c.toNat)) = q at *
    have h7 : q / 2 = 2 * (q / 4) := by omega
    rw [h7, Nat.mul_comm 2, Nat.mul_assoc, Nat.mul_comm 2 (_ * 2), Nat.mul_assoc]
  have e1 : (1 : Int64) <<< ((nI (2 * (23 - c.toNat))).toInt64 &&& 63) = lN (1 * 2 ^ (2 * (23 - c.toNat))) := wb_shl 1 (by omega)
  rw [hp, iI_tn hv.1, nI_l (n := v.toNat) (by omega), e1, wb_shl v.toNat (by omega), lN_not hb, wb_and h64 (by omega), wb_or (Nat.and_lt_two_pow _ (by omega)) hb2, e, ← h6, ← h5]
theorem pkL_congr {s t : Int → Int} {b : Int} : ∀ n : Nat, (∀ j, b ≤ j → j < b + n → s j = t j) → pkL s b n = pkL t b n := by
  intro n
  induction n with
  | zero => intro _; rfl
  | succ n ih =>
    intro h
    show pkL s b n * 4 + (s (b + n)).toNat = pkL t b n * 4 + (t (b + n)).toNat
    rw [ih (fun j a d => h j a (by omega)), h (b + n) (by omega) (by omega)]
theorem pk_congr {s t : Int → Int} {b : Int} (h : ∀ j, b ≤ j → j < b + 24 → s j = t j) : pk s b = pk t b := by
  unfold pk
  rw [pkL_congr 24 h]
theorem pkL_inj {s t : Int → Int} {b : Int} (hs : pkR s b) (ht : pkR t b) (h : pk s b = pk t b) : ∀ j, b ≤ j → j < b + 24 → s j = t j := by
  have e : pkL s b 24 = pkL t b 24 := by
    have h1 := congrArg Int64.toBitVec h
    unfold pk at h1
    have h2 := congrArg BitVec.toNat h1
    rwa [wb_tn (pkL_64 hs), wb_tn (pkL_64 ht)] at h2
  intro j a d
  have h1 := pkL_at hs (c := (j - b).toNat) (by omega)
  have h2 := pkL_at ht (c := (j - b).toNat) (by omega)
  rw [e, h2] at h1
  rw [show b + ((j - b).toNat : Int) = j by omega] at h1
  have h3 := hs j a d
  have h4 := ht j a d
  omega
