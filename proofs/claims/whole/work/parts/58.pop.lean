/-! how many bits are set: the JDK's way, byte by byte -/
def b1 (m n : Nat) : Nat := n - (n / 2 &&& m)
def b2 (m n : Nat) : Nat := (n &&& m) + (n / 4 &&& m)
def b3 (m n : Nat) : Nat := (n + n / 16) &&& m
def mkB (c : Nat) : Nat → Nat
  | 0 => 0
  | k + 1 => c + 256 * mkB c k
def pop8 (a : Nat) : Nat := a % 2 + a / 2 % 2 + a / 4 % 2 + a / 8 % 2 + a / 16 % 2 + a / 32 % 2 + a / 64 % 2 + a / 128 % 2
def popB : Nat → Nat → Nat
  | 0, _ => 0
  | k + 1, n => pop8 (n % 256) + 256 * popB k (n / 256)
theorem land_split (x y : Nat) : x &&& y = (x % 256 &&& y % 256) + 256 * (x / 256 &&& y / 256) := by
  have h1 : (x &&& y) % 2 ^ 8 = x % 2 ^ 8 &&& y % 2 ^ 8 := Nat.and_mod_two_pow
  have h2 : (x &&& y) / 2 ^ 8 = x / 2 ^ 8 &&& y / 2 ^ 8 := Nat.and_div_two_pow
  have h3 := Nat.mod_add_div (x &&& y) (2 ^ 8)
  rw [h1, h2] at h3
  exact h3.symm
theorem d1_dec : ∀ a : Nat, a < 256 → ∀ r : Nat, r < 2 → (a / 2 + 128 * r) &&& 85 = a / 2 &&& 85 ∧ (a / 2 &&& 85) ≤ a := by decide +kernel
theorem d2_dec : ∀ a : Nat, a < 256 → ∀ r : Nat, r < 4 → (a / 4 + 64 * r) &&& 51 = a / 4 &&& 51 ∧ (a &&& 51) + (a / 4 &&& 51) < 256 := by decide +kernel
theorem d3_dec : ∀ a : Nat, a < 256 → ∀ r : Nat, r < 5 → b2 51 (b1 85 a) + b2 51 (b1 85 a) / 16 + 16 * r < 256 ∧ (b2 51 (b1 85 a) + b2 51 (b1 85 a) / 16 + 16 * r) &&& 15 = pop8 a ∧ b2 51 (b1 85 a) % 16 ≤ 4 ∧ b2 51 (b1 85 a) < 256 ∧ b1 85 a < 256 := by decide +kernel
theorem b1_s {a q : Nat} (k : Nat) (ha : a < 256) : b1 (mkB 85 (k + 1)) (a + 256 * q) = b1 85 a + 256 * b1 (mkB 85 k) q := by
  have h := d1_dec a ha (q % 2) (Nat.mod_lt _ (by decide))
  have h2 : q / 2 &&& mkB 85 k ≤ q := Nat.le_trans Nat.and_le_left (Nat.div_le_self _ _)
  unfold b1
  have e : (a + 256 * q) / 2 &&& mkB 85 (k + 1) = (a / 2 &&& 85) + 256 * (q / 2 &&& mkB 85 k) := by
    rw [land_split]
    show ((a + 256 * q) / 2 % 256 &&& (85 + 256 * mkB 85 k) % 256) + 256 * ((a + 256 * q) / 2 / 256 &&& (85 + 256 * mkB 85 k) / 256) = _
    rw [show (a + 256 * q) / 2 % 256 = a / 2 + 128 * (q % 2) by omega, show (85 + 256 * mkB 85 k) % 256 = 85 by omega, show (a + 256 * q) / 2 / 256 = q / 2 by omega, show (85 + 256 * mkB 85 k) / 256 = mkB 85 k by omega, h.1]
  rw [e]
  omega
theorem b2_s {a q : Nat} (k : Nat) (ha : a < 256) : b2 (mkB 51 (k + 1)) (a + 256 * q) = b2 51 a + 256 * b2 (mkB 51 k) q := by
  have h := d2_dec a ha (q % 4) (Nat.mod_lt _ (by decide))
  unfold b2
  have e : (a + 256 * q) / 4 &&& mkB 51 (k + 1) = (a / 4 &&& 51) + 256 * (q / 4 &&& mkB 51 k) := by
    rw [land_split]
    show ((a + 256 * q) / 4 % 256 &&& (51 + 256 * mkB 51 k) % 256) + 256 * ((a + 256 * q) / 4 / 256 &&& (51 + 256 * mkB 51 k) / 256) = _
    rw [show (a + 256 * q) / 4 % 256 = a / 4 + 64 * (q % 4) by omega, show (51 + 256 * mkB 51 k) % 256 = 51 by omega, show (a + 256 * q) / 4 / 256 = q / 4 by omega, show (51 + 256 * mkB 51 k) / 256 = mkB 51 k by omega, h.1]
  have e2 : (a + 256 * q) &&& mkB 51 (k + 1) = (a &&& 51) + 256 * (q &&& mkB 51 k) := by
    rw [land_split]
    show ((a + 256 * q) % 256 &&& (51 + 256 * mkB 51 k) % 256) + 256 * ((a + 256 * q) / 256 &&& (51 + 256 * mkB 51 k) / 256) = _
    rw [show (a + 256 * q) % 256 = a by omega, show (51 + 256 * mkB 51 k) % 256 = 51 by omega, show (a + 256 * q) / 256 = q by omega, show (51 + 256 * mkB 51 k) / 256 = mkB 51 k by omega]
  rw [e, e2]
  omega
theorem b3_s {a q : Nat} (k : Nat) (h : a + a / 16 + 16 * (q % 16) < 256) : b3 (mkB 15 (k + 1)) (a + 256 * q) = ((a + a / 16 + 16 * (q % 16)) &&& 15) + 256 * b3 (mkB 15 k) q := by
  unfold b3
  rw [land_split]
  show (((a + 256 * q) + (a + 256 * q) / 16) % 256 &&& (15 + 256 * mkB 15 k) % 256) + 256 * (((a + 256 * q) + (a + 256 * q) / 16) / 256 &&& (15 + 256 * mkB 15 k) / 256) = _
  rw [show ((a + 256 * q) + (a + 256 * q) / 16) % 256 = a + a / 16 + 16 * (q % 16) by omega, show (15 + 256 * mkB 15 k) % 256 = 15 by omega, show ((a + 256 * q) + (a + 256 * q) / 16) / 256 = q + q / 16 by omega, show (15 + 256 * mkB 15 k) / 256 = mkB 15 k by omega]
theorem b_all : ∀ (k n : Nat), n < 256 ^ k → b3 (mkB 15 k) (b2 (mkB 51 k) (b1 (mkB 85 k) n)) = popB k n ∧ b2 (mkB 51 k) (b1 (mkB 85 k) n) % 16 ≤ 4 := by
  intro k
  induction k with
  | zero =>
    intro n hn
    have : n = 0 := by rw [Nat.pow_zero] at hn; omega
    subst this
    decide
  | succ k ih =>
    intro n hn
    have hq : n / 256 < 256 ^ k := by rw [Nat.pow_succ] at hn; omega
    have h1 := ih (n / 256) hq
    have ha : n % 256 < 256 := Nat.mod_lt _ (by decide)
    have en : n = n % 256 + 256 * (n / 256) := by omega
    have d := d3_dec (n % 256) ha (b2 (mkB 51 k) (b1 (mkB 85 k) (n / 256)) % 16) (by omega)
    have e1 : b2 (mkB 51 (k + 1)) (b1 (mkB 85 (k + 1)) n) = b2 51 (b1 85 (n % 256)) + 256 * b2 (mkB 51 k) (b1 (mkB 85 k) (n / 256)) := by
      rw [show b1 (mkB 85 (k + 1)) n = b1 85 (n % 256) + 256 * b1 (mkB 85 k) (n / 256) by
        have := b1_s (a := n % 256) (q := n / 256) k ha
        rwa [← en] at this, b2_s k d.2.2.2.2]
    refine ⟨?_, by rw [e1]; omega⟩
    rw [e1, b3_s k d.1, d.2.1, h1.1]
    rfl
theorem pop8_le : ∀ a : Nat, a < 256 → pop8 a ≤ 8 := by decide +kernel
/-- bits of a number below 256 ^ k -/
def popN : Nat → Nat → Nat
  | 0, _ => 0
  | k + 1, n => pop8 (n % 256) + popN k (n / 256)
theorem pop_32 {n : Nat} (h : n < 2 ^ 32) (x : Nat) (hx : x = b3 (mkB 15 4) (b2 (mkB 51 4) (b1 (mkB 85 4) n))) : (x + x / 256 + (x + x / 256) / 65536) % 64 = popN 4 n := by
  have e := (b_all 4 n h).1
  rw [← hx] at e
  have p0 := pop8_le (n % 256) (Nat.mod_lt _ (by decide))
  have p1 := pop8_le (n / 256 % 256) (Nat.mod_lt _ (by decide))
  have p2 := pop8_le (n / 256 / 256 % 256) (Nat.mod_lt _ (by decide))
  have p3 := pop8_le (n / 256 / 256 / 256 % 256) (Nat.mod_lt _ (by decide))
  unfold popN popN popN popN popN
  unfold popB popB popB popB popB at e
  generalize pop8 (n % 256) = q0 at *
  generalize pop8 (n / 256 % 256) = q1 at *
  generalize pop8 (n / 256 / 256 % 256) = q2 at *
  generalize pop8 (n / 256 / 256 / 256 % 256) = q3 at *
  clear hx h
  have e1 : x / 256 = q1 + 256 * (q2 + 256 * q3) := by omega
  rw [e1]
  have e2 : (x + (q1 + 256 * (q2 + 256 * q3))) / 65536 = (q2 + q3) + 256 * q3 := by omega
  rw [e2]
  omega
theorem pop_64 {n : Nat} (h : n < 2 ^ 64) (x : Nat) (hx : x = b3 (mkB 15 8) (b2 (mkB 51 8) (b1 (mkB 85 8) n))) (y z w : Nat) (hy : y = x + x / 256) (hz : z = y + y / 65536) (hw : w = z + z / 4294967296) : w % 128 = popN 8 n := by
  have e := (b_all 8 n h).1
  rw [← hx] at e
  have p0 := pop8_le (n % 256) (Nat.mod_lt _ (by decide))
  have p1 := pop8_le (n / 256 % 256) (Nat.mod_lt _ (by decide))
  have p2 := pop8_le (n / 256 / 256 % 256) (Nat.mod_lt _ (by decide))
  have p3 := pop8_le (n / 256 / 256 / 256 % 256) (Nat.mod_lt _ (by decide))
  have p4 := pop8_le (n / 256 / 256 / 256 / 256 % 256) (Nat.mod_lt _ (by decide))
  have p5 := pop8_le (n / 256 / 256 / 256 / 256 / 256 % 256) (Nat.mod_lt _ (by decide))
  have p6 := pop8_le (n / 256 / 256 / 256 / 256 / 256 / 256 % 256) (Nat.mod_lt _ (by decide))
  have p7 := pop8_le (n / 256 / 256 / 256 / 256 / 256 / 256 / 256 % 256) (Nat.mod_lt _ (by decide))
  unfold popN popN popN popN popN popN popN popN popN
  unfold popB popB popB popB popB popB popB popB popB at e
  generalize pop8 (n % 256) = q0 at *
  generalize pop8 (n / 256 % 256) = q1 at *
  generalize pop8 (n / 256 / 256 % 256) = q2 at *
  generalize pop8 (n / 256 / 256 / 256 % 256) = q3 at *
  generalize pop8 (n / 256 / 256 / 256 / 256 % 256) = q4 at *
  generalize pop8 (n / 256 / 256 / 256 / 256 / 256 % 256) = q5 at *
  generalize pop8 (n / 256 / 256 / 256 / 256 / 256 / 256 % 256) = q6 at *
  generalize pop8 (n / 256 / 256 / 256 / 256 / 256 / 256 / 256 % 256) = q7 at *
  clear hx h
  have e1 : x / 256 = q1 + 256 * (q2 + 256 * (q3 + 256 * (q4 + 256 * (q5 + 256 * (q6 + 256 * q7))))) := by omega
  rw [e1] at hy
  have e2 : y / 65536 = (q2 + q3) + 256 * ((q3 + q4) + 256 * ((q4 + q5) + 256 * ((q5 + q6) + 256 * ((q6 + q7) + 256 * q7)))) := by omega
  rw [e2] at hz
  have e3 : z / 4294967296 = (q4 + q5 + q6 + q7) + 256 * (q5 + q6 + q7 + q7 * 0 + 0) + 65536 * (q6 + q7) + 16777216 * q7 := by omega
  omega
