/-! how a row is changed -/
theorem p4I (n : Nat) : (4 : Int) ^ n = ((4 ^ n : Nat) : Int) := by rw [Int.natCast_pow]; rfl
theorem gDg_nat (m : Nat) (i : Int) : gDg (m : Int) i = ((m / 4 ^ i.toNat % 4 : Nat) : Int) := by
  unfold gDg
  rw [p4I]
  rfl
theorem pkL_dg {s : Int → Int} {b : Int} (h : pkR s b) {m i : Nat} (hm : m ≤ 24) (hi : i < m) : pkL s b m / 4 ^ i % 4 = (s (b + ((m - 1 - i : Nat) : Int))).toNat := by
  have h1 := pkL_div h i (m - i) (by omega)
  rw [show m - i + i = m by omega] at h1
  rw [h1, show m - i = (m - 1 - i) + 1 by omega]
  have h2 := h (b + ((m - 1 - i : Nat) : Int)) (by omega) (by omega)
  show (pkL s b (m - 1 - i) * 4 + (s (b + ((m - 1 - i : Nat) : Int))).toNat) % 4 = _
  omega
theorem gHr_pk {s : Int → Int} {b y : Int} (h : pkR s b) (hm : 1 ≤ s 0 * (y + 1) ∧ s 0 * (y + 1) ≤ 24) : gHr s b y = ((pkL s b (s 0 * (y + 1)).toNat % 4 ^ (s 0).toNat : Nat) : Int) := by
  have h1 := pkL_div h (24 - (s 0 * (y + 1)).toNat) (s 0 * (y + 1)).toNat (by omega)
  rw [show (s 0 * (y + 1)).toNat + (24 - (s 0 * (y + 1)).toNat) = 24 by omega, p42] at h1
  unfold gHr mPow
  rw [show (2 * (23 - (s 0 * (y + 1) - 1))).toNat = 2 * (24 - (s 0 * (y + 1)).toNat) by omega, h1, p4I, Int.toNat_natCast]
theorem mod_dg (N : Nat) {w i : Nat} (h : i < w) : N % 4 ^ w / 4 ^ i % 4 = N / 4 ^ i % 4 := by
  have e : 4 ^ w = 4 ^ i * 4 ^ (w - i) := by rw [← Nat.pow_add]; congr 1; omega
  rw [e, Nat.mod_mul_right_div_self]
  refine Nat.mod_mod_of_dvd _ ?_
  rw [show w - i = (w - i - 1) + 1 by omega, Nat.pow_succ]
  exact Nat.dvd_mul_left _ _
theorem gHr_rg {s : Int → Int} {b y : Int} (h : pkR s b) (hm : 1 ≤ s 0 * (y + 1) ∧ s 0 * (y + 1) ≤ 24) : 0 ≤ gHr s b y ∧ gHr s b y < mPow (s 0) := by
  rw [gHr_pk h hm]
  have := Nat.mod_lt (pkL s b (s 0 * (y + 1)).toNat) (Nat.pow_pos (n := (s 0).toNat) (show 0 < 4 by decide))
  unfold mPow
  rw [p4I]
  omega
theorem gHr_dg {s : Int → Int} {b y i : Int} (h : pkR s b) (hm : 1 ≤ s 0 * (y + 1) ∧ s 0 * (y + 1) ≤ 24) (hy : 0 ≤ y) (hi : 0 ≤ i ∧ i < s 0) : gDg (gHr s b y) i = s (b + s 0 * y + (s 0 - 1 - i)) := by
  have hx : s 0 * (y + 1) = s 0 * y + s 0 := by rw [Int.mul_add, Int.mul_one]
  have hp : 0 ≤ s 0 * y := Int.mul_nonneg (by omega) hy
  rw [gHr_pk h hm, gDg_nat, mod_dg _ (by omega), pkL_dg h (by omega) (by omega)]
  have e : b + (((s 0 * (y + 1)).toNat - 1 - i.toNat : Nat) : Int) = b + s 0 * y + (s 0 - 1 - i) := by omega
  rw [e]
  have h2 := h (b + s 0 * y + (s 0 - 1 - i)) (by omega) (by omega)
  exact Int.toNat_of_nonneg h2.1
theorem gDg_hi {r w i : Int} (hw : 0 ≤ w) (hr : 0 ≤ r ∧ r < mPow w) (hi : w ≤ i) : gDg r i = 0 := by
  obtain ⟨m, rfl⟩ := Int.eq_ofNat_of_zero_le hr.1
  have h1 : m < 4 ^ w.toNat := by
    have := hr.2
    unfold mPow at this
    rw [p4I] at this
    omega
  have h2 : 4 ^ w.toNat ≤ 4 ^ i.toNat := Nat.pow_le_pow_right (by decide) (by omega)
  rw [gDg_nat, Nat.div_eq_of_lt (by omega)]
  rfl
theorem nI_xor (a b : Nat) : nI a ^^^ nI b = nI (a ^^^ b) := by
  apply Int32.toBitVec_inj.mp
  rw [Int32.toBitVec_xor]
  show BitVec.ofNat 32 a ^^^ BitVec.ofNat 32 b = BitVec.ofNat 32 (a ^^^ b)
  exact BitVec.ofNat_xor.symm
def gXr (a b : Int) : Int := ((a.toNat ^^^ b.toNat : Nat) : Int)
theorem gXr_eq {a b : Int} (ha : 0 ≤ a) (hb : 0 ≤ b) : iI a ^^^ iI b = iI (gXr a b) := by
  rw [iI_tn ha, iI_tn hb, nI_xor, iI_nI]
  rfl
theorem gXr_rg {a b : Int} (ha : 0 ≤ a ∧ a < 256) (hb : 0 ≤ b ∧ b < 256) : 0 ≤ gXr a b ∧ gXr a b < 256 := by
  unfold gXr
  have : a.toNat ^^^ b.toNat < 2 ^ 8 := Nat.xor_lt_two_pow (by omega) (by omega)
  omega
theorem xor4 : ∀ a : Nat, a < 4 → ∀ b : Nat, b < 4 → (a ^^^ b = 0 ↔ a = b) := by decide
theorem gXr_dg {a b i : Int} (ha : 0 ≤ a) (hb : 0 ≤ b) : gDg (gXr a b) i = 0 ↔ gDg a i = gDg b i := by
  obtain ⟨a, rfl⟩ := Int.eq_ofNat_of_zero_le ha
  obtain ⟨b, rfl⟩ := Int.eq_ofNat_of_zero_le hb
  unfold gXr
  rw [gDg_nat, gDg_nat, gDg_nat, Int.toNat_natCast, Int.toNat_natCast, p42, Nat.xor_div_two_pow]
  have e : (a / 2 ^ (2 * i.toNat) ^^^ b / 2 ^ (2 * i.toNat)) % 4 = a / 2 ^ (2 * i.toNat) % 4 ^^^ b / 2 ^ (2 * i.toNat) % 4 := Nat.xor_mod_two_pow (n := 2)
  rw [e]
  have h := xor4 (a / 2 ^ (2 * i.toNat) % 4) (Nat.mod_lt _ (by decide)) (b / 2 ^ (2 * i.toNat) % 4) (Nat.mod_lt _ (by decide))
  omega
def m4 (a b c d : Bool) : Int := bz a + 4 * bz b + 16 * bz c + 64 * bz d
def gU (u : Int) : Int := m4 (!(decide (gDg u 0 = 0))) (!(decide (gDg u 1 = 0))) (!(decide (gDg u 2 = 0))) (!(decide (gDg u 3 = 0)))
theorem gU_dec : ∀ u : Nat, u < 256 → (iI (u : Int) ||| (iI (u : Int) >>> (iI 1 &&& 31))) &&& iI 85 = iI (gU (u : Int)) := by decide +kernel
theorem gU_eq {u : Int} (h : 0 ≤ u ∧ u < 256) : (iI u ||| (iI u >>> (iI 1 &&& 31))) &&& iI 85 = iI (gU u) := by
  have := gU_dec u.toNat (by omega)
  rwa [Int.toNat_of_nonneg h.1] at this
theorem m4_rg (a b c d : Bool) : 0 ≤ m4 a b c d ∧ m4 a b c d < 256 := by cases a <;> cases b <;> cases c <;> cases d <;> decide
theorem m4_and (a b c d e f g h : Bool) : iI (m4 a b c d) &&& iI (m4 e f g h) = 0 ↔ ((a && e) || (b && f) || (c && g) || (d && h)) = false := by
  cases a <;> cases b <;> cases c <;> cases d <;> cases e <;> cases f <;> cases g <;> cases h <;> decide
theorem m4_pop (a b c d : Bool) : ((popN 4 (m4 a b c d).toNat : Nat) : Int) = bz a + bz b + bz c + bz d := by
  cases a <;> cases b <;> cases c <;> cases d <;> decide
theorem dg4 {N : Int} (h : 0 ≤ N ∧ N < 256) : N = gDg N 0 + 4 * gDg N 1 + 16 * gDg N 2 + 64 * gDg N 3 := by
  show N = N / 1 % 4 + 4 * (N / 4 % 4) + 16 * (N / 16 % 4) + 64 * (N / 64 % 4)
  omega
theorem m4_of {N : Int} (h : 0 ≤ N ∧ N < 256) (h1 : ∀ i, 0 ≤ i → i < 4 → gDg N i ≤ 1) : N = m4 (decide (gDg N 0 = 1)) (decide (gDg N 1 = 1)) (decide (gDg N 2 = 1)) (decide (gDg N 3 = 1)) := by
  have e := dg4 h
  have key : ∀ i, 0 ≤ i → i < 4 → bz (decide (gDg N i = 1)) = gDg N i := by
    intro i a b
    have h2 := h1 i a b
    have h3 := gDg_rg N i
    by_cases h4 : gDg N i = 1
    · rw [decide_eq_true h4, h4]; rfl
    · rw [decide_eq_false h4, show gDg N i = 0 by omega]; rfl
  unfold m4
  rw [key 0 (by decide) (by decide), key 1 (by decide) (by decide), key 2 (by decide) (by decide), key 3 (by decide) (by decide)]
  exact e
/-- the figures in which a row is unlike row y -/
def gUn (s : Int → Int) (y row : Int) : Int := gXr row (gHr s 3 y)
section
variable {s : Int → Int} {y row : Int}
theorem gUn_rg (hh : pkR s 3) (hw : 1 ≤ s 0 ∧ s 0 ≤ 4) (hm : 1 ≤ s 0 * (y + 1) ∧ s 0 * (y + 1) ≤ 24) (hr : 0 ≤ row ∧ row < mPow (s 0)) : 0 ≤ gUn s y row ∧ gUn s y row < 256 := by
  have h1 := gHr_rg hh hm
  have h2 := mPow_rg hw
  exact gXr_rg (by omega) (by omega)
theorem gUn_dg (hh : pkR s 3) (hw : 1 ≤ s 0 ∧ s 0 ≤ 4) (hm : 1 ≤ s 0 * (y + 1) ∧ s 0 * (y + 1) ≤ 24) (hy : 0 ≤ y) (hr : 0 ≤ row ∧ row < mPow (s 0)) {i : Int} (hi : 0 ≤ i) : gDg (gUn s y row) i = 0 ↔ (s 0 ≤ i ∨ mFig (s 0) row (s 0 - 1 - i) = s (3 + s 0 * y + (s 0 - 1 - i))) := by
  have h1 := gHr_rg hh hm
  unfold gUn
  rw [gXr_dg hr.1 h1.1, mFig_dg, show s 0 - 1 - (s 0 - 1 - i) = i by omega]
  by_cases h : s 0 ≤ i
  · rw [gDg_hi (by omega) hr h, gDg_hi (by omega) h1 h]
    exact ⟨fun _ => Or.inl h, fun _ => rfl⟩
  · rw [gHr_dg hh hm hy ⟨hi, by omega⟩]
    exact ⟨fun q => Or.inr q, fun q => q.resolve_left h⟩
theorem gUn_fr (hh : pkR s 3) (hf : ∀ j, 27 ≤ j → j < 27 + 24 → 0 ≤ s j ∧ s j ≤ 1) (hw : 1 ≤ s 0 ∧ s 0 ≤ 4) (hm : 1 ≤ s 0 * (y + 1) ∧ s 0 * (y + 1) ≤ 24) (hy : 0 ≤ y) (hr : 0 ≤ row ∧ row < mPow (s 0)) : iI (gU (gUn s y row)) &&& iI (gHr s 27 y) = 0 ↔ mFr s y row = true := by
  have hf3 : pkR s 27 := fun j a b => by have := hf j a b; omega
  have h1 := gHr_rg hf3 hm
  have h2 := mPow_rg hw
  have hx : s 0 * (y + 1) = s 0 * y + s 0 := by rw [Int.mul_add, Int.mul_one]
  have hp : 0 ≤ s 0 * y := Int.mul_nonneg (by omega) hy
  have hd : ∀ i, 0 ≤ i → i < 4 → gDg (gHr s 27 y) i ≤ 1 := by
    intro i a b
    by_cases h : s 0 ≤ i
    · rw [gDg_hi (by omega) h1 h]; decide
    · rw [gHr_dg hf3 hm hy ⟨a, by omega⟩]
      exact (hf _ (by omega) (by omega)).2
  have e := m4_of (N := gHr s 27 y) (by omega) hd
  have key : ∀ i, 0 ≤ i → i < 4 → ((!(decide (gDg (gUn s y row) i = 0)) && decide (gDg (gHr s 27 y) i = 1)) = false ↔ (i < s 0 → mFrX s y row (s 0 - 1 - i) = true)) := by
    intro i a b
    have h3 := gUn_dg hh hw hm hy hr a
    by_cases h : s 0 ≤ i
    · rw [decide_eq_true (h3.mpr (Or.inl h))]
      exact ⟨fun _ q => absurd q (by omega), fun _ => rfl⟩
    · have h4 := gHr_dg hf3 hm hy ⟨a, show i < s 0 by omega⟩
      have h5 := hf (27 + s 0 * y + (s 0 - 1 - i)) (by omega) (by omega)
      unfold mFrX
      rw [h4]
      by_cases h6 : mFig (s 0) row (s 0 - 1 - i) = s (3 + s 0 * y + (s 0 - 1 - i))
      · rw [decide_eq_true (h3.mpr (Or.inr h6)), decide_eq_true h6]
        simp
      · rw [decide_eq_false (fun q => (h3.mp q).elim h h6), decide_eq_false h6]
        by_cases h7 : s (27 + s 0 * y + (s 0 - 1 - i)) = 1
        · rw [decide_eq_true h7, decide_eq_false (show ¬ s (27 + s 0 * y + (s 0 - 1 - i)) = 0 by omega)]
          simp
          omega
        · rw [decide_eq_false h7, decide_eq_true (show s (27 + s 0 * y + (s 0 - 1 - i)) = 0 by omega)]
          simp
  rw [e]
  unfold gU
  rw [m4_and]
  rw [Bool.or_eq_false_iff, Bool.or_eq_false_iff, Bool.or_eq_false_iff, key 0 (by decide) (by decide), key 1 (by decide) (by decide), key 2 (by decide) (by decide), key 3 (by decide) (by decide)]
  unfold mFr
  rw [alI_iff]
  constructor
  · rintro ⟨⟨⟨k0, k1⟩, k2⟩, k3⟩ j a b
    rcases (show j = s 0 - 1 - 0 ∨ j = s 0 - 1 - 1 ∨ j = s 0 - 1 - 2 ∨ j = s 0 - 1 - 3 by omega) with q | q | q | q
    · rw [q]; exact k0 (by omega)
    · rw [q]; exact k1 (by omega)
    · rw [q]; exact k2 (by omega)
    · rw [q]; exact k3 (by omega)
  · intro h
    exact ⟨⟨⟨fun q => h _ (by omega) (by omega), fun q => h _ (by omega) (by omega)⟩, fun q => h _ (by omega) (by omega)⟩, fun q => h _ (by omega) (by omega)⟩
theorem gUn_chg (hh : pkR s 3) (hw : 1 ≤ s 0 ∧ s 0 ≤ 4) (hm : 1 ≤ s 0 * (y + 1) ∧ s 0 * (y + 1) ≤ 24) (hy : 0 ≤ y) (hr : 0 ≤ row ∧ row < mPow (s 0)) : ((popN 4 (gU (gUn s y row)).toNat : Nat) : Int) = mChg s y row := by
  unfold gU
  rw [m4_pop]
  have key : ∀ i, 0 ≤ i → bz (!(decide (gDg (gUn s y row) i = 0))) = if i < s 0 then (if mFig (s 0) row (s 0 - 1 - i) = s (3 + s 0 * y + (s 0 - 1 - i)) then 0 else 1) else 0 := by
    intro i a
    have h3 := gUn_dg hh hw hm hy hr a
    by_cases h : s 0 ≤ i
    · rw [decide_eq_true (h3.mpr (Or.inl h)), if_neg (by omega)]; rfl
    · rw [if_pos (by omega)]
      by_cases h6 : mFig (s 0) row (s 0 - 1 - i) = s (3 + s 0 * y + (s 0 - 1 - i))
      · rw [decide_eq_true (h3.mpr (Or.inr h6)), if_pos h6]; rfl
      · rw [decide_eq_false (fun q => (h3.mp q).elim h h6), if_neg h6]; rfl
  rw [key 0 (by decide), key 1 (by decide), key 2 (by decide), key 3 (by decide)]
  unfold mChg
  generalize hF : (fun x => if mFig (s 0) row x = s (3 + s 0 * y + x) then (0 : Int) else 1) = F
  have hFx : ∀ x, (if mFig (s 0) row x = s (3 + s 0 * y + x) then (0 : Int) else 1) = F x := fun x => by rw [← hF]
  rw [hFx, hFx, hFx, hFx]
  rcases (show s 0 = 1 ∨ s 0 = 2 ∨ s 0 = 3 ∨ s 0 = 4 by omega) with e | e | e | e <;> rw [e]
  · show (F 0 + 0 + 0 + 0 : Int) = 0 + F 0; omega
  · show (F 1 + F 0 + 0 + 0 : Int) = 0 + F 0 + F 1; omega
  · show (F 2 + F 1 + F 0 + 0 : Int) = 0 + F 0 + F 1 + F 2; omega
  · show (F 3 + F 2 + F 1 + F 0 : Int) = 0 + F 0 + F 1 + F 2 + F 3; omega
end
