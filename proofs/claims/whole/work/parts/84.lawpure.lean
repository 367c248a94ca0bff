theorem cell_m {s sr ro ce fi kn : Int → Int} {x y i r r2 : Int} (hS : mS s)
    (h8 : if (0 ≤ x ∧ x < s 0 ∧ 0 ≤ y ∧ y < s 1) ∧ 0 ≤ i ∧ i ≤ 2 then (if i = 0 then r = s (3 + s 0 * y + x) else if i = 1 then r = s (27 + s 0 * y + x) else r = fdI (fun j => decide ((gKd s ro ce (s 0 * s 1).toNat).2.1 j = gRow s x y)) (gKd s ro ce (s 0 * s 1).toNat).1 0) else r = -1)
    (h9 : if (0 ≤ x ∧ x < s 0 ∧ 0 ≤ y ∧ y < s 1) ∧ 0 ≤ i ∧ i ≤ 2 then (if i = 0 then r2 = s (3 + s 0 * y + x) else if i = 1 then r2 = s (27 + s 0 * y + x) else mSqOk s sr (s 0 * s 1) ∧ r2 = (mKd sr fi kn (s 0 * s 1).toNat).2.2 (s 0 * y + x)) else r2 = -1) : r = r2 := by
  by_cases h : (0 ≤ x ∧ x < s 0 ∧ 0 ≤ y ∧ y < s 1) ∧ 0 ≤ i ∧ i ≤ 2
  · rw [if_pos h] at h8 h9
    by_cases h0 : i = 0
    · rw [if_pos h0] at h8 h9; rw [h8, h9]
    · rw [if_neg h0] at h8 h9
      by_cases h1 : i = 1
      · rw [if_pos h1] at h8 h9; rw [h8, h9]
      · rw [if_neg h1] at h8 h9
        rw [h8, h9.2]
        exact cell_2 hS h9.1 ro ce fi kn h.1
  · rw [if_neg h] at h8 h9
    rw [h8, h9]
theorem which_m {s la sq fc sr : Int → Int} {kn z : Int} (hS : mS s) (hf : fcR la sq fc kn) (hq : 0 ≤ z ∧ z ≤ 1 → mSqOk s sr (s 0 * s 1)) : (if z = 0 then ((popN 4 (gBits (gFitN s la sq kn) (s 0 * s 1).toNat).toNat : Nat) : Int) else if z = 1 then (if fdI (mBit (gBits (gFitN s la sq kn) (s 0 * s 1).toNat)) 24 0 < 24 then fdI (mBit (gBits (gFitN s la sq kn) (s 0 * s 1).toNat)) 24 0 else -9) else -1) = if 0 ≤ z ∧ z ≤ 1 then if z = 0 then sI (fun c => bz (mSo sr fc kn c)) (s 0 * s 1) else mFst (mSo sr fc kn) (s 0 * s 1).toNat else -1 := by
  by_cases h0 : z = 0
  · rw [if_pos h0, if_pos (by omega), if_pos h0]
    exact which_0 hS hf (hq (by omega))
  · rw [if_neg h0]
    by_cases h1 : z = 1
    · rw [if_pos h1, if_pos (show 0 ≤ z ∧ z ≤ 1 by omega), if_neg h0]
      exact which_1 hS hf (hq (by omega))
    · rw [if_neg h1, if_neg (by omega)]
theorem tells_c {s d9 e : Int → Int} {rr a2 : Int} (hc : decide (rr = -1) = decide (a2 = -9)) (h : rr = -1 → ∀ j, 0 ≤ j → j < 51 → d9 j = e j) : ∀ t, 0 ≤ t → t < 51 → cond (decide (rr = -1)) d9 s t = cond (decide (a2 = -9)) e s t := by
  intro t t0 t1
  rw [← hc]
  by_cases hr : rr = -1
  · rw [decide_eq_true hr]; exact h hr t t0 t1
  · rw [decide_eq_false hr]; rfl
theorem cond_rg {c : Bool} {ty : Int} (h : 0 ≤ ty ∧ ty ≤ 120) : 0 ≤ cond c 0 ty ∧ cond c 0 ty ≤ 120 := by cases c <;> simp <;> omega
