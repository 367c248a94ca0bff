/-! the row that is chosen, the heights that are laid -/
def gNr (s : Int → Int) (y : Int) : Int := if y = 0 then 65535 else gNe (s 0) (mCh s y.toNat).2
def gPkP (fw sd : Int → Int) (y nr lv j : Int) : Bool := gMeet (sd j) nr && decide (fw (y * 68 + j) = lv)
theorem pick_ok {s fw ro sd ne : Int → Int} {li y : Int} (h0 : 1 ≤ s 0 ∧ s 0 ≤ 4) (h1 : 1 ≤ s 1 ∧ s 1 ≤ 6) (ha : mAll s < 1000) (hl : lOk (s 0) (mPow (s 0)) li ro sd ne) (hf : fwOk s fw li ro 0) (hy : 0 ≤ y ∧ y < s 1) : (0 ≤ fdI (gPkP fw sd y (gNr s y) (mCh s y.toNat).1) li 0 ∧ fdI (gPkP fw sd y (gNr s y) (mCh s y.toNat).1) li 0 < li) ∧ ro (fdI (gPkP fw sd y (gNr s y) (mCh s y.toNat).1) li 0) = mPick s y.toNat ∧ mMay s y (mPick s y.toNat) = true ∧ (0 ≤ mPick s y.toNat ∧ mPick s y.toNat < mPow (s 0)) := by
  obtain ⟨c1, c2, row, d1, d2, d3, d4⟩ := mCh_ok h0 h1 ha y.toNat (by omega)
  have hyn : ((y.toNat : Nat) : Int) = y := Int.toNat_of_nonneg hy.1
  rw [hyn] at d3
  obtain ⟨l1, l2, l3, l4, l5⟩ := hl
  generalize hdue : (mCh s y.toNat).1 = due at *
  have hP : ∀ j, 0 ≤ j → j < li → (gPkP fw sd y (gNr s y) due j = true ↔ mCst s y (ro j) = due ∧ (decide ((mCh s y.toNat).2 = -9) || mFit (s 0) (mCh s y.toNat).2 (ro j)) = true) := by
    intro j a b
    have hc := mCst_rg h0 h1 y (ro j) hy.1
    have hd := mCst_rg h0 h1 y row hy.1
    have e1 := hf y j hy.1 hy.1 hy.2 a b
    have e2 : gMeet (sd j) (gNr s y) = (decide ((mCh s y.toNat).2 = -9) || mFit (s 0) (mCh s y.toNat).2 (ro j)) := by
      rw [(l3 j a b).2.2.1]
      unfold gNr
      by_cases hy0 : y = 0
      · rw [if_pos hy0, gMeet_any, hy0]
        rfl
      · rw [if_neg hy0, gMeet_fit h0]
        have hne : ¬ (mCh s y.toNat).2 = -9 := by
          obtain ⟨m, hm⟩ : ∃ m : Nat, y.toNat = m + 1 := ⟨y.toNat - 1, by omega⟩
          rw [hm, mCh_s2, mPick_eq]
          have := fdI_spec (p := mPkP s m (mCh s m).1 (mCh s m).2) (n := mPow (s 0)) _ 0 rfl (by have := mPow_rg h0; omega)
          omega
        rw [decide_eq_false hne, Bool.false_or]
    unfold gPkP
    rw [Bool.and_eq_true, e2, decide_eq_true_eq, e1]
    constructor
    · rintro ⟨q1, q2⟩; exact ⟨by omega, q1⟩
    · rintro ⟨q1, q2⟩; exact ⟨q2, by omega⟩
  have hpk : mPick s y.toNat = fdI (mPkP s y due (mCh s y.toNat).2) (mPow (s 0)) 0 := by rw [mPick_eq, hdue, hyn]
  obtain ⟨f1, f2, f3⟩ := fdI_ex (p := mPkP s y due (mCh s y.toNat).2) (n := mPow (s 0)) (j := 0) (i := row) ⟨d1, d2⟩ (by unfold mPkP; rw [Bool.and_eq_true]; exact ⟨decide_eq_true d3, d4⟩)
  have f4 := fdI_spec (p := mPkP s y due (mCh s y.toNat).2) (n := mPow (s 0)) _ 0 rfl (by have := mPow_rg h0; omega)
  rw [← hpk] at f1 f2 f3 f4
  have g1 : mCst s y (mPick s y.toNat) = due ∧ (decide ((mCh s y.toNat).2 = -9) || mFit (s 0) (mCh s y.toNat).2 (mPick s y.toNat)) = true := by
    unfold mPkP at f3
    rw [Bool.and_eq_true, decide_eq_true_eq] at f3
    exact f3
  have hmay : mMay s y (mPick s y.toNat) = true := by
    cases hq : mMay s y (mPick s y.toNat) with
    | true => rfl
    | false =>
      exfalso
      have := mCst_eq (s := s) (y := y) (row := mPick s y.toNat) hy.2
      rw [hq, if_neg (by decide)] at this
      omega
  obtain ⟨j0, j1, j2, j3⟩ := l5 _ f1 (by omega) ((mMay_eq s y _).mp hmay).2
  obtain ⟨k1, k2, k3⟩ := fdI_ex (p := gPkP fw sd y (gNr s y) due) (n := li) (j := 0) (i := j0) ⟨j1, j2⟩ ((hP j0 j1 j2).mpr (by rw [j3]; exact g1))
  generalize fdI (gPkP fw sd y (gNr s y) due) li 0 = i at *
  have k4 := (hP i k1 (by omega)).mp k3
  have k5 : ¬ ro i < mPick s y.toNat := by
    intro q
    have := f4.2.2.2 (ro i) (l3 i k1 (by omega)).1.1 q
    apply this
    unfold mPkP
    rw [Bool.and_eq_true, decide_eq_true_eq]
    exact k4
  refine ⟨⟨k1, by omega⟩, ?_, hmay, ⟨f1, by omega⟩⟩
  by_cases hij : i = j0
  · rw [hij, j3]
  · have := l4 i j0 k1 (by omega) j2
    omega
/-- the heights of the least change, as far as row y -/
def gLcP (s : Int → Int) (y : Int) : Int → Int := fun j => if 3 ≤ j ∧ j < 3 + s 0 * y then mFig (s 0) (mPick s ((j - 3) / s 0).toNat) ((j - 3) % s 0) else 0
def gLc (s : Int → Int) : Int → Int := gLcP s (s 1)
theorem gLcP_rg (s : Int → Int) (y j : Int) : 0 ≤ gLcP s y j ∧ gLcP s y j ≤ 3 := by
  unfold gLcP
  split
  · exact mFig_rg _ _ _
  · omega
theorem pkL_z {s : Int → Int} {b : Int} {m : Nat} : ∀ d : Nat, (∀ j, b + m ≤ j → j < b + m + d → s j = 0) → pkL s b (m + d) = pkL s b m * 4 ^ d := by
  intro d
  induction d with
  | zero => intro _; rw [Nat.pow_zero, Nat.mul_one]; rfl
  | succ d ih =>
    intro h
    show pkL s b (m + d) * 4 + (s (b + ((m + d : Nat) : Int))).toNat = _
    rw [ih (fun j a c => h j a (by omega)), h (b + ((m + d : Nat) : Int)) (by omega) (by omega), Nat.pow_succ, Nat.mul_assoc]
    rfl
theorem pkL_low {s t : Int → Int} {b : Int} (n : Nat) (h : ∀ j, b ≤ j → j < b + n → s j = t j) : pkL s b n = pkL t b n := pkL_congr n h
theorem pkL_row {t : Int → Int} {b r : Int} {m : Nat} {w : Int} (hw : 1 ≤ w ∧ w ≤ 4) (hr : 0 ≤ r ∧ r < mPow w) (h : ∀ x : Int, 0 ≤ x → x < w → t (b + m + x) = mFig w r x) : pkL t b (m + w.toNat) = pkL t b m * 4 ^ w.toNat + r.toNat := by
  have hr2 := mPow_rg hw
  have e := dg4 (N := r) (by omega)
  have g0 := gDg_rg r 0
  have g1 := gDg_rg r 1
  have g2 := gDg_rg r 2
  have g3 := gDg_rg r 3
  rcases (show w = 1 ∨ w = 2 ∨ w = 3 ∨ w = 4 by omega) with rfl | rfl | rfl | rfl
  · have z1 := gDg_hi (i := 1) (by decide) hr (by decide)
    have z2 := gDg_hi (i := 2) (by decide) hr (by decide)
    have z3 := gDg_hi (i := 3) (by decide) hr (by decide)
    have t0 : t (b + (m : Int)) = gDg r 0 := by have := h 0 (by decide) (by decide); rwa [Int.add_zero] at this
    show pkL t b m * 4 + (t (b + (m : Int))).toNat = pkL t b m * 4 + _
    rw [t0]; omega
  · have z2 := gDg_hi (i := 2) (by decide) hr (by decide)
    have z3 := gDg_hi (i := 3) (by decide) hr (by decide)
    have t0 : t (b + (m : Int)) = gDg r 1 := by have := h 0 (by decide) (by decide); rwa [Int.add_zero] at this
    have t1 : t (b + ((m + 1 : Nat) : Int)) = gDg r 0 := by have := h 1 (by decide) (by decide); rwa [show b + (m : Int) + 1 = b + ((m + 1 : Nat) : Int) by omega] at this
    show (pkL t b m * 4 + (t (b + (m : Int))).toNat) * 4 + (t (b + ((m + 1 : Nat) : Int))).toNat = pkL t b m * 16 + _
    rw [t0, t1]; omega
  · have z3 := gDg_hi (i := 3) (by decide) hr (by decide)
    have t0 : t (b + (m : Int)) = gDg r 2 := by have := h 0 (by decide) (by decide); rwa [Int.add_zero] at this
    have t1 : t (b + ((m + 1 : Nat) : Int)) = gDg r 1 := by have := h 1 (by decide) (by decide); rwa [show b + (m : Int) + 1 = b + ((m + 1 : Nat) : Int) by omega] at this
    have t2 : t (b + ((m + 2 : Nat) : Int)) = gDg r 0 := by have := h 2 (by decide) (by decide); rwa [show b + (m : Int) + 2 = b + ((m + 2 : Nat) : Int) by omega] at this
    show ((pkL t b m * 4 + (t (b + (m : Int))).toNat) * 4 + (t (b + ((m + 1 : Nat) : Int))).toNat) * 4 + (t (b + ((m + 2 : Nat) : Int))).toNat = pkL t b m * 64 + _
    rw [t0, t1, t2]; omega
  · have t0 : t (b + (m : Int)) = gDg r 3 := by have := h 0 (by decide) (by decide); rwa [Int.add_zero] at this
    have t1 : t (b + ((m + 1 : Nat) : Int)) = gDg r 2 := by have := h 1 (by decide) (by decide); rwa [show b + (m : Int) + 1 = b + ((m + 1 : Nat) : Int) by omega] at this
    have t2 : t (b + ((m + 2 : Nat) : Int)) = gDg r 1 := by have := h 2 (by decide) (by decide); rwa [show b + (m : Int) + 2 = b + ((m + 2 : Nat) : Int) by omega] at this
    have t3 : t (b + ((m + 3 : Nat) : Int)) = gDg r 0 := by have := h 3 (by decide) (by decide); rwa [show b + (m : Int) + 3 = b + ((m + 3 : Nat) : Int) by omega] at this
    show (((pkL t b m * 4 + (t (b + (m : Int))).toNat) * 4 + (t (b + ((m + 1 : Nat) : Int))).toNat) * 4 + (t (b + ((m + 2 : Nat) : Int))).toNat) * 4 + (t (b + ((m + 3 : Nat) : Int))).toNat = pkL t b m * 256 + _
    rw [t0, t1, t2, t3]; omega
theorem gLc_or {s : Int → Int} {y r : Int} (h0 : 1 ≤ s 0 ∧ s 0 ≤ 4) (hy : 0 ≤ y) (hm : 1 ≤ s 0 * (y + 1) ∧ s 0 * (y + 1) ≤ 24) (he : r = mPick s y.toNat) (hr : 0 ≤ r ∧ r < mPow (s 0)) : pk (gLcP s y) 3 ||| ((iI r).toInt64 <<< ((iI (2 * (23 - (s 0 * (y + 1) - 1)))).toInt64 &&& 63)) = pk (gLcP s (y + 1)) 3 := by
  have hx : s 0 * (y + 1) = s 0 * y + s 0 := by rw [Int.mul_add, Int.mul_one]
  have hp : 0 ≤ s 0 * y := Int.mul_nonneg (by omega) hy
  have hr2 := mPow_rg h0
  have eA : pkL (gLcP s y) 3 24 = pkL (gLcP s y) 3 (s 0 * y).toNat * 4 ^ (24 - (s 0 * y).toNat) := by
    have := pkL_z (s := gLcP s y) (b := 3) (m := (s 0 * y).toNat) (24 - (s 0 * y).toNat) (fun j a c => by unfold gLcP; rw [if_neg (by omega)])
    rwa [show (s 0 * y).toNat + (24 - (s 0 * y).toNat) = 24 by omega] at this
  have eB : pkL (gLcP s (y + 1)) 3 24 = pkL (gLcP s (y + 1)) 3 ((s 0 * y).toNat + (s 0).toNat) * 4 ^ (24 - (s 0 * (y + 1)).toNat) := by
    have := pkL_z (s := gLcP s (y + 1)) (b := 3) (m := (s 0 * (y + 1)).toNat) (24 - (s 0 * (y + 1)).toNat) (fun j a c => by unfold gLcP; rw [if_neg (by omega)])
    rw [show (s 0 * (y + 1)).toNat + (24 - (s 0 * (y + 1)).toNat) = 24 by omega] at this
    rw [this]
    congr 2
    omega
  have eC : pkL (gLcP s (y + 1)) 3 (s 0 * y).toNat = pkL (gLcP s y) 3 (s 0 * y).toNat := pkL_congr _ (fun j a c => by unfold gLcP; rw [if_pos (by omega), if_pos (by omega)])
  have eD := pkL_row (t := gLcP s (y + 1)) (b := 3) (m := (s 0 * y).toNat) (r := r) h0 hr (fun x a c => by
    unfold gLcP
    rw [if_pos (by omega), show 3 + (((s 0 * y).toNat : Nat) : Int) + x - 3 = s 0 * y + x by omega, (dm_eq h0 ⟨a, c⟩).1, (dm_eq h0 ⟨a, c⟩).2, he])
  rw [eC] at eD
  have hA : pkL (gLcP s y) 3 24 < 2 ^ 64 := pkL_64 (fun j _ _ => gLcP_rg s y j)
  have hk : (2 * (23 - (s 0 * (y + 1) - 1))).toNat = 2 * (24 - (s 0 * (y + 1)).toNat) := by omega
  have hrn : r.toNat < 4 ^ (s 0).toNat := by
    have := hr.2
    unfold mPow at this
    rw [p4I] at this
    omega
  have hlt : r.toNat * 2 ^ (2 * (24 - (s 0 * (y + 1)).toNat)) < 2 ^ (2 * (24 - (s 0 * y).toNat)) := by
    rw [← p42, ← p42, show 24 - (s 0 * y).toNat = (s 0).toNat + (24 - (s 0 * (y + 1)).toNat) by omega, Nat.pow_add]
    exact Nat.mul_lt_mul_of_pos_right hrn (Nat.pow_pos (by decide))
  have h64 : 2 ^ (2 * (24 - (s 0 * y).toNat)) ≤ 2 ^ 64 := Nat.pow_le_pow_right (by decide) (by omega)
  unfold pk
  rw [iI_tn hr.1, iI_tn (show 0 ≤ 2 * (23 - (s 0 * (y + 1) - 1)) by omega), hk, nI_l (by omega), wb_shl _ (by omega), wb_or hA (by omega)]
  congr 1
  rw [eA, p42 (24 - (s 0 * y).toNat), ← Nat.shiftLeft_eq, ← Nat.shiftLeft_add_eq_or_of_lt hlt, Nat.shiftLeft_eq, eB, eD, ← p42, ← p42, show 24 - (s 0 * y).toNat = (s 0).toNat + (24 - (s 0 * (y + 1)).toNat) by omega, Nat.pow_add, Nat.add_mul, Nat.mul_assoc]
theorem gLcP_0 (s : Int → Int) : pk (gLcP s 0) 3 = 0 := by
  have : pkL (gLcP s 0) 3 24 = 0 := by
    have h := pkL_z (s := gLcP s 0) (b := 3) (m := 0) 24 (fun j a c => by unfold gLcP; rw [if_neg (by omega)])
    rw [Nat.zero_add] at h
    rw [h]
    exact Nat.zero_mul _
  unfold pk
  rw [this]
  rfl
def lcOk (s : Int → Int) (ch : Int) (hh : Int64) : Prop := ch = mChange s ∧ (mAll s < 1000 → hh = pk (gLc s) 3)
def lcInv (w h : Int) (ht fx : Int64) (ch : Int) (hh : Int64) : Prop := ∀ t : Int → Int, mS t → t 0 = w → t 1 = h → pk t 3 = ht → pk t 27 = fx → lcOk t ch hh
