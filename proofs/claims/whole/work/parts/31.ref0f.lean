/-! pure words of the reference, sixth part -/
def mPkP (s : Int → Int) (y due ah row : Int) : Bool := decide (mCst s y row = due) && (decide (ah = -9) || mFit (s 0) ah row)
theorem mPkP_iff {s : Int → Int} {y due ah row : Int} : mPkP s y due ah row = true ↔ mCst s y row = due ∧ (ah = -9 ∨ mFit (s 0) ah row = true) := by
  unfold mPkP
  rw [Bool.and_eq_true, Bool.or_eq_true, decide_eq_true_eq, decide_eq_true_eq]
theorem mPick_eq (s : Int → Int) (y : Nat) : mPick s y = fdI (mPkP s y (mCh s y).1 (mCh s y).2) (mPow (s 0)) 0 := rfl
theorem mCh_s1 (s : Int → Int) (y : Nat) : (mCh s (y + 1)).1 = (mCh s y).1 - mChg s y (mPick s y) := rfl
theorem mCh_s2 (s : Int → Int) (y : Nat) : (mCh s (y + 1)).2 = mPick s y := rfl
theorem cell_ne {w x y x2 y2 : Int} (hw : 1 ≤ w ∧ w ≤ 4) (hx : 0 ≤ x ∧ x < w) (hx2 : 0 ≤ x2 ∧ x2 < w) (h : y < y2) : w * y + x < w * y2 + x2 := by
  rcases (show w = 1 ∨ w = 2 ∨ w = 3 ∨ w = 4 by omega) with rfl | rfl | rfl | rfl <;> omega
def mSetlS (s : Int → Int) : Int → Int := fun j => if 3 ≤ j ∧ j < 3 + s 0 * s 1 then mFig (s 0) (mPick s ((j - 3) / s 0).toNat) ((j - 3) % s 0) else s j
def mSetlC (s : Int → Int) : Bool := decide (¬ mJar s = 0 ∧ mAll s < 1000)
def mSetlR (s : Int → Int) : Int := if ¬ mJar s = 0 ∧ mAll s < 1000 then mAll s else -2
theorem mSetl_eq {s be : Int → Int} (hs0 : 1 ≤ s 0 ∧ s 0 ≤ 4) (hb : mBeOk s be) (ha : mAll s < 1000) : cpz be s 0 3 (s 0 * s 1) = mSetlS s := by
  funext j
  unfold mSetlS cpz
  by_cases h : 3 ≤ j ∧ j < 3 + s 0 * s 1
  · rw [if_pos h, if_pos h]
    have hd := dm_rg hs0 (show 0 ≤ j - 3 ∧ j - 3 < s 0 * s 1 by omega)
    have h1 := hb ha ((j - 3) / s 0).toNat ((j - 3) % s 0) (by omega) hd.1 hd.2.1
    rw [Int.toNat_of_nonneg hd.2.2.1, hd.2.2.2.2] at h1
    rw [← h1]
    congr 1
    omega
  · rw [if_neg h, if_neg h]
theorem mAll_rg {s : Int → Int} (h0 : 1 ≤ s 0 ∧ s 0 ≤ 4) (h1 : 1 ≤ s 1 ∧ s 1 ≤ 6) : 0 ≤ mAll s ∧ mAll s ≤ 1000 := ⟨lsN_ge (by decide) _ (fun j _ _ => (mCst_rg h0 h1 0 j (by decide)).1), (lsN_spec _).1⟩
def mLeastR (s : Int → Int) (n : Int) : Int := if -1 ≤ n ∧ n ≤ s 0 * s 1 - 1 then if mAll s = 1000 then -9 else if n = -1 then mAll s else mFig (s 0) (mPick s (n / s 0).toNat) (n % s 0) else -1
theorem mBe_at {s be : Int → Int} {n : Int} (hs0 : 1 ≤ s 0 ∧ s 0 ≤ 4) (hb : mBeOk s be) (ha : mAll s < 1000) (hn : 0 ≤ n ∧ n < s 0 * s 1) : be n = mFig (s 0) (mPick s (n / s 0).toNat) (n % s 0) := by
  have hd := dm_rg hs0 hn
  have h1 := hb ha (n / s 0).toNat (n % s 0) (by omega) hd.1 hd.2.1
  rwa [Int.toNat_of_nonneg hd.2.2.1, hd.2.2.2.2] at h1
/-! the flood -/
def mAdj (w i j : Int) : Prop := (i % w - j % w) * (i % w - j % w) + (i / w - j / w) * (i / w - j / w) = 1
/-- cell c is reached from cell a over sides by cells of a's height -/
def mRch (s : Int → Int) (a c : Int) : Prop := ∀ Pq : Int → Prop, Pq a → (∀ i j, Pq i → 0 ≤ j → j < s 0 * s 1 → mAdj (s 0) j i → s (3 + j) = s (3 + a) → Pq j) → Pq c
theorem mRch_0 (s : Int → Int) (a : Int) : mRch s a a := fun _ h _ => h
theorem mRch_s {s : Int → Int} {a i j : Int} (h : mRch s a i) (hj : 0 ≤ j ∧ j < s 0 * s 1) (hA : mAdj (s 0) j i) (he : s (3 + j) = s (3 + a)) : mRch s a j := fun Pq h0 hs => hs i j (h Pq h0 hs) hj.1 hj.2 hA he
noncomputable def mRe (s : Int → Int) (a c : Int) : Int := @ite _ (mRch s a c) (Classical.propDecidable _) 1 0
theorem mRe_t {s : Int → Int} {a c : Int} (h : mRch s a c) : mRe s a c = 1 := if_pos h
theorem mRe_f {s : Int → Int} {a c : Int} (h : ¬ mRch s a c) : mRe s a c = 0 := if_neg h
noncomputable def mFldN (s : Int → Int) (a : Int) : Int := sI (mRe s a) (s 0 * s 1)
noncomputable def mFldS (s : Int → Int) (a h : Int) : Int → Int := fun j => if 3 ≤ j ∧ j < 3 + s 0 * s 1 ∧ mRe s a (j - 3) = 1 then h else s j
def mFldOk (s : Int → Int) (x y h : Int) : Prop := (0 ≤ x ∧ x < s 0 ∧ 0 ≤ y ∧ y < s 1) ∧ 0 ≤ h ∧ h ≤ 3
def mFldC (s : Int → Int) (x y h : Int) : Bool := decide (((0 ≤ x ∧ x < s 0 ∧ 0 ≤ y ∧ y < s 1) ∧ 0 ≤ h ∧ h ≤ 3) ∧ ¬ s (3 + s 0 * y + x) = h)
noncomputable def mFldR (s : Int → Int) (x y h : Int) : Int := if (0 ≤ x ∧ x < s 0 ∧ 0 ≤ y ∧ y < s 1) ∧ 0 ≤ h ∧ h ≤ 3 then if s (3 + s 0 * y + x) = h then -2 else mFldN s (s 0 * y + x) else -1
def mBsX (w x y : Int) (wt : Int → Int) (c : Int) : Bool := decide (wt c = 1 ∧ (x - c % w) * (x - c % w) + (y - c / w) * (y - c / w) = 1)
def mBs (s wt : Int → Int) (x y : Int) : Bool := exI (mBsX (s 0) x y wt) (s 0 * s 1)
/-- a set that is sound, holds the start and is closed is the flood -/
theorem mRe_of {s wt : Int → Int} {a : Int} (ha : 0 ≤ a ∧ a < s 0 * s 1) (h01 : ∀ c, 0 ≤ c → c < s 0 * s 1 → wt c = 0 ∨ wt c = 1) (hst : wt a = 1) (hso : ∀ c, 0 ≤ c → c < s 0 * s 1 → wt c = 1 → mRch s a c)
    (hcl : ∀ c, 0 ≤ c → c < s 0 * s 1 → wt c = 0 → s (3 + c) = s (3 + a) → mBs s wt (c % s 0) (c / s 0) = false) : ∀ c, 0 ≤ c → c < s 0 * s 1 → wt c = mRe s a c := by
  intro c h1 h2
  rcases h01 c h1 h2 with h | h
  · rw [h, mRe_f]
    intro hr
    have := hr (fun i => 0 ≤ i ∧ i < s 0 * s 1 ∧ wt i = 1) ⟨ha.1, ha.2, hst⟩ (fun i j hi hj1 hj2 hA he => by
      refine ⟨hj1, hj2, ?_⟩
      rcases h01 j hj1 hj2 with h0 | h0
      · have hb := hcl j hj1 hj2 h0 he
        have hb2 : mBs s wt (j % s 0) (j / s 0) = true := exI_iff.mpr ⟨i, hi.1, hi.2.1, decide_eq_true ⟨hi.2.2, hA⟩⟩
        rw [hb] at hb2
        cases hb2
      · exact h0)
    omega
  · rw [h, mRe_t (hso c h1 h2 h)]
theorem mFldS_lo {s : Int → Int} {a h j : Int} (hj : j < 3) : mFldS s a h j = s j := by
  unfold mFldS
  rw [if_neg (by omega)]
