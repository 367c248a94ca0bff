/-! what the least change hangs on -/
theorem alI_congr {f g : Int → Bool} {c : Int} (h : ∀ j : Int, 0 ≤ j → j < c → f j = g j) : alI f c = alI g c := by
  have : alI f c = true ↔ alI g c = true := by
    rw [alI_iff, alI_iff]
    exact ⟨fun q j a b => by rw [← h j a b]; exact q j a b, fun q j a b => by rw [h j a b]; exact q j a b⟩
  cases h1 : alI f c <;> cases h2 : alI g c <;> simp_all
def lcE (s t : Int → Int) : Prop := t 0 = s 0 ∧ t 1 = s 1 ∧ ∀ j, 3 ≤ j → j < 51 → t j = s j
section
variable {s t : Int → Int}
theorem lcE_chg (h0 : 1 ≤ s 0 ∧ s 0 ≤ 4) (h1 : 1 ≤ s 1 ∧ s 1 ≤ 6) (e : lcE s t) {y : Int} (hy : 0 ≤ y ∧ y < s 1) (r : Int) : mChg t y r = mChg s y r := by
  obtain ⟨e0, e1, e2⟩ := e
  have hc := cells_rg h0 h1
  unfold mChg
  rw [e0]
  refine sI_congr (fun x a b => ?_)
  have := cell_rg h0 ⟨a, b⟩ hy
  rw [e2 _ (by omega) (by omega)]
theorem lcE_may (h0 : 1 ≤ s 0 ∧ s 0 ≤ 4) (h1 : 1 ≤ s 1 ∧ s 1 ≤ 6) (e : lcE s t) {y : Int} (hy : 0 ≤ y ∧ y < s 1) (r : Int) : mMay t y r = mMay s y r := by
  obtain ⟨e0, e1, e2⟩ := e
  have hc := cells_rg h0 h1
  unfold mMay
  rw [e0]
  refine alI_congr (fun x a b => ?_)
  have := cell_rg h0 ⟨a, b⟩ hy
  unfold mMayX
  rw [e0, e2 _ (by omega) (by omega), e2 _ (by omega) (by omega)]
theorem lcE_cstD (h0 : 1 ≤ s 0 ∧ s 0 ≤ 4) (h1 : 1 ≤ s 1 ∧ s 1 ≤ 6) (e : lcE s t) : ∀ d : Nat, (d : Int) < s 1 → ∀ r, mCstD t d r = mCstD s d r := by
  intro d
  induction d with
  | zero =>
    intro hd r
    show (if mMay t (t 1 - 1) r = true then mChg t (t 1 - 1) r else 1000) = if mMay s (s 1 - 1) r = true then mChg s (s 1 - 1) r else 1000
    rw [e.2.1, lcE_may h0 h1 e (by omega), lcE_chg h0 h1 e (by omega)]
  | succ d ih =>
    intro hd r
    have h := ih (by omega)
    have hf : mCstD t d = mCstD s d := funext h
    show (if mMay t (t 1 - 1 - (d + 1)) r = true then if lsI (mCstD t d) (mFit (t 0) r) (mPow (t 0)) = 1000 then 1000 else lsI (mCstD t d) (mFit (t 0) r) (mPow (t 0)) + mChg t (t 1 - 1 - (d + 1)) r else 1000) = if mMay s (s 1 - 1 - (d + 1)) r = true then if lsI (mCstD s d) (mFit (s 0) r) (mPow (s 0)) = 1000 then 1000 else lsI (mCstD s d) (mFit (s 0) r) (mPow (s 0)) + mChg s (s 1 - 1 - (d + 1)) r else 1000
    rw [hf, e.1, e.2.1, lcE_may h0 h1 e (by omega), lcE_chg h0 h1 e (by omega)]
theorem lcE_cst (h0 : 1 ≤ s 0 ∧ s 0 ≤ 4) (h1 : 1 ≤ s 1 ∧ s 1 ≤ 6) (e : lcE s t) {y : Int} (hy : 0 ≤ y ∧ y < s 1) : mCst t y = mCst s y := by
  funext r
  unfold mCst
  rw [e.2.1]
  exact lcE_cstD h0 h1 e _ (by omega) r
theorem lcE_all (h0 : 1 ≤ s 0 ∧ s 0 ≤ 4) (h1 : 1 ≤ s 1 ∧ s 1 ≤ 6) (e : lcE s t) : mAll t = mAll s := by
  unfold mAll
  rw [lcE_cst h0 h1 e (by omega), e.1]
theorem lcE_pk (h0 : 1 ≤ s 0 ∧ s 0 ≤ 4) (h1 : 1 ≤ s 1 ∧ s 1 ≤ 6) (e : lcE s t) : ∀ y : Nat, (y : Int) < s 1 → mCh t y = mCh s y ∧ mPick t y = mPick s y := by
  intro y
  induction y with
  | zero =>
    intro hy
    have hc : mCh t 0 = mCh s 0 := by show (mAll t, (-9 : Int)) = (mAll s, -9); rw [lcE_all h0 h1 e]
    refine ⟨hc, ?_⟩
    unfold mPick
    rw [hc, lcE_cst h0 h1 e (by omega), e.1]
  | succ y ih =>
    intro hy
    obtain ⟨i1, i2⟩ := ih (by omega)
    have hc : mCh t (y + 1) = mCh s (y + 1) := by
      have a1 : (mCh t (y + 1)).1 = (mCh s (y + 1)).1 := by rw [mCh_s1, mCh_s1, i1, i2, lcE_chg h0 h1 e (by omega)]
      have a2 : (mCh t (y + 1)).2 = (mCh s (y + 1)).2 := by rw [mCh_s2, mCh_s2, i2]
      exact Prod.ext a1 a2
    refine ⟨hc, ?_⟩
    unfold mPick
    rw [hc, lcE_cst h0 h1 e (by omega), e.1]
theorem lcE_ok (h0 : 1 ≤ s 0 ∧ s 0 ≤ 4) (h1 : 1 ≤ s 1 ∧ s 1 ≤ 6) (e : lcE s t) {ch : Int} {hh : Int64} (h : lcOk s ch hh) : lcOk t ch hh := by
  obtain ⟨a, b⟩ := h
  have ha := lcE_all h0 h1 e
  refine ⟨?_, fun q => ?_⟩
  · rw [a]
    unfold mChange
    rw [ha]
  · rw [b (by omega)]
    refine pk_congr (fun j c d => ?_)
    unfold gLc gLcP
    rw [e.1, e.2.1]
    by_cases hj : 3 ≤ j ∧ j < 3 + s 0 * s 1
    · rw [if_pos hj, if_pos hj, (lcE_pk h0 h1 e ((j - 3) / s 0).toNat ?_).2]
      have : (j - 3) / s 0 < s 1 := Int.ediv_lt_of_lt_mul (by omega) (by rw [Int.mul_comm]; omega)
      have h3 : 0 ≤ (j - 3) / s 0 := Int.ediv_nonneg (by omega) (by omega)
      omega
    · rw [if_neg hj, if_neg hj]
end
theorem lcE_of {s t : Int → Int} (hs : mS s) (ht : mS t) (e0 : t 0 = s 0) (e1 : t 1 = s 1) (e3 : pk t 3 = pk s 3) (e27 : pk t 27 = pk s 27) : lcE s t := by
  refine ⟨e0, e1, fun j a b => ?_⟩
  by_cases h : j < 27
  · exact pkL_inj (fun j a b => ht.2.2.2.1 j a b) (fun j a b => hs.2.2.2.1 j a b) e3 j a (by omega)
  · exact pkL_inj (fun j a b => by have := ht.2.2.2.2 j a (by omega); omega) (fun j a b => by have := hs.2.2.2.2 j a (by omega); omega) e27 j (by omega) (by omega)
theorem lcInv_of {s : Int → Int} {ch : Int} {hh : Int64} (hs : mS s) (h : lcOk s ch hh) : lcInv (s 0) (s 1) (pk s 3) (pk s 27) ch hh := fun _ ht e0 e1 e3 e27 => lcE_ok hs.1 hs.2.1 (lcE_of hs ht e0 e1 e3 e27) h
theorem fw_cell {fw : Int → Int} {y z : Int} (hy : 0 ≤ y ∧ y < 6) (hz : 0 ≤ z ∧ z < 68) : (if 0 ≤ y * 68 + z ∧ y * 68 + z < 408 then fw (y * 68 + z) else 99) = fw (y * 68 + z) := if_pos (by omega)
theorem fw_put {fw : Int → Int} {y z v : Int} (hy : 0 ≤ y ∧ y < 6) (hz : 0 ≤ z ∧ z < 68) : (if 0 ≤ y * 68 + z ∧ y * 68 + z < 408 then uz fw (y * 68 + z) v else fw) = uz fw (y * 68 + z) v := if_pos (by omega)
theorem ro_cell {g : Int → Int} {z : Int} (hz : 0 ≤ z ∧ z < 68) : (if 0 ≤ z ∧ z < 68 then g z else 0) = g z := if_pos hz
theorem fwOk_uz {s fw ro : Int → Int} {li y i v : Int} (hli : li ≤ 68) (hy : 0 ≤ y) (hi : 0 ≤ i ∧ i < li) (hf : fwOk s fw li ro (y + 1)) (hp : ∀ j, 0 ≤ j → j < i → fw (y * 68 + j) = min 99 (mCst s y (ro j))) (hv : v = min 99 (mCst s y (ro i))) : fwOk s (uz fw (y * 68 + i) v) li ro (y + 1) ∧ ∀ j, 0 ≤ j → j < i + 1 → uz fw (y * 68 + i) v (y * 68 + j) = min 99 (mCst s y (ro j)) := by
  refine ⟨fun y2 j a b c d e => ?_, fun j a b => ?_⟩
  · rw [uz_n (by omega)]
    exact hf y2 j a b c d e
  · by_cases hj : j = i
    · rw [hj, uz_s, hv]
    · rw [uz_n (by omega)]
      exact hp j a (by omega)
