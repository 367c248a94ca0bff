/-! the rows that are listed, and the fewest changes -/
theorem sI_mono {f : Int → Int} (h : ∀ j, 0 ≤ f j) {n : Int} (hn : 0 ≤ n) : ∀ d : Nat, sI f n ≤ sI f (n + d) := by
  intro d
  induction d with
  | zero => rw [show n + ((0 : Nat) : Int) = n by omega]; exact Int.le_refl _
  | succ d ih =>
    rw [show n + ((d + 1 : Nat) : Int) = (n + d) + 1 by omega, sI_s (by omega)]
    have := h (n + d)
    omega
def gCt (w n : Int) : Int := sI (fun r => bz (mFit w r r)) n
theorem gCt_68 : ∀ w : Nat, w < 5 → gCt w (mPow w) ≤ 68 := by decide +kernel
theorem gCt_le {w n : Int} (hw : 1 ≤ w ∧ w ≤ 4) (hn : 0 ≤ n ∧ n ≤ mPow w) : gCt w n ≤ 68 := by
  have h1 := gCt_68 w.toNat (by omega)
  rw [Int.toNat_of_nonneg (by omega)] at h1
  have h2 := sI_mono (f := fun r => bz (mFit w r r)) (fun j => (bz_rg _).1) hn.1 (mPow w - n).toNat
  rw [show n + (((mPow w - n).toNat : Nat) : Int) = mPow w by omega] at h2
  unfold gCt at *
  omega
def lOk (w n li : Int) (ro sd ne : Int → Int) : Prop := li = gCt w n ∧ 0 ≤ li ∧ (∀ j, 0 ≤ j → j < li → (0 ≤ ro j ∧ ro j < n) ∧ mFit w (ro j) (ro j) = true ∧ sd j = gSd w (ro j) ∧ ne j = gNe w (ro j)) ∧ (∀ i j, 0 ≤ i → i < j → j < li → ro i < ro j) ∧ ∀ r, 0 ≤ r → r < n → mFit w r r = true → ∃ j, 0 ≤ j ∧ j < li ∧ ro j = r
theorem lOk_0 (w : Int) (ro sd ne : Int → Int) : lOk w 0 0 ro sd ne := ⟨rfl, Int.le_refl 0, fun j a b => absurd b (by omega), fun i j a b c => absurd c (by omega), fun r a b => absurd b (by omega)⟩
theorem lOk_n {w n li : Int} {ro sd ne : Int → Int} (h : lOk w n li ro sd ne) (hn : 0 ≤ n) (hf : mFit w n n = false) : lOk w (n + 1) li ro sd ne := by
  obtain ⟨h1, h2, h3, h4, h5⟩ := h
  refine ⟨?_, h2, fun j a b => ?_, h4, fun r a b c => ?_⟩
  · unfold gCt at *
    rw [sI_s hn, hf]
    show li = _ + 0
    omega
  · have := h3 j a b
    exact ⟨⟨this.1.1, by omega⟩, this.2⟩
  · by_cases hr : r = n
    · rw [hr, hf] at c; exact absurd c (by decide)
    · exact h5 r a (by omega) c
theorem lOk_y {w n li : Int} {ro sd ne : Int → Int} (hw : 1 ≤ w ∧ w ≤ 4) (h : lOk w n li ro sd ne) (hn : 0 ≤ n ∧ n < mPow w) (hf : mFit w n n = true) : li < 68 ∧ lOk w (n + 1) (li + 1) (uz ro li n) (uz sd li (gSd w n)) (uz ne li (gNe w n)) := by
  obtain ⟨h1, h2, h3, h4, h5⟩ := h
  have e : gCt w (n + 1) = gCt w n + 1 := by
    unfold gCt
    rw [sI_s hn.1, hf]
    rfl
  have h6 := gCt_le (n := n + 1) hw (by omega)
  refine ⟨by omega, by omega, by omega, fun j a b => ?_, fun i j a b c => ?_, fun r a b c => ?_⟩
  · by_cases hj : j = li
    · rw [hj, uz_s, uz_s, uz_s]
      exact ⟨⟨hn.1, by omega⟩, hf, rfl, rfl⟩
    · rw [uz_n hj, uz_n hj, uz_n hj]
      have := h3 j a (by omega)
      exact ⟨⟨this.1.1, by omega⟩, this.2⟩
  · rw [uz_n (show i ≠ li by omega)]
    by_cases hj : j = li
    · rw [hj, uz_s]
      exact (h3 i a (by omega)).1.2
    · rw [uz_n hj]
      exact h4 i j a b (by omega)
  · by_cases hr : r = n
    · exact ⟨li, h2, by omega, by rw [uz_s, hr]⟩
    · obtain ⟨j, a1, a2, a3⟩ := h5 r a (by omega) c
      exact ⟨j, a1, by omega, by rw [uz_n (by omega), a3]⟩
theorem lOk_li {w n li : Int} {ro sd ne : Int → Int} (hw : 1 ≤ w ∧ w ≤ 4) (hn : 0 ≤ n ∧ n ≤ mPow w) (h : lOk w n li ro sd ne) : 0 ≤ li ∧ li ≤ 68 := by
  have := gCt_le hw hn
  have h1 := h.1
  have h2 := h.2.1
  omega
/-- the least of val 0 .. val (n - 1) that are ok, 99 at most -/
def lmN (val : Int → Int) (ok : Int → Bool) : Nat → Int
  | 0 => 99
  | n + 1 => if ok n = true then min (lmN val ok n) (val n) else lmN val ok n
def lmI (val : Int → Int) (ok : Int → Bool) (c : Int) : Int := lmN val ok c.toNat
theorem lmI_s {val : Int → Int} {ok : Int → Bool} {c : Int} (h : 0 ≤ c) : lmI val ok (c + 1) = if ok c = true then min (lmI val ok c) (val c) else lmI val ok c := by
  unfold lmI
  rw [show (c + 1).toNat = c.toNat + 1 by omega]
  show (if ok (c.toNat : Int) = true then min (lmN val ok c.toNat) (val (c.toNat : Int)) else lmN val ok c.toNat) = _
  rw [Int.toNat_of_nonneg h]
theorem lmN_spec {val : Int → Int} {ok : Int → Bool} : ∀ n : Nat, lmN val ok n ≤ 99 ∧ (∀ j : Int, 0 ≤ j → j < n → ok j = true → lmN val ok n ≤ val j) ∧ (lmN val ok n = 99 ∨ ∃ j : Int, 0 ≤ j ∧ j < n ∧ ok j = true ∧ lmN val ok n = val j) := by
  intro n
  induction n with
  | zero => exact ⟨Int.le_refl _, fun j a b => absurd b (by omega), Or.inl rfl⟩
  | succ n ih =>
    obtain ⟨h1, h2, h3⟩ := ih
    by_cases ho : ok n = true
    · have e : lmN val ok (n + 1) = min (lmN val ok n) (val n) := if_pos ho
      rw [e]
      refine ⟨by omega, fun j a b c => ?_, ?_⟩
      · by_cases hj : j = n
        · rw [hj]; omega
        · have := h2 j a (by omega) c; omega
      · by_cases hm : lmN val ok n ≤ val n
        · rw [show min (lmN val ok n) (val n) = lmN val ok n by omega]
          rcases h3 with h3 | ⟨j, a, b, c, d⟩
          · exact Or.inl h3
          · exact Or.inr ⟨j, a, by omega, c, d⟩
        · exact Or.inr ⟨n, by omega, by omega, ho, by omega⟩
    · have e : lmN val ok (n + 1) = lmN val ok n := if_neg ho
      rw [e]
      refine ⟨h1, fun j a b c => ?_, ?_⟩
      · by_cases hj : j = n
        · rw [hj] at c; exact absurd c ho
        · exact h2 j a (by omega) c
      · rcases h3 with h3 | ⟨j, a, b, c, d⟩
        · exact Or.inl h3
        · exact Or.inr ⟨j, a, by omega, c, d⟩
theorem lmI_rg {val : Int → Int} {ok : Int → Bool} {c : Int} (h : ∀ j, 0 ≤ j → j < c → 0 ≤ val j) : 0 ≤ lmI val ok c ∧ lmI val ok c ≤ 99 := by
  obtain ⟨h1, _, h3⟩ := lmN_spec (val := val) (ok := ok) c.toNat
  refine ⟨?_, h1⟩
  rcases h3 with h3 | ⟨j, a, b, _, d⟩
  · show 0 ≤ lmN val ok c.toNat; omega
  · show 0 ≤ lmN val ok c.toNat; have := h j a (by omega); omega
theorem lm_ls {w li : Int} {ro sd ne val cst : Int → Int} {ok okr : Int → Bool} (hl : lOk w (mPow w) li ro sd ne) (hf : ∀ r, mFit w r r = false → cst r = 1000) (hc : ∀ r, 0 ≤ cst r ∧ (cst r = 1000 ∨ cst r ≤ 24)) (hv : ∀ j, 0 ≤ j → j < li → val j = min 99 (cst (ro j))) (ho : ∀ j, 0 ≤ j → j < li → ok j = okr (ro j)) : lmI val ok li = min 99 (lsI cst okr (mPow w)) := by
  obtain ⟨l1, l2, l3, l4, l5⟩ := hl
  obtain ⟨a1, a2, a3⟩ := lmN_spec (val := val) (ok := ok) li.toNat
  obtain ⟨b1, b2, b3⟩ := lsN_spec (cst := cst) (ok := okr) (mPow w).toNat
  show lmN val ok li.toNat = min 99 (lsN cst okr (mPow w).toNat)
  have hA : lmN val ok li.toNat ≤ min 99 (lsN cst okr (mPow w).toNat) := by
    by_cases h : lsN cst okr (mPow w).toNat < 1000
    · obtain ⟨r, c1, c2, c3, c4⟩ := b2 h
      have hr : mFit w r r = true := by
        cases hq : mFit w r r with
        | true => rfl
        | false => exfalso; have := hf r hq; omega
      obtain ⟨j, d1, d2, d3⟩ := l5 r c1 (by omega) hr
      have h6 := a2 j d1 (by omega) (by rw [ho j d1 d2, d3]; exact c3)
      rw [hv j d1 d2, d3] at h6
      omega
    · omega
  have hB : min 99 (lsN cst okr (mPow w).toNat) ≤ lmN val ok li.toNat := by
    rcases a3 with a3 | ⟨j, c1, c2, c3, c4⟩
    · omega
    · have d := hv j c1 (by omega)
      have h3 := l3 j c1 (by omega)
      rw [ho j c1 (by omega)] at c3
      have h7 := b3 (ro j) h3.1.1 (by omega) c3
      have h8 := hc (ro j)
      omega
  omega
/-- the fewest changes from row y0 on are laid -/
def fwOk (s fw : Int → Int) (li : Int) (ro : Int → Int) (y0 : Int) : Prop := ∀ y j : Int, y0 ≤ y → 0 ≤ y → y < s 1 → 0 ≤ j → j < li → fw (y * 68 + j) = min 99 (mCst s y (ro j))
def fwR (fw : Int → Int) : Prop := ∀ j, 0 ≤ j → j < 408 → 0 ≤ fw j ∧ fw j ≤ 99
theorem fwR_uz {fw : Int → Int} {k v : Int} (h : fwR fw) (hv : 0 ≤ v ∧ v ≤ 99) : fwR (uz fw k v) := by
  intro j a b
  by_cases hj : j = k
  · rw [hj, uz_s]; exact hv
  · rw [uz_n hj]; exact h j a b
theorem mCst_no {s : Int → Int} {y r : Int} (hy : y < s 1) (h : mFit (s 0) r r = false) : mCst s y r = 1000 := by
  rw [mCst_eq hy, if_neg]
  intro q
  have := ((mMay_eq s y r).mp q).2
  rw [h] at this
  exact absurd this (by decide)
/-- the fewest of row y and below it, by what is near above -/
theorem lm_bb {s fw ro sd ne : Int → Int} {li y r : Int} (h0 : 1 ≤ s 0 ∧ s 0 ≤ 4) (h1 : 1 ≤ s 1 ∧ s 1 ≤ 6) (hl : lOk (s 0) (mPow (s 0)) li ro sd ne) (hy : 0 ≤ y ∧ y + 1 < s 1) (hf : fwOk s fw li ro (y + 1)) : lmI (fun j => fw ((y + 1) * 68 + j)) (fun j => gMeet (sd j) (gNe (s 0) r)) li = min 99 (mBB s y r) := by
  unfold mBB
  rw [if_neg (by omega)]
  exact lm_ls hl (fun q hq => mCst_no (by omega) hq) (fun q => mCst_rg h0 h1 _ _ (by omega)) (fun j a b => hf (y + 1) j (by omega) (by omega) (by omega) a b) (fun j a b => by show gMeet (sd j) _ = _; rw [(hl.2.2.1 j a b).2.2.1, gMeet_fit h0])
theorem gMeet_any {w r : Int} : gMeet (gSd w r) 65535 = true := by
  refine (gMeet_iff (gB_16 (gSdB w r)) (by decide)).mpr ?_
  intro k hk _
  have : ∀ k : Nat, k < 16 → (65535 : Int).toNat.testBit k = true := by decide
  exact this k hk
theorem lm_all {s fw ro sd ne : Int → Int} {li : Int} (h0 : 1 ≤ s 0 ∧ s 0 ≤ 4) (h1 : 1 ≤ s 1 ∧ s 1 ≤ 6) (hl : lOk (s 0) (mPow (s 0)) li ro sd ne) (hf : fwOk s fw li ro 0) : lmI (fun j => fw (0 * 68 + j)) (fun j => gMeet (sd j) 65535) li = min 99 (mAll s) := by
  exact lm_ls hl (fun q hq => mCst_no (by omega) hq) (fun q => mCst_rg h0 h1 _ _ (by omega)) (fun j a b => hf 0 j (by omega) (by omega) (by omega) a b) (fun j a b => by show gMeet (sd j) _ = _; rw [(hl.2.2.1 j a b).2.2.1, gMeet_any])
theorem fw_from {s : Int → Int} {y r own : Int} (h0 : 1 ≤ s 0 ∧ s 0 ≤ 4) (h1 : 1 ≤ s 1 ∧ s 1 ≤ 6) (hy : 0 ≤ y ∧ y < s 1) (hr : mFit (s 0) r r = true) (ho : own = if mFr s y r = true then mChg s y r else 99) : (own ≥ 99 → own = min 99 (mCst s y r)) ∧ (own < 99 → y + 1 ≥ s 1 → own = min 99 (mCst s y r)) ∧ (own < 99 → min 99 (own + min 99 (mBB s y r)) = min 99 (mCst s y r)) ∧ 0 ≤ own ∧ own ≤ 99 := by
  have h2 := mChg_rg h0 y r
  have h3 := mCst_eq (s := s) (y := y) (row := r) hy.2
  have h4 := mBB_rg h0 h1 y r hy.1
  have h5 := mCst_rg h0 h1 y r hy.1
  by_cases hf : mFr s y r = true
  · rw [if_pos hf] at ho
    rw [if_pos ((mMay_eq s y r).mpr ⟨hf, hr⟩)] at h3
    refine ⟨by omega, fun _ q => ?_, fun _ => ?_, by omega, by omega⟩
    · have h6 : mBB s y r = 0 := by unfold mBB; rw [if_pos (by omega)]
      rw [h6, if_neg (by decide)] at h3
      omega
    · by_cases hb : mBB s y r = 1000
      · rw [if_pos hb] at h3; omega
      · rw [if_neg hb] at h3; omega
  · rw [if_neg hf] at ho
    rw [if_neg (fun q => hf ((mMay_eq s y r).mp q).1)] at h3
    exact ⟨by omega, by omega, by omega, by omega, by omega⟩
