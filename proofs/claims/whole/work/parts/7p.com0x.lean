/-- what the reference makes of the text: the fault (or -9), the items told, the draft -/
def rfR (tx : Int → Int) (ty : Int) (d0 : Int → Int) (a : Int) (n : Nat) (dd : Int → Int) : Prop := (∀ i, i < n → pGo tx ty (pIt tx ty d0 i)) ∧ ¬ pGo tx ty (pIt tx ty d0 n) ∧ a = (pT tx ty ((pIt tx ty d0 n).1, (pIt tx ty d0 n).2.1) (decide (0 < (pIt tx ty d0 n).2.2.1 1))).2 ∧ dd = (pIt tx ty d0 n).2.2.1
theorem rfR_one {tx : Int → Int} {ty : Int} {d0 : Int → Int} {a b : Int} {n m : Nat} {dd ee : Int → Int} (h : rfR tx ty d0 a n dd) (g : rfR tx ty d0 b m ee) : a = b ∧ n = m ∧ dd = ee := by
  have e : n = m := by
    rcases Nat.lt_trichotomy n m with q | q | q
    · exact absurd (g.1 n q) h.2.1
    · exact q
    · exact absurd (h.1 m q) g.2.1
  subst e
  exact ⟨by rw [h.2.2.1, g.2.2.1], rfl, by rw [h.2.2.2, g.2.2.2]⟩
def dRl (d dr : Int → Int) (rt : Int) : Prop := (∀ j, 2 ≤ j → j < 51 → d j = dr j) ∧ rt = dr 1 ∧ (0 < rt → d 0 = dr 0 ∧ d 1 = dr 1) ∧ ∀ c, 0 ≤ c → (0 < rt → d 0 * rt ≤ c) → c < 24 → d (3 + c) = 0 ∧ d (27 + c) = 0
def gPh (tx : Int → Int) (ty : Int) (r : RR) (tt du rt fc : Int) (ft bt : Bool) (d : Int → Int) : Prop :=
  (du = 0 → r.2.1 = -9 ∧ r.1 = mSkip tx ty tt ∧ dRl d r.2.2.1 rt ∧ ft = r.2.2.2.1 ∧ bt = r.2.2.2.2) ∧
  (du = 1 → pGo tx ty r ∧ mTk tx ty r.1 = 1 ∧ r.2.2.1 1 < 6 ∧ r.2.2.2.1 = false ∧ tt = mTo tx ty r.1 ∧ dRl d r.2.2.1 rt ∧ ft = r.2.2.2.1 ∧ bt = r.2.2.2.2) ∧
  (du = 2 → pGo tx ty r ∧ mTk tx ty r.1 = 2 ∧ 0 < r.2.2.1 1 ∧ tt = mTo tx ty r.1 ∧ dRl d r.2.2.1 rt ∧ ft = true ∧ bt = r.2.2.2.2) ∧
  (du = 3 → pGo tx ty r ∧ mTk tx ty r.1 = 2 ∧ 0 < r.2.2.1 1 ∧ mFg tx ty (mSkip tx ty (mTo tx ty r.1)) (r.2.2.1 0) = true ∧ fc = mAt tx ty (mSkip tx ty (mTo tx ty r.1)) - 48 ∧ tt = mTo tx ty (mSkip tx ty (mTo tx ty r.1)) ∧ dRl d r.2.2.1 rt ∧ ft = true ∧ bt = r.2.2.2.2) ∧
  (du = 4 → pGo tx ty r ∧ mTk tx ty r.1 = 3 ∧ r.2.2.2.2 = false ∧ tt = mTo tx ty r.1 ∧ dRl d r.2.2.1 rt ∧ ft = r.2.2.2.1 ∧ bt = true) ∧
  (du = 5 → pGo tx ty r ∧ (pMid tx ty r).2.1 = -9 ∧ (pMid tx ty r).1 = mSkip tx ty tt ∧ dRl d (pMid tx ty r).2.2.1 rt ∧ ft = (pMid tx ty r).2.2.2.1 ∧ bt = (pMid tx ty r).2.2.2.2)
def gIv (tx : Int → Int) (ty : Int) (d0 : Int → Int) (n : Nat) (tok tt du it rt fc : Int) (ft bt : Bool) (d : Int → Int) : Prop :=
  mS d ∧ (0 ≤ tok ∧ tok ≤ tt ∧ tt ≤ ty) ∧ it = (n : Int) ∧ it ≤ tt ∧ (∀ i, i < n → pGo tx ty (pIt tx ty d0 i)) ∧ (0 ≤ rt ∧ rt ≤ 6) ∧ (0 ≤ du ∧ du ≤ 5) ∧ (-2147483648 ≤ fc ∧ fc < 2147483648) ∧ gPh tx ty (pIt tx ty d0 n) tt du rt fc ft bt d
section
variable {tx : Int → Int} {ty : Int} {d0 : Int → Int}
theorem pIt_ok (hty : 0 ≤ ty) : ∀ n : Nat, pOk ty ((pIt tx ty d0 n).1, (pIt tx ty d0 n).2.1) ∧ mD (pIt tx ty d0 n).2.2.1 := by
  intro n
  induction n with
  | zero =>
    have := mSkip_rg (tx := tx) (ty := ty) (p := 0) hty
    exact ⟨⟨⟨by show 0 ≤ mSkip tx ty 0; omega, this.2⟩, Or.inl rfl⟩, mD_0 d0⟩
  | succ n ih => exact pItem_ok ih.1 ih.2
/-- an item that faults -/
theorem rf_item {n : Nat} {v : Int} (hn : ∀ i, i < n → pGo tx ty (pIt tx ty d0 i)) (hg : pGo tx ty (pIt tx ty d0 n)) (hv : 0 ≤ v) (he : (pItem tx ty (pIt tx ty d0 n)).2.1 = v) : ∃ (m : Nat) (dd : Int → Int), rfR tx ty d0 v m dd := by
  have e1 : (pIt tx ty d0 (n + 1)).2.1 = v := he
  refine ⟨n + 1, (pIt tx ty d0 (n + 1)).2.2.1, fun i hi => ?_, fun q => ?_, ?_, rfl⟩
  · by_cases h : i = n
    · rw [h]; exact hg
    · exact hn i (by omega)
  · have := q.1; omega
  · rw [pT_f (by show (pIt tx ty d0 (n + 1)).2.1 ≠ -9; omega)]
    exact e1.symm
theorem rf_mid {n : Nat} {v : Int} (hn : ∀ i, i < n → pGo tx ty (pIt tx ty d0 i)) (hg : pGo tx ty (pIt tx ty d0 n)) (hv : 0 ≤ v) (he : (pMid tx ty (pIt tx ty d0 n)).2.1 = v) : ∃ (m : Nat) (dd : Int → Int), rfR tx ty d0 v m dd := by
  refine rf_item hn hg hv ?_
  unfold pItem
  rw [pT_f (by show (pMid tx ty (pIt tx ty d0 n)).2.1 ≠ -9; omega)]
  exact he
/-- each way through an item -/
theorem mid_1 {r : RR} (hg : r.2.1 = -9) (hk : mTk tx ty r.1 = 1) : (¬ (r.2.2.1 1 < 6 ∧ r.2.2.2.1 = false) → 0 ≤ r.1 → (pMid tx ty r).2.1 = r.1) ∧ (r.2.2.1 1 < 6 ∧ r.2.2.2.1 = false → (mRowOk tx ty r.2.2.1 (mSkip tx ty (mTo tx ty r.1)) = false → 0 ≤ mSkip tx ty (mTo tx ty r.1) → (pMid tx ty r).2.1 = mSkip tx ty (mTo tx ty r.1)) ∧ (mRowOk tx ty r.2.2.1 (mSkip tx ty (mTo tx ty r.1)) = true → pMid tx ty r = (mSkip tx ty (mTo tx ty (mSkip tx ty (mTo tx ty r.1))), -9, mRowD tx ty r.2.2.1 (mSkip tx ty (mTo tx ty r.1)), r.2.2.2.1, r.2.2.2.2))) := by
  refine ⟨fun h h0 => ?_, fun h => ⟨fun h2 h0 => ?_, fun h2 => ?_⟩⟩
  · unfold pMid pRow
    rw [if_pos hk, decide_eq_false h]
    dsimp only
    rw [pT_n (z := (r.1, r.2.1)) hg, pT_f (by show r.1 ≠ -9; omega)]
  · unfold pMid pRow
    rw [if_pos hk, decide_eq_true h]
    dsimp only
    rw [pT_y (z := (r.1, r.2.1)) hg]
    dsimp only
    rw [h2, pT_n rfl]
  · unfold pMid pRow
    rw [if_pos hk, decide_eq_true h]
    dsimp only
    rw [pT_y (z := (r.1, r.2.1)) hg]
    dsimp only
    rw [h2, pT_y rfl, if_pos ⟨rfl, rfl⟩]
theorem mid_2 {r : RR} (hg : r.2.1 = -9) (hk : mTk tx ty r.1 = 2) : (¬ 0 < r.2.2.1 1 → 0 ≤ r.1 → (pMid tx ty r).2.1 = r.1) ∧ (0 < r.2.2.1 1 → (mFg tx ty (mSkip tx ty (mTo tx ty r.1)) (r.2.2.1 0) = false → 0 ≤ mSkip tx ty (mTo tx ty r.1) → (pMid tx ty r).2.1 = mSkip tx ty (mTo tx ty r.1)) ∧ (mFg tx ty (mSkip tx ty (mTo tx ty r.1)) (r.2.2.1 0) = true →
    (mFg tx ty (mSkip tx ty (mTo tx ty (mSkip tx ty (mTo tx ty r.1)))) (r.2.2.1 1) = false → (pMid tx ty r).2.1 = mSkip tx ty (mTo tx ty (mSkip tx ty (mTo tx ty r.1)))) ∧
    (mFg tx ty (mSkip tx ty (mTo tx ty (mSkip tx ty (mTo tx ty r.1)))) (r.2.2.1 1) = true → pMid tx ty r = (mSkip tx ty (mTo tx ty (mSkip tx ty (mTo tx ty (mSkip tx ty (mTo tx ty r.1))))), -9, uz r.2.2.1 (27 + r.2.2.1 0 * (mAt tx ty (mSkip tx ty (mTo tx ty (mSkip tx ty (mTo tx ty r.1)))) - 48) + (mAt tx ty (mSkip tx ty (mTo tx ty r.1)) - 48)) 1, true, r.2.2.2.2)))) := by
  have hk1 : ¬ mTk tx ty r.1 = 1 := by omega
  refine ⟨fun h h0 => ?_, fun h => ⟨fun h2 h0 => ?_, fun h2 => ⟨fun h3 => ?_, fun h3 => ?_⟩⟩⟩
  · unfold pMid pFix
    rw [if_neg hk1, if_pos hk, decide_eq_false h]
    dsimp only
    rw [pT_n (z := (r.1, r.2.1)) hg, pT_f (z := (r.1, r.1)) (by show r.1 ≠ -9; omega), pT_f (z := (r.1, r.1)) (by show r.1 ≠ -9; omega)]
  · unfold pMid pFix
    rw [if_neg hk1, if_pos hk, decide_eq_true h]
    dsimp only
    rw [pT_y (z := (r.1, r.2.1)) hg]
    dsimp only
    rw [h2, pT_n rfl]
    dsimp only
    rw [pT_f (by show mSkip tx ty (mTo tx ty r.1) ≠ -9; omega)]
  · unfold pMid pFix
    rw [if_neg hk1, if_pos hk, decide_eq_true h]
    dsimp only
    rw [pT_y (z := (r.1, r.2.1)) hg]
    dsimp only
    rw [h2, pT_y rfl]
    dsimp only
    rw [h3, pT_n rfl]
  · unfold pMid pFix
    rw [if_neg hk1, if_pos hk, decide_eq_true h]
    dsimp only
    rw [pT_y (z := (r.1, r.2.1)) hg]
    dsimp only
    rw [h2, pT_y rfl]
    dsimp only
    rw [h3, pT_y rfl, if_pos rfl]
theorem mid_3 {r : RR} (hg : r.2.1 = -9) (hk : mTk tx ty r.1 = 3) : (r.2.2.2.2 = true → 0 ≤ r.1 → (pMid tx ty r).2.1 = r.1) ∧ (r.2.2.2.2 = false → (mFg tx ty (mSkip tx ty (mTo tx ty r.1)) 4 = false → (pMid tx ty r).2.1 = mSkip tx ty (mTo tx ty r.1)) ∧ (mFg tx ty (mSkip tx ty (mTo tx ty r.1)) 4 = true → pMid tx ty r = (mSkip tx ty (mTo tx ty (mSkip tx ty (mTo tx ty r.1))), -9, uz r.2.2.1 2 (mAt tx ty (mSkip tx ty (mTo tx ty r.1)) - 48), r.2.2.2.1, true))) := by
  have hk1 : ¬ mTk tx ty r.1 = 1 := by omega
  have hk2 : ¬ mTk tx ty r.1 = 2 := by omega
  refine ⟨fun h h0 => ?_, fun h => ⟨fun h2 => ?_, fun h2 => ?_⟩⟩
  · unfold pMid pOut
    rw [if_neg hk1, if_neg hk2, if_pos hk, h]
    dsimp only
    rw [show (!true) = false from rfl, pT_n (z := (r.1, r.2.1)) hg, pT_f (z := (r.1, r.1)) (by show r.1 ≠ -9; omega)]
  · unfold pMid pOut
    rw [if_neg hk1, if_neg hk2, if_pos hk, h]
    dsimp only
    rw [show (!false) = true from rfl, pT_y (z := (r.1, r.2.1)) hg]
    dsimp only
    rw [h2, pT_n rfl]
  · unfold pMid pOut
    rw [if_neg hk1, if_neg hk2, if_pos hk, h]
    dsimp only
    rw [show (!false) = true from rfl, pT_y (z := (r.1, r.2.1)) hg]
    dsimp only
    rw [h2, pT_y rfl, if_pos rfl]
theorem mid_0 {r : RR} (hg : r.2.1 = -9) (h1 : mTk tx ty r.1 ≠ 1) (h2 : mTk tx ty r.1 ≠ 2) (h3 : mTk tx ty r.1 ≠ 3) : (pMid tx ty r).2.1 = r.1 := by
  unfold pMid
  rw [if_neg h1, if_neg h2, if_neg h3, pT_n (z := (r.1, r.2.1)) hg]
end
