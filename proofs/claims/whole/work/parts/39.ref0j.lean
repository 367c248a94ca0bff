theorem alI_mono {f : Int → Bool} {m n : Int} (h : m ≤ n) (ha : alI f n = true) : alI f m = true := alI_iff.mpr (fun j a b => alI_iff.mp ha j a (by omega))
theorem and_al_f {i0 : Bool} {f : Int → Bool} {m n : Int} (h : (i0 && alI f m) = false) (hm : m ≤ n) : (i0 && alI f n) = false := by
  cases i0 with
  | false => rfl
  | true =>
    cases ha : alI f n with
    | false => rfl
    | true =>
      rw [alI_mono hm ha] at h
      cases h
theorem mul_rg {n d : Int} (hn : 1 ≤ n ∧ n ≤ 4) (hd : 0 ≤ d ∧ d ≤ 5) : 0 ≤ n * d ∧ n * d ≤ 20 := by
  rcases (show n = 1 ∨ n = 2 ∨ n = 3 ∨ n = 4 by omega) with rfl | rfl | rfl | rfl <;> omega
/-- where the token in hand begins, the fault, the draft, whether a fix and a beyond was told -/
abbrev RR : Type := Int × Int × (Int → Int) × Bool × Bool
def pMid (tx : Int → Int) (ty : Int) (r : RR) : RR :=
  if mTk tx ty r.1 = 1 then ((pRow tx ty r.1 r.2.1 r.2.2.1 r.2.2.2.1).1, (pRow tx ty r.1 r.2.1 r.2.2.1 r.2.2.2.1).2.1, (pRow tx ty r.1 r.2.1 r.2.2.1 r.2.2.2.1).2.2, r.2.2.2.1, r.2.2.2.2)
  else if mTk tx ty r.1 = 2 then ((pFix tx ty r.1 r.2.1 r.2.2.1).1, (pFix tx ty r.1 r.2.1 r.2.2.1).2.1, (pFix tx ty r.1 r.2.1 r.2.2.1).2.2, true, r.2.2.2.2)
  else if mTk tx ty r.1 = 3 then ((pOut tx ty r.1 r.2.1 r.2.2.1 r.2.2.2.2).1, (pOut tx ty r.1 r.2.1 r.2.2.1 r.2.2.2.2).2.1, (pOut tx ty r.1 r.2.1 r.2.2.1 r.2.2.2.2).2.2, r.2.2.2.1, true)
  else ((pT tx ty (r.1, r.2.1) false).1, (pT tx ty (r.1, r.2.1) false).2, r.2.2.1, r.2.2.2.1, r.2.2.2.2)
def pItem (tx : Int → Int) (ty : Int) (r : RR) : RR := ((pT tx ty ((pMid tx ty r).1, (pMid tx ty r).2.1) (decide (mTk tx ty (pMid tx ty r).1 = 5))).1, (pT tx ty ((pMid tx ty r).1, (pMid tx ty r).2.1) (decide (mTk tx ty (pMid tx ty r).1 = 5))).2, (pMid tx ty r).2.2)
def pDr0 (dr : Int → Int) : Int → Int := uz (cpz (fun _ => 0) dr 0 0 51) 2 (-9)
def pIt (tx : Int → Int) (ty : Int) (d0 : Int → Int) : Nat → RR
  | 0 => (mSkip tx ty 0, -9, pDr0 d0, false, false)
  | n + 1 => pItem tx ty (pIt tx ty d0 n)
def pGo (tx : Int → Int) (ty : Int) (r : RR) : Prop := r.2.1 = -9 ∧ mTk tx ty r.1 ≠ 0
def mD (dr : Int → Int) : Prop := (0 ≤ dr 0 ∧ dr 0 ≤ 4) ∧ (0 ≤ dr 1 ∧ dr 1 ≤ 6) ∧ (0 < dr 1 → 1 ≤ dr 0) ∧ (-9 ≤ dr 2 ∧ dr 2 ≤ 3) ∧ (∀ j, 3 ≤ j → j < 27 → 0 ≤ dr j ∧ dr j ≤ 3) ∧ (∀ j, 27 ≤ j → j < 51 → 0 ≤ dr j ∧ dr j ≤ 1)
theorem mD_0 (dr : Int → Int) : mD (pDr0 dr) := by
  have h : ∀ j, 0 ≤ j → j < 51 → j ≠ 2 → pDr0 dr j = 0 := fun j a b c => by unfold pDr0; rw [uz_n c, cpz_in (by omega)]
  have h2 : pDr0 dr 2 = -9 := uz_s _ _ _
  refine ⟨?_, ?_, ?_, ?_, fun j a b => ?_, fun j a b => ?_⟩
  · rw [h 0 (by decide) (by decide) (by decide)]; decide
  · rw [h 1 (by decide) (by decide) (by decide)]; decide
  · rw [h 1 (by decide) (by decide) (by decide)]; intro q; omega
  · rw [h2]; decide
  · rw [h j (by omega) (by omega) (by omega)]; decide
  · rw [h j (by omega) (by omega) (by omega)]; decide
theorem mRowOk_spec {tx : Int → Int} {ty f : Int} {dr : Int → Int} (h : mRowOk tx ty dr f = true) : mTk tx ty f = 4 ∧ (1 ≤ mTo tx ty f - f ∧ mTo tx ty f - f ≤ 4) ∧ (dr 1 = 0 ∨ mTo tx ty f - f = dr 0) ∧ ∀ j, 0 ≤ j → j < mTo tx ty f - f → 48 ≤ mAt tx ty (f + j) ∧ mAt tx ty (f + j) ≤ 51 := by
  unfold mRowOk at h
  rw [Bool.and_eq_true] at h
  have h1 := of_decide_eq_true h.1
  have h2 := alI_iff.mp h.2
  refine ⟨h1.1, h1.2.1, h1.2.2, fun j a b => ⟨?_, of_decide_eq_true (h2 j a b)⟩⟩
  have h3 := mTk_4 h1.1
  exact (mRun_in (tx := tx) (ty := ty) (lo := 48) (hi := 57) (by decide) _ f (f + j) rfl (by omega) (by rw [← h3.2.2]; omega)).1
theorem mD_row {tx : Int → Int} {ty f : Int} {dr : Int → Int} (hD : mD dr) (h5 : dr 1 < 6) (h : mRowOk tx ty dr f = true) : mD (mRowD tx ty dr f) := by
  obtain ⟨d0, d1, d01, d2, d3, d4⟩ := hD
  obtain ⟨r1, r2, r3, r4⟩ := mRowOk_spec h
  have hm := mul_rg r2 (show 0 ≤ dr 1 ∧ dr 1 ≤ 5 by omega)
  have e1 : mRowD tx ty dr f 1 = dr 1 + 1 := uz_s _ _ _
  have e0 : mRowD tx ty dr f 0 = mTo tx ty f - f := by unfold mRowD; rw [uz_n (by decide), cpz_out (by omega), uz_s]
  have e2 : mRowD tx ty dr f 2 = dr 2 := by unfold mRowD; rw [uz_n (by decide), cpz_out (by omega), uz_n (by decide)]
  refine ⟨by rw [e0]; omega, by rw [e1]; omega, by rw [e0]; intro _; omega, by rw [e2]; exact d2, fun j a b => ?_, fun j a b => ?_⟩
  · unfold mRowD
    rw [uz_n (by omega)]
    by_cases hj : 3 + (mTo tx ty f - f) * dr 1 ≤ j ∧ j < 3 + (mTo tx ty f - f) * dr 1 + (mTo tx ty f - f)
    · rw [cpz_in hj]
      have := r4 (j - (3 + (mTo tx ty f - f) * dr 1) + 0) (by omega) (by omega)
      omega
    · rw [cpz_out hj, uz_n (by omega)]
      exact d3 j a b
  · unfold mRowD
    rw [uz_n (by omega), cpz_out (by omega), uz_n (by omega)]
    exact d4 j a b
theorem mD_pRow {tx : Int → Int} {ty f fa : Int} {dr : Int → Int} {hf : Bool} (hp : pOk ty (f, fa)) (hD : mD dr) : mD (pRow tx ty f fa dr hf).2.2 := by
  unfold pRow
  dsimp only
  split
  · rename_i h
    have h1 := pT_no hp h.1
    exact mD_row hD (of_decide_eq_true h1.2.1).1 h.2
  · exact hD
theorem mD_pFix {tx : Int → Int} {ty f fa : Int} {dr : Int → Int} (hp : pOk ty (f, fa)) (hD : mD dr) : mD (pFix tx ty f fa dr).2.2 := by
  unfold pFix
  dsimp only
  split
  · rename_i h
    have hp1 := pT_ok (tx := tx) (decide (0 < dr 1)) hp
    have hp2 := pT_ok (tx := tx) (mFg tx ty (pT tx ty (f, fa) (decide (0 < dr 1))).1 (dr 0)) hp1
    have h3 := pT_no hp2 h
    have h2 := pT_no hp1 h3.1
    have g3 := of_decide_eq_true h3.2.1
    have g2 := of_decide_eq_true h2.2.1
    have k3 := mTk_4 g3.1
    have k2 := mTk_4 g2.1
    obtain ⟨d0, d1, d01, d2, d3, d4⟩ := hD
    have hix := fix_ix d0 d1 (show 0 ≤ _ ∧ _ < dr 0 from ⟨by omega, g2.2.2⟩) (show 0 ≤ _ ∧ _ < dr 1 from ⟨by omega, g3.2.2⟩)
    refine ⟨by rw [uz_n (by omega)]; exact d0, by rw [uz_n (by omega)]; exact d1, by rw [uz_n (by omega), uz_n (by omega)]; exact d01, by rw [uz_n (by omega)]; exact d2, fun j a b => by rw [uz_n (by omega)]; exact d3 j a b, fun j a b => ?_⟩
    unfold uz
    split
    · decide
    · exact d4 j a b
  · exact hD
theorem mD_pOut {tx : Int → Int} {ty f fa : Int} {dr : Int → Int} {ho : Bool} (hp : pOk ty (f, fa)) (hD : mD dr) : mD (pOut tx ty f fa dr ho).2.2 := by
  unfold pOut
  dsimp only
  obtain ⟨d0, d1, d01, d2, d3, d4⟩ := hD
  refine ⟨by rw [uz_n (by omega)]; exact d0, by rw [uz_n (by omega)]; exact d1, by rw [uz_n (by omega), uz_n (by omega)]; exact d01, ?_, fun j a b => by rw [uz_n (by omega)]; exact d3 j a b, fun j a b => by rw [uz_n (by omega)]; exact d4 j a b⟩
  rw [uz_s]
  split
  · rename_i h
    have hp1 := pT_ok (tx := tx) (!ho) hp
    have h2 := pT_no hp1 h
    have g2 := of_decide_eq_true h2.2.1
    have k2 := mTk_4 g2.1
    have := g2.2.2
    omega
  · decide
theorem pRow_ok {tx : Int → Int} {ty f fa : Int} {dr : Int → Int} {hf : Bool} (hp : pOk ty (f, fa)) : pOk ty ((pRow tx ty f fa dr hf).1, (pRow tx ty f fa dr hf).2.1) := pT_ok _ (pT_ok _ hp)
theorem pFix_ok {tx : Int → Int} {ty f fa : Int} {dr : Int → Int} (hp : pOk ty (f, fa)) : pOk ty ((pFix tx ty f fa dr).1, (pFix tx ty f fa dr).2.1) := pT_ok _ (pT_ok _ (pT_ok _ hp))
theorem pOut_ok {tx : Int → Int} {ty f fa : Int} {dr : Int → Int} {ho : Bool} (hp : pOk ty (f, fa)) : pOk ty ((pOut tx ty f fa dr ho).1, (pOut tx ty f fa dr ho).2.1) := pT_ok _ (pT_ok _ hp)
theorem pMid_ok {tx : Int → Int} {ty : Int} {r : RR} (hp : pOk ty (r.1, r.2.1)) (hD : mD r.2.2.1) : pOk ty ((pMid tx ty r).1, (pMid tx ty r).2.1) ∧ mD (pMid tx ty r).2.2.1 := by
  unfold pMid
  split
  · exact ⟨pRow_ok hp, mD_pRow hp hD⟩
  · split
    · exact ⟨pFix_ok hp, mD_pFix hp hD⟩
    · split
      · exact ⟨pOut_ok (dr := r.2.2.1) hp, mD_pOut hp hD⟩
      · exact ⟨pT_ok _ hp, hD⟩
theorem pItem_ok {tx : Int → Int} {ty : Int} {r : RR} (hp : pOk ty (r.1, r.2.1)) (hD : mD r.2.2.1) : pOk ty ((pItem tx ty r).1, (pItem tx ty r).2.1) ∧ mD (pItem tx ty r).2.2.1 := by
  have h := pMid_ok (tx := tx) hp hD
  exact ⟨pT_ok _ h.1, h.2⟩
/-- a token that is there has a letter -/
theorem mTo_gt {tx : Int → Int} {ty f : Int} (hf : f ≤ ty) (h : mTk tx ty f ≠ 0) : f < mTo tx ty f := by
  have h0 : ¬ mAt tx ty f < 0 := fun q => h (mTk_0.mpr q)
  unfold mTo
  rw [if_neg h0]
  split
  · rename_i q
    rw [mRun_eq, if_pos q]
    have := mRun_rg (tx := tx) (ty := ty) (lo := 48) (hi := 57) (p := f + 1) (by have := mAt_lt (tx := tx) (ty := ty) (x := f) (by omega); omega)
    omega
  · split
    · rename_i q
      rw [mRun_eq, if_pos q]
      have := mRun_rg (tx := tx) (ty := ty) (lo := 97) (hi := 122) (p := f + 1) (by have := mAt_lt (tx := tx) (ty := ty) (x := f) (by omega); omega)
      omega
    · omega
/-- no fault behind an item: its first token was taken, so it went on -/
theorem pT_le {tx : Int → Int} {ty : Int} {z : Int × Int} {b : Bool} (h : pOk ty z) : z.1 ≤ (pT tx ty z b).1 := by
  unfold pT
  have h3 := mTo_rg (tx := tx) (ty := ty) (f := z.1) h.1.2
  have h4 := mSkip_rg (tx := tx) (ty := ty) (p := mTo tx ty z.1) h3.2
  split
  · split
    · show z.1 ≤ mSkip _ _ _; omega
    · exact Int.le_refl _
  · exact Int.le_refl _
theorem pT_lt {tx : Int → Int} {ty : Int} {z : Int × Int} {b : Bool} (h : pOk ty z) (hk : mTk tx ty z.1 ≠ 0) (hn : (pT tx ty z b).2 = -9) : z.1 < (pT tx ty z b).1 := by
  have h1 := pT_no h hn
  have h2 := mTo_gt h.1.2 hk
  have h3 := mTo_rg (tx := tx) (ty := ty) (f := z.1) h.1.2
  have h4 := mSkip_rg (tx := tx) (ty := ty) (p := mTo tx ty z.1) h3.2
  omega
theorem pItem_lt {tx : Int → Int} {ty : Int} {r : RR} (hp : pOk ty (r.1, r.2.1)) (hD : mD r.2.2.1) (hk : mTk tx ty r.1 ≠ 0) (hn : (pItem tx ty r).2.1 = -9) : r.1 < (pItem tx ty r).1 := by
  have hm := (pMid_ok (tx := tx) hp hD).1
  have h1 : (pMid tx ty r).2.1 = -9 := (pT_no hm hn).1
  have h2 : (pMid tx ty r).1 ≤ (pItem tx ty r).1 := pT_le hm
  have h3 : r.1 < (pMid tx ty r).1 := by
    unfold pMid at h1 ⊢
    by_cases c1 : mTk tx ty r.1 = 1
    · rw [if_pos c1] at h1 ⊢
      have p1 := pT_ok (tx := tx) (decide (r.2.2.1 1 < 6 ∧ r.2.2.2.1 = false)) hp
      have q1 := (pT_no p1 h1).1
      have q2 := pT_lt hp hk q1
      have q3 : _ ≤ (pRow tx ty r.1 r.2.1 r.2.2.1 r.2.2.2.1).1 := pT_le p1
      exact Int.lt_of_lt_of_le q2 q3
    · rw [if_neg c1] at h1 ⊢
      by_cases c2 : mTk tx ty r.1 = 2
      · rw [if_pos c2] at h1 ⊢
        have p1 := pT_ok (tx := tx) (decide (0 < r.2.2.1 1)) hp
        have p2 := pT_ok (tx := tx) (mFg tx ty (pT tx ty (r.1, r.2.1) (decide (0 < r.2.2.1 1))).1 (r.2.2.1 0)) p1
        have q1 := (pT_no p1 (pT_no p2 h1).1).1
        have q2 := pT_lt hp hk q1
        have q3 : _ ≤ _ := pT_le (tx := tx) (b := mFg tx ty (pT tx ty (r.1, r.2.1) (decide (0 < r.2.2.1 1))).1 (r.2.2.1 0)) p1
        have q4 : _ ≤ (pFix tx ty r.1 r.2.1 r.2.2.1).1 := pT_le p2
        exact Int.lt_of_lt_of_le q2 (Int.le_trans q3 q4)
      · rw [if_neg c2] at h1 ⊢
        by_cases c3 : mTk tx ty r.1 = 3
        · rw [if_pos c3] at h1 ⊢
          have p1 := pT_ok (tx := tx) (!r.2.2.2.2) hp
          have q1 := (pT_no p1 h1).1
          have q2 := pT_lt hp hk q1
          have q3 : _ ≤ (pOut tx ty r.1 r.2.1 r.2.2.1 r.2.2.2.2).1 := pT_le p1
          exact Int.lt_of_lt_of_le q2 q3
        · rw [if_neg c3] at h1 ⊢
          exact pT_lt hp hk h1
  omega
