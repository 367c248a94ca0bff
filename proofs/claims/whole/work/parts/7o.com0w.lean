/-! the class's reading against the reference's -/
section
variable {tx : Int → Int} {ty : Int}
theorem gT_lt {f : Int} (h : f < ty) : gTo tx ty f = mTo tx ty f := if_pos h
theorem mAt_ge (htx : ∀ j, 0 ≤ tx j ∧ tx j < 256) {x : Int} (h : x < ty) : 0 ≤ mAt tx ty x ∧ mAt tx ty x = tx x := by
  have e : mAt tx ty x = tx x := if_pos h
  have := htx x
  omega
theorem mAt_end {x : Int} (h : ty ≤ x) : mAt tx ty x = -1 := if_neg (by omega)
theorem mTk_5 {f : Int} : mTk tx ty f = 5 ↔ mAt tx ty f = 59 := by
  unfold mTk mWord
  constructor
  · intro h
    repeat (first | omega | split at h)
  · intro h
    rw [if_neg (by omega), if_neg (by omega), if_neg (by omega), if_pos h]
theorem mTk_f {f : Int} (h : 48 ≤ mAt tx ty f ∧ mAt tx ty f ≤ 57) : mTk tx ty f = 4 := by
  unfold mTk
  rw [if_neg (by omega), if_pos h]
theorem mTk_w {f : Int} (h : mTk tx ty f = 1 ∨ mTk tx ty f = 2 ∨ mTk tx ty f = 3) : 97 ≤ mAt tx ty f ∧ mAt tx ty f ≤ 122 := by
  refine Classical.byContradiction (fun hn => ?_)
  unfold mTk at h
  rw [if_neg hn] at h
  by_cases h1 : mAt tx ty f < 0
  · rw [if_pos h1] at h; omega
  · rw [if_neg h1] at h
    by_cases h2 : 48 ≤ mAt tx ty f ∧ mAt tx ty f ≤ 57
    · rw [if_pos h2] at h; omega
    · rw [if_neg h2] at h
      by_cases h3 : mAt tx ty f = 59
      · rw [if_pos h3] at h; omega
      · rw [if_neg h3] at h; omega
theorem gWd_iff {f tt : Int} {wi : Nat} : gWd tx ty f tt wi = true ↔ tt - f = wdN wi ∧ ∀ j, 0 ≤ j → j < wdN wi → gAt tx ty (f + j) = wdC wi j := by
  unfold gWd
  rw [Bool.and_eq_true, decide_eq_true_eq, alI_iff]
  exact ⟨fun h => ⟨h.1, fun j a b => of_decide_eq_true (h.2 j a b)⟩, fun h => ⟨h.1, fun j a b => decide_eq_true (h.2 j a b)⟩⟩
theorem all3 {P : Int → Prop} : (∀ j, 0 ≤ j → j < 3 → P j) ↔ P 0 ∧ P 1 ∧ P 2 := by
  constructor
  · intro h; exact ⟨h 0 (by decide) (by decide), h 1 (by decide) (by decide), h 2 (by decide) (by decide)⟩
  · rintro ⟨a, b, c⟩ j h1 h2
    rcases (show j = 0 ∨ j = 1 ∨ j = 2 by omega) with rfl | rfl | rfl <;> assumption
theorem all6 {P : Int → Prop} : (∀ j, 0 ≤ j → j < 6 → P j) ↔ P 0 ∧ P 1 ∧ P 2 ∧ P 3 ∧ P 4 ∧ P 5 := by
  constructor
  · intro h; exact ⟨h 0 (by decide) (by decide), h 1 (by decide) (by decide), h 2 (by decide) (by decide), h 3 (by decide) (by decide), h 4 (by decide) (by decide), h 5 (by decide) (by decide)⟩
  · rintro ⟨a, b, c, d, e, f⟩ j h1 h2
    rcases (show j = 0 ∨ j = 1 ∨ j = 2 ∨ j = 3 ∨ j = 4 ∨ j = 5 by omega) with rfl | rfl | rfl | rfl | rfl | rfl <;> assumption
theorem gWd_0 {f tt : Int} (hf : 0 ≤ f ∧ tt ≤ ty) : gWd tx ty f tt 0 = true ↔ tt - f = 3 ∧ mAt tx ty f = 114 ∧ mAt tx ty (f + 1) = 111 ∧ mAt tx ty (f + 2) = 119 := by
  rw [gWd_iff]
  refine and_congr_right (fun h => ?_)
  have h : tt - f = 3 := h
  show (∀ j, 0 ≤ j → j < 3 → gAt tx ty (f + j) = wdC 0 j) ↔ _
  rw [all3, gAt_in (by omega), gAt_in (by omega), gAt_in (by omega), Int.add_zero]
  exact Iff.rfl
theorem gWd_1 {f tt : Int} (hf : 0 ≤ f ∧ tt ≤ ty) : gWd tx ty f tt 1 = true ↔ tt - f = 3 ∧ mAt tx ty f = 102 ∧ mAt tx ty (f + 1) = 105 ∧ mAt tx ty (f + 2) = 120 := by
  rw [gWd_iff]
  refine and_congr_right (fun h => ?_)
  have h : tt - f = 3 := h
  show (∀ j, 0 ≤ j → j < 3 → gAt tx ty (f + j) = wdC 1 j) ↔ _
  rw [all3, gAt_in (by omega), gAt_in (by omega), gAt_in (by omega), Int.add_zero]
  exact Iff.rfl
theorem gWd_2 {f tt : Int} (hf : 0 ≤ f ∧ tt ≤ ty) : gWd tx ty f tt 2 = true ↔ tt - f = 6 ∧ mAt tx ty f = 98 ∧ mAt tx ty (f + 1) = 101 ∧ mAt tx ty (f + 2) = 121 ∧ mAt tx ty (f + 3) = 111 ∧ mAt tx ty (f + 4) = 110 ∧ mAt tx ty (f + 5) = 100 := by
  rw [gWd_iff]
  refine and_congr_right (fun h => ?_)
  have h : tt - f = 6 := h
  show (∀ j, 0 ≤ j → j < 6 → gAt tx ty (f + j) = wdC 2 j) ↔ _
  rw [all6, gAt_in (by omega), gAt_in (by omega), gAt_in (by omega), gAt_in (by omega), gAt_in (by omega), gAt_in (by omega), Int.add_zero]
  exact Iff.rfl
theorem gK_w {f tt : Int} (hf : 0 ≤ f ∧ tt ≤ ty) : gK tx ty f tt = mWord tx ty f tt := by
  unfold gK mWord
  by_cases h0 : gWd tx ty f tt 0 = true
  · rw [if_pos h0, if_pos ((gWd_0 hf).mp h0)]
  · rw [if_neg h0, if_neg (fun q => h0 ((gWd_0 hf).mpr q))]
    by_cases h1 : gWd tx ty f tt 1 = true
    · rw [if_pos h1, if_pos ((gWd_1 hf).mp h1)]
    · rw [if_neg h1, if_neg (fun q => h1 ((gWd_1 hf).mpr q))]
      by_cases h2 : gWd tx ty f tt 2 = true
      · rw [if_pos h2, if_pos ((gWd_2 hf).mp h2)]
      · rw [if_neg h2, if_neg (fun q => h2 ((gWd_2 hf).mpr q))]
theorem gK_k {f : Int} (hf : 0 ≤ f ∧ f < ty) : (gK tx ty f (gTo tx ty f) = 1 ↔ mTk tx ty f = 1) ∧ (gK tx ty f (gTo tx ty f) = 2 ↔ mTk tx ty f = 2) ∧ (gK tx ty f (gTo tx ty f) = 3 ↔ mTk tx ty f = 3) := by
  have hr := mTo_rg (tx := tx) (ty := ty) (f := f) (by omega)
  rw [gT_lt hf.2, gK_w ⟨hf.1, hr.2⟩]
  by_cases hl : 97 ≤ mAt tx ty f ∧ mAt tx ty f ≤ 122
  · have e1 : mTo tx ty f = mRun tx ty 97 122 f := by unfold mTo; rw [if_neg (by omega), if_neg (by omega), if_pos hl]
    have e2 : mTk tx ty f = mWord tx ty f (mRun tx ty 97 122 f) := by unfold mTk; rw [if_neg (by omega), if_neg (by omega), if_pos hl]
    rw [e1, e2]
    exact ⟨Iff.rfl, Iff.rfl, Iff.rfl⟩
  · have hn : mWord tx ty f (mTo tx ty f) = 6 := by
      unfold mWord
      rw [if_neg (by omega), if_neg (by omega), if_neg (by omega)]
    have hk : ¬ (mTk tx ty f = 1 ∨ mTk tx ty f = 2 ∨ mTk tx ty f = 3) := fun q => hl (mTk_w q)
    rw [hn]
    omega
theorem gFg_m {f be : Int} (hf : 0 ≤ f ∧ f < ty) : decide (0 ≤ gFg tx ty f (gTo tx ty f) ∧ gFg tx ty f (gTo tx ty f) < be) = mFg tx ty f be ∧ (mFg tx ty f be = true → gFg tx ty f (gTo tx ty f) = mAt tx ty f - 48) := by
  rw [gT_lt hf.2]
  unfold gFg mFg
  rw [gAt_in hf]
  by_cases h : mTo tx ty f - f = 1 ∧ gSort (mAt tx ty f) = 1
  · rw [if_pos h]
    have h2 := gSort_1.mp h.2
    have h3 := mTk_f h2
    refine ⟨?_, fun _ => rfl⟩
    congr 1
    apply propext
    omega
  · rw [if_neg h]
    have hno : ¬ (mTk tx ty f = 4 ∧ mTo tx ty f - f = 1 ∧ mAt tx ty f - 48 < be) := fun q => h ⟨q.2.1, gSort_1.mpr ⟨(mTk_4 q.1).1, (mTk_4 q.1).2.1⟩⟩
    rw [decide_eq_false hno]
    exact ⟨decide_eq_false (by omega), fun q => by cases q⟩
theorem gRw_m {f rt : Int} {d dr : Int → Int} (htx : ∀ j, 0 ≤ tx j ∧ tx j < 256) (hf : 0 ≤ f ∧ f < ty) (hrt : rt = dr 1 ∧ 0 ≤ rt) (hd : 0 < rt → d 0 = dr 0) : gRwB tx ty f (gTo tx ty f) rt d = mRowOk tx ty dr f := by
  rw [gT_lt hf.2]
  have hr := mTo_rg (tx := tx) (ty := ty) (f := f) (by omega)
  have iff : gRwB tx ty f (mTo tx ty f) rt d = true ↔ mRowOk tx ty dr f = true := by
    constructor
    · intro h
      unfold gRwB at h
      rw [Bool.and_eq_true, decide_eq_true_eq] at h
      have ha := alI_iff.mp h.2
      have h0 : mTk tx ty f ≠ 0 := fun q => absurd (mTk_0.mp q) (by have := (mAt_ge htx hf.2).1; omega)
      have hgt := mTo_gt (by omega) h0
      have h1 := of_decide_eq_true (ha 0 (by omega) (by omega))
      rw [Int.add_zero, gAt_in hf] at h1
      have h4 := mTk_f (tx := tx) (ty := ty) (f := f) (by omega)
      unfold mRowOk mRowA
      rw [Bool.and_eq_true, decide_eq_true_eq]
      refine ⟨⟨h4, by omega, ?_⟩, alI_iff.mpr (fun j a b => ?_)⟩
      · rcases h.1.2 with q | q
        · left; omega
        · by_cases hr0 : 0 < rt
          · right; rw [q, hd hr0]
          · left; omega
      · have := of_decide_eq_true (ha j a b)
        rw [gAt_in (by omega)] at this
        exact decide_eq_true (by omega)
    · intro h
      obtain ⟨r1, r2, r3, r4⟩ := mRowOk_spec h
      unfold gRwB
      rw [Bool.and_eq_true, decide_eq_true_eq]
      refine ⟨⟨r2.2, ?_⟩, alI_iff.mpr (fun j a b => ?_)⟩
      · rcases r3 with q | q
        · left; omega
        · by_cases hr0 : 0 < rt
          · right; rw [hd hr0]; exact q
          · left; omega
      · have := r4 j a b
        rw [gAt_in (by omega)]
        exact decide_eq_true (by omega)
  cases h1 : gRwB tx ty f (mTo tx ty f) rt d <;> cases h2 : mRowOk tx ty dr f <;> simp_all
end
