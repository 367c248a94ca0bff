/-! what fits, what changes -/
theorem gB_16 (p : Int → Bool) : 0 ≤ gBits p 16 ∧ gBits p 16 < 65536 := gBits_rg p 16
theorem gSd_0 (r : Int) : gSd 0 r = 0 := by
  have h : ∀ n : Nat, gBits (gSdB 0 r) n = 0 := by
    intro n
    induction n with
    | zero => rfl
    | succ n ih =>
      show gBits (gSdB 0 r) n + (if gSdB 0 r n = true then (2 : Int) ^ n else 0) = 0
      rw [ih, if_neg (by unfold gSdB; rw [decide_eq_true_eq]; omega)]
      rfl
  exact h 16
theorem gNb_0 (r : Int) : gNb 0 r = 0 := by
  have h : ∀ n : Nat, gBits (gNbB 0 r) n = 0 := by
    intro n
    induction n with
    | zero => rfl
    | succ n ih =>
      show gBits (gNbB 0 r) n + (if gNbB 0 r n = true then (2 : Int) ^ n else 0) = 0
      rw [ih, if_neg (by unfold gNbB; rw [Bool.and_eq_true, decide_eq_true_eq]; omega)]
      rfl
  exact h 16
theorem gSd_s {i r : Int} (hi : 0 ≤ i ∧ i < 4) (hr : 0 ≤ r ∧ r < 256) : iI (gSd i r) ||| (iI 1 <<< ((iI (4 * i) + iI (gDg r i)) &&& 31)) = iI (gSd (i + 1) r) := by
  have h := gSd_dec i.toNat (by omega) r.toNat (by omega)
  rwa [Int.toNat_of_nonneg hi.1, Int.toNat_of_nonneg hr.1] at h
theorem gNb_s {i r : Int} (hi : 0 ≤ i ∧ i < 4) (hr : 0 ≤ r ∧ r < 256) : iI (gNb i r) ||| (iI (neaG (gDg r i)) <<< (iI (4 * i) &&& 31)) = iI (gNb (i + 1) r) := by
  have h := gNb_dec i.toNat (by omega) r.toNat (by omega)
  rwa [Int.toNat_of_nonneg hi.1, Int.toNat_of_nonneg hr.1] at h
theorem gNe_e {w r : Int} (hw : 1 ≤ w ∧ w ≤ 4) (hr : 0 ≤ r ∧ r < 256) : iI (gNb w r) &&& ((iI (gNb w r) <<< (iI 4 &&& 31)) ||| iI 15) &&& ((iI (gNb w r) >>> (iI 4 &&& 31)) ||| (iI 15 <<< (iI (4 * (w - 1)) &&& 31))) = iI (gNe w r) := by
  have h := gNe_dec w.toNat (by omega) (by omega) r.toNat (by omega)
  rwa [Int.toNat_of_nonneg (show 0 ≤ w by omega), Int.toNat_of_nonneg hr.1] at h
theorem mNear_c (x y : Int) : mNear x y = mNear y x := by
  unfold mNear
  by_cases h : -1 ≤ x - y ∧ x - y ≤ 1
  · rw [decide_eq_true h, decide_eq_true (by omega)]
  · rw [decide_eq_false h, decide_eq_false (by omega)]
theorem mNear_s (x : Int) : mNear x x = true := decide_eq_true (by omega)
theorem gMeet_dg {w r r2 : Int} (hw : 1 ≤ w ∧ w ≤ 4) : gMeet (gSd w r2) (gNe w r) = true ↔ ∀ i : Int, 0 ≤ i → i < w → mNear (gDg r2 i) (gDg r i) = true ∧ (i = 0 ∨ mNear (gDg r2 i) (gDg r (i - 1)) = true) ∧ (i + 1 = w ∨ mNear (gDg r2 i) (gDg r (i + 1)) = true) := by
  rw [show gMeet (gSd w r2) (gNe w r) = gMeet (gBits (gSdB w r2) 16) (gBits (gNeB w r) 16) from rfl, gMeet_iff (gB_16 _) (gB_16 _)]
  constructor
  · intro h i hi0 hi1
    have hd := gDg_rg r2 i
    have h1 := h (4 * i + gDg r2 i).toNat (by omega)
    rw [gb_bit, gb_bit, Int.toNat_of_nonneg (by omega), decide_eq_true (show (4 * i + gDg r2 i).toNat < 16 by omega), Bool.true_and, Bool.true_and] at h1
    have e1 : (4 * i + gDg r2 i) / 4 = i := by omega
    have e2 : (4 * i + gDg r2 i) % 4 = gDg r2 i := by omega
    have h2 := h1 (by unfold gSdB; rw [e1, e2]; exact decide_eq_true ⟨hi1, rfl⟩)
    unfold gNeB at h2
    rw [e1, e2] at h2
    simp only [Bool.and_eq_true, Bool.or_eq_true, decide_eq_true_eq] at h2
    exact ⟨h2.1.1.2, h2.1.2, h2.2⟩
  · intro h k hk h1
    rw [gb_bit, decide_eq_true hk, Bool.true_and] at h1 ⊢
    unfold gSdB at h1
    rw [decide_eq_true_eq] at h1
    obtain ⟨h2, h3, h4⟩ := h ((k : Int) / 4) (by omega) h1.1
    unfold gNeB
    simp only [Bool.and_eq_true, Bool.or_eq_true, decide_eq_true_eq]
    rw [h1.2]
    exact ⟨⟨⟨h1.1, h2⟩, h3⟩, h4⟩
theorem mFit_dg {w r r2 : Int} : mFit w r r2 = true ↔ ∀ i : Int, 0 ≤ i → i < w → mNear (gDg r2 i) (gDg r i) = true ∧ (i = 0 ∨ mNear (gDg r2 i) (gDg r (i - 1)) = true) ∧ (i + 1 = w ∨ mNear (gDg r2 i) (gDg r (i + 1)) = true) := by
  unfold mFit
  rw [alI_iff]
  constructor
  · intro h i hi0 hi1
    have key : ∀ x t : Int, 0 ≤ x → x < w → 0 ≤ t → t < 3 → (0 ≤ x - 1 + t ∧ x - 1 + t ≤ w - 1) → mNear (gDg r (w - 1 - x)) (gDg r2 (w - 1 - (x - 1 + t))) = true := by
      intro x t a b c d e
      have h1 := alI_iff.mp (h x a b) t c d
      unfold mFitX at h1
      rw [decide_eq_true e] at h1
      simpa [mFig_dg] using h1
    refine ⟨?_, ?_, ?_⟩
    · have := key (w - 1 - i) 1 (by omega) (by omega) (by omega) (by omega) (by omega)
      rw [mNear_c, show w - 1 - (w - 1 - i) = i by omega, show w - 1 - (w - 1 - i - 1 + 1) = i by omega] at this
      exact this
    · by_cases h0 : i = 0
      · exact Or.inl h0
      · right
        have := key (w - i) 0 (by omega) (by omega) (by omega) (by omega) (by omega)
        rw [mNear_c, show w - 1 - (w - i) = i - 1 by omega, show w - 1 - (w - i - 1 + 0) = i by omega] at this
        exact this
    · by_cases h0 : i + 1 = w
      · exact Or.inl h0
      · right
        have := key (w - 2 - i) 2 (by omega) (by omega) (by omega) (by omega) (by omega)
        rw [mNear_c, show w - 1 - (w - 2 - i) = i + 1 by omega, show w - 1 - (w - 2 - i - 1 + 2) = i by omega] at this
        exact this
  · intro h x hx0 hx1
    rw [alI_iff]
    intro t ht0 ht1
    unfold mFitX
    by_cases e : 0 ≤ x - 1 + t ∧ x - 1 + t ≤ w - 1
    · rw [decide_eq_true e, mFig_dg, mFig_dg, mNear_c]
      obtain ⟨h1, h2, h3⟩ := h (w - 1 - (x - 1 + t)) (by omega) (by omega)
      rcases (show t = 0 ∨ t = 1 ∨ t = 2 by omega) with rfl | rfl | rfl
      · rcases h2 with h2 | h2
        · exfalso; omega
        · rw [show w - 1 - (x - 1 + 0) - 1 = w - 1 - x by omega] at h2
          rw [h2]; rfl
      · rw [show w - 1 - (x - 1 + 1) = w - 1 - x by omega] at h1 ⊢
        rw [h1]; rfl
      · rcases h3 with h3 | h3
        · exfalso; omega
        · rw [show w - 1 - (x - 1 + 2) + 1 = w - 1 - x by omega] at h3
          rw [h3]; rfl
    · rw [decide_eq_false e]; rfl
theorem gMeet_fit {w r r2 : Int} (hw : 1 ≤ w ∧ w ≤ 4) : gMeet (gSd w r2) (gNe w r) = mFit w r r2 := by
  have h := (gMeet_dg (r := r) (r2 := r2) hw).trans mFit_dg.symm
  cases h1 : gMeet (gSd w r2) (gNe w r) <;> cases h2 : mFit w r r2 <;> simp_all
/-- a row may stand where no FIXED cell changes -/
def mFrX (s : Int → Int) (y row x : Int) : Bool := decide (s (27 + s 0 * y + x) = 0) || decide (mFig (s 0) row x = s (3 + s 0 * y + x))
def mFr (s : Int → Int) (y row : Int) : Bool := alI (mFrX s y row) (s 0)
theorem mMay_eq (s : Int → Int) (y row : Int) : mMay s y row = true ↔ mFr s y row = true ∧ mFit (s 0) row row = true := by
  unfold mMay mFr
  rw [alI_iff, alI_iff, mFit_dg]
  constructor
  · intro h
    refine ⟨fun x a b => ?_, fun i a b => ⟨mNear_s _, ?_, ?_⟩⟩
    · have := h x a b
      unfold mMayX at this
      exact (Bool.and_eq_true _ _ ▸ this : _ ∧ _).1
    · by_cases h0 : i = 0
      · exact Or.inl h0
      · right
        have := h (s 0 - i) (by omega) (by omega)
        unfold mMayX at this
        have h2 := (Bool.and_eq_true _ _ ▸ this : _ ∧ _).2
        rw [decide_eq_false (by omega), Bool.false_or, mFig_dg, mFig_dg, show s 0 - 1 - (s 0 - i - 1) = i by omega, show s 0 - 1 - (s 0 - i) = i - 1 by omega] at h2
        exact h2
    · by_cases h0 : i + 1 = s 0
      · exact Or.inl h0
      · right
        have := h (s 0 - 1 - i) (by omega) (by omega)
        unfold mMayX at this
        have h2 := (Bool.and_eq_true _ _ ▸ this : _ ∧ _).2
        rw [decide_eq_false (by omega), Bool.false_or, mFig_dg, mFig_dg, show s 0 - 1 - (s 0 - 1 - i - 1) = i + 1 by omega, show s 0 - 1 - (s 0 - 1 - i) = i by omega, mNear_c] at h2
        exact h2
  · rintro ⟨h1, h2⟩ x a b
    unfold mMayX
    rw [Bool.and_eq_true]
    refine ⟨h1 x a b, ?_⟩
    by_cases h0 : x = 0
    · rw [decide_eq_true h0]; rfl
    · rw [decide_eq_false h0, Bool.false_or, mFig_dg, mFig_dg]
      rcases (h2 (s 0 - 1 - x) (by omega) (by omega)).2.2 with h3 | h3
      · exfalso; omega
      · rw [mNear_c, show s 0 - 1 - (x - 1) = s 0 - 1 - x + 1 by omega]
        exact h3
