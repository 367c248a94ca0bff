theorem smN_uz {f : Int → Int} {k v : Int} : ∀ (n : Nat), 0 ≤ k → smN (uz f k v) n = smN f n + if k < n then v - f k else 0 := by
  intro n hk
  induction n with
  | zero =>
    show (0 : Int) = 0 + _
    rw [if_neg (by omega)]
    rfl
  | succ n ih =>
    show smN (uz f k v) n + uz f k v n = smN f n + f n + _
    rw [ih]
    by_cases h : (n : Int) = k
    · rw [h, uz_s, if_neg (by omega), if_pos (by omega)]
      omega
    · rw [uz_n h]
      by_cases h2 : k < n
      · rw [if_pos h2, if_pos (by omega)]; omega
      · rw [if_neg h2, if_neg (by omega)]; omega
theorem sI_uz {f : Int → Int} {k v n : Int} (hk : 0 ≤ k ∧ k < n) : sI (uz f k v) n = sI f n + (v - f k) := by
  have := smN_uz (f := f) (k := k) (v := v) n.toNat hk.1
  rw [if_pos (by omega)] at this
  exact this
theorem sI_one : ∀ (n : Nat) (k : Int), 0 ≤ k → smN (fun j => if j = k then 1 else 0) n = if k < n then 1 else 0 := by
  intro n k hk
  induction n with
  | zero => rw [if_neg (by omega)]; rfl
  | succ n ih =>
    show smN (fun j => if j = k then 1 else 0) n + (if (n : Int) = k then 1 else 0) = _
    rw [ih]
    by_cases h : (n : Int) = k
    · rw [if_neg (by omega), if_pos h, if_pos (by omega)]; rfl
    · rw [if_neg h]
      by_cases h2 : k < n
      · rw [if_pos h2, if_pos (by omega)]; rfl
      · rw [if_neg h2, if_neg (by omega)]; rfl
def mWetS (s wt : Int → Int) (h c : Int) : Int → Int := fun j => if 3 ≤ j ∧ j < 3 + c ∧ wt (j - 3) = 1 then h else s j
theorem mWetS_lo {s wt : Int → Int} {h c j : Int} (hj : j < 3) : mWetS s wt h c j = s j := by
  unfold mWetS
  rw [if_neg (by omega)]
theorem mWetS_0 (s wt : Int → Int) (h : Int) : mWetS s wt h 0 = s := by
  funext j
  unfold mWetS
  rw [if_neg (by omega)]
theorem mWetS_hi {s wt : Int → Int} {h c : Int} : mWetS s wt h c (3 + c) = s (3 + c) := by
  unfold mWetS
  rw [if_neg (by omega)]
theorem mWetS_s {s wt : Int → Int} {h c v : Int} (hc : 0 ≤ c) (hv : v = if wt c = 1 then h else s (3 + c)) : uz (mWetS s wt h c) (3 + c) v = mWetS s wt h (c + 1) := by
  funext j
  unfold uz mWetS
  by_cases h1 : j = 3 + c
  · subst h1
    rw [if_pos rfl, hv, show 3 + c - 3 = c by omega]
    by_cases h2 : wt c = 1
    · rw [if_pos h2, if_pos ⟨by omega, by omega, h2⟩]
    · rw [if_neg h2, if_neg (fun q => h2 q.2.2)]
  · rw [if_neg h1]
    by_cases h2 : 3 ≤ j ∧ j < 3 + c ∧ wt (j - 3) = 1
    · rw [if_pos h2, if_pos ⟨h2.1, by omega, h2.2.2⟩]
    · rw [if_neg h2, if_neg (fun q => h2 ⟨q.1, by omega, q.2.2⟩)]
theorem mWetS_re {s wt : Int → Int} {h a : Int} (hw : ∀ c, 0 ≤ c → c < s 0 * s 1 → wt c = mRe s a c) : mWetS s wt h (s 0 * s 1) = mFldS s a h := by
  funext j
  unfold mWetS mFldS
  by_cases h1 : 3 ≤ j ∧ j < 3 + s 0 * s 1
  · rw [hw (j - 3) (by omega) (by omega)]
  · rw [if_neg (fun q => h1 ⟨q.1, q.2.1⟩), if_neg (fun q => h1 ⟨q.1, q.2.1⟩)]
/-- what a sweep keeps -/
def mWk (s : Int → Int) (a n : Int) (wt : Int → Int) : Prop := (∀ j, 0 ≤ j → j < 24 → wt j = 0 ∨ wt j = 1) ∧ wt a = 1 ∧ (∀ j, 0 ≤ j → j < s 0 * s 1 → wt j = 1 → mRch s a j) ∧ n = sI wt (s 0 * s 1) ∧ n ≤ s 0 * s 1
def mWcl (s : Int → Int) (a c : Int) (wt : Int → Int) : Prop := ∀ j, 0 ≤ j → j < c → wt j = 0 → s (3 + j) = s (3 + a) → mBs s wt (j % s 0) (j / s 0) = false
theorem mWk_01 {s : Int → Int} {a n : Int} {wt : Int → Int} (h : mWk s a n wt) : ∀ j, 0 ≤ j → j < 24 → 0 ≤ wt j ∧ wt j ≤ 1 := fun j a b => by rcases h.1 j a b with h | h <;> omega
theorem mWk_new {s : Int → Int} {a n c : Int} {wt : Int → Int} (h : mWk s a n wt) (hc : 0 ≤ c ∧ c < s 0 * s 1) (h24 : s 0 * s 1 ≤ 24) (hw : wt c = 0) (he : s (3 + c) = s (3 + a)) (hb : mBs s wt (c % s 0) (c / s 0) = true) : mWk s a (n + 1) (uz wt c 1) := by
  obtain ⟨h1, h2, h3, h4, h5⟩ := h
  have hne : a ≠ c := fun e => by rw [e] at h2; omega
  have hs : sI (uz wt c 1) (s 0 * s 1) = sI wt (s 0 * s 1) + (1 - wt c) := sI_uz hc
  have hr := sI_rg (f := uz wt c 1) (B := 1) (c := s 0 * s 1) (by omega) (fun j q1 q2 => by
    by_cases hj : j = c
    · rw [hj, uz_s]; decide
    · rw [uz_n hj]; rcases h1 j q1 (by omega) with q | q <;> omega)
  refine ⟨fun j q1 q2 => ?_, ?_, fun j q1 q2 q3 => ?_, by omega, by omega⟩
  · by_cases hj : j = c
    · right; rw [hj, uz_s]
    · rw [uz_n hj]; exact h1 j q1 q2
  · rw [uz_n hne]; exact h2
  · by_cases hj : j = c
    · obtain ⟨i, i1, i2, i3⟩ := exI_iff.mp hb
      have i4 := of_decide_eq_true i3
      rw [hj]
      exact mRch_s (h3 i i1 i2 i4.1) hc i4.2 he
    · rw [uz_n hj] at q3
      exact h3 j q1 q2 q3
theorem mWk_end {s : Int → Int} {a n : Int} {wt : Int → Int} (ha : 0 ≤ a ∧ a < s 0 * s 1) (h24 : s 0 * s 1 ≤ 24) (h : mWk s a n wt) (hcl : mWcl s a (s 0 * s 1) wt) : (∀ c, 0 ≤ c → c < s 0 * s 1 → wt c = mRe s a c) ∧ n = mFldN s a := by
  have hw := mRe_of ha (fun c q1 q2 => h.1 c q1 (by omega)) h.2.1 h.2.2.1 (fun c q1 q2 q3 q4 => hcl c q1 q2 q3 q4)
  refine ⟨hw, ?_⟩
  rw [h.2.2.2.1]
  exact sI_congr hw
theorem mWk_0 {s : Int → Int} {a : Int} {wt : Int → Int} (ha : 0 ≤ a ∧ a < s 0 * s 1) (h24 : s 0 * s 1 ≤ 24) (hw : ∀ j, 0 ≤ j → j < 24 → wt j = if j = a then 1 else 0) : mWk s a 1 wt := by
  refine ⟨fun j q1 q2 => ?_, ?_, fun j q1 q2 q3 => ?_, ?_, by omega⟩
  · rw [hw j q1 q2]; split
    · right; rfl
    · left; rfl
  · rw [hw a ha.1 (by omega), if_pos rfl]
  · rw [hw j q1 (by omega)] at q3
    by_cases hj : j = a
    · rw [hj]; exact mRch_0 s a
    · rw [if_neg hj] at q3; omega
  · have h1 := sI_congr (f := wt) (g := fun j => if j = a then 1 else 0) (c := s 0 * s 1) (fun j q1 q2 => hw j q1 (by omega))
    rw [h1]
    have h2 := sI_one (s 0 * s 1).toNat a ha.1
    rw [if_pos (by omega)] at h2
    exact h2.symm
