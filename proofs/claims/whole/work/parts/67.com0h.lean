theorem smN_skip {f : Int → Int} : ∀ (d m : Nat), (∀ j : Int, (m : Int) ≤ j → j < (m : Int) + d → f j = 0) → smN f (m + d) = smN f m := by
  intro d
  induction d with
  | zero => intro m _; rfl
  | succ d ih =>
    intro m h
    show smN f (m + d) + f ((m + d : Nat) : Int) = smN f m
    rw [ih m (fun j a b => h j a (by omega)), h ((m + d : Nat) : Int) (by omega) (by omega), Int.add_zero]
theorem sI_skip {f : Int → Int} {m n : Int} (hm : 0 ≤ m) (hmn : m ≤ n) (h : ∀ j, m ≤ j → j < n → f j = 0) : sI f n = sI f m := by
  unfold sI
  rw [show n.toNat = m.toNat + (n - m).toNat by omega]
  exact smN_skip _ _ (fun j a b => h j (by omega) (by omega))
theorem mPaintS_skip {s : Int → Int} {x y x2 y2 h m n : Int} (hmn : m ≤ n) (hr : ∀ j, m ≤ j → j < n → mRect (s 0) x y x2 y2 j = false) : mPaintS s x y x2 y2 h n = mPaintS s x y x2 y2 h m := by
  funext j
  unfold mPaintS
  by_cases h1 : 3 ≤ j ∧ j < 3 + m ∧ mRect (s 0) x y x2 y2 (j - 3) = true
  · rw [if_pos h1, if_pos ⟨h1.1, by omega, h1.2.2⟩]
  · rw [if_neg h1]
    by_cases h2 : 3 ≤ j ∧ j < 3 + n ∧ mRect (s 0) x y x2 y2 (j - 3) = true
    · exfalso
      by_cases h3 : j - 3 < m
      · exact h1 ⟨h2.1, by omega, h2.2.2⟩
      · have := hr (j - 3) (by omega) (by omega)
        rw [this] at h2
        cases h2.2.2
    · rw [if_neg h2]
theorem mRect_in {w x y x2 y2 c r : Int} (hw : 1 ≤ w ∧ w ≤ 4) (hc : 0 ≤ c ∧ c < w) : mRect w x y x2 y2 (w * r + c) = decide (x ≤ c ∧ c ≤ x2 ∧ y ≤ r ∧ r ≤ y2) := by
  unfold mRect
  rw [(dm_eq hw hc).1, (dm_eq hw hc).2]
theorem mRect_lo {w x y x2 y2 j : Int} (hw : 1 ≤ w ∧ w ≤ 4) (hx : 0 ≤ x ∧ x < w) (hj : j < w * y + x) : mRect w x y x2 y2 j = false := by
  unfold mRect
  apply decide_eq_false
  rcases (show w = 1 ∨ w = 2 ∨ w = 3 ∨ w = 4 by omega) with rfl | rfl | rfl | rfl <;> omega
theorem mRect_mid {w x y x2 y2 r j : Int} (hw : 1 ≤ w ∧ w ≤ 4) (hx : 0 ≤ x ∧ x ≤ x2 ∧ x2 < w) (h1 : w * r + (x2 + 1) ≤ j) (h2 : j < w * (r + 1) + x) : mRect w x y x2 y2 j = false := by
  unfold mRect
  apply decide_eq_false
  rcases (show w = 1 ∨ w = 2 ∨ w = 3 ∨ w = 4 by omega) with rfl | rfl | rfl | rfl <;> omega
theorem mRect_hi {w x y x2 y2 j : Int} (hw : 1 ≤ w ∧ w ≤ 4) (hx : 0 ≤ x) (h1 : w * (y2 + 1) + x ≤ j) : mRect w x y x2 y2 j = false := by
  unfold mRect
  apply decide_eq_false
  rcases (show w = 1 ∨ w = 2 ∨ w = 3 ∨ w = 4 by omega) with rfl | rfl | rfl | rfl <;> omega
def mPF (s : Int → Int) (x y x2 y2 h : Int) : Int → Int := fun c => bz (mRect (s 0) x y x2 y2 c && !(decide (s (3 + c) = h)))
theorem mPF_0 {s : Int → Int} {x y x2 y2 h j : Int} (hr : mRect (s 0) x y x2 y2 j = false) : mPF s x y x2 y2 h j = 0 := by
  unfold mPF
  rw [hr]
  rfl
theorem mPaintS_same {s : Int → Int} {x y x2 y2 h c : Int} (hc : 0 ≤ c) (he : s (3 + c) = h) : mPaintS s x y x2 y2 h (c + 1) = mPaintS s x y x2 y2 h c := by
  have h1 := mPaintS_s (s := s) (x := x) (y := y) (x2 := x2) (y2 := y2) (h := h) (v := s (3 + c)) hc (by split <;> omega)
  rw [← h1]
  funext j
  by_cases hj : j = 3 + c
  · rw [hj, uz_s, mPaintS_hi]
  · rw [uz_n hj]
theorem mS_paint {s : Int → Int} {x y x2 y2 h c : Int} (hS : mS s) (hh : 0 ≤ h ∧ h ≤ 3) (hc : c ≤ 24) : mS (mPaintS s x y x2 y2 h c) := by
  obtain ⟨h0, h1, h2, h3, h4⟩ := hS
  refine ⟨?_, ?_, ?_, fun j a b => ?_, fun j a b => ?_⟩
  · rw [mPaintS_lo (by decide)]; exact h0
  · rw [mPaintS_lo (by decide)]; exact h1
  · rw [mPaintS_lo (by decide)]; exact h2
  · unfold mPaintS
    split
    · exact hh
    · exact h3 j a b
  · unfold mPaintS
    rw [if_neg (by omega)]
    exact h4 j a b
theorem paint_end {w h y2 x : Int} (hw : 1 ≤ w ∧ w ≤ 4) (hy : y2 < h) (hx : 0 ≤ x ∧ x < w) : w * (y2 + 1) + x ≤ w * h ∨ w * h ≤ w * (y2 + 1) + x := by omega
theorem mRect_end {w h x y x2 y2 j : Int} (hw : 1 ≤ w ∧ w ≤ 4) (hx : 0 ≤ x) (hy : y2 < h) (h1 : w * h ≤ j) : mRect w x y x2 y2 j = false := by
  unfold mRect
  apply decide_eq_false
  rcases (show w = 1 ∨ w = 2 ∨ w = 3 ∨ w = 4 by omega) with rfl | rfl | rfl | rfl <;> omega
