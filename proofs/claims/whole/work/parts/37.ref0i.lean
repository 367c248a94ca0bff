/-! pure words of the reference, the reading of the text: where the token in hand begins, and the fault -/
def pT (tx : Int → Int) (ty : Int) (z : Int × Int) (b : Bool) : Int × Int := if z.2 = -9 then if b = true then (mSkip tx ty (mTo tx ty z.1), -9) else (z.1, z.1) else z
def pOk (ty : Int) (z : Int × Int) : Prop := (0 ≤ z.1 ∧ z.1 ≤ ty) ∧ (z.2 = -9 ∨ 0 ≤ z.2 ∧ z.2 ≤ ty)
theorem pT_ok {tx : Int → Int} {ty : Int} {z : Int × Int} (b : Bool) (h : pOk ty z) : pOk ty (pT tx ty z b) := by
  obtain ⟨h1, h2⟩ := h
  unfold pT
  have h3 := mTo_rg (tx := tx) (ty := ty) (f := z.1) h1.2
  have h4 := mSkip_rg (tx := tx) (ty := ty) (p := mTo tx ty z.1) h3.2
  split
  · split
    · exact ⟨⟨by show 0 ≤ mSkip _ _ _; omega, by show mSkip _ _ _ ≤ _; omega⟩, Or.inl rfl⟩
    · exact ⟨h1, Or.inr h1⟩
  · exact ⟨h1, h2⟩
/-- no fault behind: none was ahead, and the token could stand -/
theorem pT_no {tx : Int → Int} {ty : Int} {z : Int × Int} {b : Bool} (h : pOk ty z) (hn : (pT tx ty z b).2 = -9) : z.2 = -9 ∧ b = true ∧ (pT tx ty z b).1 = mSkip tx ty (mTo tx ty z.1) := by
  obtain ⟨h1, h2⟩ := h
  unfold pT at *
  by_cases hz : z.2 = -9
  · rw [if_pos hz] at hn ⊢
    cases b with
    | true => exact ⟨hz, rfl, rfl⟩
    | false =>
      exfalso
      rw [if_neg (by decide)] at hn
      have : z.1 = -9 := hn
      omega
  · rw [if_neg hz] at hn
    exact absurd hn hz
theorem pT_f {tx : Int → Int} {ty : Int} {z : Int × Int} {b : Bool} (h : z.2 ≠ -9) : pT tx ty z b = z := if_neg h
theorem pT_n {tx : Int → Int} {ty : Int} {z : Int × Int} (h : z.2 = -9) : pT tx ty z false = (z.1, z.1) := by unfold pT; rw [if_pos h, if_neg (by decide)]
theorem pT_y {tx : Int → Int} {ty : Int} {z : Int × Int} (h : z.2 = -9) : pT tx ty z true = (mSkip tx ty (mTo tx ty z.1), -9) := by unfold pT; rw [if_pos h, if_pos rfl]
def mFg (tx : Int → Int) (ty f be : Int) : Bool := decide (mTk tx ty f = 4 ∧ mTo tx ty f - f = 1 ∧ mAt tx ty f - 48 < be)
def mRowA (tx : Int → Int) (ty : Int) (dr : Int → Int) (f : Int) : Bool := decide (mTk tx ty f = 4 ∧ (1 ≤ mTo tx ty f - f ∧ mTo tx ty f - f ≤ 4) ∧ (dr 1 = 0 ∨ mTo tx ty f - f = dr 0))
def mRowOk (tx : Int → Int) (ty : Int) (dr : Int → Int) (f : Int) : Bool := mRowA tx ty dr f && alI (fun j => decide (mAt tx ty (f + j) ≤ 51)) (mTo tx ty f - f)
def mRowD (tx : Int → Int) (ty : Int) (dr : Int → Int) (f : Int) : Int → Int := uz (cpz (fun j => mAt tx ty (f + j) - 48) (uz dr 0 (mTo tx ty f - f)) 0 (3 + (mTo tx ty f - f) * dr 1) (mTo tx ty f - f)) 1 (dr 1 + 1)
def pRow (tx : Int → Int) (ty f fa : Int) (dr : Int → Int) (hf : Bool) : Int × Int × (Int → Int) :=
  let z1 := pT tx ty (f, fa) (decide (dr 1 < 6 ∧ hf = false))
  let z2 := pT tx ty z1 (mRowOk tx ty dr z1.1)
  (z2.1, z2.2, if z1.2 = -9 ∧ mRowOk tx ty dr z1.1 = true then mRowD tx ty dr z1.1 else dr)
def pFix (tx : Int → Int) (ty f fa : Int) (dr : Int → Int) : Int × Int × (Int → Int) :=
  let z1 := pT tx ty (f, fa) (decide (0 < dr 1))
  let z2 := pT tx ty z1 (mFg tx ty z1.1 (dr 0))
  let z3 := pT tx ty z2 (mFg tx ty z2.1 (dr 1))
  (z3.1, z3.2, if z3.2 = -9 then uz dr (27 + dr 0 * (mAt tx ty z2.1 - 48) + (mAt tx ty z1.1 - 48)) 1 else dr)
def pOut (tx : Int → Int) (ty f fa : Int) (dr : Int → Int) (ho : Bool) : Int × Int × (Int → Int) :=
  let z1 := pT tx ty (f, fa) (!ho)
  let z2 := pT tx ty z1 (mFg tx ty z1.1 4)
  (z2.1, z2.2, uz dr 2 (if z2.2 = -9 then mAt tx ty z1.1 - 48 else -9))
theorem mTk_rg {tx : Int → Int} {ty f : Int} : 0 ≤ mTk tx ty f ∧ mTk tx ty f ≤ 6 := by
  unfold mTk mWord
  repeat (first | omega | split)
theorem mTk_4 {tx : Int → Int} {ty f : Int} (h : mTk tx ty f = 4) : 48 ≤ mAt tx ty f ∧ mAt tx ty f ≤ 57 ∧ mTo tx ty f = mRun tx ty 48 57 f := by
  unfold mTk at h
  unfold mTo
  by_cases h1 : mAt tx ty f < 0
  · rw [if_pos h1] at h; omega
  · rw [if_neg h1] at h
    by_cases h2 : 48 ≤ mAt tx ty f ∧ mAt tx ty f ≤ 57
    · rw [if_neg h1, if_pos h2]
      exact ⟨h2.1, h2.2, rfl⟩
    · rw [if_neg h2] at h
      by_cases h3 : 97 ≤ mAt tx ty f ∧ mAt tx ty f ≤ 122
      · rw [if_pos h3] at h
        unfold mWord at h
        exfalso
        repeat (first | omega | split at h)
      · rw [if_neg h3] at h
        exfalso
        split at h <;> omega
theorem mTk_0 {tx : Int → Int} {ty f : Int} : mTk tx ty f = 0 ↔ mAt tx ty f < 0 := by
  unfold mTk mWord
  by_cases h1 : mAt tx ty f < 0
  · rw [if_pos h1]; exact ⟨fun _ => h1, fun _ => rfl⟩
  · rw [if_neg h1]
    refine ⟨fun h => ?_, fun h => absurd h h1⟩
    exfalso
    repeat (first | omega | split at h)
/-- the digits of a row of figures -/
theorem mRun_in {tx : Int → Int} {ty lo hi : Int} (hlo : 0 ≤ lo) : ∀ (n : Nat) (p j : Int), (ty - p).toNat = n → p ≤ j → j < mRun tx ty lo hi p → lo ≤ mAt tx ty j ∧ mAt tx ty j ≤ hi := by
  intro n
  induction n with
  | zero =>
    intro p j hn hp hj
    exfalso
    have h0 : mAt tx ty p = -1 := by unfold mAt; rw [if_neg (by omega)]
    rw [mRun_eq hlo, if_neg (by omega)] at hj
    omega
  | succ n ih =>
    intro p j hn hp hj
    rw [mRun_eq hlo] at hj
    by_cases h : lo ≤ mAt tx ty p ∧ mAt tx ty p ≤ hi
    · rw [if_pos h] at hj
      by_cases hjp : j = p
      · rw [hjp]; exact h
      · exact ih (p + 1) j (by omega) (by omega) hj
    · rw [if_neg h] at hj
      omega
theorem fix_ix {w h x y : Int} (hw : 0 ≤ w ∧ w ≤ 4) (hh : 0 ≤ h ∧ h ≤ 6) (hx : 0 ≤ x ∧ x < w) (hy : 0 ≤ y ∧ y < h) : 0 ≤ w * y ∧ w * y + x < 24 := by
  have h1 := cell_rg (w := w) (h := h) (by omega) hx hy
  have h2 := cells_rg (w := w) (h := h) (by omega) (by omega)
  omega
