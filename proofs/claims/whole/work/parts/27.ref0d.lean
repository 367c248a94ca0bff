/-! pure words of the reference, fourth part: kinds, what was seen, least change, flood -/
/-- the first place from j on, below n, that has p; else n (or j, if that is beyond) -/
def fdF (p : Int → Bool) : Nat → Int → Int
  | 0, j => j
  | n + 1, j => if p j = true then j else fdF p n (j + 1)
def fdI (p : Int → Bool) (n j : Int) : Int := fdF p (n - j).toNat j
theorem fdI_eq {p : Int → Bool} {n j : Int} : fdI p n j = if j < n ∧ ¬ p j = true then fdI p n (j + 1) else j := by
  unfold fdI
  by_cases h : j < n
  · rw [show (n - j).toNat = (n - (j + 1)).toNat + 1 by omega]
    show (if p j = true then j else fdF p _ (j + 1)) = _
    by_cases hp : p j = true
    · rw [if_pos hp, if_neg (fun q => q.2 hp)]
    · rw [if_neg hp, if_pos ⟨h, hp⟩]
  · rw [if_neg (fun q => h q.1), show (n - j).toNat = 0 by omega]
    rfl
theorem fdI_spec {p : Int → Bool} {n : Int} : ∀ (m : Nat) (j : Int), (n - j).toNat = m → j ≤ n → j ≤ fdI p n j ∧ fdI p n j ≤ n ∧ (fdI p n j < n → p (fdI p n j) = true) ∧ ∀ i, j ≤ i → i < fdI p n j → ¬ p i = true := by
  intro m
  induction m with
  | zero =>
    intro j hm hj
    rw [fdI_eq, if_neg (by omega)]
    exact ⟨by omega, by omega, fun h => absurd h (by omega), fun i a b => absurd b (by omega)⟩
  | succ m ih =>
    intro j hm hj
    rw [fdI_eq]
    by_cases hp : p j = true
    · rw [if_neg (fun q => q.2 hp)]
      exact ⟨by omega, by omega, fun _ => hp, fun i a b => absurd b (by omega)⟩
    · rw [if_pos ⟨by omega, hp⟩]
      obtain ⟨h1, h2, h3, h4⟩ := ih (j + 1) (by omega) (by omega)
      refine ⟨by omega, h2, h3, fun i a b => ?_⟩
      by_cases hi : i = j
      · rw [hi]; exact hp
      · exact h4 i (by omega) b
theorem fdI_ex {p : Int → Bool} {n j i : Int} (hi : j ≤ i ∧ i < n) (hp : p i = true) : j ≤ fdI p n j ∧ fdI p n j ≤ i ∧ p (fdI p n j) = true := by
  obtain ⟨h1, h2, h3, h4⟩ := fdI_spec (p := p) (n := n) _ j rfl (by omega)
  have h5 : fdI p n j ≤ i := by
    apply Classical.byContradiction
    intro h
    exact h4 i hi.1 (by omega) hp
  exact ⟨h1, h5, h3 (by omega)⟩
def mSqOk (s sq : Int → Int) (n : Int) : Prop := ∀ c l : Int, 0 ≤ c → c < n → 1 ≤ l → l ≤ 3 → sq (3 * c + l - 1) = mSq s (c % s 0) (c / s 0) l
def mAlq (sq : Int → Int) (i j : Int) : Bool := decide (sq (3 * i) = sq (3 * j) ∧ sq (3 * i + 1) = sq (3 * j + 1) ∧ sq (3 * i + 2) = sq (3 * j + 2))
/-- kinds by cells 0 .. n - 1: how many, the first cell of each, each cell's -/
def mKd (sq fi kn : Int → Int) : Nat → Int × (Int → Int) × (Int → Int)
  | 0 => (0, fi, kn)
  | n + 1 => match mKd sq fi kn n with
    | (m, f, k) => (if fdI (fun j => mAlq sq (f j) n) m 0 = m then m + 1 else m, if fdI (fun j => mAlq sq (f j) n) m 0 = m then uz f m n else f, uz k n (fdI (fun j => mAlq sq (f j) n) m 0))
theorem mKd_s (sq fi kn : Int → Int) (c : Int) (hc : 0 ≤ c) (m : Int) (f k : Int → Int) (h : mKd sq fi kn c.toNat = (m, f, k)) : mKd sq fi kn (c + 1).toNat = (if fdI (fun j => mAlq sq (f j) c) m 0 = m then m + 1 else m, if fdI (fun j => mAlq sq (f j) c) m 0 = m then uz f m c else f, uz k c (fdI (fun j => mAlq sq (f j) c) m 0)) := by
  rw [show (c + 1).toNat = c.toNat + 1 by omega]
  show (match mKd sq fi kn c.toNat with
    | (m, f, k) => (if fdI (fun j => mAlq sq (f j) c.toNat) m 0 = m then m + 1 else m, if fdI (fun j => mAlq sq (f j) c.toNat) m 0 = m then uz f m c.toNat else f, uz k c.toNat (fdI (fun j => mAlq sq (f j) c.toNat) m 0))) = _
  rw [h, Int.toNat_of_nonneg hc]
def mSo (sq fc : Int → Int) (mf c : Int) : Bool := alI (fun k => decide (sq (3 * c + fc (2 * k) - 1) = fc (2 * k + 1))) mf
/-- the first of 0 .. n - 1 that has p, or NONE -/
def mFst (p : Int → Bool) : Nat → Int
  | 0 => -9
  | n + 1 => if p n = true then if smN (fun c => bz (p c)) n = 0 then n else mFst p n else mFst p n
theorem mFst_s {p : Int → Bool} {c : Int} (h : 0 ≤ c) : mFst p (c + 1).toNat = if p c = true then if sI (fun c => bz (p c)) c = 0 then c else mFst p c.toNat else mFst p c.toNat := by
  rw [show (c + 1).toNat = c.toNat + 1 by omega]
  show (if p (c.toNat : Int) = true then if smN (fun c => bz (p c)) c.toNat = 0 then (c.toNat : Int) else mFst p c.toNat else mFst p c.toNat) = _
  rw [Int.toNat_of_nonneg h]
  rfl
/-- the greatest of f 0 .. f (n - 1), 0 at least -/
def mxN (f : Int → Int) : Nat → Int
  | 0 => 0
  | n + 1 => if mxN f n < f n then f n else mxN f n
def mxI (f : Int → Int) (c : Int) : Int := mxN f c.toNat
theorem mxI_s {f : Int → Int} {c : Int} (h : 0 ≤ c) : mxI f (c + 1) = if mxI f c < f c then f c else mxI f c := by
  unfold mxI
  rw [show (c + 1).toNat = c.toNat + 1 by omega]
  show (if mxN f c.toNat < f (c.toNat : Int) then f (c.toNat : Int) else mxN f c.toNat) = _
  rw [Int.toNat_of_nonneg h]
theorem mxN_rg {f : Int → Int} {B : Int} (hB : 0 ≤ B) : ∀ (n : Nat), (∀ j : Int, 0 ≤ j → j < n → 0 ≤ f j ∧ f j ≤ B) → 0 ≤ mxN f n ∧ mxN f n ≤ B := by
  intro n
  induction n with
  | zero => intro _; exact ⟨Int.le_refl 0, hB⟩
  | succ n ih =>
    intro h
    have h1 := ih (fun j a b => h j a (by omega))
    have h2 := h n (by omega) (by omega)
    show 0 ≤ (if mxN f n < f n then f n else mxN f n) ∧ (if mxN f n < f n then f n else mxN f n) ≤ B
    split <;> omega
def mAlkX (sq fc : Int → Int) (mf la i j : Int) : Int := bz (mSo sq fc mf i && mSo sq fc mf j && decide (sq (3 * i + la - 1) = sq (3 * j + la - 1)))
def mAlk (sq fc : Int → Int) (mf n la : Int) : Int := mxI (fun i => sI (mAlkX sq fc mf la i) n) n
theorem mAlk_rg {sq fc : Int → Int} {mf n la : Int} (hn : 0 ≤ n) : 0 ≤ mAlk sq fc mf n la ∧ mAlk sq fc mf n la ≤ n := by
  refine mxN_rg hn _ (fun j _ _ => ?_)
  have := sI_rg (f := mAlkX sq fc mf la j) (B := 1) hn (fun i _ _ => bz_rg _)
  omega
/-- found and least, after n layers -/
def mLk (mo : Int → Int) : Nat → Int × Int
  | 0 => (-9, 1000)
  | n + 1 => (if mo (n + 1) < (mLk mo n).2 then (n : Int) + 1 else (mLk mo n).1, if mo (n + 1) < (mLk mo n).2 then mo (n + 1) else (mLk mo n).2)
def mLook (sq fc : Int → Int) (mf n : Int) : Int := if 1 < sI (fun c => bz (mSo sq fc mf c)) n then (mLk (mAlk sq fc mf n) 3).1 else -9
/-- the least of cst 0 .. cst (n - 1) that are ok; 1000, if none is less -/
def lsN (cst : Int → Int) (ok : Int → Bool) : Nat → Int
  | 0 => 1000
  | n + 1 => if cst n < lsN cst ok n ∧ ok n = true then cst n else lsN cst ok n
def lsI (cst : Int → Int) (ok : Int → Bool) (c : Int) : Int := lsN cst ok c.toNat
theorem lsI_s {cst : Int → Int} {ok : Int → Bool} {c : Int} (h : 0 ≤ c) : lsI cst ok (c + 1) = if cst c < lsI cst ok c ∧ ok c = true then cst c else lsI cst ok c := by
  unfold lsI
  rw [show (c + 1).toNat = c.toNat + 1 by omega]
  show (if cst (c.toNat : Int) < lsN cst ok c.toNat ∧ ok (c.toNat : Int) = true then cst (c.toNat : Int) else lsN cst ok c.toNat) = _
  rw [Int.toNat_of_nonneg h]
theorem lsN_spec {cst : Int → Int} {ok : Int → Bool} : ∀ (n : Nat), lsN cst ok n ≤ 1000 ∧ (lsN cst ok n < 1000 → ∃ j : Int, 0 ≤ j ∧ j < n ∧ ok j = true ∧ cst j = lsN cst ok n) ∧ ∀ j : Int, 0 ≤ j → j < n → ok j = true → lsN cst ok n ≤ cst j ∨ 1000 ≤ cst j := by
  intro n
  induction n with
  | zero => exact ⟨Int.le_refl _, fun h => absurd h (by unfold lsN; omega), fun j a b => absurd b (by omega)⟩
  | succ n ih =>
    obtain ⟨h1, h2, h3⟩ := ih
    show (if cst n < lsN cst ok n ∧ ok n = true then cst n else lsN cst ok n) ≤ 1000 ∧ _ ∧ _
    by_cases hc : cst n < lsN cst ok n ∧ ok n = true
    · have e : lsN cst ok (n + 1) = cst n := if_pos hc
      rw [if_pos hc, e]
      refine ⟨by omega, fun _ => ⟨n, by omega, by omega, hc.2, rfl⟩, fun j a b o => ?_⟩
      by_cases hj : j = n
      · subst hj; omega
      · have := h3 j a (by omega) o; omega
    · have e : lsN cst ok (n + 1) = lsN cst ok n := if_neg hc
      rw [if_neg hc, e]
      refine ⟨h1, fun h => ?_, fun j a b o => ?_⟩
      · obtain ⟨j, a, b, c, d⟩ := h2 h
        exact ⟨j, a, by omega, c, d⟩
      · by_cases hj : j = n
        · subst hj
          have : ¬ cst n < lsN cst ok n := fun q => hc ⟨q, o⟩
          omega
        · exact h3 j a (by omega) o
theorem lsN_ge {cst : Int → Int} {ok : Int → Bool} {B : Int} (hB : B ≤ 1000) : ∀ (n : Nat), (∀ j : Int, 0 ≤ j → j < n → B ≤ cst j) → B ≤ lsN cst ok n := by
  intro n
  induction n with
  | zero => intro _; exact hB
  | succ n ih =>
    intro h
    have h1 := ih (fun j a b => h j a (by omega))
    have h2 := h n (by omega) (by omega)
    show B ≤ (if cst n < lsN cst ok n ∧ ok n = true then cst n else lsN cst ok n)
    split <;> omega
theorem lsN_congr {f g : Int → Int} {ok ok2 : Int → Bool} : ∀ (n : Nat), (∀ j : Int, 0 ≤ j → j < n → f j = g j ∧ ok j = ok2 j) → lsN f ok n = lsN g ok2 n := by
  intro n
  induction n with
  | zero => intro _; rfl
  | succ n ih =>
    intro h
    have h1 := ih (fun j a b => h j a (by omega))
    have h2 := h n (by omega) (by omega)
    show (if f n < lsN f ok n ∧ ok n = true then f n else lsN f ok n) = (if g n < lsN g ok2 n ∧ ok2 n = true then g n else lsN g ok2 n)
    rw [h1, h2.1, h2.2]
theorem lsI_congr {f g : Int → Int} {ok ok2 : Int → Bool} {c : Int} (h : ∀ j : Int, 0 ≤ j → j < c → f j = g j ∧ ok j = ok2 j) : lsI f ok c = lsI g ok2 c := lsN_congr _ (fun j a b => h j a (by omega))
/-- what a row costs with all below it, d rows being below it -/
def mCstD (s : Int → Int) : Nat → Int → Int
  | 0, row => if mMay s (s 1 - 1) row = true then mChg s (s 1 - 1) row else 1000
  | d + 1, row => if mMay s (s 1 - 1 - (d + 1)) row = true then if lsI (mCstD s d) (mFit (s 0) row) (mPow (s 0)) = 1000 then 1000 else lsI (mCstD s d) (mFit (s 0) row) (mPow (s 0)) + mChg s (s 1 - 1 - (d + 1)) row else 1000
def mCst (s : Int → Int) (y row : Int) : Int := mCstD s (s 1 - 1 - y).toNat row
/-- what comes behind row y, if that is row -/
def mBB (s : Int → Int) (y row : Int) : Int := if y + 1 = s 1 then 0 else lsI (mCst s (y + 1)) (mFit (s 0) row) (mPow (s 0))
theorem mCst_eq {s : Int → Int} {y row : Int} (hy : y < s 1) : mCst s y row = if mMay s y row = true then if mBB s y row = 1000 then 1000 else mBB s y row + mChg s y row else 1000 := by
  unfold mBB
  by_cases h : y + 1 = s 1
  · rw [if_pos h, if_neg (show ¬ (0 : Int) = 1000 by decide), Int.zero_add]
    unfold mCst
    rw [show (s 1 - 1 - y).toNat = 0 by omega]
    show (if mMay s (s 1 - 1) row = true then mChg s (s 1 - 1) row else 1000) = _
    rw [show s 1 - 1 = y by omega]
  · rw [if_neg h]
    unfold mCst
    rw [show (s 1 - 1 - y).toNat = (s 1 - 1 - (y + 1)).toNat + 1 by omega]
    show (if mMay s (s 1 - 1 - (((s 1 - 1 - (y + 1)).toNat : Int) + 1)) row = true then if lsI (mCstD s (s 1 - 1 - (y + 1)).toNat) (mFit (s 0) row) (mPow (s 0)) = 1000 then 1000 else lsI (mCstD s (s 1 - 1 - (y + 1)).toNat) (mFit (s 0) row) (mPow (s 0)) + mChg s (s 1 - 1 - (((s 1 - 1 - (y + 1)).toNat : Int) + 1)) row else 1000) = _
    rw [show s 1 - 1 - (((s 1 - 1 - (y + 1)).toNat : Int) + 1) = y by omega]
theorem mCstD_rg {s : Int → Int} (h0 : 1 ≤ s 0 ∧ s 0 ≤ 4) : ∀ (d : Nat) (row : Int), 0 ≤ mCstD s d row ∧ (mCstD s d row = 1000 ∨ mCstD s d row ≤ 4 * (d + 1)) := by
  intro d
  induction d with
  | zero =>
    intro row
    have := mChg_rg h0 (s 1 - 1) row
    show 0 ≤ (if mMay s (s 1 - 1) row = true then mChg s (s 1 - 1) row else 1000) ∧ ((if mMay s (s 1 - 1) row = true then mChg s (s 1 - 1) row else 1000) = 1000 ∨ (if mMay s (s 1 - 1) row = true then mChg s (s 1 - 1) row else 1000) ≤ _)
    split <;> omega
  | succ d ih =>
    intro row
    have h1 := mChg_rg h0 (s 1 - 1 - (d + 1)) row
    have h2 := lsN_ge (cst := mCstD s d) (ok := mFit (s 0) row) (B := 0) (by decide) (mPow (s 0)).toNat (fun j _ _ => (ih j).1)
    have h3 := lsN_spec (cst := mCstD s d) (ok := mFit (s 0) row) (mPow (s 0)).toNat
    have h4 : lsI (mCstD s d) (mFit (s 0) row) (mPow (s 0)) = 1000 ∨ lsI (mCstD s d) (mFit (s 0) row) (mPow (s 0)) ≤ 4 * (d + 1) := by
      by_cases h : lsI (mCstD s d) (mFit (s 0) row) (mPow (s 0)) < 1000
      · obtain ⟨j, a, b, c, e⟩ := h3.2.1 h
        have h5 := (ih j).2
        have h6 : lsI (mCstD s d) (mFit (s 0) row) (mPow (s 0)) = mCstD s d j := e.symm
        omega
      · have h7 : lsI (mCstD s d) (mFit (s 0) row) (mPow (s 0)) ≤ 1000 := h3.1
        omega
    have h8 : 0 ≤ lsI (mCstD s d) (mFit (s 0) row) (mPow (s 0)) := h2
    show 0 ≤ (if mMay s (s 1 - 1 - (d + 1)) row = true then if lsI (mCstD s d) (mFit (s 0) row) (mPow (s 0)) = 1000 then 1000 else lsI (mCstD s d) (mFit (s 0) row) (mPow (s 0)) + mChg s (s 1 - 1 - (d + 1)) row else 1000) ∧ ((if mMay s (s 1 - 1 - (d + 1)) row = true then if lsI (mCstD s d) (mFit (s 0) row) (mPow (s 0)) = 1000 then 1000 else lsI (mCstD s d) (mFit (s 0) row) (mPow (s 0)) + mChg s (s 1 - 1 - (d + 1)) row else 1000) = 1000 ∨ (if mMay s (s 1 - 1 - (d + 1)) row = true then if lsI (mCstD s d) (mFit (s 0) row) (mPow (s 0)) = 1000 then 1000 else lsI (mCstD s d) (mFit (s 0) row) (mPow (s 0)) + mChg s (s 1 - 1 - (d + 1)) row else 1000) ≤ _)
    split
    · split <;> omega
    · omega
theorem mCst_rg {s : Int → Int} (h0 : 1 ≤ s 0 ∧ s 0 ≤ 4) (h1 : 1 ≤ s 1 ∧ s 1 ≤ 6) (y row : Int) (hy : 0 ≤ y) : 0 ≤ mCst s y row ∧ (mCst s y row = 1000 ∨ mCst s y row ≤ 24) := by
  have := mCstD_rg h0 (s 1 - 1 - y).toNat row
  unfold mCst
  omega
theorem mBB_rg {s : Int → Int} (h0 : 1 ≤ s 0 ∧ s 0 ≤ 4) (h1 : 1 ≤ s 1 ∧ s 1 ≤ 6) (y row : Int) (hy : 0 ≤ y) : 0 ≤ mBB s y row ∧ mBB s y row ≤ 1000 := by
  unfold mBB
  split
  · decide
  · exact ⟨lsN_ge (by decide) _ (fun j _ _ => (mCst_rg h0 h1 (y + 1) j (by omega)).1), (lsN_spec _).1⟩
def mCoOk (s co : Int → Int) (y0 : Int) : Prop := ∀ y row : Int, y0 ≤ y → 0 ≤ y → y < s 1 → 0 ≤ row → row < mPow (s 0) → co (256 * y + row) = mCst s y row
def mAll (s : Int → Int) : Int := lsI (mCst s 0) (fun _ => true) (mPow (s 0))
/-- what is due, and the row ahead, at row y -/
def mCh (s : Int → Int) : Nat → Int × Int
  | 0 => (mAll s, -9)
  | y + 1 => ((mCh s y).1 - mChg s y (fdI (fun row => decide (mCst s y row = (mCh s y).1) && (decide ((mCh s y).2 = -9) || mFit (s 0) (mCh s y).2 row)) (mPow (s 0)) 0), fdI (fun row => decide (mCst s y row = (mCh s y).1) && (decide ((mCh s y).2 = -9) || mFit (s 0) (mCh s y).2 row)) (mPow (s 0)) 0)
def mPick (s : Int → Int) (y : Nat) : Int := fdI (fun row => decide (mCst s y row = (mCh s y).1) && (decide ((mCh s y).2 = -9) || mFit (s 0) (mCh s y).2 row)) (mPow (s 0)) 0
theorem mCh_ok {s : Int → Int} (h0 : 1 ≤ s 0 ∧ s 0 ≤ 4) (h1 : 1 ≤ s 1 ∧ s 1 ≤ 6) (ha : mAll s < 1000) : ∀ (y : Nat), (y : Int) < s 1 → (mCh s y).1 < 1000 ∧ ((mCh s y).2 = -9 ∨ 0 ≤ (mCh s y).2 ∧ (mCh s y).2 < mPow (s 0)) ∧ ∃ row, 0 ≤ row ∧ row < mPow (s 0) ∧ mCst s y row = (mCh s y).1 ∧ (decide ((mCh s y).2 = -9) || mFit (s 0) (mCh s y).2 row) = true := by
  intro y
  induction y with
  | zero =>
    intro _
    refine ⟨ha, Or.inl rfl, ?_⟩
    obtain ⟨j, a, b, c, d⟩ := (lsN_spec (cst := mCst s 0) (ok := fun _ => true) (mPow (s 0)).toNat).2.1 ha
    exact ⟨j, a, by omega, d, rfl⟩
  | succ y ih =>
    intro hy
    obtain ⟨i1, i2, row, a, b, c, d⟩ := ih (by omega)
    obtain ⟨f1, f2, f3⟩ := fdI_ex (p := fun row => decide (mCst s y row = (mCh s y).1) && (decide ((mCh s y).2 = -9) || mFit (s 0) (mCh s y).2 row)) (n := mPow (s 0)) (j := 0) (i := row) ⟨a, b⟩ (by rw [Bool.and_eq_true]; exact ⟨decide_eq_true c, d⟩)
    have e2 : (mCh s (y + 1)).2 = mPick s y := rfl
    have e1 : (mCh s (y + 1)).1 = (mCh s y).1 - mChg s y (mPick s y) := rfl
    have f4 : 0 ≤ mPick s y ∧ mPick s y < mPow (s 0) := ⟨f1, by show fdI _ _ _ < _; omega⟩
    have f5 : mCst s y (mPick s y) = (mCh s y).1 := by
      have := (Bool.and_eq_true _ _ ▸ f3 : _ ∧ _).1
      exact of_decide_eq_true this
    have h3 := mCst_eq (s := s) (y := (y : Int)) (row := mPick s y) (by omega)
    rw [f5] at h3
    have h4 : mMay s y (mPick s y) = true := by
      apply Classical.byContradiction
      intro h
      rw [if_neg h] at h3
      omega
    rw [if_pos h4] at h3
    have h5 : mBB s y (mPick s y) ≠ 1000 := by
      intro h
      rw [if_pos h] at h3
      omega
    rw [if_neg h5] at h3
    have h6 := mBB_rg h0 h1 y (mPick s y) (by omega)
    have h7 : (mCh s (y + 1)).1 = mBB s y (mPick s y) := by rw [e1]; omega
    have h8 : mBB s y (mPick s y) = lsI (mCst s (y + 1)) (mFit (s 0) (mPick s y)) (mPow (s 0)) := by unfold mBB; rw [if_neg (by omega)]
    obtain ⟨j, a, b, c, d⟩ := (lsN_spec (cst := mCst s (y + 1)) (ok := mFit (s 0) (mPick s y)) (mPow (s 0)).toNat).2.1 (by show lsI _ _ _ < _; rw [← h8]; omega)
    refine ⟨by rw [h7]; omega, Or.inr (by rw [e2]; exact f4), j, a, by omega, ?_, ?_⟩
    · rw [h7, h8]; exact d
    · rw [e2, c, Bool.or_true]
def mChange (s : Int → Int) : Int := if mAll s = 1000 then -9 else mAll s
def mBeOk (s be : Int → Int) : Prop := mAll s < 1000 → ∀ (y : Nat) (x : Int), (y : Int) < s 1 → 0 ≤ x → x < s 0 → be (s 0 * y + x) = mFig (s 0) (mPick s y) x
