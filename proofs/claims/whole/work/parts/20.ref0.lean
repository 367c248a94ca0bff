/-! the reference: its cells and pure words -/
abbrev mO (a : Nat) (q : Nat → Nat) (th un mf ty fr tt tk fa hf ho km : Int) : Nat × va_E := (a, .inr (9, [.int (iI th), .ref (q 1), .ref (q 2), .ref (q 3), .int (iI un), .ref (q 5), .ref (q 6), .ref (q 7), .int (iI mf), .ref (q 9), .int (iI ty), .int (iI fr), .int (iI tt), .int (iI tk), .int (iI fa), .int (iI hf), .int (iI ho), .ref (q 17), .ref (q 18), .ref (q 19), .ref (q 20), .ref (q 21), .ref (q 22), .int (iI km)]))
def mAt (tx : Int → Int) (ty x : Int) : Int := if x < ty then tx x else -1
def mTypeR (ty x : Int) : Int := if x < 0 ∨ 255 < x then -1 else if ty = 120 then -3 else ty + 1
def mTypeN (ty x : Int) : Int := if x < 0 ∨ 255 < x then ty else if ty = 120 then ty else ty + 1
def mTypeX (tx : Int → Int) (ty x : Int) : Int → Int := if x < 0 ∨ 255 < x then tx else if ty = 120 then tx else uz tx ty x
theorem mAt_rg {tx : Int → Int} {ty : Int} (h : ∀ j, 0 ≤ tx j ∧ tx j < 256) (x : Int) : -1 ≤ mAt tx ty x ∧ mAt tx ty x < 256 := by
  unfold mAt
  have := h x
  split <;> omega
theorem mAt_lt {tx : Int → Int} {ty x : Int} : 0 ≤ mAt tx ty x → x < ty := by
  unfold mAt
  split <;> omega
def mWord (tx : Int → Int) (ty fr tt : Int) : Int :=
  if tt - fr = 3 ∧ mAt tx ty fr = 114 ∧ mAt tx ty (fr + 1) = 111 ∧ mAt tx ty (fr + 2) = 119 then 1
  else if tt - fr = 3 ∧ mAt tx ty fr = 102 ∧ mAt tx ty (fr + 1) = 105 ∧ mAt tx ty (fr + 2) = 120 then 2
  else if tt - fr = 6 ∧ mAt tx ty fr = 98 ∧ mAt tx ty (fr + 1) = 101 ∧ mAt tx ty (fr + 2) = 121 ∧ mAt tx ty (fr + 3) = 111 ∧ mAt tx ty (fr + 4) = 110 ∧ mAt tx ty (fr + 5) = 100 then 3 else 6
/-- the first place from p on that has no blank -/
def mSkipF (tx : Int → Int) (ty : Int) : Nat → Int → Int
  | 0, p => p
  | n + 1, p => if mAt tx ty p = 32 then mSkipF tx ty n (p + 1) else p
def mSkip (tx : Int → Int) (ty p : Int) : Int := mSkipF tx ty (ty - p).toNat p
theorem mSkip_eq {tx : Int → Int} {ty p : Int} : mSkip tx ty p = if mAt tx ty p = 32 then mSkip tx ty (p + 1) else p := by
  unfold mSkip
  by_cases h : p < ty
  · rw [show (ty - p).toNat = (ty - (p + 1)).toNat + 1 by omega]
    rfl
  · have h0 : ¬ mAt tx ty p = 32 := by unfold mAt; rw [if_neg h]; decide
    rw [if_neg h0, show (ty - p).toNat = 0 by omega]
    rfl
theorem mSkip_rg {tx : Int → Int} {ty p : Int} (h : p ≤ ty) : p ≤ mSkip tx ty p ∧ mSkip tx ty p ≤ ty := by
  have key : ∀ (n : Nat) (p : Int), p + n ≤ ty → p ≤ mSkipF tx ty n p ∧ mSkipF tx ty n p ≤ ty := by
    intro n
    induction n with
    | zero => intro p hp; unfold mSkipF; omega
    | succ n ih =>
      intro p hp
      unfold mSkipF
      have := ih (p + 1) (by omega)
      split <;> omega
  exact key _ p (by omega)
theorem mSkip_at {tx : Int → Int} {ty p : Int} : mAt tx ty (mSkip tx ty p) ≠ 32 := by
  have key : ∀ (n : Nat) (p : Int), ty ≤ p + n → mAt tx ty (mSkipF tx ty n p) ≠ 32 := by
    intro n
    induction n with
    | zero => intro p hp; unfold mSkipF mAt; rw [if_neg (by omega)]; decide
    | succ n ih =>
      intro p hp
      unfold mSkipF
      have := ih (p + 1) (by omega)
      split
      · exact this
      · assumption
  exact key _ p (by omega)
/-- the first place from p on whose letter is not of lo .. hi -/
def mRunF (tx : Int → Int) (ty lo hi : Int) : Nat → Int → Int
  | 0, p => p
  | n + 1, p => if lo ≤ mAt tx ty p ∧ mAt tx ty p ≤ hi then mRunF tx ty lo hi n (p + 1) else p
def mRun (tx : Int → Int) (ty lo hi p : Int) : Int := mRunF tx ty lo hi (ty - p).toNat p
theorem mRun_eq {tx : Int → Int} {ty lo hi p : Int} (hlo : 0 ≤ lo := by decide) : mRun tx ty lo hi p = if lo ≤ mAt tx ty p ∧ mAt tx ty p ≤ hi then mRun tx ty lo hi (p + 1) else p := by
  unfold mRun
  by_cases h : p < ty
  · rw [show (ty - p).toNat = (ty - (p + 1)).toNat + 1 by omega]
    rfl
  · have h0 : mAt tx ty p = -1 := by unfold mAt; rw [if_neg h]
    rw [if_neg (by omega), show (ty - p).toNat = 0 by omega]
    rfl
theorem mRun_rg {tx : Int → Int} {ty lo hi p : Int} (h : p ≤ ty) : p ≤ mRun tx ty lo hi p ∧ mRun tx ty lo hi p ≤ ty := by
  have key : ∀ (n : Nat) (p : Int), p + n ≤ ty → p ≤ mRunF tx ty lo hi n p ∧ mRunF tx ty lo hi n p ≤ ty := by
    intro n
    induction n with
    | zero => intro p hp; unfold mRunF; omega
    | succ n ih =>
      intro p hp
      unfold mRunF
      have := ih (p + 1) (by omega)
      split <;> omega
  exact key _ p (by omega)
/-- of the token whose first letter is at f: the place behind its last, and its sort -/
def mTo (tx : Int → Int) (ty f : Int) : Int :=
  if mAt tx ty f < 0 then f else if 48 ≤ mAt tx ty f ∧ mAt tx ty f ≤ 57 then mRun tx ty 48 57 f else if 97 ≤ mAt tx ty f ∧ mAt tx ty f ≤ 122 then mRun tx ty 97 122 f else f + 1
def mTk (tx : Int → Int) (ty f : Int) : Int :=
  if mAt tx ty f < 0 then 0 else if 48 ≤ mAt tx ty f ∧ mAt tx ty f ≤ 57 then 4 else if 97 ≤ mAt tx ty f ∧ mAt tx ty f ≤ 122 then mWord tx ty f (mRun tx ty 97 122 f) else if mAt tx ty f = 59 then 5 else 6
theorem mTo_rg {tx : Int → Int} {ty f : Int} (h : f ≤ ty) : f ≤ mTo tx ty f ∧ mTo tx ty f ≤ ty := by
  unfold mTo
  have h1 := mRun_rg (tx := tx) (lo := 48) (hi := 57) h
  have h2 := mRun_rg (tx := tx) (lo := 97) (hi := 122) h
  have h3 := mAt_lt (tx := tx) (ty := ty) (x := f)
  split
  · omega
  · split
    · omega
    · split
      · omega
      · have := h3 (by omega); omega
/-! sums, all, any over 0 .. c - 1; copies -/
def smN (f : Int → Int) : Nat → Int
  | 0 => 0
  | n + 1 => smN f n + f (n : Int)
def sI (f : Int → Int) (c : Int) : Int := smN f c.toNat
theorem sI_0 (f : Int → Int) : sI f 0 = 0 := rfl
theorem sI_s {f : Int → Int} {c : Int} (h : 0 ≤ c) : sI f (c + 1) = sI f c + f c := by
  unfold sI
  rw [show (c + 1).toNat = c.toNat + 1 by omega]
  show smN f c.toNat + f (c.toNat : Int) = _
  rw [Int.toNat_of_nonneg h]
theorem smN_congr {f g : Int → Int} : ∀ (n : Nat), (∀ j : Int, 0 ≤ j → j < n → f j = g j) → smN f n = smN g n := by
  intro n
  induction n with
  | zero => intro _; rfl
  | succ n ih =>
    intro h
    show smN f n + f n = smN g n + g n
    rw [ih (fun j h1 h2 => h j h1 (by omega)), h n (by omega) (by omega)]
theorem sI_congr {f g : Int → Int} {c : Int} (h : ∀ j : Int, 0 ≤ j → j < c → f j = g j) : sI f c = sI g c := smN_congr _ (fun j h1 h2 => h j h1 (by omega))
theorem smN_rg {f : Int → Int} {B : Int} : ∀ (n : Nat), (∀ j : Int, 0 ≤ j → j < n → 0 ≤ f j ∧ f j ≤ B) → 0 ≤ smN f n ∧ smN f n ≤ B * n := by
  intro n
  induction n with
  | zero => intro _; exact ⟨Int.le_refl 0, by show (0 : Int) ≤ B * ((0 : Nat) : Int); simp⟩
  | succ n ih =>
    intro h
    have h1 := ih (fun j a b => h j a (by omega))
    have h2 := h n (by omega) (by omega)
    show 0 ≤ smN f n + f n ∧ smN f n + f n ≤ B * ((n + 1 : Nat) : Int)
    have h3 : B * ((n + 1 : Nat) : Int) = B * n + B := by rw [Int.natCast_add, Int.mul_add]; simp
    omega
theorem sI_rg {f : Int → Int} {B c : Int} (hc : 0 ≤ c) (h : ∀ j : Int, 0 ≤ j → j < c → 0 ≤ f j ∧ f j ≤ B) : 0 ≤ sI f c ∧ sI f c ≤ B * c := by
  have := smN_rg (f := f) (B := B) c.toNat (fun j a b => h j a (by omega))
  rwa [Int.toNat_of_nonneg hc] at this
def alN (f : Int → Bool) : Nat → Bool
  | 0 => true
  | n + 1 => alN f n && f (n : Int)
def alI (f : Int → Bool) (c : Int) : Bool := alN f c.toNat
theorem alI_0 (f : Int → Bool) : alI f 0 = true := rfl
theorem alI_s {f : Int → Bool} {c : Int} (h : 0 ≤ c) : alI f (c + 1) = (alI f c && f c) := by
  unfold alI
  rw [show (c + 1).toNat = c.toNat + 1 by omega]
  show (alN f c.toNat && f (c.toNat : Int)) = _
  rw [Int.toNat_of_nonneg h]
theorem alN_iff {f : Int → Bool} : ∀ (n : Nat), alN f n = true ↔ ∀ j : Int, 0 ≤ j → j < n → f j = true := by
  intro n
  induction n with
  | zero => exact ⟨fun _ j a b => absurd b (by omega), fun _ => rfl⟩
  | succ n ih =>
    show (alN f n && f n) = true ↔ _
    rw [Bool.and_eq_true, ih]
    constructor
    · rintro ⟨h1, h2⟩ j a b
      by_cases hj : j < n
      · exact h1 j a hj
      · rw [show j = n by omega]; exact h2
    · intro h
      exact ⟨fun j a b => h j a (by omega), h n (by omega) (by omega)⟩
theorem alI_iff {f : Int → Bool} {c : Int} : alI f c = true ↔ ∀ j : Int, 0 ≤ j → j < c → f j = true := by
  unfold alI
  rw [alN_iff]
  exact ⟨fun h j a b => h j a (by omega), fun h j a b => h j a (by omega)⟩
def exI (f : Int → Bool) (c : Int) : Bool := !(alI (fun j => !(f j)) c)
theorem exI_0 (f : Int → Bool) : exI f 0 = false := rfl
theorem exI_s {f : Int → Bool} {c : Int} (h : 0 ≤ c) : exI f (c + 1) = (exI f c || f c) := by
  unfold exI
  rw [alI_s h]
  cases alI (fun j => !(f j)) c <;> cases f c <;> rfl
theorem exI_iff {f : Int → Bool} {c : Int} : exI f c = true ↔ ∃ j : Int, 0 ≤ j ∧ j < c ∧ f j = true := by
  unfold exI
  constructor
  · intro h
    apply Classical.byContradiction
    intro hn
    have : alI (fun j => !(f j)) c = true := alI_iff.mpr (fun j a b => by
      cases hf : f j with
      | false => rfl
      | true => exact absurd ⟨j, a, b, hf⟩ hn)
    rw [this] at h
    cases h
  · rintro ⟨j, a, b, hf⟩
    cases hx : alI (fun j => !(f j)) c with
    | false => rfl
    | true =>
      have := alI_iff.mp hx j a b
      rw [hf] at this
      cases this
/-- g, but c places from d on are as f's from o on -/
def cpz (f g : Int → Int) (o d c : Int) : Int → Int := fun j => if d ≤ j ∧ j < d + c then f (j - d + o) else g j
theorem cpz_0 (f g : Int → Int) (o d : Int) : cpz f g o d 0 = g := by
  funext j
  unfold cpz
  rw [if_neg (by omega)]
theorem cpz_s {f g : Int → Int} {o d c z v : Int} (h : 0 ≤ c) (hz : z = d + c) (hv : v = f (o + c)) : uz (cpz f g o d c) z v = cpz f g o d (c + 1) := by
  subst hz; subst hv
  funext j
  unfold uz cpz
  by_cases h1 : j = d + c
  · rw [if_pos h1, if_pos (by omega)]
    congr 1
    omega
  · rw [if_neg h1]
    by_cases h2 : d ≤ j ∧ j < d + c
    · rw [if_pos h2, if_pos (by omega)]
    · rw [if_neg h2, if_neg (by omega)]
theorem cpz_in {f g : Int → Int} {o d c j : Int} (h : d ≤ j ∧ j < d + c) : cpz f g o d c j = f (j - d + o) := if_pos h
theorem cpz_out {f g : Int → Int} {o d c j : Int} (h : ¬ (d ≤ j ∧ j < d + c)) : cpz f g o d c j = g j := if_neg h
theorem cells_rg {w h : Int} (hw : 1 ≤ w ∧ w ≤ 4) (hh : 1 ≤ h ∧ h ≤ 6) : 1 ≤ w * h ∧ w * h ≤ 24 := by
  rcases (show w = 1 ∨ w = 2 ∨ w = 3 ∨ w = 4 by omega) with rfl | rfl | rfl | rfl <;> omega
theorem cell_rg {w h x y : Int} (hw : 1 ≤ w ∧ w ≤ 4) (hx : 0 ≤ x ∧ x < w) (hy : 0 ≤ y ∧ y < h) : 0 ≤ w * y + x ∧ w * y + x < w * h ∧ 0 ≤ w * y := by
  rcases (show w = 1 ∨ w = 2 ∨ w = 3 ∨ w = 4 by omega) with rfl | rfl | rfl | rfl <;> omega
theorem dm_rg {w h c : Int} (hw : 1 ≤ w ∧ w ≤ 4) (hc : 0 ≤ c ∧ c < w * h) : 0 ≤ c % w ∧ c % w < w ∧ 0 ≤ c / w ∧ c / w < h ∧ w * (c / w) + c % w = c := by
  rcases (show w = 1 ∨ w = 2 ∨ w = 3 ∨ w = 4 by omega) with rfl | rfl | rfl | rfl <;> omega
