/-! pairs that jar, counted by lists of pairs -/
def pS (f : Nat × Nat → Int) : List (Nat × Nat) → Int
  | [] => 0
  | a :: l => f a + pS f l
theorem pS_app (f : Nat × Nat → Int) (l m : List (Nat × Nat)) : pS f (l ++ m) = pS f l + pS f m := by
  induction l with
  | nil => exact (Int.zero_add _).symm
  | cons a l ih =>
    show f a + pS f (l ++ m) = f a + pS f l + pS f m
    rw [ih, Int.add_assoc]
theorem pS_perm (f : Nat × Nat → Int) {l m : List (Nat × Nat)} (h : l.Perm m) : pS f l = pS f m := by
  induction h with
  | nil => rfl
  | cons a _ ih => show f a + pS f _ = f a + pS f _; rw [ih]
  | swap a b l => show f b + (f a + pS f l) = f a + (f b + pS f l); omega
  | trans _ _ i1 i2 => exact i1.trans i2
def bL (L : Nat → List (Nat × Nat)) : Nat → List (Nat × Nat)
  | 0 => []
  | n + 1 => bL L n ++ L n
theorem bL_eq {g : Int → Int} {f : Nat × Nat → Int} {L : Nat → List (Nat × Nat)} : ∀ n : Nat, (∀ j : Nat, j < n → g j = pS f (L j)) → smN g n = pS f (bL L n) := by
  intro n
  induction n with
  | zero => intro _; rfl
  | succ n ih =>
    intro h
    show smN g n + g n = pS f (bL L n ++ L n)
    rw [pS_app, ih (fun j hj => h j (by omega)), h n (by omega)]
def jL (w n : Nat) : List (Nat × Nat) := bL (fun i => bL (fun j => if mBes w i j = true then [(i, j)] else []) i) n
def jG (w h : Nat) : List (Nat × Nat) := bL (fun y => bL (fun x => bL (fun k => if 0 ≤ (x : Int) + mDx (k + 2) ∧ (x : Int) + mDx (k + 2) < w ∧ 0 ≤ (y : Int) + mDy (k + 2) ∧ (y : Int) + mDy (k + 2) < h then [((w * ((y : Int) + mDy (k + 2)) + ((x : Int) + mDx (k + 2))).toNat, w * y + x)] else []) 4) w) h
def jN (l : List (Nat × Nat)) : List (Nat × Nat) := l.map (fun p => if p.1 < p.2 then (p.2, p.1) else p)
theorem jPerm : ∀ w : Nat, w < 5 → ∀ h : Nat, h < 7 → (jN (jG w h)).isPerm (jL w (w * h)) = true := by decide +kernel
theorem pS_N {f : Nat × Nat → Int} (hf : ∀ i j, f (i, j) = f (j, i)) (l : List (Nat × Nat)) : pS f (jN l) = pS f l := by
  induction l with
  | nil => rfl
  | cons a l ih =>
    show f (if a.1 < a.2 then (a.2, a.1) else a) + pS f (jN l) = f a + pS f l
    rw [ih]
    split
    · rw [hf]
    · rfl
def jF (s : Int → Int) (p : Nat × Nat) : Int := bz (!(mNear (s (3 + p.1)) (s (3 + p.2))))
theorem jF_sym (s : Int → Int) (i j : Nat) : jF s (i, j) = jF s (j, i) := by
  unfold jF mNear
  have : decide (-1 ≤ s (3 + i) - s (3 + j) ∧ s (3 + i) - s (3 + j) ≤ 1) = decide (-1 ≤ s (3 + j) - s (3 + i) ∧ s (3 + j) - s (3 + i) ≤ 1) := by
    by_cases h : -1 ≤ s (3 + i) - s (3 + j) ∧ s (3 + i) - s (3 + j) ≤ 1
    · rw [decide_eq_true h, decide_eq_true (by omega)]
    · rw [decide_eq_false h, decide_eq_false (by omega)]
  show bz (!(decide (-1 ≤ s (3 + i) - s (3 + j) ∧ s (3 + i) - s (3 + j) ≤ 1))) = bz (!(decide (-1 ≤ s (3 + j) - s (3 + i) ∧ s (3 + j) - s (3 + i) ≤ 1)))
  rw [this]
theorem mJar_L {s : Int → Int} {w : Nat} (hw : s 0 = w) : ∀ n : Nat, smN (fun i => sI (mJarX s i) i) n = pS (jF s) (jL w n) := by
  intro n
  refine bL_eq n (fun i _ => ?_)
  show smN (mJarX s i) (i : Int).toNat = _
  refine bL_eq i (fun j _ => ?_)
  unfold mJarX
  rw [hw]
  cases hb : mBes w i j with
  | true => rw [if_pos rfl]; show bz (true && !(mNear (s (3 + i)) (s (3 + j)))) = jF s (i, j) + 0; rw [Bool.true_and, Int.add_zero]; rfl
  | false => rw [if_neg (by decide)]; rfl
theorem gJX_L {s : Int → Int} {w h x y k : Nat} (hw : s 0 = w) (hh : s 1 = h) : gJX s x y ((k : Int) + 2) = pS (jF s) (if 0 ≤ (x : Int) + mDx (k + 2) ∧ (x : Int) + mDx (k + 2) < w ∧ 0 ≤ (y : Int) + mDy (k + 2) ∧ (y : Int) + mDy (k + 2) < h then [((w * ((y : Int) + mDy (k + 2)) + ((x : Int) + mDx (k + 2))).toNat, w * y + x)] else []) := by
  unfold gJX
  rw [hw, hh]
  by_cases hc : 0 ≤ (x : Int) + mDx (k + 2) ∧ (x : Int) + mDx (k + 2) < w ∧ 0 ≤ (y : Int) + mDy (k + 2) ∧ (y : Int) + mDy (k + 2) < h
  · rw [if_pos hc, if_pos hc]
    have h1 : 0 ≤ (w : Int) * ((y : Int) + mDy (k + 2)) := Int.mul_nonneg (by omega) hc.2.2.1
    show _ = jF s _ + 0
    unfold jF mNear
    have e1 : ((((w : Int) * ((y : Int) + mDy (k + 2)) + ((x : Int) + mDx (k + 2))).toNat : Nat) : Int) = (w : Int) * ((y : Int) + mDy (k + 2)) + ((x : Int) + mDx (k + 2)) := Int.toNat_of_nonneg (by omega)
    have e2 : ((w * y + x : Nat) : Int) = (w : Int) * y + x := by rw [Int.natCast_add, Int.natCast_mul]
    rw [Int.add_zero]
    show _ = bz (!(decide (-1 ≤ s (3 + ((((w : Int) * ((y : Int) + mDy (k + 2)) + ((x : Int) + mDx (k + 2))).toNat : Nat) : Int)) - s (3 + ((w * y + x : Nat) : Int)) ∧ s (3 + ((((w : Int) * ((y : Int) + mDy (k + 2)) + ((x : Int) + mDx (k + 2))).toNat : Nat) : Int)) - s (3 + ((w * y + x : Nat) : Int)) ≤ 1)))
    rw [e1, e2]
    split
    · rw [decide_eq_true (by assumption)]; rfl
    · rw [decide_eq_false (by assumption)]; rfl
  · rw [if_neg hc, if_neg hc]
    rfl
theorem gJar_L {s : Int → Int} {w h : Nat} (hw : s 0 = w) (hh : s 1 = h) : gJar s = pS (jF s) (jG w h) := by
  unfold gJar
  rw [hw, hh]
  show smN (fun y => sI (fun x => gJA s x y) w) (h : Int).toNat = _
  refine bL_eq h (fun y _ => ?_)
  show smN (fun x => gJA s x y) (w : Int).toNat = _
  refine bL_eq w (fun x _ => ?_)
  show smN (fun k => gJX s x y (k + 2)) 4 = _
  exact bL_eq 4 (fun k _ => gJX_L hw hh)
theorem gJar_eq {s : Int → Int} (h0 : 1 ≤ s 0 ∧ s 0 ≤ 4) (h1 : 1 ≤ s 1 ∧ s 1 ≤ 6) : gJar s = mJar s := by
  have hw : s 0 = ((s 0).toNat : Nat) := (Int.toNat_of_nonneg (by omega)).symm
  have hh : s 1 = ((s 1).toNat : Nat) := (Int.toNat_of_nonneg (by omega)).symm
  have hp := jPerm (s 0).toNat (by omega) (s 1).toNat (by omega)
  rw [List.isPerm_iff] at hp
  rw [gJar_L hw hh, ← pS_N (jF_sym s), pS_perm _ hp, ← mJar_L hw]
  unfold mJar sI
  congr 1
  rw [Int.toNat_mul (by omega) (by omega)]
/-! the least change as the class keeps it -/
def lcS (w h : Int) (ht fx : Int64) (ch : Int) (hh : Int64) (fw : Int → Int) : Prop := lcInv w h ht fx ch hh ∧ fwR fw ∧ (-2147483648 ≤ w ∧ w < 2147483648) ∧ (-2147483648 ≤ h ∧ h < 2147483648)
theorem lcS_of {s fw : Int → Int} {ch : Int} {hh : Int64} (hs : mS s) (h : lcOk s ch hh ∧ fwR fw) : lcS (s 0) (s 1) (pk s 3) (pk s 27) ch hh fw := by
  have h0 := hs.1
  have h1 := hs.2.1
  exact ⟨lcInv_of hs h.1, h.2, by omega, by omega⟩
theorem mChange_or {s : Int → Int} (h0 : 1 ≤ s 0 ∧ s 0 ≤ 4) (h1 : 1 ≤ s 1 ∧ s 1 ≤ 6) : (mAll s = 1000 ∧ mChange s = -9) ∨ (0 ≤ mAll s ∧ mAll s ≤ 24 ∧ mChange s = mAll s) := by
  have a := mAll_24 h0 h1
  have b := mAll_rg h0 h1
  unfold mChange
  by_cases h : mAll s = 1000
  · rw [if_pos h]; exact Or.inl ⟨h, rfl⟩
  · rw [if_neg h]; exact Or.inr ⟨by omega, by omega, rfl⟩
theorem gLc_at {s : Int → Int} {z : Int} (hz : 0 ≤ z ∧ z < s 0 * s 1) : gLc s (3 + z) = mFig (s 0) (mPick s (z / s 0).toNat) (z % s 0) := by
  unfold gLc gLcP
  rw [if_pos (by omega), show 3 + z - 3 = z by omega]
/-- nothing is laid beyond the last cell -/
def mZ (s : Int → Int) : Prop := ∀ c, s 0 * s 1 ≤ c → c < 24 → s (3 + c) = 0 ∧ s (27 + c) = 0
theorem gLc_setl {s : Int → Int} (hz : mZ s) : pk (gLc s) 3 = pk (mSetlS s) 3 := by
  refine pk_congr (fun j a b => ?_)
  unfold gLc gLcP mSetlS
  by_cases h : 3 ≤ j ∧ j < 3 + s 0 * s 1
  · rw [if_pos h, if_pos h]
  · rw [if_neg h, if_neg h]
    have := (hz (j - 3) (by omega) (by omega)).1
    rw [show 3 + (j - 3) = j by omega] at this
    exact this.symm
theorem mSetl_g {s : Int → Int} (h0 : 1 ≤ s 0 ∧ s 0 ≤ 4) (h1 : 1 ≤ s 1 ∧ s 1 ≤ 6) : mSetlS s 0 = s 0 ∧ mSetlS s 1 = s 1 ∧ mSetlS s 2 = s 2 ∧ pk (mSetlS s) 27 = pk s 27 := by
  have hc := cells_rg h0 h1
  refine ⟨if_neg (by omega), if_neg (by omega), if_neg (by omega), pk_congr (fun j a b => if_neg (by omega))⟩
