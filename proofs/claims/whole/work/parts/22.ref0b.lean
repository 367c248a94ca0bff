/-! pure words of the reference, second part -/
def mS (s : Int → Int) : Prop := (1 ≤ s 0 ∧ s 0 ≤ 4) ∧ (1 ≤ s 1 ∧ s 1 ≤ 6) ∧ (-9 ≤ s 2 ∧ s 2 ≤ 3) ∧ (∀ j, 3 ≤ j → j < 27 → 0 ≤ s j ∧ s j ≤ 3) ∧ (∀ j, 27 ≤ j → j < 51 → 0 ≤ s j ∧ s j ≤ 1)
def mFig (w row x : Int) : Int := row / (4 : Int) ^ (w - 1 - x).toNat % 4
def mNear (x y : Int) : Bool := decide (-1 ≤ x - y ∧ x - y ≤ 1)
def mPow (w : Int) : Int := (4 : Int) ^ w.toNat
theorem mPow_rg {w : Int} (h : 1 ≤ w ∧ w ≤ 4) : 4 ≤ mPow w ∧ mPow w ≤ 256 := by
  rcases (show w = 1 ∨ w = 2 ∨ w = 3 ∨ w = 4 by omega) with rfl | rfl | rfl | rfl <;> decide
theorem mPow_eq {w : Int} (h : 1 ≤ w ∧ w ≤ 4) : iI 1 <<< (iI (2 * w) &&& 31) = iI (mPow w) := by
  rcases (show w = 1 ∨ w = 2 ∨ w = 3 ∨ w = 4 by omega) with rfl | rfl | rfl | rfl <;> decide
theorem fig_sh {row : Int} (h : 0 ≤ row ∧ row < 2147483648) (s : Int32) (k : Nat) (hs : (s.toBitVec.smod 32).toNat = k) : (iI row >>> s) &&& iI 3 = iI (row / (2 : Int) ^ k % 4) := by
  obtain ⟨n, rfl⟩ := Int.eq_ofNat_of_zero_le h.1
  rw [← iI_nI, pk_shrN (by omega) s k hs, show iI 3 = (3 : Int32) from rfl, pk_andN (by have := Nat.div_le_self n (2 ^ k); omega) 2 (by decide), iI_nI]
  congr 1
theorem mFig_eq {w row x : Int} (hr : 0 ≤ row ∧ row < 2147483648) (hw : 1 ≤ w ∧ w ≤ 4) (hx : 0 ≤ x ∧ x < w) : iI row >>> (iI (2 * (w - 1 - x)) &&& 31) &&& iI 3 = iI (mFig w row x) := by
  unfold mFig
  rcases (show w - 1 - x = 0 ∨ w - 1 - x = 1 ∨ w - 1 - x = 2 ∨ w - 1 - x = 3 by omega) with e | e | e | e <;> rw [e]
  · exact fig_sh hr _ 0 (by decide)
  · exact fig_sh hr _ 2 (by decide)
  · exact fig_sh hr _ 4 (by decide)
  · exact fig_sh hr _ 6 (by decide)
theorem mFig_rg (w row x : Int) : 0 ≤ mFig w row x ∧ mFig w row x ≤ 3 := by unfold mFig; omega
def mChg (s : Int → Int) (y row : Int) : Int := sI (fun x => if mFig (s 0) row x = s (3 + s 0 * y + x) then 0 else 1) (s 0)
theorem mChg_rg {s : Int → Int} (h : 1 ≤ s 0 ∧ s 0 ≤ 4) (y row : Int) : 0 ≤ mChg s y row ∧ mChg s y row ≤ 4 := by
  have := sI_rg (f := fun x => if mFig (s 0) row x = s (3 + s 0 * y + x) then 0 else 1) (B := 1) (c := s 0) (by omega) (fun j _ _ => by split <;> omega)
  unfold mChg
  omega
def mMayX (s : Int → Int) (y row x : Int) : Bool := (decide (s (27 + s 0 * y + x) = 0) || decide (mFig (s 0) row x = s (3 + s 0 * y + x))) && (decide (x = 0) || mNear (mFig (s 0) row (x - 1)) (mFig (s 0) row x))
def mMay (s : Int → Int) (y row : Int) : Bool := alI (mMayX s y row) (s 0)
def mFitX (w row next x t : Int) : Bool := !(decide (0 ≤ x - 1 + t ∧ x - 1 + t ≤ w - 1)) || mNear (mFig w row x) (mFig w next (x - 1 + t))
def mFit (w row next : Int) : Bool := alI (fun x => alI (mFitX w row next x) 3) w
def mFixed (s : Int → Int) : Int := sI (fun c => s (27 + c)) (s 0 * s 1)
def mHeights (s : Int → Int) : Int := sI (fun c => s (3 + c)) (s 0 * s 1)
def mPa (pa s : Int → Int) (un : Int) : Int → Int := if un = 6 then cpz s (cpz pa pa 51 0 255) 0 255 51 else cpz s pa 0 (51 * un) 51
def mUn (un : Int) : Int := if un = 6 then 6 else un + 1
def mUndoS (s pa : Int → Int) (un : Int) : Int → Int := if un = 0 then s else cpz pa s (51 * (un - 1)) 0 51
def mUndoU (un : Int) : Int := if un = 0 then un else un - 1
def mUndoR (un : Int) : Int := if un = 0 then -2 else un - 1
def mKeepR (s : Int → Int) (i : Int) : Int := if 0 ≤ i ∧ i ≤ 1 then s 0 * s 1 else -1
def mKeepK (s ke : Int → Int) (i : Int) : Int → Int := if 0 ≤ i ∧ i ≤ 1 then cpz s ke 0 (51 * i) 51 else ke
def mKeepI (ik : Int → Int) (i : Int) : Int → Int := if 0 ≤ i ∧ i ≤ 1 then uz ik i 1 else ik
def mBackS (s ke ik : Int → Int) (i : Int) : Int → Int := if 0 ≤ i ∧ i ≤ 1 then if ik i = 0 then s else cpz ke s (51 * i) 0 51 else s
def mBackU (ik : Int → Int) (un i : Int) : Int := if 0 ≤ i ∧ i ≤ 1 then if ik i = 0 then un else 0 else un
def mBackR (ke ik : Int → Int) (i : Int) : Int := if 0 ≤ i ∧ i ≤ 1 then if ik i = 0 then -2 else ke (51 * i) * ke (51 * i + 1) else -1
def mSeesOk (la q : Int) : Prop := (1 ≤ la ∧ la ≤ 3) ∧ (0 ≤ q ∧ q ≤ 46 ∨ q = -9)
def mSeesR (mf la q : Int) : Int := if (1 ≤ la ∧ la ≤ 3) ∧ (0 ≤ q ∧ q ≤ 46 ∨ q = -9) then if mf = 6 then -3 else mf + 1 else -1
def mSeesN (mf la q : Int) : Int := if (1 ≤ la ∧ la ≤ 3) ∧ (0 ≤ q ∧ q ≤ 46 ∨ q = -9) then if mf = 6 then mf else mf + 1 else mf
def mSeesF (fc : Int → Int) (mf la q : Int) : Int → Int := if (1 ≤ la ∧ la ≤ 3) ∧ (0 ≤ q ∧ q ≤ 46 ∨ q = -9) then if mf = 6 then fc else uz (uz fc (2 * mf) la) (2 * mf + 1) q else fc
def mCount (s : Int → Int) (mf ty un x : Int) : Int := if x = 0 then s 0 else if x = 1 then s 1 else if x = 2 then s 2 else if x = 3 then mFixed s else if x = 4 then mHeights s else if x = 5 then mf else if x = 6 then ty else if x = 7 then un else -1
def mBes (w i j : Int) : Bool := decide (-1 ≤ i % w - j % w ∧ i % w - j % w ≤ 1 ∧ -1 ≤ i / w - j / w ∧ i / w - j / w ≤ 1)
def mJarX (s : Int → Int) (i j : Int) : Int := bz (mBes (s 0) i j && !(mNear (s (3 + i)) (s (3 + j))))
def mJar (s : Int → Int) : Int := sI (fun i => sI (mJarX s i) i) (s 0 * s 1)
def mIn (w h x y : Int) : Bool := decide (0 ≤ x ∧ x < w ∧ 0 ≤ y ∧ y < h)
def mFixesR (s : Int → Int) (x y i : Int) : Int := if 0 ≤ x ∧ x < s 0 ∧ 0 ≤ y ∧ y < s 1 then if 0 ≤ i ∧ i ≤ 1 then if s (27 + s 0 * y + x) = i then -2 else mFixed (uz s (27 + s 0 * y + x) i) else -1 else -1
def mFixesDo (s : Int → Int) (x y i : Int) : Prop := (0 ≤ x ∧ x < s 0 ∧ 0 ≤ y ∧ y < s 1) ∧ (0 ≤ i ∧ i ≤ 1) ∧ s (27 + s 0 * y + x) ≠ i
def mRect (w x y x2 y2 c : Int) : Bool := decide (x ≤ c % w ∧ c % w ≤ x2 ∧ y ≤ c / w ∧ c / w ≤ y2)
def mPaintN (s : Int → Int) (x y x2 y2 h : Int) : Int := sI (fun c => bz (mRect (s 0) x y x2 y2 c && !(decide (s (3 + c) = h)))) (s 0 * s 1)
def mPaintS (s : Int → Int) (x y x2 y2 h c : Int) : Int → Int := fun j => if 3 ≤ j ∧ j < 3 + c ∧ mRect (s 0) x y x2 y2 (j - 3) = true then h else s j
def mPaintOk (s : Int → Int) (x y x2 y2 h : Int) : Prop := 0 ≤ x ∧ x ≤ x2 ∧ x2 < s 0 ∧ 0 ≤ y ∧ y ≤ y2 ∧ y2 < s 1 ∧ 0 ≤ h ∧ h ≤ 3
def mHAt (s : Int → Int) (x y : Int) : Int := if 0 ≤ x ∧ x < s 0 ∧ 0 ≤ y ∧ y < s 1 then s (3 + s 0 * y + x) else if s 2 = -9 then s (3 + s 0 * (if y < 0 then 0 else if s 1 ≤ y then s 1 - 1 else y) + (if x < 0 then 0 else if s 0 ≤ x then s 0 - 1 else x)) else s 2
def mDx (k : Int) : Int := if 1 ≤ k ∧ k ≤ 3 then 1 else if 5 ≤ k ∧ k ≤ 7 then -1 else 0
def mDy (k : Int) : Int := if 3 ≤ k ∧ k ≤ 5 then 1 else if k = 2 ∨ k = 6 then 0 else -1
def mBit (n k : Int) : Bool := decide (n / (2 : Int) ^ k.toNat % 2 = 1)
theorem bit_sh {n : Int} (h : 0 ≤ n ∧ n < 2147483648) (s : Int32) (k : Nat) (hs : (s.toBitVec.smod 32).toNat = k) : (iI n >>> s) &&& iI 1 = iI (n / (2 : Int) ^ k % 2) := by
  obtain ⟨n, rfl⟩ := Int.eq_ofNat_of_zero_le h.1
  rw [← iI_nI, pk_shrN (by omega) s k hs, show iI 1 = (1 : Int32) from rfl, pk_andN (by have := Nat.div_le_self n (2 ^ k); omega) 1 (by decide), iI_nI]
  congr 1
theorem sh_k : ∀ k : Nat, k < 32 → ((nI k &&& 31).toBitVec.smod 32).toNat = k := by decide +kernel
theorem mBit_eq {n k : Int} (h : 0 ≤ n ∧ n < 2147483648) (hk : 0 ≤ k ∧ k < 32) : (iI n >>> (iI k &&& 31)) &&& iI 1 = iI (n / (2 : Int) ^ k.toNat % 2) := by
  refine bit_sh h _ k.toNat ?_
  have := sh_k k.toNat (by omega)
  rwa [iI_nI, Int.toNat_of_nonneg hk.1] at this
