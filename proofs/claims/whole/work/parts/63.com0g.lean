/-! the past and the images, as the reference's rows -/
def pz (pa : Int → Int) (k : Int) : Int → Int := fun t => pa (51 * k + t)
theorem gO_congr (a : Nat) {f g : Int → Int} (h : ∀ t, 0 ≤ t → t < 51 → f t = g t) : gO a (f 0) (f 1) (pk f 3) (pk f 27) (f 2) = gO a (g 0) (g 1) (pk g 3) (pk g 27) (g 2) := by
  rw [h 0 (by decide) (by decide), h 1 (by decide) (by decide), h 2 (by decide) (by decide), pk_congr (s := f) (t := g) (fun j a b => h j (by omega) (by omega)), pk_congr (s := f) (t := g) (b := 27) (fun j a b => h j (by omega) (by omega))]
theorem mPa_6 {pa s : Int → Int} {k : Int} (hk : 0 ≤ k ∧ k < 5) : ∀ t, 0 ≤ t → t < 51 → pz (mPa pa s 6) k t = pz pa (k + 1) t := by
  intro t h1 h2
  unfold pz mPa
  rw [if_pos rfl, cpz_out (by omega), cpz_in (by omega)]
  congr 1
  omega
theorem mPa_65 {pa s : Int → Int} : ∀ t, 0 ≤ t → t < 51 → pz (mPa pa s 6) 5 t = s t := by
  intro t h1 h2
  unfold pz mPa
  rw [if_pos rfl, cpz_in (by omega)]
  congr 1
  omega
theorem mPa_k {pa s : Int → Int} {k : Int} (hk : 0 ≤ k ∧ k < 6) : ∀ t, 0 ≤ t → t < 51 → pz (mPa pa s k) k t = s t := by
  intro t h1 h2
  unfold pz mPa
  rw [if_neg (by omega), cpz_in (by omega)]
  congr 1
  omega
theorem mPa_n {pa s : Int → Int} {un k : Int} (hu : 0 ≤ un ∧ un < 6) (hk : 0 ≤ k ∧ k < 6) (hne : un ≠ k) : ∀ t, 0 ≤ t → t < 51 → pz (mPa pa s un) k t = pz pa k t := by
  intro t h1 h2
  unfold pz mPa
  rw [if_neg (by omega), cpz_out (by omega)]
theorem mUndo_t {s pa : Int → Int} {un : Int} (hu : 1 ≤ un ∧ un ≤ 6) : ∀ t, 0 ≤ t → t < 51 → mUndoS s pa un t = pz pa (un - 1) t := by
  intro t h1 h2
  unfold mUndoS pz
  rw [if_neg (by omega), cpz_in (by omega)]
  congr 1
  omega
theorem mKeep_k {s ke : Int → Int} {i : Int} (hi : 0 ≤ i ∧ i ≤ 1) : ∀ t, 0 ≤ t → t < 51 → pz (mKeepK s ke i) i t = s t := by
  intro t h1 h2
  unfold mKeepK pz
  rw [if_pos hi, cpz_in (by omega)]
  congr 1
  omega
theorem mKeep_n {s ke : Int → Int} {i k : Int} (hi : 0 ≤ i ∧ i ≤ 1) (hk : 0 ≤ k ∧ k ≤ 1) (hne : i ≠ k) : ∀ t, 0 ≤ t → t < 51 → pz (mKeepK s ke i) k t = pz ke k t := by
  intro t h1 h2
  unfold mKeepK pz
  rw [if_pos hi, cpz_out (by omega)]
theorem mBack_t {s ke ik : Int → Int} {i : Int} (hi : 0 ≤ i ∧ i ≤ 1) (hk : ik i ≠ 0) : ∀ t, 0 ≤ t → t < 51 → mBackS s ke ik i t = pz ke i t := by
  intro t h1 h2
  unfold mBackS pz
  rw [if_pos hi, if_neg hk, cpz_in (by omega)]
  congr 1
  omega
