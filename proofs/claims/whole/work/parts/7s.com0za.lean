theorem gTo_rg {tx : Int → Int} {ty f : Int} (htx : ∀ j, 0 ≤ tx j ∧ tx j < 256) (hf : 0 ≤ f ∧ f < ty) : f < gTo tx ty f ∧ gTo tx ty f ≤ ty := by
  have hk : mTk tx ty f ≠ 0 := fun q => absurd (mTk_0.mp q) (by have := (mAt_ge htx hf.2).1; omega)
  rw [gT_lt hf.2]
  exact ⟨mTo_gt (by omega) hk, (mTo_rg (by omega)).2⟩
theorem gIv_r5 {tx : Int → Int} {ty : Int} {d0 : Int → Int} {n : Nat} {tok tt du it rt fc : Int} {ft bt : Bool} {d : Int → Int} (h : gIv tx ty d0 n tok tt du it rt fc ft bt d) : du = 1 → rt ≤ 5 := by
  intro q
  have h1 := h.2.2.2.2.2.2.2.2.2.1 q
  have h2 := h1.2.2.2.2.2.1.2.1
  have h3 := h1.2.2.1
  omega
theorem gStd_fc {tx : Int → Int} {ty fr tt du it rt fc : Int} {ft bt : Bool} {d : Int → Int} {du9 it9 rt9 fc9 : Int} {ft9 bt9 : Bool} {d9 : Int → Int} {ok : Bool} (hdu : 0 ≤ du ∧ du ≤ 5) (hfc : -2147483648 ≤ fc ∧ fc < 2147483648) (h : gStd tx ty fr tt du it rt fc ft bt d du9 it9 rt9 fc9 ft9 bt9 d9 ok) : -2147483648 ≤ fc9 ∧ fc9 < 2147483648 := by
  obtain ⟨s0, s1, s2, s3, s4, s5⟩ := h
  have hg := gFg_rg (tx := tx) (ty := ty) (fr := fr) (tt := tt)
  rcases (show du = 0 ∨ du = 1 ∨ du = 2 ∨ du = 3 ∨ du = 4 ∨ du = 5 by omega) with hd | hd | hd | hd | hd | hd
  · have := (s0 hd).2.2.2.2.2.2.2; omega
  · have := (s1 hd).2.2.2.2.2; omega
  · have := (s2 hd).2.1; omega
  · have := (s3 hd).2.2.2.2.2.2.2; omega
  · have := (s4 hd).2.2.2.2.2.2.2; omega
  · have := (s5 hd).2.2.2.2.2.2.2; omega
/-- the ground as it is at first -/
def gA0 (j : Int) : Int := if j = 0 ∨ j = 1 then 1 else if j = 2 then -9 else 0
theorem gA0_d : ∀ j, 2 ≤ j → j < 51 → gA0 j = if j = 2 then -9 else 0 := by
  intro j a b
  unfold gA0
  rw [if_neg (by omega)]
theorem gA0_S : mS gA0 := by
  refine ⟨by decide, by decide, by decide, fun j a b => ?_, fun j a b => ?_⟩
  · rw [gA0_d j (by omega) (by omega), if_neg (by omega)]; decide
  · rw [gA0_d j (by omega) (by omega), if_neg (by omega)]; decide
theorem gA0_Z : mZ gA0 := by
  intro c a b
  have e : gA0 0 * gA0 1 = 1 := by decide
  rw [e] at a
  rw [gA0_d (3 + c) (by omega) (by omega), gA0_d (27 + c) (by omega) (by omega), if_neg (by omega), if_neg (by omega)]
  exact ⟨rfl, rfl⟩
