/-! what the law's loop keeps -/
def gOk (s : Int → Int) : Prop := mS s ∧ mZ s
theorem gOk_congr {s t : Int → Int} (h : ∀ j, 0 ≤ j → j < 51 → t j = s j) (g : gOk s) : gOk t := by
  obtain ⟨⟨h0, h1, h2, h3, h4⟩, hz⟩ := g
  refine ⟨⟨by rw [h 0 (by decide) (by decide)]; exact h0, by rw [h 1 (by decide) (by decide)]; exact h1, by rw [h 2 (by decide) (by decide)]; exact h2, fun j a b => by rw [h j (by omega) (by omega)]; exact h3 j a b, fun j a b => by rw [h j (by omega) b]; exact h4 j a b⟩, fun c a b => ?_⟩
  rw [h 0 (by decide) (by decide), h 1 (by decide) (by decide)] at a
  have hp : 0 ≤ s 0 * s 1 := Int.mul_nonneg (by omega) (by omega)
  rw [h (3 + c) (by omega) (by omega), h (27 + c) (by omega) (by omega)]
  exact hz c a b
def pR (cpa pa : Int → Int) (un : Int) : Prop := ∀ k, 0 ≤ k → k < un → ∀ t, 0 ≤ t → t < 51 → pz cpa k t = pz pa k t
def kR (cke ke ik : Int → Int) : Prop := ∀ j, 0 ≤ j → j ≤ 1 → ik j ≠ 0 → ∀ t, 0 ≤ t → t < 51 → pz cke j t = pz ke j t
def LJ (s pa cpa : Int → Int) (un : Int) (ke cke ik : Int → Int) (kp : Int) (tx : Int → Int) (ty fc : Int) (la lq ff : Int → Int) (kn wa ha : Int) (hta fxa : Int64) (ch : Int) (hh : Int64) (lfw : Int → Int) : Prop :=
  gOk s ∧ (0 ≤ un ∧ un ≤ 6) ∧ (∀ k, 0 ≤ k → k < un → gOk (pz pa k)) ∧ (0 ≤ kp ∧ kp < 4) ∧ (∀ j, 0 ≤ j → j ≤ 1 → (mBit kp j = true ↔ ik j ≠ 0)) ∧ (∀ j, 0 ≤ ik j ∧ ik j ≤ 1) ∧ (∀ j, 0 ≤ j → j ≤ 1 → ik j ≠ 0 → gOk (pz ke j)) ∧ (0 ≤ ty ∧ ty ≤ 120) ∧ (∀ j, 0 ≤ tx j ∧ tx j < 256) ∧ (-2147483648 ≤ fc ∧ fc < 2147483648) ∧ (0 ≤ kn ∧ kn ≤ 6) ∧ fcR la lq ff kn ∧ lcS wa ha hta fxa ch hh lfw ∧ pR cpa pa un ∧ kR cke ke ik
theorem gOk_paint {s : Int → Int} {x y x2 y2 h : Int} (hg : gOk s) (hc : mPaintC s x y x2 y2 h = true) : gOk (mPaintS s x y x2 y2 h (s 0 * s 1)) := by
  have hd := of_decide_eq_true hc
  have h24 := cells_rg hg.1.1 hg.1.2.1
  refine ⟨mS_paint hg.1 (by omega) (by omega), fun c a b => ?_⟩
  have e0 : mPaintS s x y x2 y2 h (s 0 * s 1) 0 = s 0 := if_neg (by omega)
  have e1 : mPaintS s x y x2 y2 h (s 0 * s 1) 1 = s 1 := if_neg (by omega)
  rw [e0, e1] at a
  have e3 : mPaintS s x y x2 y2 h (s 0 * s 1) (3 + c) = s (3 + c) := if_neg (by omega)
  have e27 : mPaintS s x y x2 y2 h (s 0 * s 1) (27 + c) = s (27 + c) := if_neg (by omega)
  rw [e3, e27]
  exact hg.2 c a b
theorem gOk_fld {s : Int → Int} {x y h : Int} (a : Int) (hg : gOk s) (hc : mFldC s x y h = true) : gOk (mFldS s a h) := by
  have hd := of_decide_eq_true hc
  have h24 := cells_rg hg.1.1 hg.1.2.1
  obtain ⟨⟨h0, h1, h2, h3, h4⟩, hz⟩ := hg
  have e : ∀ j, ¬ (3 ≤ j ∧ j < 3 + s 0 * s 1) → mFldS s a h j = s j := fun j q => if_neg (fun z => q ⟨z.1, z.2.1⟩)
  refine ⟨⟨by rw [e 0 (by omega)]; exact h0, by rw [e 1 (by omega)]; exact h1, by rw [e 2 (by omega)]; exact h2, fun j q1 q2 => ?_, fun j q1 q2 => by rw [e j (by omega)]; exact h4 j q1 q2⟩, fun c q1 q2 => ?_⟩
  · unfold mFldS
    split
    · omega
    · exact h3 j q1 q2
  · rw [e 0 (by omega), e 1 (by omega)] at q1
    rw [e (3 + c) (by omega), e (27 + c) (by omega)]
    exact hz c q1 q2
theorem gOk_setl {s : Int → Int} (hg : gOk s) : gOk (mSetlS s) := by
  have h24 := cells_rg hg.1.1 hg.1.2.1
  obtain ⟨⟨h0, h1, h2, h3, h4⟩, hz⟩ := hg
  have e : ∀ j, ¬ (3 ≤ j ∧ j < 3 + s 0 * s 1) → mSetlS s j = s j := fun j q => if_neg q
  refine ⟨⟨by rw [e 0 (by omega)]; exact h0, by rw [e 1 (by omega)]; exact h1, by rw [e 2 (by omega)]; exact h2, fun j q1 q2 => ?_, fun j q1 q2 => by rw [e j (by omega)]; exact h4 j q1 q2⟩, fun c q1 q2 => ?_⟩
  · unfold mSetlS
    split
    · exact mFig_rg _ _ _
    · exact h3 j q1 q2
  · rw [e 0 (by omega), e 1 (by omega)] at q1
    rw [e (3 + c) (by omega), e (27 + c) (by omega)]
    exact hz c q1 q2
theorem gOk_fix {s : Int → Int} {x y i : Int} (hg : gOk s) (hc : mFixesC s x y i = true) : gOk (uz s (27 + (s 0 * y + x)) i) := by
  have hd := of_decide_eq_true hc
  have hcr := cell_rg hg.1.1 (show 0 ≤ x ∧ x < s 0 by omega) (show 0 ≤ y ∧ y < s 1 by omega)
  exact ⟨mS_fix hg.1 (by omega) hd.2.1, mZ_fix hg.2 ⟨hcr.1, hcr.2.1⟩⟩
theorem pz_ok {s pa : Int → Int} {un : Int} (hu : 0 ≤ un ∧ un ≤ 6) (hg : gOk s) (hp : ∀ k, 0 ≤ k → k < un → gOk (pz pa k)) : (∀ k, 0 ≤ k → k < mUn un → gOk (pz (mPa pa s un) k)) ∧ 0 ≤ mUn un ∧ mUn un ≤ 6 := by
  by_cases h6 : un = 6
  · subst h6
    have e : mUn 6 = 6 := rfl
    rw [e]
    refine ⟨fun k a b => ?_, by decide, by decide⟩
    by_cases h5 : k = 5
    · rw [h5]; exact gOk_congr mPa_65 hg
    · exact gOk_congr (mPa_6 (by omega)) (hp (k + 1) (by omega) (by omega))
  · have e : mUn un = un + 1 := if_neg h6
    rw [e]
    refine ⟨fun k a b => ?_, by omega, by omega⟩
    by_cases hk : k = un
    · rw [hk]; exact gOk_congr (mPa_k (by omega)) hg
    · exact gOk_congr (mPa_n (by omega) (by omega) (fun z => hk z.symm)) (hp k a (by omega))
theorem pR_do {s pa cpa : Int → Int} {un : Int} (hu : 0 ≤ un ∧ un ≤ 6) (h : pR cpa pa un) : pR (mPa cpa s un) (mPa pa s un) (mUn un) := by
  intro k a b t t0 t1
  by_cases h6 : un = 6
  · subst h6
    have b' : k < 6 := b
    by_cases h5 : k = 5
    · rw [h5, mPa_65 t t0 t1, mPa_65 t t0 t1]
    · rw [mPa_6 (by omega) t t0 t1, mPa_6 (by omega) t t0 t1]
      exact h (k + 1) (by omega) (by omega) t t0 t1
  · have e : mUn un = un + 1 := if_neg h6
    rw [e] at b
    by_cases hk : k = un
    · rw [hk, mPa_k (by omega) t t0 t1, mPa_k (by omega) t t0 t1]
    · rw [mPa_n (by omega) (by omega) (fun z => hk z.symm) t t0 t1, mPa_n (by omega) (by omega) (fun z => hk z.symm) t t0 t1]
      exact h k a (by omega) t t0 t1
section
variable {s pa cpa : Int → Int} {un : Int} {ke cke ik : Int → Int} {kp : Int} {tx : Int → Int} {ty fc : Int} {la lq ff : Int → Int} {kn wa ha : Int} {hta fxa : Int64} {ch : Int} {hh : Int64} {lfw : Int → Int}
theorem LJ_do {s9 : Int → Int} (c : Bool) (hc : c = true → gOk s9) (h : LJ s pa cpa un ke cke ik kp tx ty fc la lq ff kn wa ha hta fxa ch hh lfw) : LJ (cond c s9 s) (cond c (mPa pa s un) pa) (cond c (mPa cpa s un) cpa) (cond c (mUn un) un) ke cke ik kp tx ty fc la lq ff kn wa ha hta fxa ch hh lfw := by
  cases c with
  | false => exact h
  | true =>
    obtain ⟨h1, h2, h3, h4, h5, h6, h7, h8, h9, h10, h11, h12, h13, h14, h15⟩ := h
    have hp := pz_ok h2 h1 h3
    exact ⟨hc rfl, hp.2, hp.1, h4, h5, h6, h7, h8, h9, h10, h11, h12, h13, pR_do h2 h14, h15⟩
theorem LJ_lc {wa9 ha9 : Int} {hta9 fxa9 : Int64} {ch9 : Int} {hh9 : Int64} {lfw9 : Int → Int} (hl : lcS wa9 ha9 hta9 fxa9 ch9 hh9 lfw9) (h : LJ s pa cpa un ke cke ik kp tx ty fc la lq ff kn wa ha hta fxa ch hh lfw) : LJ s pa cpa un ke cke ik kp tx ty fc la lq ff kn wa9 ha9 hta9 fxa9 ch9 hh9 lfw9 := by
  obtain ⟨h1, h2, h3, h4, h5, h6, h7, h8, h9, h10, h11, h12, _, h14⟩ := h
  exact ⟨h1, h2, h3, h4, h5, h6, h7, h8, h9, h10, h11, h12, hl, h14⟩
theorem LJ_ty {tx9 : Int → Int} {ty9 fc9 : Int} (ht : 0 ≤ ty9 ∧ ty9 ≤ 120) (hx : ∀ j, 0 ≤ tx9 j ∧ tx9 j < 256) (hf : -2147483648 ≤ fc9 ∧ fc9 < 2147483648) (h : LJ s pa cpa un ke cke ik kp tx ty fc la lq ff kn wa ha hta fxa ch hh lfw) : LJ s pa cpa un ke cke ik kp tx9 ty9 fc9 la lq ff kn wa ha hta fxa ch hh lfw := by
  obtain ⟨h1, h2, h3, h4, h5, h6, h7, h8, h9, h10, h11⟩ := h
  exact ⟨h1, h2, h3, h4, h5, h6, h7, ht, hx, hf, h11⟩
theorem LJ_see {la9 lq9 ff9 : Int → Int} {kn9 : Int} (hk : 0 ≤ kn9 ∧ kn9 ≤ 6) (hf : fcR la9 lq9 ff9 kn9) (h : LJ s pa cpa un ke cke ik kp tx ty fc la lq ff kn wa ha hta fxa ch hh lfw) : LJ s pa cpa un ke cke ik kp tx ty fc la9 lq9 ff9 kn9 wa ha hta fxa ch hh lfw := by
  obtain ⟨h1, h2, h3, h4, h5, h6, h7, h8, h9, h10, h11, h12, h13⟩ := h
  exact ⟨h1, h2, h3, h4, h5, h6, h7, h8, h9, h10, hk, hf, h13⟩
theorem type_ok {x : Int} (hty : 0 ≤ ty ∧ ty ≤ 120) (htx : ∀ j, 0 ≤ tx j ∧ tx j < 256) : (0 ≤ mTypeN ty x ∧ mTypeN ty x ≤ 120) ∧ ∀ j, 0 ≤ mTypeX tx ty x j ∧ mTypeX tx ty x j < 256 := by
  unfold mTypeN mTypeX
  by_cases h1 : x < 0 ∨ 255 < x
  · rw [if_pos h1, if_pos h1]; exact ⟨hty, htx⟩
  · rw [if_neg h1, if_neg h1]
    by_cases h2 : ty = 120
    · rw [if_pos h2, if_pos h2]; exact ⟨hty, htx⟩
    · rw [if_neg h2, if_neg h2]
      refine ⟨by omega, fun j => ?_⟩
      unfold uz
      split
      · omega
      · exact htx j
theorem LJ_undo (h : LJ s pa cpa un ke cke ik kp tx ty fc la lq ff kn wa ha hta fxa ch hh lfw) : LJ (mUndoS s pa un) pa cpa (mUndoU un) ke cke ik kp tx ty fc la lq ff kn wa ha hta fxa ch hh lfw := by
  obtain ⟨h1, h2, h3, h4⟩ := h
  by_cases h0 : un = 0
  · have e1 : mUndoS s pa un = s := if_pos h0
    have e2 : mUndoU un = un := if_pos h0
    rw [e1, e2]
    exact ⟨h1, h2, h3, h4⟩
  · have e2 : mUndoU un = un - 1 := if_neg h0
    rw [e2]
    obtain ⟨h4, h5, h6, h7, h8, h9, h10, h11, h12, h13, h14, h15⟩ := h4
    exact ⟨gOk_congr (mUndo_t (by omega)) (h3 (un - 1) (by omega) (by omega)), by omega, fun k a b => h3 k a (by omega), h4, h5, h6, h7, h8, h9, h10, h11, h12, h13, fun k a b => h14 k a (by omega), h15⟩
theorem LJ_back {x : Int} (h : LJ s pa cpa un ke cke ik kp tx ty fc la lq ff kn wa ha hta fxa ch hh lfw) : LJ (mBackS s ke ik x) pa cpa (mBackU ik un x) ke cke ik kp tx ty fc la lq ff kn wa ha hta fxa ch hh lfw := by
  obtain ⟨h1, h2, h3, h4, h5, h6, h7, h8⟩ := h
  by_cases hx : 0 ≤ x ∧ x ≤ 1
  · by_cases hk : ik x = 0
    · have e1 : mBackS s ke ik x = s := by unfold mBackS; rw [if_pos hx, if_pos hk]
      have e2 : mBackU ik un x = un := by unfold mBackU; rw [if_pos hx, if_pos hk]
      rw [e1, e2]
      exact ⟨h1, h2, h3, h4, h5, h6, h7, h8⟩
    · have e2 : mBackU ik un x = 0 := by unfold mBackU; rw [if_pos hx, if_neg hk]
      rw [e2]
      obtain ⟨h8, h9, h10, h11, h12, h13, h14, h15⟩ := h8
      exact ⟨gOk_congr (mBack_t hx hk) (h7 x hx.1 hx.2 hk), by decide, fun k a b => absurd b (by omega), h4, h5, h6, h7, h8, h9, h10, h11, h12, h13, fun k a b => absurd b (by omega), h15⟩
  · have e1 : mBackS s ke ik x = s := if_neg hx
    have e2 : mBackU ik un x = un := if_neg hx
    rw [e1, e2]
    exact ⟨h1, h2, h3, h4, h5, h6, h7, h8⟩
theorem gKp_dec2 : ∀ kp : Nat, kp < 4 → ∀ i : Nat, i < 2 → (0 ≤ gKp (kp : Int) (i : Int) ∧ gKp (kp : Int) (i : Int) < 4) ∧ ∀ j : Nat, j < 2 → mBit (gKp (kp : Int) (i : Int)) (j : Int) = (decide (j = i) || mBit (kp : Int) (j : Int)) := by decide +kernel
theorem LJ_keep {x : Int} (h : LJ s pa cpa un ke cke ik kp tx ty fc la lq ff kn wa ha hta fxa ch hh lfw) : LJ s pa cpa un (mKeepK s ke x) (mKeepK s cke x) (mKeepI ik x) (if 0 ≤ x ∧ x ≤ 1 then gKp kp x else kp) tx ty fc la lq ff kn wa ha hta fxa ch hh lfw := by
  obtain ⟨h1, h2, h3, h4, h5, h6, h7, h8⟩ := h
  by_cases hx : 0 ≤ x ∧ x ≤ 1
  · have hd := gKp_dec2 kp.toNat (by omega) x.toNat (by omega)
    rw [Int.toNat_of_nonneg h4.1, Int.toNat_of_nonneg hx.1] at hd
    have e1 : mKeepI ik x = uz ik x 1 := if_pos hx
    rw [if_pos hx, e1]
    obtain ⟨h8, h9, h10, h11, h12, h13, h14, h15⟩ := h8
    refine ⟨h1, h2, h3, hd.1, fun j a b => ?_, fun j => ?_, fun j a b q => ?_, h8, h9, h10, h11, h12, h13, h14, fun j a b q t t0 t1 => ?_⟩
    · have hj := hd.2 j.toNat (by omega)
      rw [Int.toNat_of_nonneg a] at hj
      rw [hj]
      by_cases hjx : j = x
      · rw [hjx, uz_s, decide_eq_true rfl]
        exact ⟨fun _ => by decide, fun _ => rfl⟩
      · rw [uz_n hjx, decide_eq_false (by omega), Bool.false_or]
        exact h5 j a b
    · unfold uz
      split
      · decide
      · exact h6 j
    · by_cases hjx : j = x
      · rw [hjx]; exact gOk_congr (mKeep_k hx) h1
      · rw [uz_n hjx] at q
        exact gOk_congr (mKeep_n hx ⟨a, b⟩ (fun z => hjx z.symm)) (h7 j a b q)
    · by_cases hjx : j = x
      · rw [hjx, mKeep_k hx t t0 t1, mKeep_k hx t t0 t1]
      · rw [uz_n hjx] at q
        rw [mKeep_n hx ⟨a, b⟩ (fun z => hjx z.symm) t t0 t1, mKeep_n hx ⟨a, b⟩ (fun z => hjx z.symm) t t0 t1]
        exact h15 j a b q t t0 t1
  · have e1 : mKeepI ik x = ik := if_neg hx
    have e2 : mKeepK s ke x = ke := if_neg hx
    have e3 : mKeepK s cke x = cke := if_neg hx
    rw [if_neg hx, e1, e2, e3]
    exact ⟨h1, h2, h3, h4, h5, h6, h7, h8⟩
/-- tells: class and reference -/
theorem tells_m {dr : Int → Int} {rr it9 fc9 : Int} {d9 : Int → Int} {n9 : Nat} {f2 a2 : Int} {d2 : Int → Int} (hc : gRd tx ty dr rr it9 fc9 d9) (hm : (∀ i, i < n9 → pGo tx ty (pIt tx ty dr i)) ∧ ¬ pGo tx ty (pIt tx ty dr n9) ∧ d2 = (pIt tx ty dr n9).2.2.1 ∧ (f2, a2) = pT tx ty ((pIt tx ty dr n9).1, (pIt tx ty dr n9).2.1) (decide (0 < (pIt tx ty dr n9).2.2.1 1)) ∧ mD d2 ∧ pOk ty (f2, a2)) :
    (if rr = -1 then it9 else -10 - rr) = (if a2 = -9 then (n9 : Int) else -10 - a2) ∧ decide (rr = -1) = decide (a2 = -9) ∧ (rr = -1 → ∀ j, 0 ≤ j → j < 51 → d9 j = cpz d2 s 0 0 51 j) ∧ (rr = -1 → gOk (cpz d2 s 0 0 51)) := by
  obtain ⟨m1, m2, m3, m4, m5, m6⟩ := hm
  have hr : rfR tx ty dr a2 n9 d2 := ⟨m1, m2, by rw [← m4], m3⟩
  by_cases h : rr = -1
  · obtain ⟨⟨n, dd, q1, q2, q3⟩, q4, q5⟩ := hc.1 h
    obtain ⟨e1, e2, e3⟩ := rfR_one hr q1
    subst e2
    subst e3
    have e : ∀ j, 0 ≤ j → j < 51 → cpz d2 s 0 0 51 j = d9 j := fun j a b => by rw [cpz_in (by omega), show j - 0 + 0 = j by omega]; exact (q3 j a b).symm
    refine ⟨by rw [if_pos h, if_pos e1, q2], by rw [decide_eq_true h, decide_eq_true e1], fun _ j a b => (e j a b).symm, fun _ => gOk_congr e ⟨q4, q5⟩⟩
  · obtain ⟨q0, n, dd, q1⟩ := hc.2.1 h
    obtain ⟨e1, e2, e3⟩ := rfR_one hr q1
    refine ⟨by rw [if_neg h, if_neg (by omega), e1], by rw [decide_eq_false h, decide_eq_false (by omega)], fun q => absurd q h, fun q => absurd q h⟩
end
theorem gA0_pk : pk gA0 3 = 0 ∧ pk gA0 27 = 0 := by decide +kernel
theorem gA0_lc : mChange gA0 = 0 ∧ pk (gLc gA0) 3 = 0 := by decide +kernel
theorem lcS_0 : lcS 1 1 0 0 0 0 (fun _ => 0) := by
  refine ⟨fun t ht e0 e1 e3 e27 => ?_, fun j _ _ => ⟨Int.le_refl 0, by show (0 : Int) ≤ 99; decide⟩, by decide, by decide⟩
  have hE : lcE gA0 t := lcE_of gA0_S ht (by rw [e0]; rfl) (by rw [e1]; rfl) (by rw [e3, gA0_pk.1]) (by rw [e27, gA0_pk.2])
  exact lcE_ok gA0_S.1 gA0_S.2.1 hE ⟨gA0_lc.1.symm, fun _ => gA0_lc.2.symm⟩
/-! the script's ints -/
def sxI (xs : Nat → Int32) (z : Int) : Int := (xs z.toNat).toInt
theorem sxI_rg (xs : Nat → Int32) (z : Int) : -2147483648 ≤ sxI xs z ∧ sxI xs z < 2147483648 := iI_rg _
def swI (z : Int) : Int := (((iI z).toBitVec.toNat % 2 ^ 5 : Nat) : Int)
theorem swI_rg (z : Int) : 0 ≤ swI z ∧ swI z < 32 := by unfold swI; omega
theorem swI_eq (z : Int) : iI z &&& iI 31 = iI (swI z) := by
  rw [pk_and (iI z) (m := iI 31) 5 (by decide), iI_nI]
  rfl
/-- the reference's state at first -/
def sA0 : Int → Int := uz (uz (uz (fun _ => 0) 0 1) 1 1) 2 (-9)
theorem sA0_eq : ∀ j, 0 ≤ j → j < 51 → sA0 j = gA0 j := by
  intro j a b
  unfold sA0 gA0 uz
  by_cases h2 : j = 2
  · rw [if_pos h2, if_neg (by omega), if_pos h2]
  · rw [if_neg h2]
    by_cases h1 : j = 1
    · rw [if_pos h1, if_pos (by omega)]
    · rw [if_neg h1]
      by_cases h0 : j = 0
      · rw [if_pos h0, if_pos (by omega)]
      · rw [if_neg h0, if_neg (by omega), if_neg h2]
/-- the class's places at first -/
def gA1 (j : Int) : Int := gA0 (j % 51)
theorem LJ_0 : LJ sA0 (fun _ => 0) gA1 0 (fun _ => 0) gA1 (fun _ => 0) 0 (fun _ => 0) 0 0 (fun _ => 0) (fun _ => 0) (fun _ => 0) 0 1 1 0 0 0 0 (fun _ => 0) :=
  ⟨gOk_congr sA0_eq ⟨gA0_S, gA0_Z⟩, by decide, fun k a b => absurd b (by omega), by decide, fun j a b => by rcases (show j = 0 ∨ j = 1 by omega) with rfl | rfl <;> decide, fun _ => ⟨Int.le_refl 0, by show (0 : Int) ≤ 1; decide⟩, fun j _ _ q => absurd rfl q, by decide, fun _ => ⟨Int.le_refl 0, by show (0 : Int) < 256; decide⟩, by decide, by decide, fcR_0 _ _ _, lcS_0, fun k a b => absurd b (by omega), fun j _ _ q => absurd rfl q⟩
theorem undo_t {s pa cpa : Int → Int} {un : Int} (hu : 0 ≤ un ∧ un ≤ 6) (h : pR cpa pa un) : ∀ t, 0 ≤ t → t < 51 → mUndoS s cpa un t = mUndoS s pa un t := by
  intro t t0 t1
  by_cases h0 : un = 0
  · rw [h0]; rfl
  · rw [mUndo_t (by omega) t t0 t1, mUndo_t (by omega) t t0 t1]
    exact h (un - 1) (by omega) (by omega) t t0 t1
theorem back_t {s ke cke ik : Int → Int} {x : Int} (h : kR cke ke ik) : (∀ t, 0 ≤ t → t < 51 → mBackS s cke ik x t = mBackS s ke ik x t) ∧ mBackR cke ik x = mBackR ke ik x := by
  by_cases hx : 0 ≤ x ∧ x ≤ 1
  · by_cases hk : ik x = 0
    · refine ⟨fun t _ _ => ?_, ?_⟩
      · unfold mBackS; rw [if_pos hx, if_pos hk, if_pos hx, if_pos hk]
      · unfold mBackR; rw [if_pos hx, if_pos hk, if_pos hx, if_pos hk]
    · refine ⟨fun t t0 t1 => ?_, ?_⟩
      · rw [mBack_t hx hk t t0 t1, mBack_t hx hk t t0 t1]; exact h x hx.1 hx.2 hk t t0 t1
      · unfold mBackR
        rw [if_pos hx, if_neg hk, if_pos hx, if_neg hk]
        have a := h x hx.1 hx.2 hk 0 (by decide) (by decide)
        have b := h x hx.1 hx.2 hk 1 (by decide) (by decide)
        unfold pz at a b
        rw [Int.add_zero] at a
        rw [a, b]
  · refine ⟨fun t _ _ => ?_, ?_⟩
    · unfold mBackS; rw [if_neg hx, if_neg hx]
    · unfold mBackR; rw [if_neg hx, if_neg hx]
