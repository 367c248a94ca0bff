section
variable {tx : Int → Int} {ty : Int} {d0 : Int → Int}
theorem gIv_e {n : Nat} {tok tt du it rt fc : Int} {ft bt : Bool} {d : Int → Int} (h : gIv tx ty d0 n tok tt du it rt fc ft bt d) (hf : ¬ mSkip tx ty tt < ty) :
    (du = 0 ∧ 0 < rt → rfR tx ty d0 (-9) n (pIt tx ty d0 n).2.2.1 ∧ dRl d (pIt tx ty d0 n).2.2.1 rt) ∧ (¬ (du = 0 ∧ 0 < rt) → ∃ (m : Nat) (dd : Int → Int), rfR tx ty d0 ty m dd) := by
  obtain ⟨hS, htok, hit, hit2, hgo, hrt, hdu, hfc, hP⟩ := h
  obtain ⟨p0, p1, p2, p3, p4, p5⟩ := hP
  have hsk := mSkip_rg (tx := tx) (ty := ty) (p := tt) htok.2.2
  have e : mSkip tx ty tt = ty := by omega
  have hk0 : mTk tx ty ty = 0 := mTk_0.mpr (by rw [mAt_end (Int.le_refl _)]; decide)
  have hrow : ∀ dr : Int → Int, mRowOk tx ty dr ty = false := by
    intro dr
    unfold mRowOk mRowA
    rw [decide_eq_false (fun q => by have := q.1; omega), Bool.false_and]
  have hfig : ∀ be : Int, mFg tx ty ty be = false := fun be => decide_eq_false (fun q => by have := q.1; omega)
  rw [e] at p0 p5
  have hty : 0 ≤ ty := by omega
  rcases (show du = 0 ∨ du = 1 ∨ du = 2 ∨ du = 3 ∨ du = 4 ∨ du = 5 by omega) with hd | hd | hd | hd | hd | hd
  · obtain ⟨a1, a2, a3, a4, a5⟩ := p0 hd
    have hng : ¬ pGo tx ty (pIt tx ty d0 n) := fun q => q.2 (by rw [a2]; exact hk0)
    refine ⟨fun q => ⟨⟨hgo, hng, ?_, rfl⟩, a3⟩, fun q => ⟨n, (pIt tx ty d0 n).2.2.1, hgo, hng, ?_, rfl⟩⟩
    · rw [decide_eq_true (by rw [← a3.2.1]; exact q.2), pT_y (z := ((pIt tx ty d0 n).1, (pIt tx ty d0 n).2.1)) a1]
    · rw [decide_eq_false (by rw [← a3.2.1]; exact fun z => q ⟨hd, z⟩), pT_n (z := ((pIt tx ty d0 n).1, (pIt tx ty d0 n).2.1)) a1]
      exact a2.symm
  · refine ⟨fun q => absurd q.1 (by omega), fun _ => ?_⟩
    obtain ⟨a1, a2, a3, a4, a5, a6, a7, a8⟩ := p1 hd
    have hm := (mid_1 a1.1 a2).2 ⟨a3, a4⟩
    rw [← a5, e] at hm
    exact rf_mid hgo a1 hty (hm.1 (hrow _) hty)
  · refine ⟨fun q => absurd q.1 (by omega), fun _ => ?_⟩
    obtain ⟨a1, a2, a3, a4, a5, a6, a7⟩ := p2 hd
    have hm := (mid_2 a1.1 a2).2 a3
    rw [← a4, e] at hm
    exact rf_mid hgo a1 hty (hm.1 (hfig _) hty)
  · refine ⟨fun q => absurd q.1 (by omega), fun _ => ?_⟩
    obtain ⟨a1, a2, a3, a4, a5, a6, a7, a8, a9⟩ := p3 hd
    have hm := ((mid_2 a1.1 a2).2 a3).2 a4
    rw [← a6, e] at hm
    exact rf_mid hgo a1 hty (hm.1 (hfig _))
  · refine ⟨fun q => absurd q.1 (by omega), fun _ => ?_⟩
    obtain ⟨a1, a2, a3, a4, a5, a6, a7⟩ := p4 hd
    have hm := (mid_3 a1.1 a2).2 a3
    rw [← a4, e] at hm
    exact rf_mid hgo a1 hty (hm.1 (hfig _))
  · refine ⟨fun q => absurd q.1 (by omega), fun _ => ?_⟩
    obtain ⟨a1, a2, a3, a4, a5, a6⟩ := p5 hd
    refine rf_item hgo a1 hty ?_
    unfold pItem
    rw [decide_eq_false (by rw [a3]; omega), pT_n (z := ((pMid tx ty (pIt tx ty d0 n)).1, (pMid tx ty (pIt tx ty d0 n)).2.1)) a2]
    exact a3
theorem gIv_0 {d : Int → Int} {fc : Int} (hty : 0 ≤ ty) (hS : mS d) (hd : ∀ j, 2 ≤ j → j < 51 → d j = if j = 2 then -9 else 0) (hfc : -2147483648 ≤ fc ∧ fc < 2147483648) : gIv tx ty d0 0 0 0 0 0 0 fc false false d := by
  have hp : ∀ j, 0 ≤ j → j < 51 → pDr0 d0 j = if j = 2 then -9 else 0 := by
    intro j a b
    unfold pDr0
    by_cases h : j = 2
    · rw [h, uz_s]; rfl
    · rw [uz_n h, cpz_in (by omega), if_neg h]
  refine ⟨hS, by omega, rfl, by omega, fun i hi => absurd hi (by omega), by omega, by omega, hfc, gPh_of 0 rfl (Or.inl ⟨rfl, rfl, rfl, ⟨fun j a b => ?_, ?_, fun q => absurd q (by omega), fun c c0 c1 c2 => ?_⟩, rfl, rfl⟩)⟩
  · rw [hd j a b]; exact (hp j (by omega) b).symm
  · exact (hp 1 (by decide) (by decide)).symm
  · rw [hd (3 + c) (by omega) (by omega), hd (27 + c) (by omega) (by omega), if_neg (by omega), if_neg (by omega)]
    exact ⟨rfl, rfl⟩
/-- what the class's reading gives -/
def gRd (tx : Int → Int) (ty : Int) (d0 : Int → Int) (rr it9 fc9 : Int) (d9 : Int → Int) : Prop :=
  (rr = -1 → (∃ (n : Nat) (dd : Int → Int), rfR tx ty d0 (-9) n dd ∧ it9 = (n : Int) ∧ ∀ j, 0 ≤ j → j < 51 → d9 j = dd j) ∧ mS d9 ∧ mZ d9) ∧ (rr ≠ -1 → (0 ≤ rr ∧ rr ≤ ty) ∧ ∃ (n : Nat) (dd : Int → Int), rfR tx ty d0 rr n dd) ∧ (-2147483648 ≤ fc9 ∧ fc9 < 2147483648)
theorem gRd_f {rr it9 fc9 : Int} {d9 : Int → Int} (h : ∃ (n : Nat) (dd : Int → Int), rfR tx ty d0 rr n dd) (hr : 0 ≤ rr ∧ rr ≤ ty) (hfc : -2147483648 ≤ fc9 ∧ fc9 < 2147483648) : gRd tx ty d0 rr it9 fc9 d9 := ⟨fun q => absurd q (by omega), fun _ => ⟨hr, h⟩, hfc⟩
theorem gRd_y {n : Nat} {tok tt du it rt fc : Int} {ft bt : Bool} {d : Int → Int} (h : gIv tx ty d0 n tok tt du it rt fc ft bt d) (hf : ¬ mSkip tx ty tt < ty) (hd : du = 0) (hr : 0 < rt) : gRd tx ty d0 (-1) it fc d := by
  obtain ⟨q1, q2⟩ := (gIv_e h hf).1 ⟨hd, hr⟩
  obtain ⟨g1, g2, g3, g4⟩ := q2
  have e := g3 hr
  refine ⟨fun _ => ⟨⟨n, _, q1, h.2.2.1, fun j a b => ?_⟩, h.1, fun c a b => ?_⟩, fun q => absurd rfl q, h.2.2.2.2.2.2.2.1⟩
  · by_cases h0 : j = 0
    · rw [h0]; exact e.1
    · by_cases h1 : j = 1
      · rw [h1]; exact e.2
      · exact g1 j (by omega) b
  · have hs := h.1
    have hp : 0 ≤ d 0 * d 1 := Int.mul_nonneg (by have := hs.1; omega) (by have := hs.2.1; omega)
    refine g4 c (by omega) (fun _ => ?_) b
    rw [g2, ← e.2]
    exact a
theorem gRd_n {n : Nat} {tok tt du it rt fc : Int} {ft bt : Bool} {d : Int → Int} (h : gIv tx ty d0 n tok tt du it rt fc ft bt d) (hf : ¬ mSkip tx ty tt < ty) (hd : ¬ (du = 0 ∧ 0 < rt)) : gRd tx ty d0 ty it fc d := gRd_f ((gIv_e h hf).2 hd) (by have := h.2.1; omega) h.2.2.2.2.2.2.2.1
end
