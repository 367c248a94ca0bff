section
variable {tx : Int → Int} {ty : Int} {d0 : Int → Int}
theorem gPh_of {r : RR} {tt du rt fc : Int} {ft bt : Bool} {d : Int → Int} (k : Int) (hk : du = k)
    (h : (k = 0 ∧ r.2.1 = -9 ∧ r.1 = mSkip tx ty tt ∧ dRl d r.2.2.1 rt ∧ ft = r.2.2.2.1 ∧ bt = r.2.2.2.2) ∨
      (k = 1 ∧ pGo tx ty r ∧ mTk tx ty r.1 = 1 ∧ r.2.2.1 1 < 6 ∧ r.2.2.2.1 = false ∧ tt = mTo tx ty r.1 ∧ dRl d r.2.2.1 rt ∧ ft = r.2.2.2.1 ∧ bt = r.2.2.2.2) ∨
      (k = 2 ∧ pGo tx ty r ∧ mTk tx ty r.1 = 2 ∧ 0 < r.2.2.1 1 ∧ tt = mTo tx ty r.1 ∧ dRl d r.2.2.1 rt ∧ ft = true ∧ bt = r.2.2.2.2) ∨
      (k = 3 ∧ pGo tx ty r ∧ mTk tx ty r.1 = 2 ∧ 0 < r.2.2.1 1 ∧ mFg tx ty (mSkip tx ty (mTo tx ty r.1)) (r.2.2.1 0) = true ∧ fc = mAt tx ty (mSkip tx ty (mTo tx ty r.1)) - 48 ∧ tt = mTo tx ty (mSkip tx ty (mTo tx ty r.1)) ∧ dRl d r.2.2.1 rt ∧ ft = true ∧ bt = r.2.2.2.2) ∨
      (k = 4 ∧ pGo tx ty r ∧ mTk tx ty r.1 = 3 ∧ r.2.2.2.2 = false ∧ tt = mTo tx ty r.1 ∧ dRl d r.2.2.1 rt ∧ ft = r.2.2.2.1 ∧ bt = true) ∨
      (k = 5 ∧ pGo tx ty r ∧ (pMid tx ty r).2.1 = -9 ∧ (pMid tx ty r).1 = mSkip tx ty tt ∧ dRl d (pMid tx ty r).2.2.1 rt ∧ ft = (pMid tx ty r).2.2.2.1 ∧ bt = (pMid tx ty r).2.2.2.2)) : gPh tx ty r tt du rt fc ft bt d := by
  subst hk
  rcases h with ⟨e, h⟩ | ⟨e, h⟩ | ⟨e, h⟩ | ⟨e, h⟩ | ⟨e, h⟩ | ⟨e, h⟩
  · exact ⟨fun _ => h, fun q => absurd q (by omega), fun q => absurd q (by omega), fun q => absurd q (by omega), fun q => absurd q (by omega), fun q => absurd q (by omega)⟩
  · exact ⟨fun q => absurd q (by omega), fun _ => h, fun q => absurd q (by omega), fun q => absurd q (by omega), fun q => absurd q (by omega), fun q => absurd q (by omega)⟩
  · exact ⟨fun q => absurd q (by omega), fun q => absurd q (by omega), fun _ => h, fun q => absurd q (by omega), fun q => absurd q (by omega), fun q => absurd q (by omega)⟩
  · exact ⟨fun q => absurd q (by omega), fun q => absurd q (by omega), fun q => absurd q (by omega), fun _ => h, fun q => absurd q (by omega), fun q => absurd q (by omega)⟩
  · exact ⟨fun q => absurd q (by omega), fun q => absurd q (by omega), fun q => absurd q (by omega), fun q => absurd q (by omega), fun _ => h, fun q => absurd q (by omega)⟩
  · exact ⟨fun q => absurd q (by omega), fun q => absurd q (by omega), fun q => absurd q (by omega), fun q => absurd q (by omega), fun q => absurd q (by omega), fun _ => h⟩
theorem dRl_row {d dr : Int → Int} {rt f : Int} (hf : 0 ≤ f ∧ f < ty) (hS : mS d) (hrt : 0 ≤ rt ∧ rt ≤ 5) (h : dRl d dr rt) (hok : mRowOk tx ty dr f = true) : dRl (gRwP tx ty f (mTo tx ty f - f) rt d (mTo tx ty f - f)) (mRowD tx ty dr f) (rt + 1) ∧ mS (gRwP tx ty f (mTo tx ty f - f) rt d (mTo tx ty f - f)) := by
  obtain ⟨r1, r2, r3, r4⟩ := mRowOk_spec hok
  obtain ⟨g1, g2, g3, g4⟩ := h
  have hto := mTo_rg (tx := tx) (ty := ty) (f := f) (by omega)
  have hal : alI (fun j => decide (0 ≤ gAt tx ty (f + j) - 48 ∧ gAt tx ty (f + j) - 48 ≤ 3)) (mTo tx ty f - f) = true := alI_iff.mpr (fun j a b => by
    have := r4 j a b
    rw [gAt_in (by omega)]
    exact decide_eq_true (by omega))
  have hm := gRw_mS (tx := tx) (ty := ty) (fr := f) (x := mTo tx ty f - f) hS r2 hrt (by omega) hal
  generalize hn : mTo tx ty f - f = n at *
  have hx : n * (rt + 1) = n * rt + n := by rw [Int.mul_add, Int.mul_one]
  refine ⟨⟨fun j a b => ?_, ?_, fun _ => ⟨?_, ?_⟩, fun c c0 c1 c2 => ?_⟩, hm.1⟩
  · unfold gRwP mRowD
    rw [hn, ← g2]
    by_cases hj : 3 + n * rt ≤ j ∧ j < 3 + n * rt + n
    · rw [cpz_in hj, uz_n (by omega), cpz_in hj, gAt_in (by omega)]
    · rw [cpz_out hj, uz_n (by omega), uz_n (by omega), uz_n (by omega), cpz_out hj, uz_n (by omega)]
      exact g1 j a b
  · unfold mRowD; rw [uz_s, g2]
  · rw [hm.2.1]
    unfold mRowD
    rw [uz_n (by decide), hn, ← g2, cpz_out (by omega), uz_s]
  · unfold gRwP mRowD
    rw [cpz_out (by omega), uz_s, uz_s, g2]
  · have h1 := c1 (by omega)
    rw [hm.2.1, hx] at h1
    unfold gRwP
    rw [cpz_out (by omega), cpz_out (by omega), uz_n (by omega), uz_n (by omega), uz_n (by omega), uz_n (by omega)]
    refine g4 c c0 (fun q => ?_) c2
    rcases r3 with e | e
    · omega
    · rw [(g3 q).1, ← e]; omega
theorem dRl_fix {d dr : Int → Int} {rt x y v : Int} (hS : mS d) (h : dRl d dr rt) (hr : 0 < rt) (hx : 0 ≤ x ∧ x < d 0) (hy : 0 ≤ y ∧ y < d 1) (hv : v = 27 + dr 0 * y + x) : dRl (uz d (27 + (d 0 * y + x)) 1) (uz dr v 1) rt ∧ mS (uz d (27 + (d 0 * y + x)) 1) := by
  obtain ⟨g1, g2, g3, g4⟩ := h
  have e := g3 hr
  have hc := cell_rg hS.1 hx hy
  have h24 := cells_rg hS.1 hS.2.1
  have hv2 : v = 27 + (d 0 * y + x) := by rw [hv, e.1]; omega
  subst hv2
  refine ⟨⟨fun j a b => ?_, by rw [uz_n (by omega)]; exact g2, fun _ => by rw [uz_n (by omega), uz_n (by omega), uz_n (by omega), uz_n (by omega)]; exact e, fun c c0 c1 c2 => ?_⟩, mS_fix hS (by omega) (by omega)⟩
  · unfold uz
    split
    · rfl
    · exact g1 j a b
  · have h1 := c1 hr
    rw [uz_n (by omega)] at h1
    have h2 : d 0 * d 1 ≤ c := by rw [e.2, ← g2]; exact h1
    rw [uz_n (by omega), uz_n (by omega)]
    exact g4 c c0 (fun _ => h1) c2
theorem dRl_be {d dr : Int → Int} {rt v : Int} (hS : mS d) (h : dRl d dr rt) (hv : 0 ≤ v ∧ v ≤ 3) : dRl (uz d 2 v) (uz dr 2 v) rt ∧ mS (uz d 2 v) := by
  obtain ⟨g1, g2, g3, g4⟩ := h
  refine ⟨⟨fun j a b => ?_, by rw [uz_n (by omega)]; exact g2, fun q => by rw [uz_n (by omega), uz_n (by omega), uz_n (by omega), uz_n (by omega)]; exact g3 q, fun c c0 c1 c2 => ?_⟩, ?_⟩
  · unfold uz
    split
    · rfl
    · exact g1 j a b
  · rw [uz_n (by omega)] at c1
    rw [uz_n (by omega), uz_n (by omega)]
    exact g4 c c0 c1 c2
  · obtain ⟨s0, s1, s2, s3, s4⟩ := hS
    exact ⟨by rw [uz_n (by omega)]; exact s0, by rw [uz_n (by omega)]; exact s1, by rw [uz_s]; omega, fun j a b => by rw [uz_n (by omega)]; exact s3 j a b, fun j a b => by rw [uz_n (by omega)]; exact s4 j a b⟩
theorem gIv_s {n : Nat} {tok tt du it rt fc : Int} {ft bt : Bool} {d : Int → Int} {du9 it9 rt9 fc9 : Int} {ft9 bt9 : Bool} {d9 : Int → Int} {ok : Bool} (htx : ∀ j, 0 ≤ tx j ∧ tx j < 256) (h : gIv tx ty d0 n tok tt du it rt fc ft bt d) (hf : mSkip tx ty tt < ty)
    (hs : gStd tx ty (mSkip tx ty tt) (gTo tx ty (mSkip tx ty tt)) du it rt fc ft bt d du9 it9 rt9 fc9 ft9 bt9 d9 ok) :
    (ok = true → ∃ n9 : Nat, gIv tx ty d0 n9 (tok + 1) (gTo tx ty (mSkip tx ty tt)) du9 it9 rt9 fc9 ft9 bt9 d9) ∧ (ok = false → ∃ (m : Nat) (dd : Int → Int), rfR tx ty d0 (mSkip tx ty tt) m dd) := by
  obtain ⟨hS, htok, hit, hit2, hgo, hrt, hdu, hfc, hP⟩ := h
  obtain ⟨p0, p1, p2, p3, p4, p5⟩ := hP
  obtain ⟨s0, s1, s2, s3, s4, s5⟩ := hs
  have hsk := mSkip_rg (tx := tx) (ty := ty) (p := tt) htok.2.2
  have hk0 : mTk tx ty (mSkip tx ty tt) ≠ 0 := fun q => absurd (mTk_0.mp q) (by have := (mAt_ge htx hf).1; omega)
  have hgt := mTo_gt (tx := tx) (ty := ty) (by omega) hk0
  have hto := mTo_rg (tx := tx) (ty := ty) (f := mSkip tx ty tt) (by omega)
  have hK := gK_k (tx := tx) (ty := ty) (f := mSkip tx ty tt) (by omega)
  have hF := fun be => gFg_m (tx := tx) (ty := ty) (f := mSkip tx ty tt) (be := be) (by omega)
  have hRok := pIt_ok (tx := tx) (d0 := d0) (show 0 ≤ ty by omega) n
  have hMok := pMid_ok (tx := tx) hRok.1 hRok.2
  have e9 := gT_lt (tx := tx) hf
  rw [e9] at hK hF s0 s1 s2 s3 s4 s5 ⊢
  generalize hr : pIt tx ty d0 n = r at *
  generalize hq : mSkip tx ty tt = f at *
  rcases (show du = 0 ∨ du = 1 ∨ du = 2 ∨ du = 3 ∨ du = 4 ∨ du = 5 by omega) with hd | hd | hd | hd | hd | hd
  · obtain ⟨a1, a2, a3, a4, a5⟩ := p0 hd
    obtain ⟨b1, b2, b3, b4, b5, b6, b7, b8⟩ := s0 hd
    have hpg : pGo tx ty r := ⟨a1, by rw [a2]; exact hk0⟩
    refine ⟨fun q => ?_, fun q => ?_⟩
    · have c1 := b2 q
      rw [b1] at q
      have c2 := of_decide_eq_true q
      subst b7
      rcases c2 with ⟨c3, c4, c5⟩ | ⟨c3, c4⟩ | ⟨c3, c4⟩
      · refine ⟨n, hS, by omega, by omega, by omega, hgo, by omega, ?_, by omega, gPh_of 1 (by rw [c1, if_pos c3]) (Or.inr (Or.inl ⟨rfl, by rw [hr]; exact hpg, ?_, ?_, ?_, ?_, ?_, ?_, ?_⟩))⟩
        · rw [c1, if_pos c3]; decide
        · rw [hr, a2]; exact hK.1.mp c3
        · rw [hr, ← a3.2.1]; exact c4
        · rw [hr, ← a4]; exact c5
        · rw [hr, a2]
        · rw [hr, b6]; exact a3
        · rw [hr, b3, c5, decide_eq_false (by omega), ← a4, c5]; rfl
        · rw [hr, b4, decide_eq_false (by omega), Bool.or_false]; exact a5
      · refine ⟨n, hS, by omega, by omega, by omega, hgo, by omega, ?_, by omega, gPh_of 2 (by rw [c1, if_neg (by omega), if_pos c3]) (Or.inr (Or.inr (Or.inl ⟨rfl, by rw [hr]; exact hpg, ?_, ?_, ?_, ?_, ?_, ?_⟩)))⟩
        · rw [c1, if_neg (by omega), if_pos c3]; decide
        · rw [hr, a2]; exact hK.2.1.mp c3
        · rw [hr, ← a3.2.1]; exact c4
        · rw [hr, a2]
        · rw [hr, b6]; exact a3
        · rw [b3, decide_eq_true c3, Bool.or_true]
        · rw [hr, b4, decide_eq_false (by omega), Bool.or_false]; exact a5
      · refine ⟨n, hS, by omega, by omega, by omega, hgo, by omega, ?_, by omega, gPh_of 4 (by rw [c1, if_neg (by omega), if_neg (by omega)]) (Or.inr (Or.inr (Or.inr (Or.inr (Or.inl ⟨rfl, by rw [hr]; exact hpg, ?_, ?_, ?_, ?_, ?_, ?_⟩)))))⟩
        · rw [c1, if_neg (by omega), if_neg (by omega)]; decide
        · rw [hr, a2]; exact hK.2.2.mp c3
        · rw [hr, ← a5]; exact c4
        · rw [hr, a2]
        · rw [hr, b6]; exact a3
        · rw [hr, b3, decide_eq_false (by omega), Bool.or_false]; exact a4
        · rw [b4, decide_eq_true c3, Bool.or_true]
    · rw [b1] at q
      have c2 := of_decide_eq_false q
      refine rf_mid hgo (by rw [hr]; exact hpg) (by omega) ?_
      rw [hr, ← a2]
      by_cases k1 : mTk tx ty r.1 = 1
      · refine (mid_1 a1 k1).1 (fun z => c2 (Or.inl ⟨hK.1.mpr (by rw [← a2]; exact k1), by rw [a3.2.1]; exact z.1, by rw [a4]; exact z.2⟩)) (by omega)
      · by_cases k2 : mTk tx ty r.1 = 2
        · refine (mid_2 a1 k2).1 (fun z => c2 (Or.inr (Or.inl ⟨hK.2.1.mpr (by rw [← a2]; exact k2), by rw [a3.2.1]; exact z⟩))) (by omega)
        · by_cases k3 : mTk tx ty r.1 = 3
          · refine (mid_3 a1 k3).1 ?_ (by omega)
            cases hb : r.2.2.2.2 with
            | true => rfl
            | false => exact absurd (Or.inr (Or.inr ⟨hK.2.2.mpr (by rw [← a2]; exact k3), by rw [a5, hb]⟩)) c2
          · exact mid_0 a1 k1 k2 k3
  · obtain ⟨a1, a2, a3, a4, a5, a6, a7, a8⟩ := p1 hd
    obtain ⟨b1, b2, b3, b4, b5, b6⟩ := s1 hd
    have hm := (mid_1 a1.1 a2).2 ⟨a3, a4⟩
    rw [← a5, hq] at hm
    have hB : gRwB tx ty f (mTo tx ty f) rt d = mRowOk tx ty r.2.2.1 f := by
      have := gRw_m (tx := tx) (ty := ty) (d := d) (dr := r.2.2.1) htx (show 0 ≤ f ∧ f < ty by omega) ⟨a6.2.1, hrt.1⟩ (fun z => (a6.2.2.1 z).1)
      rwa [e9] at this
    rw [hB] at b1
    have hr5 : rt ≤ 5 := by have := a6.2.1; omega
    refine ⟨fun q => ?_, fun q => ?_⟩
    · obtain ⟨c1, c2, c3⟩ := b2 q
      have c4 := dRl_row (tx := tx) (ty := ty) (show 0 ≤ f ∧ f < ty by omega) hS ⟨hrt.1, hr5⟩ a6 (b1.symm.trans q)
      have c5 := hm.2 (b1.symm.trans q)
      rw [← c3, ← c2] at c4
      have c6 : rt9 ≤ 6 := by have := hMok.2.2.1; rw [c5] at this; have h2 := c4.1.2.1; omega
      refine ⟨n, c4.2, by omega, by omega, by omega, hgo, by omega, by omega, by omega, gPh_of 5 c1 (Or.inr (Or.inr (Or.inr (Or.inr (Or.inr ⟨rfl, by rw [hr]; exact a1, ?_, ?_, ?_, ?_, ?_⟩)))))⟩
      · rw [hr, c5]
      · rw [hr, c5]
      · rw [hr, c5]; exact c4.1
      · rw [hr, c5, b3]; exact a7
      · rw [hr, c5, b4]; exact a8
    · exact rf_mid hgo (by rw [hr]; exact a1) (by omega) (by rw [hr]; exact hm.1 (b1.symm.trans q) (by omega))
  · obtain ⟨a1, a2, a3, a4, a5, a6, a7⟩ := p2 hd
    obtain ⟨b1, b2, b3, b4, b5, b6, b7, b8⟩ := s2 hd
    have hm := (mid_2 a1.1 a2).2 a3
    have e0 := (a5.2.2.1 (by rw [a5.2.1]; exact a3)).1
    have hF0 := hF (r.2.2.1 0)
    rw [e0, hF0.1] at b1
    have hz : mSkip tx ty (mTo tx ty r.1) = f := by rw [← a4, hq]
    rw [hz] at hm
    refine ⟨fun q => ?_, fun q => ?_⟩
    · have c1 := b1.symm.trans q
      subst b8
      have c2 := hF0.2 c1
      have c3 := gFg_rg (tx := tx) (ty := ty) (fr := f) (tt := mTo tx ty f)
      refine ⟨n, hS, by omega, by omega, by omega, hgo, by omega, by omega, by omega, gPh_of 3 b3 (Or.inr (Or.inr (Or.inr (Or.inl ⟨rfl, by rw [hr]; exact a1, by rw [hr]; exact a2, by rw [hr]; exact a3, ?_, ?_, ?_, ?_, ?_, ?_⟩))))⟩
      · rw [hr, hz]; exact c1
      · rw [hr, hz, b2]; exact c2
      · rw [hr, hz]
      · rw [hr, b7]; exact a5
      · rw [b4]; exact a6
      · rw [hr, b5]; exact a7
    · exact rf_mid hgo (by rw [hr]; exact a1) (by omega) (by rw [hr]; exact hm.1 (b1.symm.trans q) (by omega))
  · obtain ⟨a1, a2, a3, a4, a5, a6, a7, a8, a9⟩ := p3 hd
    obtain ⟨b1, b2, b3, b4, b5, b6, b7, b8⟩ := s3 hd
    have hrp : 0 < rt := by rw [a7.2.1]; exact a3
    have hm := ((mid_2 a1.1 a2).2 a3).2 a4
    have e0 := a7.2.2.1 hrp
    have hz : mSkip tx ty (mTo tx ty (mSkip tx ty (mTo tx ty r.1))) = f := by rw [← a6, hq]
    rw [hz] at hm
    have g4 := of_decide_eq_true a4
    have g5 := mTk_4 g4.1
    have hF1 := hF (r.2.2.1 1)
    have hB : gFxB tx ty f (mTo tx ty f) fc d = mFg tx ty f (r.2.2.1 1) := by
      rw [← hF1.1, ← e0.2]
      unfold gFxB
      congr 1
      apply propext
      rw [e0.1]
      omega
    rw [hB] at b1
    refine ⟨fun q => ?_, fun q => ?_⟩
    · have c1 := b1.symm.trans q
      have c2 := hF1.2 c1
      have c3 := b2 q
      have c4 := of_decide_eq_true (hB.trans c1)
      have c5 := dRl_fix (v := 27 + r.2.2.1 0 * (mAt tx ty f - 48) + (mAt tx ty (mSkip tx ty (mTo tx ty r.1)) - 48)) hS a7 hrp ⟨c4.1, c4.2.1⟩ c4.2.2 (by rw [c2, a5])
      rw [← c3] at c5
      have c6 := hm.2 c1
      refine ⟨n, c5.2, by omega, by omega, by omega, hgo, by omega, by omega, by omega, gPh_of 5 b3 (Or.inr (Or.inr (Or.inr (Or.inr (Or.inr ⟨rfl, by rw [hr]; exact a1, ?_, ?_, ?_, ?_, ?_⟩)))))⟩
      · rw [hr, c6]
      · rw [hr, c6]
      · rw [hr, c6, b7]; exact c5.1
      · rw [hr, c6, b4]; exact a8
      · rw [hr, c6, b5]; exact a9
    · exact rf_mid hgo (by rw [hr]; exact a1) (by omega) (by rw [hr]; exact hm.1 (b1.symm.trans q))
  · obtain ⟨a1, a2, a3, a4, a5, a6, a7⟩ := p4 hd
    obtain ⟨b1, b2, b3, b4, b5, b6, b7, b8⟩ := s4 hd
    have hm := (mid_3 a1.1 a2).2 a3
    rw [← a4, hq] at hm
    have hF4 := hF 4
    have hB : decide (0 ≤ gFg tx ty f (mTo tx ty f) ∧ gFg tx ty f (mTo tx ty f) ≤ 3) = mFg tx ty f 4 := by
      rw [← hF4.1]
      congr 1
      apply propext
      omega
    have b1' := b1.trans hB
    refine ⟨fun q => ?_, fun q => ?_⟩
    · have c1 := b1'.symm.trans q
      have c2 := hF4.2 c1
      have c4 := of_decide_eq_true (b1.symm.trans q)
      have c5 := dRl_be hS a5 c4
      rw [← b2, c2] at c5
      have c6 := hm.2 c1
      refine ⟨n, c5.2, by omega, by omega, by omega, hgo, by omega, by omega, by omega, gPh_of 5 b3 (Or.inr (Or.inr (Or.inr (Or.inr (Or.inr ⟨rfl, by rw [hr]; exact a1, ?_, ?_, ?_, ?_, ?_⟩)))))⟩
      · rw [hr, c6]
      · rw [hr, c6]
      · rw [hr, c6, b7]; exact c5.1
      · rw [hr, c6, b4]; exact a6
      · rw [hr, c6, b5]; exact a7
    · exact rf_mid hgo (by rw [hr]; exact a1) (by omega) (by rw [hr]; exact hm.1 (b1'.symm.trans q))
  · obtain ⟨a1, a2, a3, a4, a5, a6⟩ := p5 hd
    obtain ⟨b1, b2, b3, b4, b5, b6, b7, b8⟩ := s5 hd
    have hB : decide (gAt tx ty f = 59) = decide (mTk tx ty (pMid tx ty r).1 = 5) := by
      rw [a3, gAt_in (by omega)]
      congr 1
      exact propext mTk_5.symm
    rw [hB] at b1
    have hI : pItem tx ty r = ((pT tx ty ((pMid tx ty r).1, (pMid tx ty r).2.1) ok).1, (pT tx ty ((pMid tx ty r).1, (pMid tx ty r).2.1) ok).2, (pMid tx ty r).2.2) := by unfold pItem; rw [← b1]
    refine ⟨fun q => ?_, fun q => ?_⟩
    · subst b7
      rw [q, pT_y (z := ((pMid tx ty r).1, (pMid tx ty r).2.1)) a2] at hI
      have hn1 : pIt tx ty d0 (n + 1) = (mSkip tx ty (mTo tx ty (pMid tx ty r).1), -9, (pMid tx ty r).2.2) := by
        show pItem tx ty (pIt tx ty d0 n) = _
        rw [hr, hI]
      refine ⟨n + 1, hS, by omega, by omega, by omega, fun i hi => ?_, by omega, by omega, by omega, gPh_of 0 b2 (Or.inl ⟨rfl, ?_, ?_, ?_, ?_, ?_⟩)⟩
      · by_cases hin : i = n
        · rw [hin, hr]; exact a1
        · exact hgo i (by omega)
      · rw [hn1]
      · rw [hn1, a3]
      · rw [hn1, b6]; exact a4
      · rw [hn1, b4]; exact a5
      · rw [hn1, b5]; exact a6
    · refine rf_item hgo (by rw [hr]; exact a1) (by omega) ?_
      rw [hr, hI, q, pT_n (z := ((pMid tx ty r).1, (pMid tx ty r).2.1)) a2]
      exact a3
end
