/-! kinds -/
def kRow (s : Int → Int) (c : Int) : Int := gRow s (c % s 0) (c / s 0)
theorem alq_m {s sr : Int → Int} {N : Int} (hq : mSqOk s sr N) {i j : Int} (hi : 0 ≤ i ∧ i < N) (hj : 0 ≤ j ∧ j < N) : mAlq sr i j = decide (kRow s i = kRow s j) := by
  unfold mAlq kRow
  have a1 := hq i 1 hi.1 hi.2 (by decide) (by decide)
  have a2 := hq i 2 hi.1 hi.2 (by decide) (by decide)
  have a3 := hq i 3 hi.1 hi.2 (by decide) (by decide)
  have b1 := hq j 1 hj.1 hj.2 (by decide) (by decide)
  have b2 := hq j 2 hj.1 hj.2 (by decide) (by decide)
  have b3 := hq j 3 hj.1 hj.2 (by decide) (by decide)
  rw [show 3 * i + 1 - 1 = 3 * i by omega] at a1
  rw [show 3 * j + 1 - 1 = 3 * j by omega] at b1
  rw [show 3 * i + 2 - 1 = 3 * i + 1 by omega] at a2
  rw [show 3 * j + 2 - 1 = 3 * j + 1 by omega] at b2
  rw [show 3 * i + 3 - 1 = 3 * i + 2 by omega] at a3
  rw [show 3 * j + 3 - 1 = 3 * j + 2 by omega] at b3
  rw [a1, a2, a3, b1, b2, b3]
  refine decide_eq_decide.mpr ?_
  rw [gRow_inj, gSq_inj, gSq_inj, gSq_inj]
theorem fdI_congr {p q : Int → Bool} {n : Int} (hn : 0 ≤ n) (h : ∀ j, 0 ≤ j → j < n → p j = q j) : fdI p n 0 = fdI q n 0 := by
  obtain ⟨f1, f2, f3, f4⟩ := fdI_spec (p := p) (n := n) _ 0 rfl hn
  obtain ⟨g1, g2, g3, g4⟩ := fdI_spec (p := q) (n := n) _ 0 rfl hn
  rcases Int.lt_trichotomy (fdI p n 0) (fdI q n 0) with e | e | e
  · exact absurd (by rw [← h _ f1 (by omega)]; exact f3 (by omega)) (g4 _ f1 e)
  · exact e
  · exact absurd (by rw [h _ g1 (by omega)]; exact g3 (by omega)) (f4 _ g1 e)
/-- the class's and the reference's kinds of the first n cells -/
def kdR (s : Int → Int) (g m : Int × (Int → Int) × (Int → Int)) (n : Nat) : Prop :=
  g.1 = m.1 ∧ (0 ≤ g.1 ∧ g.1 ≤ n) ∧ (∀ j, 0 ≤ j → j < g.1 → (0 ≤ m.2.1 j ∧ m.2.1 j < n) ∧ g.2.1 j = kRow s (m.2.1 j)) ∧ (∀ i j, 0 ≤ i → i < j → j < g.1 → g.2.1 i ≠ g.2.1 j) ∧
  (∀ c : Int, 0 ≤ c → c < n → (0 ≤ m.2.2 c ∧ m.2.2 c < g.1) ∧ g.2.1 (m.2.2 c) = kRow s c) ∧ ∀ j, 0 ≤ j → j < g.1 → g.2.2 j = smN (fun c => if m.2.2 c = j then 1 else 0) n
theorem kd_m {s sr : Int → Int} {N : Int} (hq : mSqOk s sr N) (ro ce fi kn : Int → Int) : ∀ n : Nat, (n : Int) ≤ N → kdR s (gKd s ro ce n) (mKd sr fi kn n) n := by
  intro n
  induction n with
  | zero => intro _; exact ⟨rfl, ⟨Int.le_refl 0, Int.le_refl 0⟩, fun j a b => absurd b (by show ¬ j < 0; omega), fun i j a b c => absurd c (by show ¬ j < 0; omega), fun c a b => absurd b (by omega), fun j a b => absurd b (by show ¬ j < 0; omega)⟩
  | succ n ih =>
    intro hn
    have h := ih (by omega)
    have eg : gKd s ro ce (n + 1) = gKdS (kRow s n) (gKd s ro ce n) := rfl
    have em : mKd sr fi kn (n + 1) = (if fdI (fun j => mAlq sr ((mKd sr fi kn n).2.1 j) n) (mKd sr fi kn n).1 0 = (mKd sr fi kn n).1 then (mKd sr fi kn n).1 + 1 else (mKd sr fi kn n).1, if fdI (fun j => mAlq sr ((mKd sr fi kn n).2.1 j) n) (mKd sr fi kn n).1 0 = (mKd sr fi kn n).1 then uz (mKd sr fi kn n).2.1 (mKd sr fi kn n).1 n else (mKd sr fi kn n).2.1, uz (mKd sr fi kn n).2.2 n (fdI (fun j => mAlq sr ((mKd sr fi kn n).2.1 j) n) (mKd sr fi kn n).1 0)) := rfl
    rw [eg, em]
    generalize gKd s ro ce n = g at *
    generalize mKd sr fi kn n = m at *
    obtain ⟨h1, h2, h3, h4, h5, h6⟩ := h
    have hI : fdI (fun j => mAlq sr (m.2.1 j) n) m.1 0 = fdI (fun j => decide (g.2.1 j = kRow s n)) g.1 0 := by
      rw [← h1]
      refine fdI_congr h2.1 (fun j a b => ?_)
      have h7 := h3 j a b
      rw [alq_m hq (show 0 ≤ m.2.1 j ∧ m.2.1 j < N by omega) (show 0 ≤ (n : Int) ∧ (n : Int) < N by omega), ← h7.2]
    obtain ⟨f1, f2, f3, f4⟩ := fdI_spec (p := fun j => decide (g.2.1 j = kRow s n)) (n := g.1) _ 0 rfl h2.1
    unfold gKdS
    rw [hI, ← h1]
    generalize hIx : fdI (fun j => decide (g.2.1 j = kRow s n)) g.1 0 = I at *
    have hsm : ∀ (k : Int → Int) (j v : Int), smN (fun c => if uz k n v c = j then 1 else 0) (n + 1) = smN (fun c => if k c = j then 1 else 0) n + (if v = j then 1 else 0) := by
      intro k j v
      show smN (fun c => if uz k n v c = j then 1 else 0) n + (if uz k n v n = j then 1 else 0) = _
      rw [uz_s]
      congr 1
      exact smN_congr n (fun c a b => by show (if uz k n v c = j then (1 : Int) else 0) = if k c = j then 1 else 0; rw [uz_n (by omega)])
    by_cases hnew : I = g.1
    · rw [if_pos hnew, if_pos hnew, if_pos hnew]
      refine ⟨rfl, by show 0 ≤ g.1 + 1 ∧ g.1 + 1 ≤ ((n + 1 : Nat) : Int); omega, fun j a b => ?_, fun i j a b c => ?_, fun c a b => ?_, fun j a b => ?_⟩
      · show (0 ≤ uz m.2.1 g.1 n j ∧ uz m.2.1 g.1 n j < ((n + 1 : Nat) : Int)) ∧ uz g.2.1 g.1 (kRow s n) j = kRow s (uz m.2.1 g.1 n j)
        by_cases hj : j = g.1
        · rw [hj, uz_s, uz_s]; exact ⟨by omega, rfl⟩
        · have b' : j < g.1 + 1 := b
          rw [uz_n hj, uz_n hj]
          have := h3 j a (by omega)
          exact ⟨by omega, this.2⟩
      · show uz g.2.1 g.1 (kRow s n) i ≠ uz g.2.1 g.1 (kRow s n) j
        have c' : j < g.1 + 1 := c
        rw [uz_n (show i ≠ g.1 by omega)]
        by_cases hj : j = g.1
        · rw [hj, uz_s]
          intro z
          exact f4 i a (by omega) (decide_eq_true z)
        · rw [uz_n hj]; exact h4 i j a b (by omega)
      · show (0 ≤ uz m.2.2 n I c ∧ uz m.2.2 n I c < g.1 + 1) ∧ uz g.2.1 g.1 (kRow s n) (uz m.2.2 n I c) = kRow s c
        by_cases hcn : c = n
        · rw [hcn, uz_s, hnew, uz_s]; exact ⟨by omega, rfl⟩
        · rw [uz_n hcn]
          have := h5 c a (by omega)
          rw [uz_n (by omega)]
          exact ⟨by omega, this.2⟩
      · have b' : j < g.1 + 1 := b
        show uz (uz g.2.2 g.1 0) g.1 (uz g.2.2 g.1 0 g.1 + 1) j = smN (fun c => if uz m.2.2 n I c = j then 1 else 0) (n + 1)
        rw [hsm]
        by_cases hj : j = g.1
        · rw [hj, uz_s, uz_s, if_pos hnew]
          have : smN (fun c => if m.2.2 c = g.1 then 1 else 0) n = 0 := by
            refine (smN_congr (g := fun _ => 0) n (fun c c1 c2 => ?_)).trans ?_
            · show (if m.2.2 c = g.1 then (1 : Int) else 0) = 0
              have := (h5 c c1 c2).1
              rw [if_neg (by omega)]
            · have := smN_skip (f := fun _ => 0) n 0 (fun _ _ _ => rfl)
              rw [Nat.zero_add] at this
              exact this
          rw [this]
        · rw [uz_n hj, uz_n hj, if_neg (by omega), Int.add_zero]
          exact h6 j a (by omega)
    · rw [if_neg hnew, if_neg hnew, if_neg hnew]
      have hlt : I < g.1 := by omega
      have hfI := of_decide_eq_true (f3 hlt)
      refine ⟨rfl, by show 0 ≤ g.1 ∧ g.1 ≤ ((n + 1 : Nat) : Int); omega, fun j a b => ?_, fun i j a b c => h4 i j a b c, fun c a b => ?_, fun j a b => ?_⟩
      · have := h3 j a b
        exact ⟨⟨this.1.1, by show m.2.1 j < ((n + 1 : Nat) : Int); omega⟩, this.2⟩
      · show (0 ≤ uz m.2.2 n I c ∧ uz m.2.2 n I c < g.1) ∧ g.2.1 (uz m.2.2 n I c) = kRow s c
        by_cases hcn : c = n
        · rw [hcn, uz_s]; exact ⟨by omega, hfI⟩
        · rw [uz_n hcn]; exact h5 c a (by omega)
      · show uz g.2.2 I (g.2.2 I + 1) j = smN (fun c => if uz m.2.2 n I c = j then 1 else 0) (n + 1)
        rw [hsm]
        by_cases hj : j = I
        · rw [hj, uz_s, if_pos rfl, h6 I f1 hlt]
        · rw [uz_n hj, if_neg (fun z => hj z.symm), Int.add_zero]
          exact h6 j a b
theorem kd_N {s sr : Int → Int} (hS : mS s) (hq : mSqOk s sr (s 0 * s 1)) (ro ce fi kn : Int → Int) : kdR s (gKd s ro ce (s 0 * s 1).toNat) (mKd sr fi kn (s 0 * s 1).toNat) (s 0 * s 1).toNat := by
  have hc := cells_rg hS.1 hS.2.1
  exact kd_m hq ro ce fi kn _ (by omega)
theorem cell_2 {s sr : Int → Int} (hS : mS s) (hq : mSqOk s sr (s 0 * s 1)) (ro ce fi kn : Int → Int) {x y : Int} (hx : 0 ≤ x ∧ x < s 0 ∧ 0 ≤ y ∧ y < s 1) : fdI (fun j => decide ((gKd s ro ce (s 0 * s 1).toNat).2.1 j = gRow s x y)) (gKd s ro ce (s 0 * s 1).toNat).1 0 = (mKd sr fi kn (s 0 * s 1).toNat).2.2 (s 0 * y + x) := by
  have hcr := cell_rg hS.1 (show 0 ≤ x ∧ x < s 0 by omega) (show 0 ≤ y ∧ y < s 1 by omega)
  have h := kd_N hS hq ro ce fi kn
  have e : kRow s (s 0 * y + x) = gRow s x y := by unfold kRow; rw [(dm_eq hS.1 (show 0 ≤ x ∧ x < s 0 by omega)).1, (dm_eq hS.1 (show 0 ≤ x ∧ x < s 0 by omega)).2]
  generalize gKd s ro ce (s 0 * s 1).toNat = g at *
  generalize mKd sr fi kn (s 0 * s 1).toNat = m at *
  obtain ⟨h1, h2, h3, h4, h5, h6⟩ := h
  have h7 := h5 (s 0 * y + x) hcr.1 (by omega)
  rw [e] at h7
  obtain ⟨f1, f2, f3⟩ := fdI_ex (p := fun j => decide (g.2.1 j = gRow s x y)) (n := g.1) (j := 0) (i := m.2.2 (s 0 * y + x)) h7.1 (decide_eq_true h7.2)
  refine Classical.byContradiction (fun hne => ?_)
  exact h4 _ (m.2.2 (s 0 * y + x)) f1 (by omega) h7.1.2 (by rw [of_decide_eq_true f3, h7.2])
theorem gRow_l (s : Int → Int) (x y : Int) {l : Int} (hl : 1 ≤ l ∧ l ≤ 3) : gRow s x y / (64 : Int) ^ (l - 1).toNat % 64 = gSq s x y l := by
  have h1 := gSq_rg s x y 1
  have h2 := gSq_rg s x y 2
  have h3 := gSq_rg s x y 3
  unfold gRow
  rcases (show l = 1 ∨ l = 2 ∨ l = 3 by omega) with rfl | rfl | rfl
  · show ((gSq s x y 3 * 64 + gSq s x y 2) * 64 + gSq s x y 1) / 1 % 64 = _; omega
  · show ((gSq s x y 3 * 64 + gSq s x y 2) * 64 + gSq s x y 1) / 64 % 64 = _; omega
  · show ((gSq s x y 3 * 64 + gSq s x y 2) * 64 + gSq s x y 1) / 4096 % 64 = _; omega
theorem kind_m {s sr : Int → Int} (hS : mS s) (hq : mSqOk s sr (s 0 * s 1)) {ro ce fi kn : Int → Int} {z i r : Int}
    (h : if -1 ≤ z ∧ 0 ≤ i ∧ i ≤ 3 ∧ (z = -1 → i = 0) ∧ z < (gKd s ro ce (s 0 * s 1).toNat).1 then (if z = -1 then r = (gKd s ro ce (s 0 * s 1).toNat).1 else if i = 0 then r = (gKd s ro ce (s 0 * s 1).toNat).2.2 z else r = if ((gKd s ro ce (s 0 * s 1).toNat).2.1 z / (64 : Int) ^ (i - 1).toNat % 64) = 47 then -9 else ((gKd s ro ce (s 0 * s 1).toNat).2.1 z / (64 : Int) ^ (i - 1).toNat % 64)) else r = -5) :
    r = if -1 ≤ z ∧ z ≤ (mKd sr fi kn (s 0 * s 1).toNat).1 - 1 ∧ 0 ≤ i ∧ i ≤ (if z < 0 then 0 else 3) then if z < 0 then (mKd sr fi kn (s 0 * s 1).toNat).1 else if 0 < i then sr (3 * (mKd sr fi kn (s 0 * s 1).toNat).2.1 z + i - 1) else sI (fun c => if (mKd sr fi kn (s 0 * s 1).toNat).2.2 c = z then 1 else 0) (s 0 * s 1) else -5 := by
  have hk := kd_N hS hq ro ce fi kn
  generalize gKd s ro ce (s 0 * s 1).toNat = g at *
  generalize mKd sr fi kn (s 0 * s 1).toNat = m at *
  obtain ⟨h1, h2, h3, h4, h5, h6⟩ := hk
  by_cases hc : -1 ≤ z ∧ 0 ≤ i ∧ i ≤ 3 ∧ (z = -1 → i = 0) ∧ z < g.1
  · rw [if_pos hc] at h
    rw [if_pos (by split <;> omega)]
    by_cases hz : z = -1
    · rw [if_pos hz] at h
      rw [if_pos (by omega), h, h1]
    · rw [if_neg hz] at h
      rw [if_neg (by omega)]
      by_cases hi : i = 0
      · rw [if_pos hi] at h
        rw [if_neg (by omega), h, h6 z (by omega) (by omega)]
        rfl
      · rw [if_neg hi] at h
        have h7 := h3 z (by omega) (by omega)
        rw [if_pos (by omega), h, h7.2]
        unfold kRow
        rw [gRow_l s _ _ (show 1 ≤ i ∧ i ≤ 3 by omega), gSq_mSq]
        exact (hq (m.2.1 z) i h7.1.1 (by have := cells_rg hS.1 hS.2.1; omega) (by omega) (by omega)).symm
  · rw [if_neg hc] at h
    rw [if_neg (by split <;> omega), h]
/-! fixed cells -/
theorem gFix_m {s : Int → Int} (h0 : 1 ≤ s 0 ∧ s 0 ≤ 4) (h1 : 1 ≤ s 1 ∧ s 1 ≤ 6) (hz : mZ s) : gFix s = mFixed s := by
  have hc := cells_rg h0 h1
  exact sI_skip (f := fun c => s (27 + c)) (by omega) (by omega) (fun j a b => (hz j a b).2)
theorem mZ_fix {s : Int → Int} {c i : Int} (hz : mZ s) (hc : 0 ≤ c ∧ c < s 0 * s 1) : mZ (uz s (27 + c) i) := by
  intro j a b
  rw [uz_n (by omega), uz_n (by omega)] at a
  rw [uz_n (by omega), uz_n (by omega)]
  exact hz j a b
theorem fixes_m {s : Int → Int} (hS : mS s) (hz : mZ s) (x y i : Int) : (if mFixesC s x y i = true then gFix (uz s (27 + (s 0 * y + x)) i) else mFixesR s x y i) = mFixesR s x y i := by
  by_cases h : mFixesC s x y i = true
  · rw [if_pos h]
    have hd := of_decide_eq_true h
    have hcr := cell_rg hS.1 (show 0 ≤ x ∧ x < s 0 by omega) (show 0 ≤ y ∧ y < s 1 by omega)
    unfold mFixesR
    rw [if_pos hd.1, if_pos hd.2.1, if_neg hd.2.2, Int.add_assoc]
    have h3 := mZ_fix (i := i) hz ⟨hcr.1, hcr.2.1⟩
    exact gFix_m (by rw [uz_n (by omega)]; exact hS.1) (by rw [uz_n (by omega)]; exact hS.2.1) h3
  · rw [if_neg h]
theorem count_m {s : Int → Int} (hS : mS s) (hz : mZ s) (kn ty un z : Int) : (if z = 0 then s 0 else if z = 1 then s 1 else if z = 2 then s 2 else if z = 3 then gFix s else if z = 4 then mHeights s else if z = 5 then kn else if z = 6 then ty else if z = 7 then un else -1) = mCount s kn ty un z := by
  unfold mCount
  rw [gFix_m hS.1 hS.2.1 hz]
