/-! the answers of the class against the reference's -/
def fcR (la sq fc : Int → Int) (kn : Int) : Prop := ∀ j, 0 ≤ j → j < kn → la j = fc (2 * j) ∧ (1 ≤ la j ∧ la j ≤ 3) ∧ sq j = (if fc (2 * j + 1) = -9 then 47 else fc (2 * j + 1)) ∧ (fc (2 * j + 1) = -9 ∨ 0 ≤ fc (2 * j + 1) ∧ fc (2 * j + 1) ≤ 46)
theorem fcR_0 (la sq fc : Int → Int) : fcR la sq fc 0 := fun j a b => absurd b (by omega)
theorem fcR_c {la sq fc : Int → Int} {kn : Int} (h : fcR la sq fc kn) : ∀ j, 0 ≤ j → j < kn → (1 ≤ la j ∧ la j ≤ 3) ∧ 0 ≤ sq j ∧ sq j ≤ 47 := by
  intro j a b
  obtain ⟨h1, h2, h3, h4⟩ := h j a b
  refine ⟨h2, ?_⟩
  rw [h3]
  split <;> omega
theorem fcR_m {la sq fc : Int → Int} {kn : Int} (h : fcR la sq fc kn) : ∀ j, 0 ≤ j → j < kn → (1 ≤ fc (2 * j) ∧ fc (2 * j) ≤ 3) ∧ -9 ≤ fc (2 * j + 1) ∧ fc (2 * j + 1) ≤ 46 := by
  intro j a b
  obtain ⟨h1, h2, h3, h4⟩ := h j a b
  rw [← h1]
  exact ⟨h2, by omega⟩
theorem fcR_s {la sq fc : Int → Int} {kn x y : Int} (hk : 0 ≤ kn ∧ kn ≤ 6) (h : fcR la sq fc kn) : fcR (if ((1 ≤ x ∧ x ≤ 3) ∧ (0 ≤ y ∧ y ≤ 46 ∨ y = -9)) ∧ kn < 6 then uz la kn x else la) (if ((1 ≤ x ∧ x ≤ 3) ∧ (0 ≤ y ∧ y ≤ 46 ∨ y = -9)) ∧ kn < 6 then uz sq kn (if y = -9 then 47 else y) else sq) (mSeesF fc kn x y) (mSeesN kn x y) ∧ (0 ≤ mSeesN kn x y ∧ mSeesN kn x y ≤ 6) := by
  unfold mSeesF mSeesN
  by_cases h1 : (1 ≤ x ∧ x ≤ 3) ∧ (0 ≤ y ∧ y ≤ 46 ∨ y = -9)
  · rw [if_pos h1, if_pos h1]
    by_cases h2 : kn = 6
    · rw [if_neg (by omega), if_neg (by omega), if_pos h2, if_pos h2]
      exact ⟨h, hk⟩
    · rw [if_pos ⟨h1, by omega⟩, if_pos ⟨h1, by omega⟩, if_neg h2, if_neg h2]
      refine ⟨fun j a b => ?_, by omega⟩
      by_cases hj : j = kn
      · rw [hj, uz_s, uz_s, uz_n (by omega), uz_s, uz_s]
        exact ⟨rfl, h1.1, rfl, by omega⟩
      · rw [uz_n hj, uz_n hj, uz_n (by omega), uz_n (by omega), uz_n (by omega), uz_n (by omega)]
        exact h j a (by omega)
  · rw [if_neg h1, if_neg h1, if_neg (fun q => h1 q.1), if_neg (fun q => h1 q.1)]
    exact ⟨h, hk⟩
section
variable {s la sq fc sr : Int → Int} {kn : Int}
theorem gFit_m (hS : mS s) (hf : fcR la sq fc kn) (hq : mSqOk s sr (s 0 * s 1)) {c : Int} (hc : 0 ≤ c ∧ c < s 0 * s 1) : gFitN s la sq kn c = mSo sr fc kn c := by
  unfold gFitN gFit mSo
  refine alI_congr (fun j a b => ?_)
  obtain ⟨h1, h2, h3, h4⟩ := hf j a b
  have e := hq c (la j) hc.1 hc.2 h2.1 h2.2
  have e2 := gSq_mSq s (c % s 0) (c / s 0) (la j)
  have hr := gSq_rg s (c % s 0) (c / s 0) (la j)
  rw [← h1, e, ← e2, h3]
  congr 1
  apply propext
  split <;> split <;> omega
theorem which_0 (hS : mS s) (hf : fcR la sq fc kn) (hq : mSqOk s sr (s 0 * s 1)) : ((popN 4 (gBits (gFitN s la sq kn) (s 0 * s 1).toNat).toNat : Nat) : Int) = sI (fun c => bz (mSo sr fc kn c)) (s 0 * s 1) := by
  have hc := cells_rg hS.1 hS.2.1
  rw [popN_gB _ (by omega)]
  exact sI_congr (fun j a b => by show bz (gFitN s la sq kn j) = bz (mSo sr fc kn j); rw [gFit_m hS hf hq ⟨a, b⟩])
theorem smN_pos {p : Int → Bool} : ∀ n : Nat, (smN (fun c => bz (p c)) n = 0 ↔ ∀ j : Int, 0 ≤ j → j < n → p j = false) ∧ 0 ≤ smN (fun c => bz (p c)) n := by
  intro n
  induction n with
  | zero => exact ⟨⟨fun _ j a b => absurd b (by omega), fun _ => rfl⟩, Int.le_refl 0⟩
  | succ n ih =>
    have hb := bz_rg (p n)
    have e : smN (fun c => bz (p c)) (n + 1) = smN (fun c => bz (p c)) n + bz (p n) := rfl
    rw [e]
    refine ⟨⟨fun h j a b => ?_, fun h => ?_⟩, by omega⟩
    · by_cases hj : j = n
      · cases hq : p n with
        | false => rw [hj]; exact hq
        | true => rw [hq] at h; have : bz true = 1 := rfl; omega
      · exact ih.1.mp (by omega) j a (by omega)
    · rw [ih.1.mpr (fun j a b => h j a (by omega)), h n (by omega) (by omega)]; rfl
theorem mFst_spec {p : Int → Bool} : ∀ n : Nat, ((∀ j : Int, 0 ≤ j → j < n → p j = false) ∧ mFst p n = -9) ∨ ∃ j : Int, (0 ≤ j ∧ j < n) ∧ p j = true ∧ (∀ i : Int, 0 ≤ i → i < j → p i = false) ∧ mFst p n = j := by
  intro n
  induction n with
  | zero => exact Or.inl ⟨fun j a b => absurd b (by omega), rfl⟩
  | succ n ih =>
    have hs := (smN_pos (p := p) n).1
    cases hp : p n with
    | false =>
      have e : mFst p (n + 1) = mFst p n := by show (if p n = true then _ else mFst p n) = _; rw [hp, if_neg (by decide)]
      rw [e]
      rcases ih with ⟨h1, h2⟩ | ⟨j, h1, h2, h3, h4⟩
      · refine Or.inl ⟨fun j a b => ?_, h2⟩
        by_cases hj : j = n
        · rw [hj]; exact hp
        · exact h1 j a (by omega)
      · exact Or.inr ⟨j, by omega, h2, h3, h4⟩
    | true =>
      rcases ih with ⟨h1, h2⟩ | ⟨j, h1, h2, h3, h4⟩
      · have e : mFst p (n + 1) = n := by show (if p n = true then (if smN (fun c => bz (p c)) n = 0 then (n : Int) else mFst p n) else mFst p n) = _; rw [if_pos hp, if_pos (hs.mpr h1)]
        exact Or.inr ⟨n, by omega, hp, h1, e⟩
      · have e : mFst p (n + 1) = mFst p n := by
          show (if p n = true then (if smN (fun c => bz (p c)) n = 0 then (n : Int) else mFst p n) else mFst p n) = _
          rw [if_pos hp, if_neg (fun q => by have := hs.mp q j h1.1 h1.2; rw [h2] at this; cases this)]
        rw [e]
        exact Or.inr ⟨j, by omega, h2, h3, h4⟩
theorem mFst_fd {p q : Int → Bool} {n : Nat} (hn : n ≤ 24) (h : ∀ c : Int, 0 ≤ c → q c = (decide (c < n) && p c)) : (if fdI q 24 0 < 24 then fdI q 24 0 else -9) = mFst p n := by
  obtain ⟨f1, f2, f3, f4⟩ := fdI_spec (p := q) (n := 24) _ 0 rfl (by decide)
  rcases mFst_spec (p := p) n with ⟨h1, h2⟩ | ⟨j, h1, h2, h3, h4⟩
  · rw [h2, if_neg]
    intro hlt
    have := f3 hlt
    rw [h _ f1, Bool.and_eq_true, decide_eq_true_eq] at this
    rw [h1 _ f1 this.1] at this
    cases this.2
  · have hq : q j = true := by rw [h j h1.1, h2, decide_eq_true h1.2]; rfl
    obtain ⟨g1, g2, g3⟩ := fdI_ex (p := q) (n := 24) (j := 0) (i := j) (by omega) hq
    have e : fdI q 24 0 = j := by
      refine Classical.byContradiction (fun hne => ?_)
      rw [h _ f1, Bool.and_eq_true] at g3
      rw [h3 _ f1 (by omega)] at g3
      cases g3.2
    rw [e, if_pos (by omega), h4]
theorem which_1 (hS : mS s) (hf : fcR la sq fc kn) (hq : mSqOk s sr (s 0 * s 1)) : (if fdI (mBit (gBits (gFitN s la sq kn) (s 0 * s 1).toNat)) 24 0 < 24 then fdI (mBit (gBits (gFitN s la sq kn) (s 0 * s 1).toNat)) 24 0 else -9) = mFst (mSo sr fc kn) (s 0 * s 1).toNat := by
  have hc := cells_rg hS.1 hS.2.1
  refine mFst_fd (by omega) (fun c a => ?_)
  rw [mBit_gBits _ _ a]
  by_cases h : c < ((s 0 * s 1).toNat : Int)
  · rw [gFit_m hS hf hq ⟨a, by omega⟩]
  · rw [decide_eq_false h]; rfl
/-- the counts of squares, and the greatest -/
def alC (s : Int → Int) (cl la q : Int) (n : Nat) : Int := smN (fun c => bz (mBit cl c && decide (gSq s (c % s 0) (c / s 0) la = q))) n
theorem gAl_spec (s : Int → Int) (cl la : Int) (al : Int → Int) : ∀ n : Nat, (∀ q, 0 ≤ q → q < 48 → (gAl s cl la al n).1 q = alC s cl la q n) ∧ (∀ q, 0 ≤ q → q < 48 → alC s cl la q n ≤ (gAl s cl la al n).2) ∧ ((gAl s cl la al n).2 = 0 ∨ ∃ q, (0 ≤ q ∧ q < 48) ∧ 0 < alC s cl la q n ∧ (gAl s cl la al n).2 = alC s cl la q n) := by
  intro n
  induction n with
  | zero =>
    refine ⟨fun q a b => ?_, fun q a b => Int.le_refl 0, Or.inl rfl⟩
    show cpz (fun _ => 0) al 0 0 48 q = 0
    rw [cpz_in (by omega)]
  | succ n ih =>
    obtain ⟨h1, h2, h3⟩ := ih
    have hq := gSq_rg s ((n : Int) % s 0) ((n : Int) / s 0) la
    have e : gAl s cl la al (n + 1) = gAlS (mBit cl (n : Int)) (gSq s ((n : Int) % s 0) ((n : Int) / s 0) la) (gAl s cl la al n) := rfl
    have ec : ∀ q, alC s cl la q (n + 1) = alC s cl la q n + bz (mBit cl n && decide (gSq s ((n : Int) % s 0) ((n : Int) / s 0) la = q)) := fun q => rfl
    rw [e]
    unfold gAlS
    cases hb : mBit cl (n : Int) with
    | false =>
      rw [if_neg (by decide)]
      have ec2 : ∀ q, alC s cl la q (n + 1) = alC s cl la q n := fun q => by rw [ec, hb]; exact Int.add_zero _
      refine ⟨fun q a b => by rw [ec2]; exact h1 q a b, fun q a b => by rw [ec2]; exact h2 q a b, ?_⟩
      rcases h3 with h3 | ⟨q, q1, q2, q3⟩
      · exact Or.inl h3
      · exact Or.inr ⟨q, q1, by rw [ec2]; exact q2, by rw [ec2]; exact q3⟩
    | true =>
      rw [if_pos rfl]
      generalize hg : gSq s ((n : Int) % s 0) ((n : Int) / s 0) la = g at *
      have eg : alC s cl la g (n + 1) = alC s cl la g n + 1 := by rw [ec, hb, decide_eq_true rfl]; rfl
      have en : ∀ q, q ≠ g → alC s cl la q (n + 1) = alC s cl la q n := fun q hne => by rw [ec, hb, decide_eq_false (fun z => hne z.symm)]; exact Int.add_zero _
      have hg1 := h1 g hq.1 (by omega)
      have hg2 := h2 g hq.1 (by omega)
      refine ⟨fun q a b => ?_, fun q a b => ?_, ?_⟩
      · show uz (gAl s cl la al n).1 g ((gAl s cl la al n).1 g + 1) q = _
        by_cases hqg : q = g
        · rw [hqg, uz_s, eg, hg1]
        · rw [uz_n hqg, en q hqg]; exact h1 q a b
      · show alC s cl la q (n + 1) ≤ max (gAl s cl la al n).2 ((gAl s cl la al n).1 g + 1)
        by_cases hqg : q = g
        · rw [hqg, eg, hg1]; omega
        · rw [en q hqg]; have := h2 q a b; omega
      · right
        show ∃ q, (0 ≤ q ∧ q < 48) ∧ 0 < alC s cl la q (n + 1) ∧ max (gAl s cl la al n).2 ((gAl s cl la al n).1 g + 1) = alC s cl la q (n + 1)
        have hp : 0 ≤ alC s cl la g n := (smN_pos n).2
        by_cases hm : (gAl s cl la al n).2 ≤ alC s cl la g n + 1
        · exact ⟨g, by omega, by omega, by rw [eg, hg1]; omega⟩
        · rcases h3 with h3 | ⟨q, q1, q2, q3⟩
          · omega
          · have hne : q ≠ g := fun z => by rw [z] at q3; omega
            exact ⟨q, q1, by rw [en q hne]; exact q2, by rw [en q hne, ← q3, hg1]; omega⟩
theorem mxN_spec {f : Int → Int} : ∀ n : Nat, (∀ j : Int, 0 ≤ j → j < n → f j ≤ mxN f n) ∧ (mxN f n = 0 ∨ ∃ j : Int, (0 ≤ j ∧ j < n) ∧ mxN f n = f j) ∧ 0 ≤ mxN f n := by
  intro n
  induction n with
  | zero => exact ⟨fun j a b => absurd b (by omega), Or.inl rfl, Int.le_refl 0⟩
  | succ n ih =>
    obtain ⟨h1, h2, h3⟩ := ih
    have e : mxN f (n + 1) = if mxN f n < f n then f n else mxN f n := rfl
    rw [e]
    by_cases h : mxN f n < f n
    · rw [if_pos h]
      refine ⟨fun j a b => ?_, Or.inr ⟨n, by omega, rfl⟩, by omega⟩
      by_cases hj : j = n
      · rw [hj]; exact Int.le_refl _
      · have := h1 j a (by omega); omega
    · rw [if_neg h]
      refine ⟨fun j a b => ?_, ?_, h3⟩
      · by_cases hj : j = n
        · rw [hj]; omega
        · exact h1 j a (by omega)
      · rcases h2 with h2 | ⟨j, j1, j2⟩
        · exact Or.inl h2
        · exact Or.inr ⟨j, by omega, j2⟩
theorem gMo_m (hS : mS s) (hf : fcR la sq fc kn) (hq : mSqOk s sr (s 0 * s 1)) {l : Int} (hl : 1 ≤ l ∧ l ≤ 3) : gMo s (gBits (gFitN s la sq kn) (s 0 * s 1).toNat) l = mAlk sr fc kn (s 0 * s 1) l := by
  have hc := cells_rg hS.1 hS.2.1
  generalize hcl : gBits (gFitN s la sq kn) (s 0 * s 1).toNat = cl
  obtain ⟨a1, a2, a3⟩ := gAl_spec s cl l (fun _ => 0) (s 0 * s 1).toNat
  obtain ⟨b1, b2, b3⟩ := mxN_spec (f := fun i => sI (mAlkX sr fc kn l i) (s 0 * s 1)) (s 0 * s 1).toNat
  have hbit : ∀ c, 0 ≤ c → c < s 0 * s 1 → mBit cl c = mSo sr fc kn c := by
    intro c c1 c2
    rw [← hcl, mBit_gBits _ _ c1, decide_eq_true (by omega), Bool.true_and]
    exact gFit_m hS hf hq ⟨c1, c2⟩
  have hval : ∀ i, 0 ≤ i → i < s 0 * s 1 → sI (mAlkX sr fc kn l i) (s 0 * s 1) = if mSo sr fc kn i = true then alC s cl l (gSq s (i % s 0) (i / s 0) l) (s 0 * s 1).toNat else 0 := by
    intro i i1 i2
    cases hb : mSo sr fc kn i with
    | false =>
      rw [if_neg (by decide)]
      refine (sI_congr (g := fun _ => 0) (fun j _ _ => ?_)).trans ?_
      · unfold mAlkX; rw [hb]; rfl
      · exact sI_skip (f := fun _ => 0) (m := 0) (by decide) (by omega) (fun _ _ _ => rfl)
    | true =>
      rw [if_pos rfl]
      refine sI_congr (fun j j1 j2 => ?_)
      unfold mAlkX
      rw [hb, hbit j j1 j2, hq i l i1 i2 hl.1 hl.2, hq j l j1 j2 hl.1 hl.2, Bool.true_and]
      congr 2
      exact decide_eq_decide.mpr ⟨fun z => gSq_inj.mpr z.symm, fun z => (gSq_inj.mp z).symm⟩
  have e1 : gMo s cl l = (gAl s cl l (fun _ => 0) (s 0 * s 1).toNat).2 := rfl
  have e2 : mAlk sr fc kn (s 0 * s 1) l = mxN (fun i => sI (mAlkX sr fc kn l i) (s 0 * s 1)) (s 0 * s 1).toNat := rfl
  rw [← e1] at a2 a3
  rw [← e2] at b1 b2 b3
  have hA : gMo s cl l ≤ mAlk sr fc kn (s 0 * s 1) l := by
    rcases a3 with a3 | ⟨q, q1, q2, q3⟩
    · omega
    · have hex : ∃ i : Int, (0 ≤ i ∧ i < s 0 * s 1) ∧ mBit cl i = true ∧ gSq s (i % s 0) (i / s 0) l = q := by
        refine Classical.byContradiction (fun hn => ?_)
        have : alC s cl l q (s 0 * s 1).toNat = 0 := (smN_pos _).1.mpr (fun j j1 j2 => by
          cases hz : (mBit cl j && decide (gSq s (j % s 0) (j / s 0) l = q)) with
          | false => rfl
          | true =>
            rw [Bool.and_eq_true, decide_eq_true_eq] at hz
            exact absurd ⟨j, by omega, hz.1, hz.2⟩ hn)
        omega
      obtain ⟨i, i1, i2, i3⟩ := hex
      have h4 := b1 i i1.1 (by omega)
      rw [hval i i1.1 i1.2, ← hbit i i1.1 i1.2, i2, if_pos rfl, i3, ← q3] at h4
      exact h4
  have hB : mAlk sr fc kn (s 0 * s 1) l ≤ gMo s cl l := by
    have h0 : 0 ≤ gMo s cl l := (gAl_rg s cl l (fun _ => 0) (s 0 * s 1).toNat).1.1
    rcases b2 with b2 | ⟨i, i1, i2⟩
    · omega
    · rw [i2]
      rw [hval i i1.1 (by omega)]
      split
      · have hr := gSq_rg s (i % s 0) (i / s 0) l
        exact a2 _ hr.1 (by omega)
      · exact h0
  omega
theorem lk_m {f g : Int → Int} (h1 : f 1 = g 1) (h2 : f 2 = g 2) (h3 : f 3 = g 3) (hr : f 1 ≤ 24) : (gLk f 3).1 = (mLk g 3).1 := by
  have a1 : gLk f 1 = (1, f 1) := by
    show (if f 1 < (25 : Int) then ((0 : Int) + 1, f 1) else _) = _
    rw [if_pos (by omega)]; rfl
  have b1 : mLk g 1 = (1, g 1) := by
    show (if g 1 < (1000 : Int) then (0 : Int) + 1 else _, if g 1 < (1000 : Int) then g 1 else _) = _
    rw [if_pos (by omega), if_pos (by omega)]; rfl
  have a2 : gLk f 2 = if f 2 < f 1 then (2, f 2) else (1, f 1) := by
    show (if f 2 < (gLk f 1).2 then ((1 : Int) + 1, f 2) else gLk f 1) = _
    rw [a1]; rfl
  have b2 : mLk g 2 = if f 2 < f 1 then (2, f 2) else (1, f 1) := by
    show (if g 2 < (mLk g 1).2 then (1 : Int) + 1 else (mLk g 1).1, if g 2 < (mLk g 1).2 then g 2 else (mLk g 1).2) = _
    rw [b1, ← h1, ← h2]
    dsimp only
    split <;> rfl
  show (if f 3 < (gLk f 2).2 then ((2 : Int) + 1, f 3) else gLk f 2).1 = if g 3 < (mLk g 2).2 then (2 : Int) + 1 else (mLk g 2).1
  rw [a2, b2, ← h3]
  split <;> (split <;> rfl)
theorem look_m (hS : mS s) (hf : fcR la sq fc kn) (hq : mSqOk s sr (s 0 * s 1)) : (if ((popN 4 (gBits (gFitN s la sq kn) (s 0 * s 1).toNat).toNat : Nat) : Int) ≤ 1 then -9 else (gLk (gMo s (gBits (gFitN s la sq kn) (s 0 * s 1).toNat)) 3).1) = mLook sr fc kn (s 0 * s 1) := by
  have hc := cells_rg hS.1 hS.2.1
  unfold mLook
  rw [which_0 hS hf hq]
  by_cases h : sI (fun c => bz (mSo sr fc kn c)) (s 0 * s 1) ≤ 1
  · rw [if_pos h, if_neg (by omega)]
  · rw [if_neg h, if_pos (by omega)]
    have hr := (gAl_rg s (gBits (gFitN s la sq kn) (s 0 * s 1).toNat) 1 (fun _ => 0) (s 0 * s 1).toNat).1.2
    exact lk_m (gMo_m hS hf hq (by decide)) (gMo_m hS hf hq (by decide)) (gMo_m hS hf hq (by decide)) (by show (gAl s _ 1 (fun _ => 0) (s 0 * s 1).toNat).2 ≤ 24; omega)
end
