/-! the flood by bits -/
theorem nI_andn (a b : Nat) : nI a &&& (nI b ^^^ iI (-1)) = nI (a ^^^ (a &&& b)) := by
  apply Int32.toBitVec_inj.mp
  rw [Int32.toBitVec_and, Int32.toBitVec_xor, show (iI (-1)).toBitVec = BitVec.allOnes 32 by decide]
  show BitVec.ofNat 32 a &&& (BitVec.ofNat 32 b ^^^ BitVec.allOnes 32) = BitVec.ofNat 32 (a ^^^ (a &&& b))
  apply BitVec.eq_of_getLsbD_eq
  intro i hi
  simp only [BitVec.getLsbD_and, BitVec.getLsbD_xor, BitVec.getLsbD_ofNat, BitVec.getLsbD_allOnes, Nat.testBit_xor, Nat.testBit_and]
  cases a.testBit i <;> cases b.testBit i <;> simp [hi]
theorem fl_sh {n : Nat} {w : Int} (hn : n < 2 ^ 27) (hw : 0 ≤ w ∧ w ≤ 4) : nI n >>> (iI w &&& 31) = nI (n / 2 ^ w.toNat) ∧ nI n <<< (iI w &&& 31) = nI (n * 2 ^ w.toNat) := by
  rcases (show w = 0 ∨ w = 1 ∨ w = 2 ∨ w = 3 ∨ w = 4 by omega) with rfl | rfl | rfl | rfl | rfl
  · exact ⟨pk_shrN (by omega) _ 0 (by decide), pk_shlN _ 0 (by decide) (by omega)⟩
  · exact ⟨pk_shrN (by omega) _ 1 (by decide), pk_shlN _ 1 (by decide) (by omega)⟩
  · exact ⟨pk_shrN (by omega) _ 2 (by decide), pk_shlN _ 2 (by decide) (by omega)⟩
  · exact ⟨pk_shrN (by omega) _ 3 (by decide), pk_shlN _ 3 (by decide) (by omega)⟩
  · exact ⟨pk_shrN (by omega) _ 4 (by decide), pk_shlN _ 4 (by decide) (by omega)⟩
def flS (w z f l al : Nat) : Nat := z ||| (((z / 2 ^ w ||| z * 2 ^ w) ||| ((z ^^^ (z &&& f)) / 2 ^ 1 ||| (z ^^^ (z &&& l)) * 2 ^ 1)) &&& al)
theorem andn_lt {a b n : Nat} (h : a < 2 ^ n) : a ^^^ (a &&& b) < 2 ^ n := Nat.xor_lt_two_pow h (Nat.lt_of_le_of_lt Nat.and_le_left h)
theorem flS_lt {w z f l al : Nat} (hz : z < 2 ^ 24) (ha : al < 2 ^ 24) : flS w z f l al < 2 ^ 24 := Nat.or_lt_two_pow hz (Nat.lt_of_le_of_lt Nat.and_le_right ha)
theorem flS_eq {z f l al w : Int} (hz : 0 ≤ z ∧ z < 16777216) (hf : 0 ≤ f) (hl : 0 ≤ l) (ha : 0 ≤ al) (hw : 1 ≤ w ∧ w ≤ 4) : iI z ||| (((iI z >>> (iI w &&& 31)) ||| (iI z <<< (iI w &&& 31)) ||| (((iI z &&& (iI f ^^^ iI (-1))) >>> (iI 1 &&& 31)) ||| ((iI z &&& (iI l ^^^ iI (-1))) <<< (iI 1 &&& 31)))) &&& iI al) = iI ((flS w.toNat z.toNat f.toNat l.toNat al.toNat : Nat) : Int) := by
  have h24 : z.toNat < 2 ^ 24 := by omega
  rw [iI_tn hz.1, iI_tn hf, iI_tn hl, iI_tn ha, nI_andn, nI_andn, (fl_sh (by omega) (by omega)).1, (fl_sh (by omega) (by omega)).2, (fl_sh (w := 1) (Nat.lt_trans (andn_lt h24) (by decide)) (by decide)).1, (fl_sh (w := 1) (Nat.lt_trans (andn_lt h24) (by decide)) (by decide)).2, nI_or, nI_or, nI_or, nI_and, nI_or, iI_nI]
  rfl
theorem flS_bit (w z f l al k : Nat) : (flS w z f l al).testBit k = (z.testBit k || (((z.testBit (k + w) || (decide (w ≤ k) && z.testBit (k - w))) || ((z.testBit (k + 1) && !f.testBit (k + 1)) || (decide (1 ≤ k) && (z.testBit (k - 1) && !l.testBit (k - 1))))) && al.testBit k)) := by
  unfold flS
  simp only [Nat.testBit_or, Nat.testBit_and, Nat.testBit_div_two_pow, Nat.testBit_mul_two_pow, Nat.testBit_xor]
  have h : ∀ a b : Bool, (a ^^ (a && b)) = (a && !b) := by decide
  rw [h, h]
def flZ (w z f l al : Int) : Int := ((flS w.toNat z.toNat f.toNat l.toNat al.toNat : Nat) : Int)
theorem flZ_rg {w z f l al : Int} (hz : 0 ≤ z ∧ z < 16777216) (ha : 0 ≤ al ∧ al < 16777216) : 0 ≤ flZ w z f l al ∧ flZ w z f l al < 16777216 := by
  have := flS_lt (w := w.toNat) (z := z.toNat) (f := f.toNat) (l := l.toNat) (al := al.toNat) (by omega) (by omega)
  unfold flZ
  omega
theorem flZ_bit {w z f l al k : Int} (hw : 1 ≤ w) (hz : 0 ≤ z) (hf : 0 ≤ f) (hl : 0 ≤ l) (ha : 0 ≤ al) (hk : 0 ≤ k) : mBit (flZ w z f l al) k = (mBit z k || (((mBit z (k + w) || (decide (w ≤ k) && mBit z (k - w))) || ((mBit z (k + 1) && !mBit f (k + 1)) || (decide (1 ≤ k) && (mBit z (k - 1) && !mBit l (k - 1))))) && mBit al k)) := by
  have e := flS_bit w.toNat z.toNat f.toNat l.toNat al.toNat k.toNat
  rw [mBit_tb (show 0 ≤ flZ w z f l al by unfold flZ; omega), mBit_tb hz, mBit_tb hz, mBit_tb hz, mBit_tb hz, mBit_tb hz, mBit_tb hf, mBit_tb hl, mBit_tb ha]
  show (flS w.toNat z.toNat f.toNat l.toNat al.toNat).testBit k.toNat = _
  rw [e, show (k + w).toNat = k.toNat + w.toNat by omega, show (k - w).toNat = k.toNat - w.toNat by omega, show (k + 1).toNat = k.toNat + 1 by omega, show (k - 1).toNat = k.toNat - 1 by omega, show decide (w.toNat ≤ k.toNat) = decide (w ≤ k) by (congr 1; apply propext; omega), show decide (1 ≤ k.toNat) = decide (1 ≤ k) by (congr 1; apply propext; omega)]
theorem sq1 {a b : Int} : a * a + b * b = 1 ↔ (a = 0 ∧ (b = 1 ∨ b = -1)) ∨ (b = 0 ∧ (a = 1 ∨ a = -1)) := by
  constructor
  · intro h
    have q : ∀ c d : Int, c * c + d * d = 1 → -1 ≤ c ∧ c ≤ 1 := by
      intro c d hh
      have hd : 0 ≤ d * d := by
        rcases Int.le_total 0 d with h1 | h1
        · exact Int.mul_nonneg h1 h1
        · exact Int.mul_nonneg_of_nonpos_of_nonpos h1 h1
      constructor
      · refine Classical.byContradiction (fun hc => ?_)
        have h2 : (2 : Int) * 2 ≤ (-c) * (-c) := Int.mul_le_mul (by omega) (by omega) (by decide) (by omega)
        rw [Int.neg_mul_neg] at h2
        omega
      · refine Classical.byContradiction (fun hc => ?_)
        have h2 : (2 : Int) * 2 ≤ c * c := Int.mul_le_mul (by omega) (by omega) (by decide) (by omega)
        omega
    have h1 := q a b h
    have h2 := q b a (by omega)
    rcases (show a = -1 ∨ a = 0 ∨ a = 1 by omega) with rfl | rfl | rfl <;> rcases (show b = -1 ∨ b = 0 ∨ b = 1 by omega) with rfl | rfl | rfl <;> simp_all
  · rintro (⟨rfl, rfl | rfl⟩ | ⟨rfl, rfl | rfl⟩) <;> rfl
theorem mAdj_iff {w h i j : Int} (hw : 1 ≤ w ∧ w ≤ 4) (hi : 0 ≤ i ∧ i < w * h) (hj : 0 ≤ j ∧ j < w * h) : mAdj w j i ↔ i = j + w ∨ i = j - w ∨ (i = j + 1 ∧ i % w ≠ 0) ∨ (i = j - 1 ∧ i % w ≠ w - 1) := by
  unfold mAdj
  rw [sq1]
  rcases (show w = 1 ∨ w = 2 ∨ w = 3 ∨ w = 4 by omega) with rfl | rfl | rfl | rfl <;> omega
def flCnt (z : Int) : Int := sI (fun c => bz (mBit z c)) 24
def flCl (s : Int → Int) (a z : Int) : Prop := ∀ i j, 0 ≤ i → mBit z i = true → 0 ≤ j → j < s 0 * s 1 → mAdj (s 0) j i → s (3 + j) = s (3 + a) → mBit z j = true
def flI (s : Int → Int) (a z t : Int) : Prop := (0 ≤ z ∧ z < 16777216) ∧ mBit z a = true ∧ (∀ j, 0 ≤ j → mBit z j = true → j < s 0 * s 1 ∧ mRch s a j) ∧ (flCl s a z ∨ t ≤ flCnt z)
theorem sI_le {f g : Int → Int} {c : Int} (h : ∀ j : Int, 0 ≤ j → j < c → f j ≤ g j) : sI f c ≤ sI g c := by
  unfold sI
  have : ∀ n : Nat, (∀ j : Int, 0 ≤ j → j < n → f j ≤ g j) → smN f n ≤ smN g n := by
    intro n
    induction n with
    | zero => intro _; exact Int.le_refl 0
    | succ n ih =>
      intro hh
      show smN f n + f n ≤ smN g n + g n
      have h1 := ih (fun j a b => hh j a (by omega))
      have h2 := hh n (by omega) (by omega)
      omega
  exact this _ (fun j a b => h j a (by omega))
theorem sI_lt1 {f g : Int → Int} {c k : Int} (hk : 0 ≤ k ∧ k < c) (h : ∀ j : Int, 0 ≤ j → j < c → f j ≤ g j) (hlt : f k + 1 ≤ g k) : sI f c + 1 ≤ sI g c := by
  have h1 : sI (uz f k (f k + 1)) c = sI f c + (f k + 1 - f k) := sI_uz hk
  have h2 : sI (uz f k (f k + 1)) c ≤ sI g c := sI_le (fun j a b => by
    by_cases e : j = k
    · rw [e, uz_s]; exact hlt
    · rw [uz_n e]; exact h j a b)
  omega
theorem mBit_ext {x y : Int} (hx : 0 ≤ x) (hy : 0 ≤ y) (h : ∀ k, 0 ≤ k → mBit x k = mBit y k) : x = y := by
  have : x.toNat = y.toNat := by
    apply Nat.eq_of_testBit_eq
    intro i
    have := h i (by omega)
    rw [mBit_tb hx, mBit_tb hy, Int.toNat_natCast] at this
    exact this
  omega
theorem mBit_p2 {a k : Int} (ha : 0 ≤ a) (hk : 0 ≤ k) : mBit ((2 : Int) ^ a.toNat) k = decide (k = a) := by
  have e : ((2 : Int) ^ a.toNat) = ((2 ^ a.toNat : Nat) : Int) := by rw [Int.natCast_pow]; rfl
  rw [e, mBit_tb (Int.natCast_nonneg _), Int.toNat_natCast, Nat.testBit_two_pow]
  congr 1
  apply propext
  omega
theorem bz_le {a b : Bool} (h : a = true → b = true) : bz a ≤ bz b := by cases a <;> cases b <;> simp_all [bz]
theorem flI_0 {s : Int → Int} {a : Int} (ha : 0 ≤ a ∧ a < s 0 * s 1) (h24 : s 0 * s 1 ≤ 24) : flI s a ((2 : Int) ^ a.toNat) 1 := by
  have hr : (0 : Int) ≤ (2 : Int) ^ a.toNat ∧ (2 : Int) ^ a.toNat < 16777216 := by
    have h1 : 2 ^ a.toNat < 2 ^ 24 := Nat.pow_lt_pow_right (by decide) (by omega)
    have e : ((2 : Int) ^ a.toNat) = ((2 ^ a.toNat : Nat) : Int) := by rw [Int.natCast_pow]; rfl
    rw [e]
    generalize 2 ^ a.toNat = m at h1
    omega
  have hb : mBit ((2 : Int) ^ a.toNat) a = true := by rw [mBit_p2 ha.1 ha.1]; exact decide_eq_true rfl
  refine ⟨hr, hb, fun j h1 h2 => ?_, Or.inr ?_⟩
  · rw [mBit_p2 ha.1 h1] at h2
    have := of_decide_eq_true h2
    subst this
    exact ⟨ha.2, mRch_0 s j⟩
  · have h1 := sI_lt1 (f := fun _ => 0) (g := fun c => bz (mBit ((2 : Int) ^ a.toNat) c)) (c := 24) (k := a) (by omega) (fun j _ _ => (bz_rg _).1) (by show (0 : Int) + 1 ≤ bz (mBit ((2 : Int) ^ a.toNat) a); rw [hb]; decide)
    have h2 := sI_le (f := fun _ => 0) (g := fun _ => 0) (c := 24) (fun _ _ _ => Int.le_refl 0)
    have h3 : sI (fun _ => (0 : Int)) 24 = 0 := by decide
    unfold flCnt
    omega
theorem flI_s {s : Int → Int} (h0 : 1 ≤ s 0 ∧ s 0 ≤ 4) (h24 : s 0 * s 1 ≤ 24) {a z f l al t : Int} (ha : 0 ≤ a) (hf0 : 0 ≤ f) (hl0 : 0 ≤ l) (ha0 : 0 ≤ al ∧ al < 16777216)
    (hA : ∀ k, 0 ≤ k → mBit al k = (decide (k < s 0 * s 1) && decide (s (3 + k) = s (3 + a))))
    (hF : ∀ k, 0 ≤ k → k < s 0 * s 1 → mBit f k = decide (k % s 0 = 0)) (hL : ∀ k, 0 ≤ k → k < s 0 * s 1 → mBit l k = decide (k % s 0 = s 0 - 1))
    (h : flI s a z t) : flI s a (flZ (s 0) z f l al) (t + 1) := by
  obtain ⟨hz, hb, hso, hcl⟩ := h
  have hr := flZ_rg (w := s 0) (f := f) (l := l) hz ha0
  have hbit := fun (k : Int) (hk : 0 ≤ k) => flZ_bit (w := s 0) (k := k) (by omega) hz.1 hf0 hl0 ha0.1 hk
  have hup : ∀ k, 0 ≤ k → mBit z k = true → mBit (flZ (s 0) z f l al) k = true := by
    intro k hk q
    rw [hbit k hk, q, Bool.true_or]
  have hnew : ∀ i j, 0 ≤ i → mBit z i = true → 0 ≤ j → j < s 0 * s 1 → mAdj (s 0) j i → s (3 + j) = s (3 + a) → mBit (flZ (s 0) z f l al) j = true := by
    intro i j hi hzi hj hjn hadj he
    have hin := (hso i hi hzi).1
    rw [hbit j hj, hA j hj, decide_eq_true hjn, decide_eq_true he]
    rcases (mAdj_iff h0 ⟨hi, hin⟩ ⟨hj, hjn⟩).mp hadj with e | e | ⟨e, e2⟩ | ⟨e, e2⟩
    · rw [← e, hzi]; simp
    · rw [← e, hzi, decide_eq_true (show s 0 ≤ j by omega)]; simp
    · rw [← e, hzi, hF i hi hin, decide_eq_false e2]; simp
    · rw [← e, hzi, hL i hi hin, decide_eq_false e2, decide_eq_true (show 1 ≤ j by omega)]; simp
  have hold : ∀ k, 0 ≤ k → mBit (flZ (s 0) z f l al) k = true → mBit z k = true ∨ (k < s 0 * s 1 ∧ s (3 + k) = s (3 + a) ∧ ∃ i, 0 ≤ i ∧ mBit z i = true ∧ mAdj (s 0) k i) := by
    intro k hk q
    rw [hbit k hk, hA k hk] at q
    cases hzk : mBit z k with
    | true => exact Or.inl rfl
    | false =>
      right
      rw [hzk, Bool.false_or] at q
      simp only [Bool.and_eq_true, Bool.or_eq_true, decide_eq_true_eq, Bool.not_eq_true'] at q
      obtain ⟨q1, q2, q3⟩ := q
      refine ⟨q2, q3, ?_⟩
      rcases q1 with (q1 | q1) | (q1 | q1)
      · have := (hso (k + s 0) (by omega) q1).1
        exact ⟨k + s 0, by omega, q1, (mAdj_iff h0 ⟨by omega, this⟩ ⟨hk, q2⟩).mpr (Or.inl rfl)⟩
      · have := (hso (k - s 0) (by omega) q1.2).1
        exact ⟨k - s 0, by omega, q1.2, (mAdj_iff h0 ⟨by omega, this⟩ ⟨hk, q2⟩).mpr (Or.inr (Or.inl rfl))⟩
      · have := (hso (k + 1) (by omega) q1.1).1
        have q4 := q1.2
        rw [hF (k + 1) (by omega) this] at q4
        exact ⟨k + 1, by omega, q1.1, (mAdj_iff h0 ⟨by omega, this⟩ ⟨hk, q2⟩).mpr (Or.inr (Or.inr (Or.inl ⟨rfl, of_decide_eq_false q4⟩)))⟩
      · have := (hso (k - 1) (by omega) q1.2.1).1
        have q4 := q1.2.2
        rw [hL (k - 1) (by omega) this] at q4
        exact ⟨k - 1, by omega, q1.2.1, (mAdj_iff h0 ⟨by omega, this⟩ ⟨hk, q2⟩).mpr (Or.inr (Or.inr (Or.inr ⟨rfl, of_decide_eq_false q4⟩)))⟩
  refine ⟨hr, hup a ha hb, fun j hj q => ?_, ?_⟩
  · rcases hold j hj q with h1 | ⟨h1, h2, i, i1, i2, i3⟩
    · exact hso j hj h1
    · exact ⟨h1, mRch_s (hso i i1 i2).2 ⟨hj, h1⟩ i3 h2⟩
  · by_cases hc : flCl s a z
    · left
      have e : flZ (s 0) z f l al = z := by
        refine mBit_ext hr.1 hz.1 (fun k hk => ?_)
        cases hzk : mBit z k with
        | true => exact hup k hk hzk
        | false =>
          cases hq : mBit (flZ (s 0) z f l al) k with
          | false => rfl
          | true =>
            exfalso
            rcases hold k hk hq with h1 | ⟨h1, h2, i, i1, i2, i3⟩
            · rw [hzk] at h1; cases h1
            · have := hc i k i1 i2 hk h1 i3 h2
              rw [hzk] at this; cases this
      rw [e]
      exact hc
    · right
      have ht := hcl.resolve_left hc
      have hx : ∃ j, (0 ≤ j ∧ j < s 0 * s 1) ∧ mBit z j = false ∧ mBit (flZ (s 0) z f l al) j = true := by
        refine Classical.byContradiction (fun hn => hc ?_)
        intro i j i1 i2 i3 i4 i5 i6
        cases hq : mBit z j with
        | true => rfl
        | false => exact absurd ⟨j, ⟨i3, i4⟩, hq, hnew i j i1 i2 i3 i4 i5 i6⟩ hn
      obtain ⟨j, hj, j1, j2⟩ := hx
      have := sI_lt1 (f := fun c => bz (mBit z c)) (g := fun c => bz (mBit (flZ (s 0) z f l al) c)) (c := 24) (k := j) (by omega) (fun k a b => bz_le (hup k a)) (by show bz (mBit z j) + 1 ≤ bz (mBit (flZ (s 0) z f l al) j); rw [j1, j2]; decide)
      unfold flCnt at *
      omega
theorem flI_end {s : Int → Int} {a z : Int} (h24 : s 0 * s 1 ≤ 24) (ha : 0 ≤ a ∧ a < s 0 * s 1) (h : flI s a z 24) : ∀ c, 0 ≤ c → c < s 0 * s 1 → bz (mBit z c) = mRe s a c := by
  obtain ⟨hz, hb, hso, hcl⟩ := h
  have hc : flCl s a z := by
    rcases hcl with h1 | h1
    · exact h1
    · intro i j _ _ j1 j2 _ _
      cases hq : mBit z j with
      | true => rfl
      | false =>
        exfalso
        have := sI_lt1 (f := fun c => bz (mBit z c)) (g := fun _ => 1) (c := 24) (k := j) (by omega) (fun k _ _ => (bz_rg _).2) (by show bz (mBit z j) + 1 ≤ 1; rw [hq]; decide)
        have h3 : sI (fun _ => (1 : Int)) 24 = 24 := by decide
        unfold flCnt at h1
        omega
  intro c c1 c2
  cases hq : mBit z c with
  | true => rw [mRe_t (hso c c1 hq).2]; rfl
  | false =>
    rw [mRe_f]
    · rfl
    · intro hr
      have := hr (fun i => 0 ≤ i ∧ mBit z i = true) ⟨ha.1, hb⟩ (fun i j hi j1 j2 j3 j4 => ⟨j1, hc i j hi.1 hi.2 j1 j2 j3 j4⟩)
      rw [hq] at this
      cases this.2
theorem gBits_skip {p : Int → Bool} {m : Nat} : ∀ d : Nat, (∀ j : Int, (m : Int) ≤ j → j < m + d → p j = false) → gBits p (m + d) = gBits p m := by
  intro d
  induction d with
  | zero => intro _; rfl
  | succ d ih =>
    intro h
    show gBits p (m + d) + (if p ((m + d : Nat) : Int) = true then (2 : Int) ^ (m + d) else 0) = _
    rw [ih (fun j a b => h j a (by omega)), h ((m + d : Nat) : Int) (by omega) (by omega), if_neg (by decide), Int.add_zero]
def flF (w k : Int) : Bool := decide (k % w = 0)
theorem flF_s {w y : Int} (hw : 1 ≤ w ∧ w ≤ 4) (hy : 0 ≤ y) : gBits (flF w) (w * (y + 1)).toNat = gBits (flF w) (w * y).toNat + (2 : Int) ^ (w * y).toNat := by
  have hp : 0 ≤ w * y := Int.mul_nonneg (by omega) hy
  have hx : w * (y + 1) = w * y + w := by rw [Int.mul_add, Int.mul_one]
  have e : (w * (y + 1)).toNat = ((w * y).toNat + 1) + (w - 1).toNat := by omega
  rw [e, gBits_skip]
  · show gBits (flF w) (w * y).toNat + (if flF w ((w * y).toNat : Int) = true then (2 : Int) ^ (w * y).toNat else 0) = _
    rw [if_pos]
    unfold flF
    rw [Int.toNat_of_nonneg hp]
    exact decide_eq_true (Int.mul_emod_right w y)
  · intro j h1 h2
    unfold flF
    apply decide_eq_false
    intro q
    have : ∃ x, j = w * y + x ∧ 1 ≤ x ∧ x < w := ⟨j - w * y, by omega, by omega, by omega⟩
    obtain ⟨x, rfl, x1, x2⟩ := this
    rw [(dm_eq hw ⟨by omega, x2⟩).1] at q
    omega
theorem flF_bit {w h k : Int} (hk : 0 ≤ k ∧ k < w * h) : mBit (gBits (flF w) (w * h).toNat) k = decide (k % w = 0) := by
  rw [mBit_gBits _ _ hk.1, decide_eq_true (show k < ((w * h).toNat : Int) by omega)]
  rfl
theorem flL_eq {w f : Int} (hw : 1 ≤ w ∧ w ≤ 4) (hf : 0 ≤ f ∧ f < 16777216) : iI f <<< (iI (w - 1) &&& 31) = iI (f * (2 : Int) ^ (w - 1).toNat) ∧ 0 ≤ f * (2 : Int) ^ (w - 1).toNat := by
  have e : f * (2 : Int) ^ (w - 1).toNat = ((f.toNat * 2 ^ (w - 1).toNat : Nat) : Int) := by
    rw [Int.natCast_mul, Int.natCast_pow, Int.toNat_of_nonneg hf.1]; rfl
  refine ⟨?_, by rw [e]; exact Int.natCast_nonneg _⟩
  rw [e, iI_tn hf.1, (fl_sh (by omega) (by omega)).2, iI_nI]
theorem flL_bit {w h k : Int} (hw : 1 ≤ w ∧ w ≤ 4) (hk : 0 ≤ k ∧ k < w * h) : mBit (gBits (flF w) (w * h).toNat * (2 : Int) ^ (w - 1).toNat) k = decide (k % w = w - 1) := by
  have hg := (gBits_rg (flF w) (w * h).toNat).1
  have e : gBits (flF w) (w * h).toNat * (2 : Int) ^ (w - 1).toNat = (((gBits (flF w) (w * h).toNat).toNat * 2 ^ (w - 1).toNat : Nat) : Int) := by
    rw [Int.natCast_mul, Int.natCast_pow, Int.toNat_of_nonneg hg]; rfl
  rw [e, mBit_tb (Int.natCast_nonneg _), Int.toNat_natCast, Nat.testBit_mul_two_pow, gb_bit]
  unfold flF
  by_cases h1 : w - 1 ≤ k
  · rw [decide_eq_true (show (w - 1).toNat ≤ k.toNat by omega), decide_eq_true (show k.toNat - (w - 1).toNat < (w * h).toNat by omega), Bool.true_and, Bool.true_and, show ((k.toNat - (w - 1).toNat : Nat) : Int) = k - (w - 1) by omega]
    congr 1
    apply propext
    rcases (show w = 1 ∨ w = 2 ∨ w = 3 ∨ w = 4 by omega) with rfl | rfl | rfl | rfl <;> omega
  · rw [decide_eq_false (show ¬ (w - 1).toNat ≤ k.toNat by omega), Bool.false_and]
    rw [decide_eq_false]
    rw [Int.emod_eq_of_lt hk.1 (by omega)]
    omega
/-! how many bits -/
theorem smN_add (f : Int → Int) (m : Nat) : ∀ n : Nat, smN f (m + n) = smN f m + smN (fun j => f (j + m)) n := by
  intro n
  induction n with
  | zero => exact (Int.add_zero _).symm
  | succ n ih =>
    show smN f (m + n) + f ((m + n : Nat) : Int) = smN f m + (smN (fun j => f (j + m)) n + f ((n : Int) + m))
    rw [ih, show ((m + n : Nat) : Int) = (n : Int) + m by omega]
    omega
theorem pop8_dec : ∀ a : Nat, a < 256 → ((pop8 a : Nat) : Int) = smN (fun c => bz (mBit (a : Int) c)) 8 := by decide +kernel
theorem mBit_lo {n : Nat} {c : Int} (hc : 0 ≤ c ∧ c < 8) : mBit ((n % 256 : Nat) : Int) c = mBit (n : Int) c := by
  rw [mBit_tb (by omega), mBit_tb (by omega), Int.toNat_natCast, Int.toNat_natCast, show (256 : Nat) = 2 ^ 8 by decide, Nat.testBit_mod_two_pow, decide_eq_true (show c.toNat < 8 by omega), Bool.true_and]
theorem mBit_hi8 {n : Nat} {c : Int} (hc : 0 ≤ c) : mBit ((n / 256 : Nat) : Int) c = mBit (n : Int) (c + 8) := by
  rw [mBit_tb (by omega), mBit_tb (by omega), Int.toNat_natCast, Int.toNat_natCast, show (256 : Nat) = 2 ^ 8 by decide, Nat.testBit_div_two_pow, show (c + 8).toNat = c.toNat + 8 by omega]
theorem popN_smN : ∀ k n : Nat, ((popN k n : Nat) : Int) = smN (fun c => bz (mBit (n : Int) c)) (8 * k) := by
  intro k
  induction k with
  | zero => intro n; rfl
  | succ k ih =>
    intro n
    show ((pop8 (n % 256) + popN k (n / 256) : Nat) : Int) = _
    rw [show 8 * (k + 1) = 8 + 8 * k by omega, smN_add, Int.natCast_add, ih, pop8_dec _ (Nat.mod_lt _ (by decide))]
    congr 1
    · exact smN_congr 8 (fun j a b => by show bz (mBit ((n % 256 : Nat) : Int) j) = bz (mBit (n : Int) j); rw [mBit_lo ⟨a, by omega⟩])
    · exact smN_congr _ (fun j a b => by show bz (mBit ((n / 256 : Nat) : Int) j) = bz (mBit (n : Int) (j + ((8 : Nat) : Int))); rw [mBit_hi8 a]; rfl)
theorem popN_sI {z m : Int} (hz : 0 ≤ z) (hm : 0 ≤ m ∧ m ≤ 32) (h : ∀ j, m ≤ j → j < 32 → mBit z j = false) : ((popN 4 z.toNat : Nat) : Int) = sI (fun c => bz (mBit z c)) m := by
  rw [popN_smN, Int.toNat_of_nonneg hz]
  exact sI_skip (f := fun c => bz (mBit z c)) (n := 32) hm.1 hm.2 (fun j a b => by show bz (mBit z j) = 0; rw [h j a b]; rfl)
theorem popN_gB (p : Int → Bool) {n : Int} (hn : 0 ≤ n ∧ n ≤ 24) : ((popN 4 (gBits p n.toNat).toNat : Nat) : Int) = sI (fun c => bz (p c)) n := by
  rw [popN_sI (m := n) (gBits_rg p n.toNat).1 (by omega) (fun j a b => by rw [mBit_gBits _ _ (by omega), decide_eq_false (by omega)]; rfl)]
  exact sI_congr (fun j a b => by show bz (mBit (gBits p n.toNat) j) = bz (p j); rw [mBit_gBits _ _ a, decide_eq_true (by omega), Bool.true_and])
/-- what the flood gives: the cells reached, a bit each -/
def flG (s : Int → Int) (a z : Int) : Prop := (0 ≤ z ∧ z < 16777216) ∧ (∀ c, 0 ≤ c → c < s 0 * s 1 → bz (mBit z c) = mRe s a c) ∧ ((popN 4 z.toNat : Nat) : Int) = mFldN s a
theorem flG_of {s : Int → Int} {a z : Int} (h24 : s 0 * s 1 ≤ 24) (ha : 0 ≤ a ∧ a < s 0 * s 1) (h : flI s a z 24) : flG s a z := by
  have he := flI_end h24 ha h
  refine ⟨h.1, he, ?_⟩
  rw [popN_sI (m := s 0 * s 1) h.1.1 (by omega) (fun j a1 b1 => by
    cases hq : mBit z j with
    | false => rfl
    | true => have := (h.2.2.1 j (by omega) hq).1; omega)]
  exact sI_congr he
theorem shl24_dec : ∀ c : Nat, c < 24 → iI 1 <<< (iI (c : Int) &&& 31) = iI ((2 : Int) ^ c) := by decide +kernel
theorem shl24 {c : Int} (h : 0 ≤ c ∧ c < 24) : iI 1 <<< (iI c &&& 31) = iI ((2 : Int) ^ c.toNat) := by
  have := shl24_dec c.toNat (by omega)
  rwa [Int.toNat_of_nonneg h.1] at this
theorem mWetS_no {s wt : Int → Int} {h c : Int} (hw : ¬ wt c = 1) : mWetS s wt h c = mWetS s wt h (c + 1) := by
  funext j
  unfold mWetS
  by_cases h1 : 3 ≤ j ∧ j < 3 + c ∧ wt (j - 3) = 1
  · rw [if_pos h1, if_pos ⟨h1.1, by omega, h1.2.2⟩]
  · rw [if_neg h1, if_neg]
    intro q
    by_cases e : j = 3 + c
    · rw [e, show 3 + c - 3 = c by omega] at q
      exact hw q.2.2
    · exact h1 ⟨q.1, by omega, q.2.2⟩
theorem mS_wet {s wt : Int → Int} {h c : Int} (hS : mS s) (hh : 0 ≤ h ∧ h ≤ 3) (hc : c ≤ 24) : mS (mWetS s wt h c) := by
  obtain ⟨h0, h1, h2, h3, h4⟩ := hS
  unfold mS
  rw [mWetS_lo (by decide), mWetS_lo (by decide), mWetS_lo (by decide)]
  refine ⟨h0, h1, h2, fun j a b => ?_, fun j a b => ?_⟩
  · unfold mWetS
    split
    · exact hh
    · exact h3 j a b
  · unfold mWetS
    rw [if_neg (by omega)]
    exact h4 j a b
theorem wt_bit {z c : Int} : (bz (mBit z c) = 1 ↔ z / (2 : Int) ^ c.toNat % 2 = 1) := by
  unfold mBit
  by_cases h : z / (2 : Int) ^ c.toNat % 2 = 1
  · rw [decide_eq_true h]; exact ⟨fun _ => h, fun _ => rfl⟩
  · rw [decide_eq_false h]; exact ⟨fun q => absurd q (by decide), fun q => absurd q h⟩
