/-! a token held against what is due -/
def gK (tx : Int → Int) (ty fr tt : Int) : Int := if gWd tx ty fr tt 0 = true then 1 else if gWd tx ty fr tt 1 = true then 2 else if gWd tx ty fr tt 2 = true then 3 else 6
def gWOk (K rt : Int) (ft bt : Bool) : Bool := decide ((K = 1 ∧ rt < 6 ∧ ft = false) ∨ (K = 2 ∧ 0 < rt) ∨ (K = 3 ∧ bt = false))
def gRwB (tx : Int → Int) (ty fr tt rt : Int) (d : Int → Int) : Bool := decide (tt - fr ≤ 4 ∧ (rt ≤ 0 ∨ tt - fr = d 0)) && alI (fun j => decide (0 ≤ gAt tx ty (fr + j) - 48 ∧ gAt tx ty (fr + j) - 48 ≤ 3)) (tt - fr)
def gRwP (tx : Int → Int) (ty fr n rt : Int) (d : Int → Int) (x : Int) : Int → Int := cpz (fun j => gAt tx ty (fr + j) - 48) (uz (uz d 0 n) 1 (rt + 1)) 0 (3 + n * rt) x
def gFg (tx : Int → Int) (ty fr tt : Int) : Int := if tt - fr = 1 ∧ gSort (gAt tx ty fr) = 1 then gAt tx ty fr - 48 else -1
theorem gFg_rg {tx : Int → Int} {ty fr tt : Int} : -1 ≤ gFg tx ty fr tt ∧ gFg tx ty fr tt ≤ 9 := by
  unfold gFg
  split
  · rename_i h
    have := gSort_1.mp h.2
    omega
  · omega
def gFxB (tx : Int → Int) (ty fr tt fc : Int) (d : Int → Int) : Bool := decide (0 ≤ fc ∧ fc < d 0 ∧ 0 ≤ gFg tx ty fr tt ∧ gFg tx ty fr tt < d 1)
theorem gRw_mS {tx : Int → Int} {ty fr n rt x : Int} {d : Int → Int} (hS : mS d) (hn : 1 ≤ n ∧ n ≤ 4) (hr : 0 ≤ rt ∧ rt ≤ 5) (hx : 0 ≤ x ∧ x ≤ n) (ha : alI (fun j => decide (0 ≤ gAt tx ty (fr + j) - 48 ∧ gAt tx ty (fr + j) - 48 ≤ 3)) x = true) : mS (gRwP tx ty fr n rt d x) ∧ gRwP tx ty fr n rt d x 0 = n ∧ (0 ≤ n * rt ∧ n * rt + n ≤ 24) := by
  obtain ⟨h0, h1, h2, h3, h4⟩ := hS
  have hm := mul_rg hn hr
  have hm2 : n * rt + n ≤ 24 := by
    rcases (show n = 1 ∨ n = 2 ∨ n = 3 ∨ n = 4 by omega) with rfl | rfl | rfl | rfl <;> omega
  have e0 : gRwP tx ty fr n rt d x 0 = n := by unfold gRwP; rw [cpz_out (by omega), uz_n (by decide), uz_s]
  have e1 : gRwP tx ty fr n rt d x 1 = rt + 1 := by unfold gRwP; rw [cpz_out (by omega), uz_s]
  have e2 : gRwP tx ty fr n rt d x 2 = d 2 := by unfold gRwP; rw [cpz_out (by omega), uz_n (by decide), uz_n (by decide)]
  refine ⟨⟨by rw [e0]; exact hn, by rw [e1]; omega, by rw [e2]; exact h2, fun j a b => ?_, fun j a b => ?_⟩, e0, hm.1, hm2⟩
  · unfold gRwP
    by_cases hj : 3 + n * rt ≤ j ∧ j < 3 + n * rt + x
    · rw [cpz_in hj]
      have := of_decide_eq_true (alI_iff.mp ha (j - (3 + n * rt) + 0) (by omega) (by omega))
      exact this
    · rw [cpz_out hj, uz_n (by omega), uz_n (by omega)]
      exact h3 j a b
  · unfold gRwP
    rw [cpz_out (by omega), uz_n (by omega), uz_n (by omega)]
    exact h4 j a b
theorem gRw_s {tx : Int → Int} {ty fr n rt x : Int} {d : Int → Int} (hx : 0 ≤ x) : uz (gRwP tx ty fr n rt d x) (3 + (n * rt + x)) (gAt tx ty (fr + x) - 48) = gRwP tx ty fr n rt d (x + 1) := cpz_s hx (by omega) (by rw [Int.zero_add])
theorem gRw_0 (tx : Int → Int) (ty fr n rt : Int) (d : Int → Int) : gRwP tx ty fr n rt d 0 = uz (uz d 0 n) 1 (rt + 1) := cpz_0 _ _ _ _
theorem gO_row (g : Nat) (d : Int → Int) (n h : Int) : gO g n h (pk d 3) (pk d 27) (d 2) = gO g (uz (uz d 0 n) 1 h 0) (uz (uz d 0 n) 1 h 1) (pk (uz (uz d 0 n) 1 h) 3) (pk (uz (uz d 0 n) 1 h) 27) (uz (uz d 0 n) 1 h 2) := by
  rw [pk_congr (s := uz (uz d 0 n) 1 h) (t := d) (b := 3) (fun j a b => by rw [uz_n (by omega), uz_n (by omega)]), pk_congr (s := uz (uz d 0 n) 1 h) (t := d) (b := 27) (fun j a b => by rw [uz_n (by omega), uz_n (by omega)]), uz_s, uz_n (show (0 : Int) ≠ 1 by decide), uz_s, uz_n (show (2 : Int) ≠ 1 by decide), uz_n (show (2 : Int) ≠ 0 by decide)]
theorem gO_be (g : Nat) (d : Int → Int) (v : Int) : gO g (d 0) (d 1) (pk d 3) (pk d 27) v = gO g (uz d 2 v 0) (uz d 2 v 1) (pk (uz d 2 v) 3) (pk (uz d 2 v) 27) (uz d 2 v 2) := by
  rw [pk_congr (s := uz d 2 v) (t := d) (b := 3) (fun j a b => by rw [uz_n (by omega)]), pk_congr (s := uz d 2 v) (t := d) (b := 27) (fun j a b => by rw [uz_n (by omega)]), uz_s, uz_n (show (0 : Int) ≠ 2 by decide), uz_n (show (1 : Int) ≠ 2 by decide)]
/-- what a token makes of the reading, by what is due -/
def gS0 (tx : Int → Int) (ty fr tt it rt fc : Int) (ft bt : Bool) (d : Int → Int) (du9 it9 rt9 fc9 : Int) (ft9 bt9 : Bool) (d9 : Int → Int) (ok : Bool) : Prop :=
  ok = gWOk (gK tx ty fr tt) rt ft bt ∧ (ok = true → du9 = (if gK tx ty fr tt = 1 then 1 else if gK tx ty fr tt = 2 then 2 else 4)) ∧ ft9 = (ft || decide (gK tx ty fr tt = 2)) ∧ bt9 = (bt || decide (gK tx ty fr tt = 3)) ∧ it9 = it ∧ rt9 = rt ∧ d9 = d ∧ fc9 = fc
def gS1 (tx : Int → Int) (ty fr tt it rt fc : Int) (ft bt : Bool) (d : Int → Int) (du9 it9 rt9 fc9 : Int) (ft9 bt9 : Bool) (d9 : Int → Int) (ok : Bool) : Prop :=
  ok = gRwB tx ty fr tt rt d ∧ (ok = true → du9 = 5 ∧ rt9 = rt + 1 ∧ d9 = gRwP tx ty fr (tt - fr) rt d (tt - fr)) ∧ ft9 = ft ∧ bt9 = bt ∧ it9 = it ∧ fc9 = fc
def gS2 (tx : Int → Int) (ty fr tt it rt fc : Int) (ft bt : Bool) (d : Int → Int) (du9 it9 rt9 fc9 : Int) (ft9 bt9 : Bool) (d9 : Int → Int) (ok : Bool) : Prop :=
  ok = decide (0 ≤ gFg tx ty fr tt ∧ gFg tx ty fr tt < d 0) ∧ fc9 = gFg tx ty fr tt ∧ du9 = 3 ∧ ft9 = ft ∧ bt9 = bt ∧ it9 = it ∧ rt9 = rt ∧ d9 = d
def gS3 (tx : Int → Int) (ty fr tt it rt fc : Int) (ft bt : Bool) (d : Int → Int) (du9 it9 rt9 fc9 : Int) (ft9 bt9 : Bool) (d9 : Int → Int) (ok : Bool) : Prop :=
  ok = gFxB tx ty fr tt fc d ∧ (ok = true → d9 = uz d (27 + (d 0 * gFg tx ty fr tt + fc)) 1) ∧ du9 = 5 ∧ ft9 = ft ∧ bt9 = bt ∧ it9 = it ∧ rt9 = rt ∧ fc9 = fc
def gS4 (tx : Int → Int) (ty fr tt it rt fc : Int) (ft bt : Bool) (d : Int → Int) (du9 it9 rt9 fc9 : Int) (ft9 bt9 : Bool) (d9 : Int → Int) (ok : Bool) : Prop :=
  ok = decide (0 ≤ gFg tx ty fr tt ∧ gFg tx ty fr tt ≤ 3) ∧ d9 = uz d 2 (gFg tx ty fr tt) ∧ du9 = 5 ∧ ft9 = ft ∧ bt9 = bt ∧ it9 = it ∧ rt9 = rt ∧ fc9 = fc
def gS5 (tx : Int → Int) (ty fr tt it rt fc : Int) (ft bt : Bool) (d : Int → Int) (du9 it9 rt9 fc9 : Int) (ft9 bt9 : Bool) (d9 : Int → Int) (ok : Bool) : Prop :=
  ok = decide (gAt tx ty fr = 59) ∧ du9 = 0 ∧ it9 = it + 1 ∧ ft9 = ft ∧ bt9 = bt ∧ rt9 = rt ∧ d9 = d ∧ fc9 = fc
def gStd (tx : Int → Int) (ty fr tt du it rt fc : Int) (ft bt : Bool) (d : Int → Int) (du9 it9 rt9 fc9 : Int) (ft9 bt9 : Bool) (d9 : Int → Int) (ok : Bool) : Prop :=
  (du = 0 → gS0 tx ty fr tt it rt fc ft bt d du9 it9 rt9 fc9 ft9 bt9 d9 ok) ∧ (du = 1 → gS1 tx ty fr tt it rt fc ft bt d du9 it9 rt9 fc9 ft9 bt9 d9 ok) ∧ (du = 2 → gS2 tx ty fr tt it rt fc ft bt d du9 it9 rt9 fc9 ft9 bt9 d9 ok) ∧ (du = 3 → gS3 tx ty fr tt it rt fc ft bt d du9 it9 rt9 fc9 ft9 bt9 d9 ok) ∧ (du = 4 → gS4 tx ty fr tt it rt fc ft bt d du9 it9 rt9 fc9 ft9 bt9 d9 ok) ∧ (du = 5 → gS5 tx ty fr tt it rt fc ft bt d du9 it9 rt9 fc9 ft9 bt9 d9 ok)
