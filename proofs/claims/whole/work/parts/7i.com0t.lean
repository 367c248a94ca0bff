/-! the words -/
def gWx (tx : Int → Int) (ty fr : Int) (wi : Nat) (j : Int) : Bool := decide (gAt tx ty (fr + j) = wdC wi j)
def gWd (tx : Int → Int) (ty fr tt : Int) (wi : Nat) : Bool := decide (tt - fr = wdN wi) && alI (gWx tx ty fr wi) (wdN wi)
theorem gWx_no {tx : Int → Int} {ty fr i : Int} {wi : Nat} (hi : 0 ≤ i ∧ i < wdN wi) (h : ¬ gAt tx ty (fr + i) = wdC wi i) : alI (gWx tx ty fr wi) (wdN wi) = false := by
  cases hq : alI (gWx tx ty fr wi) (wdN wi) with
  | false => rfl
  | true => exact absurd (of_decide_eq_true (alI_iff.mp hq i hi.1 hi.2)) h
