theorem al_no {f : Int → Bool} {c j : Int} (hj : 0 ≤ j ∧ j < c) (h : f j = false) : alI f c = false := by
  cases hq : alI f c with
  | false => rfl
  | true => have := alI_iff.mp hq j hj.1 hj.2; rw [h] at this; cases this
theorem gW_du {K rt du : Int} {ft bt : Bool} (h : gWOk K rt ft bt = true) : (if K = 1 then 1 else if K = 2 then 2 else if K = 3 then 4 else du) = if K = 1 then (1 : Int) else if K = 2 then 2 else 4 := by
  have := of_decide_eq_true h
  by_cases h1 : K = 1
  · rw [if_pos h1, if_pos h1]
  · rw [if_neg h1, if_neg h1]
    by_cases h2 : K = 2
    · rw [if_pos h2, if_pos h2]
    · rw [if_neg h2, if_neg h2, if_pos (by omega)]
