def gKp (kp i : Int) : Int := if kp / (2 : Int) ^ i.toNat % 2 = 1 then kp else kp + (2 : Int) ^ i.toNat
theorem gKp_dec : ∀ kp : Nat, kp < 4 → ∀ i : Nat, i < 2 → iI (kp : Int) ||| (iI 1 <<< (iI (i : Int) &&& 31)) = iI (gKp (kp : Int) (i : Int)) := by decide +kernel
theorem gKp_eq {kp : Int} (h : 0 ≤ kp ∧ kp < 4) (i : Nat) (hi : i < 2) : iI kp ||| (iI 1 <<< (iI (i : Int) &&& 31)) = iI (gKp kp (i : Int)) := by
  have := gKp_dec kp.toNat (by omega) i hi
  rwa [Int.toNat_of_nonneg h.1] at this
