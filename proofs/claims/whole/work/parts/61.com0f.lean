theorem pop4 : ∀ a : Nat, a < 2 → ∀ b : Nat, b < 2 → ∀ c : Nat, c < 2 → ∀ d : Nat, d < 2 → pop8 (((a * 4 + b) * 4 + c) * 4 + d) = a + b + c + d := by decide +kernel
theorem pop_pk4 {s : Int → Int} {b : Int} (h : ∀ j, b ≤ j → j < b + 24 → 0 ≤ s j ∧ s j ≤ 1) (k m : Nat) (hm : m + 4 ≤ 24) : ((popN (k + 1) (pkL s b (m + 4)) : Nat) : Int) = ((popN k (pkL s b m) : Nat) : Int) + (s (b + m) + s (b + m + 1) + s (b + m + 2) + s (b + m + 3)) := by
  have h0 := h (b + m) (by omega) (by omega)
  have h1 := h (b + m + 1) (by omega) (by omega)
  have h2 := h (b + m + 2) (by omega) (by omega)
  have h3 := h (b + m + 3) (by omega) (by omega)
  have e : pkL s b (m + 4) = pkL s b m * 256 + (((((s (b + m)).toNat * 4 + (s (b + m + 1)).toNat) * 4 + (s (b + m + 2)).toNat) * 4) + (s (b + m + 3)).toNat) := by
    show (((pkL s b m * 4 + (s (b + (m : Int))).toNat) * 4 + (s (b + ((m + 1 : Nat) : Int))).toNat) * 4 + (s (b + ((m + 2 : Nat) : Int))).toNat) * 4 + (s (b + ((m + 3 : Nat) : Int))).toNat = _
    rw [show b + ((m + 1 : Nat) : Int) = b + m + 1 by omega, show b + ((m + 2 : Nat) : Int) = b + m + 2 by omega, show b + ((m + 3 : Nat) : Int) = b + m + 3 by omega]
    omega
  have p := pop4 (s (b + m)).toNat (by omega) (s (b + m + 1)).toNat (by omega) (s (b + m + 2)).toNat (by omega) (s (b + m + 3)).toNat (by omega)
  show ((pop8 (pkL s b (m + 4) % 256) + popN k (pkL s b (m + 4) / 256) : Nat) : Int) = _
  rw [e, show (pkL s b m * 256 + (((((s (b + m)).toNat * 4 + (s (b + m + 1)).toNat) * 4 + (s (b + m + 2)).toNat) * 4) + (s (b + m + 3)).toNat)) % 256 = (((s (b + m)).toNat * 4 + (s (b + m + 1)).toNat) * 4 + (s (b + m + 2)).toNat) * 4 + (s (b + m + 3)).toNat by omega, show (pkL s b m * 256 + (((((s (b + m)).toNat * 4 + (s (b + m + 1)).toNat) * 4 + (s (b + m + 2)).toNat) * 4) + (s (b + m + 3)).toNat)) / 256 = pkL s b m by omega, p]
  omega
theorem pop_pk {s : Int → Int} {b : Int} (h : ∀ j, b ≤ j → j < b + 24 → 0 ≤ s j ∧ s j ≤ 1) : ((popN 8 (pkL s b 24) : Nat) : Int) = sI (fun c => s (b + c)) 24 := by
  have e := pop_pk4 h 7 20 (by decide)
  rw [pop_pk4 h 6 16 (by decide), pop_pk4 h 5 12 (by decide), pop_pk4 h 4 8 (by decide), pop_pk4 h 3 4 (by decide), pop_pk4 h 2 0 (by decide)] at e
  rw [e]
  have z : popN 2 (pkL s b 0) = 0 := by show popN 2 0 = 0; decide
  rw [z]
  have key : ∀ m : Nat, smN (fun c => s (b + c)) (m + 4) = smN (fun c => s (b + c)) m + (s (b + m) + s (b + m + 1) + s (b + m + 2) + s (b + m + 3)) := by
    intro m
    show smN (fun c => s (b + c)) m + s (b + (m : Int)) + s (b + ((m + 1 : Nat) : Int)) + s (b + ((m + 2 : Nat) : Int)) + s (b + ((m + 3 : Nat) : Int)) = _
    rw [show b + ((m + 1 : Nat) : Int) = b + m + 1 by omega, show b + ((m + 2 : Nat) : Int) = b + m + 2 by omega, show b + ((m + 3 : Nat) : Int) = b + m + 3 by omega]
    omega
  show _ = smN (fun c => s (b + c)) 24
  rw [key 20, key 16, key 12, key 8, key 4, key 0]
  rfl
def gFix (s : Int → Int) : Int := sI (fun c => s (27 + c)) 24
