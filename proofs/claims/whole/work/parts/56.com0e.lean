/-! the text as the class holds it; its object -/
abbrev tO (a ql qf : Nat) (ty fr tt du it rt fc ft bt : Int) : Nat × va_E := (a, .inr (7, [.ref ql, .ref qf, .int (iI ty), .int (iI fr), .int (iI tt), .int (iI du), .int (iI it), .int (iI rt), .int (iI fc), .int (iI ft), .int (iI bt)]))
abbrev xO (a rg rd rt rp ri rk rl re : Nat) : Nat × va_E := (a, .inr (8, [.ref rg, .ref rd, .ref rt, .ref rp, .ref ri, .ref rk, .ref rl, .ref re]))
theorem chr_dec : ∀ n : Nat, n < 256 → ((iI (n : Int)).toUInt32 % 65536).toInt32 = iI (n : Int) ∧ vp_nar .char (iI (n : Int)) = iI (n : Int) ∧ narrow .char (.int (iI (n : Int))) = .int (iI (n : Int)) := by decide +kernel
theorem chr_all {x : Int} (h : 0 ≤ x ∧ x < 256) : ((iI x).toUInt32 % 65536).toInt32 = iI x ∧ vp_nar .char (iI x) = iI x ∧ narrow .char (.int (iI x)) = .int (iI x) := by
  have := chr_dec x.toNat (by omega)
  rwa [Int.toNat_of_nonneg h.1] at this
def gAt (tx : Int → Int) (ty x : Int) : Int := if 0 ≤ x ∧ x < ty then tx x else 32
theorem gAt_rg {tx : Int → Int} {ty : Int} (h : ∀ j, 0 ≤ tx j ∧ tx j < 256) (x : Int) : 0 ≤ gAt tx ty x ∧ gAt tx ty x < 256 := by
  unfold gAt
  have := h x
  split <;> omega
theorem gAt_in {tx : Int → Int} {ty x : Int} (h : 0 ≤ x ∧ x < ty) : gAt tx ty x = mAt tx ty x := by
  unfold gAt mAt
  rw [if_pos h, if_pos h.2]
def gSort (v : Int) : Int := if 97 ≤ v ∧ v ≤ 122 then 0 else if 48 ≤ v ∧ v ≤ 57 then 1 else 2
theorem gSort_rg (v : Int) : 0 ≤ gSort v ∧ gSort v ≤ 2 := by unfold gSort; split <;> (try split) <;> omega
theorem gSort_0 {v : Int} : gSort v = 0 ↔ 97 ≤ v ∧ v ≤ 122 := by unfold gSort; split <;> (try split) <;> omega
theorem gSort_1 {v : Int} : gSort v = 1 ↔ 48 ≤ v ∧ v ≤ 57 := by unfold gSort; split <;> (try split) <;> omega
def gTo (tx : Int → Int) (ty f : Int) : Int := if f < ty then mTo tx ty f else f + 1
def gTq (tx : Int → Int) (ty f tq : Int) : Prop := (gSort (gAt tx ty f) = 0 → mRun tx ty 97 122 tq = gTo tx ty f) ∧ (gSort (gAt tx ty f) = 1 → mRun tx ty 48 57 tq = gTo tx ty f) ∧ (gSort (gAt tx ty f) = 2 → tq = gTo tx ty f)
theorem gTq_0 {tx : Int → Int} {ty f : Int} (htx : ∀ j, 0 ≤ tx j ∧ tx j < 256) (hf : 0 ≤ f) : gTq tx ty f (f + 1) := by
  have hr := htx f
  by_cases h : f < ty
  · have e := gAt_in (tx := tx) ⟨hf, h⟩
    have e2 : mAt tx ty f = tx f := if_pos h
    unfold gTq gTo mTo
    rw [if_pos h, e]
    refine ⟨fun q => ?_, fun q => ?_, fun q => ?_⟩
    · rw [gSort_0] at q
      rw [if_neg (by omega), if_neg (by omega), if_pos q, mRun_eq (p := f), if_pos q]
    · rw [gSort_1] at q
      rw [if_neg (by omega), if_pos q, mRun_eq (p := f), if_pos q]
    · have q0 : ¬ (97 ≤ mAt tx ty f ∧ mAt tx ty f ≤ 122) := fun z => by rw [gSort_0.mpr z] at q; omega
      have q1 : ¬ (48 ≤ mAt tx ty f ∧ mAt tx ty f ≤ 57) := fun z => by rw [gSort_1.mpr z] at q; omega
      rw [if_neg (by omega), if_neg q1, if_neg q0]
  · have e : gAt tx ty f = 32 := if_neg (by omega)
    unfold gTq gTo
    rw [e, if_neg h]
    refine ⟨fun q => ?_, fun q => ?_, fun _ => rfl⟩
    · rw [gSort_0] at q; omega
    · rw [gSort_1] at q; omega
theorem gTq_s {tx : Int → Int} {ty f tq : Int} (h : gTq tx ty f tq) (h0 : 0 ≤ tq ∧ tq < ty) (hs : gSort (gAt tx ty f) ≠ 2) (he : gSort (gAt tx ty tq) = gSort (gAt tx ty f)) : gTq tx ty f (tq + 1) := by
  rw [gAt_in h0] at he
  refine ⟨fun q => ?_, fun q => ?_, fun q => absurd q hs⟩
  · rw [← h.1 q, mRun_eq (p := tq), if_pos (gSort_0.mp (by omega))]
  · rw [← h.2.1 q, mRun_eq (p := tq), if_pos (gSort_1.mp (by omega))]
theorem gTq_e {tx : Int → Int} {ty f tq : Int} (h : gTq tx ty f tq) (h0 : 0 ≤ tq) (he : gSort (gAt tx ty f) = 2 ∨ ty ≤ tq ∨ gSort (gAt tx ty tq) ≠ gSort (gAt tx ty f)) : tq = gTo tx ty f := by
  have hr := gSort_rg (gAt tx ty f)
  have hm : ty ≤ tq → mAt tx ty tq = -1 := fun q => if_neg (by omega)
  rcases (show gSort (gAt tx ty f) = 0 ∨ gSort (gAt tx ty f) = 1 ∨ gSort (gAt tx ty f) = 2 by omega) with q | q | q
  · rw [← h.1 q, mRun_eq (p := tq), if_neg]
    intro z
    by_cases hb : ty ≤ tq
    · rw [hm hb] at z; omega
    · rw [← gSort_0, ← gAt_in ⟨h0, by omega⟩] at z; omega
  · rw [← h.2.1 q, mRun_eq (p := tq), if_neg]
    intro z
    by_cases hb : ty ≤ tq
    · rw [hm hb] at z; omega
    · rw [← gSort_1, ← gAt_in ⟨h0, by omega⟩] at z; omega
  · exact h.2.2 q
