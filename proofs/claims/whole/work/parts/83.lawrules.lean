/-! the law's own steps -/
abbrev rmL_law : Room := room_1
section XL
variable {p : Program} {l : Launch} {e : Env} {R : Room} {s : State} {m : MethodId} {args : Array Value} {below : List Frame} {meth : Method} {c : Code} {H : Heap} {locs : List Loc} {cells slots : Nat} {Q : State → Prop} {cc : ByteArray} {pc : Nat} {ls : Array Slot} {rest : List Value}
variable {Z : Zty} {A : Nat → Prop} {nL : Nat} {Ts : List Cond} {own : String} {D : va_G} {tys : List (ClassId × FieldType)} {ws : va_W} {b L : Nat} {xs : Nat → Int32}
theorem xw_scl (C : Cx Z A p s m c args cc nL Ts own D tys) (hH : Hp D A s.heap ws H locs) (hX : va_X b L xs s s.heap) (hbl : b < s.heap.size) (hbA : ¬ A b) (hdg : decode cc pc = .ok (.arraylength, 1)) (kk : W p l e R s m args below meth c H locs cells slots Q (F0 m (pc + 1) ls (.int (iI (L : Int)) :: rest))) : W p l e R s m args below meth c H locs cells slots Q (F0 m pc ls (.ref b :: rest)) := by
  refine va_slen C.1.1 C.1.2.1 hX hbl hbA hH.2.2.1 hdg ?_
  have e1 : Int32.ofNat L = iI (L : Int) := iI_nI L
  rw [e1]
  exact kk
theorem xw_scld (C : Cx Z A p s m c args cc nL Ts own D tys) (hH : Hp D A s.heap ws H locs) (hX : va_X b L xs s s.heap) (hbl : b < s.heap.size) (hbA : ¬ A b) {z : Int} (h0 : 0 ≤ z) (h1 : z < L) (hn : L < 2147483648) (hdg : decode cc pc = .ok (.iaload, 1)) (kk : W p l e R s m args below meth c H locs cells slots Q (F0 m (pc + 1) ls (.int (iI (sxI xs z)) :: rest))) : W p l e R s m args below meth c H locs cells slots Q (F0 m pc ls (.int (iI z) :: .ref b :: rest)) := by
  refine va_sld C.1.1 C.1.2.1 hX hbl hbA hH.2.2.1 (iI_in h0 h1 hn) hdg ?_
  have e1 : xs (iI z).toNatClampNeg = iI (sxI xs z) := by rw [iI_clamp h0 (by omega)]; exact iI_self _
  rw [e1]
  exact kk
end XL
