/-! what is made: objects and rows, in constructors -/
def ZO : Zty := fun _ U _ => va_AO "GroundEdges$Ground" U
theorem ZO_b : ZB ZO := fun _ _ _ _ _ h => va_AO.moved (Vm.Alike.refl _) h
theorem va_RA.name {U : State} {cA : ClassId} {ty : FieldType} (h : va_RA U cA ty) : U.vm.findClass ("[" ++ ty.toString) = some cA := by
  cases ty with
  | object C => obtain ⟨kA, comp, h1, h2, h3, h4⟩ := h; exact h4
  | _ => exact h
theorem va_Kone {D : va_G} {cl : List vw_C} {tys : List (ClassId × FieldType)} {U : State} {cA cK : ClassId} {ty : FieldType} (h : va_K D cl (tys ++ [(cA, ty)]) U) (t0 : Nat) (ht : tys[t0]? = some (cK, ty)) : cA = cK := by
  have h1 := (h.2 tys.length (cA, ty) (by rw [List.getElem?_append_right (Nat.le_refl _), Nat.sub_self]; rfl)).2.name
  have hl : t0 < tys.length := (List.getElem?_eq_some_iff.mp ht).1
  have h2 := (h.2 t0 (cK, ty) (by rw [List.getElem?_append_left hl]; exact ht)).2.name
  exact Option.some.inj (h1.symm.trans h2)
theorem rf_u1 (a : Nat) : va_up (rfA []) 0 (some a) = rfA [a] := by
  funext j; rcases j with _ | j <;> simp [va_up, rfA]
theorem rf_up (l : List Nat) (a : Nat) : va_up (rfA l) l.length (some a) = rfA (l ++ [a]) := by
  funext j
  unfold va_up rfA
  by_cases h : j = l.length
  · rw [if_pos h, h, List.getElem?_append_right (Nat.le_refl _), Nat.sub_self]; rfl
  · rw [if_neg h]
    by_cases h2 : j < l.length
    · rw [List.getElem?_append_left h2]
    · rw [List.getElem?_eq_none (by omega), List.getElem?_eq_none (by rw [List.length_append]; simp; omega)]
section XM
variable {p : Program} {l : Launch} {e : Env} {R : Room} {s : State} {m : MethodId} {args : Array Value} {below : List Frame} {meth : Method} {c : Code} {H : Heap} {locs : List Loc} {cells slots : Nat} {Q : State → Prop} {cc : ByteArray} {pc : Nat} {ls : Array Slot} {rest : List Value}
variable {Z : Zty} {A : Nat → Prop} {nL : Nat} {Ts : List Cond} {own : String} {D : va_G} {tys : List (ClassId × FieldType)} {ws ws' : va_W} {a : Nat}
theorem xw_putF (C : Cx Z A p s m c args cc nL Ts own D tys) (hH : Hp D A s.heap ws H locs) (q0 : Nat) {ci index : Nat} {fs : List Value} (he : ws[q0]? = some (a, .inr (ci, fs))) {Cn : String} {T : u_T} {N : Nat} (hc : vwCl[ci]? = some (Cn, T, N)) (ty0 : Nat → FieldType) (hty : ∀ k, k < N → parseFieldDescriptor (T k).2.2.1 = some (ty0 k)) (hnm : ∀ a, a < N → ∀ b, b < N → a ≠ b → (T a).2.1 ≠ (T b).2.1) (k : Nat) (hk : k < N) (hin : ∀ w ∈ u_ws Cn T N, w ∈ Ts) (hl : Cond.fieldLink own index (T k).1 (T k).2.1 (T k).2.2.1 ∈ Ts) (hfin : (T k).2.2.2 = true) (hin2 : meth.name = "<init>") (hdecl : (T k).1 = own) {v : Value} (hn : narrow (ty0 k) v = v) (hfit : fits (ty0 k) v = true) (hlen : k < fs.length) (hdg : decode cc pc = .ok (.putfield index, 3)) (hs : ws.set q0 (a, .inr (ci, fs.set k v)) = ws') (kk : ∀ (H1 : Heap) (locs1 : List Loc), Hp D A s.heap ws' H1 locs1 → W p l e R s m args below meth c H1 locs1 cells slots Q (F0 m (pc + 3) ls rest)) : W p l e R s m args below meth c H locs cells slots Q (F0 m pc ls (v :: .ref a :: rest)) :=
  va_putF C.1.1 C.1.2.1 C.1.2.2.2.2 hin ty0 hty hnm C.1.2.2.2.1 C.2.1 hH.1 hH.2.1 hH.2.2.1 q0 he hc k hk (C.1.2.2.2.2 _ hl) (fun _ h => h) hfin hin2 hdecl (hty k hk) hn hfit hlen hdg (fun H1 locs1 h1 h2 h3 => kk H1 locs1 (by subst hs; exact ⟨h1, h2, h3, hH.2.2.2⟩))
theorem ZO_pass (C : Cx Z A p s m c args cc nL Ts own D tys) (hz : va_AO "GroundEdges$Ground" s) {B : Nat → Prop} : ∀ U : State, U.heap = H → s.WarmedH U.vm → ZO B U U.heap := fun _ _ hW => va_AO.moved hW.alike hz
theorem xw_new (C : Cx Z A p s m c args cc nL Ts own D tys) (hH : Hp D A s.heap ws H locs) {Cn : String} {T : u_T} {N ci index : Nat} (hc : vwCl[ci]? = some (Cn, T, N)) (hin : ∀ w ∈ u_ws Cn T N, w ∈ Ts) (ty0 : Nat → FieldType) (hty : ∀ k, k < N → parseFieldDescriptor (T k).2.2.1 = some (ty0 k)) (hcl : Cond.classLink own index Cn ∈ Ts) (hinst : Cond.instantiable Cn N ∈ Ts) (hini : Cond.initialized Cn ∈ Ts) {fs : List Value} (hfs : ∀ j, j < N → defaultValue (ty0 j) = vp_V fs j) (hcells : cells + 1 ≤ R.cells) (hslots : slots + N ≤ R.slots) (hdg : decode cc pc = .ok (.new index, 3))
    (kk : ∀ (q : Nat) (H1 : Heap), Hp D A s.heap (ws ++ [(q, .inr (ci, fs))]) H1 locs → W p l e R s m args below meth c H1 locs (cells + 1) (slots + N) Q (F0 m (pc + 3) ls (.ref q :: rest))) : W p l e R s m args below meth c H locs cells slots Q (F0 m pc ls rest) :=
  va_new C.1.1 C.1.2.1 C.1.2.2.2.2 hin ty0 hty C.1.2.2.2.1 (C.1.2.2.2.2 _ hcl) (C.1.2.2.2.2 _ hinst) (C.1.2.2.2.2 _ hini) C.2.1 hH.1 hH.2.1 hH.2.2.1 hH.2.2.2 hc hfs hcells hslots hdg (fun q H1 h1 h2 h3 => kk q H1 ⟨h1, h2, h3, hH.2.2.2⟩)
theorem xw_newa (C : Cx Z A p s m c args cc nL Ts own D tys) (hH : Hp D A s.heap ws H locs) {atype : ArrayType} {ty : FieldType} (harr : Cond.arrayClass (newarray.typeOf atype) ∈ Ts) (hty : newarray.typeOf atype = ty) (t0 : Nat) {cK : ClassId} (ht : tys[t0]? = some (cK, ty)) {z : Int} {N : Nat} {f : Nat → Int32} (ha : ∀ cA : ClassId, vp_cell cA (N, .inl f) = arrV cA N (fun _ => defaultValue ty)) (hn : ¬ iI z < 0) (hN : (iI z).toNatClampNeg = N) (hbytes : N * componentBytes ty ≤ 536870912) (hcells : cells + 1 ≤ R.cells) (hslots : slots + N ≤ R.slots) (hdg : decode cc pc = .ok (.newarray atype, 2))
    (kk : ∀ (q : Nat) (H1 : Heap), Hp D A s.heap (ws ++ [(q, .inl (cK, N, .inl f))]) H1 locs → W p l e R s m args below meth c H1 locs (cells + 1) (slots + N) Q (F0 m (pc + 2) ls (.ref q :: rest))) : W p l e R s m args below meth c H locs cells slots Q (F0 m pc ls (.int (iI z) :: rest)) := by
  refine va_newa C.1.1 C.1.2.1 (C.1.2.2.2.2 _ harr) hty C.2.1 hH.1 hH.2.1 hH.2.2.1 hH.2.2.2 ha hn hN hbytes hcells hslots hdg (fun q cA H1 hK h1 h2 h3 => ?_)
  have e := va_Kone hK t0 ht
  subst e
  exact kk q H1 ⟨h1, h2, h3, hH.2.2.2⟩
theorem xw_newq (C : Cx Z A p s m c args cc nL Ts own D tys) (hH : Hp D A s.heap ws H locs) {Cn : String} {index : Nat} (hcl : Cond.classLink own index Cn ∈ Ts) (hover : va_AO Cn s) (t0 : Nat) {cK : ClassId} (ht : tys[t0]? = some (cK, .object Cn)) {z : Int} {N : Nat} (hn : ¬ iI z < 0) (hN : (iI z).toNatClampNeg = N) (hbytes : N * 4 ≤ 536870912) (hcells : cells + 1 ≤ R.cells) (hslots : slots + N ≤ R.slots) (hdg : decode cc pc = .ok (.anewarray index, 3))
    (kk : ∀ (q : Nat) (H1 : Heap), Hp D A s.heap (ws ++ [(q, .inl (cK, N, .inr (.inr (.inr (.inr (rfA []))))))]) H1 locs → W p l e R s m args below meth c H1 locs (cells + 1) (slots + N) Q (F0 m (pc + 3) ls (.ref q :: rest))) : W p l e R s m args below meth c H locs cells slots Q (F0 m pc ls (.int (iI z) :: rest)) := by
  refine va_newq C.1.1 C.1.2.1 C.1.2.2.2.1 (C.1.2.2.2.2 _ hcl) hover C.2.1 hH.1 hH.2.1 hH.2.2.1 hH.2.2.2 hn hN hbytes hcells hslots hdg (fun q cA H1 hK h1 h2 h3 => ?_)
  have e := va_Kone hK t0 ht
  subst e
  have e2 : (fun _ => none : Nat → Option Nat) = rfA [] := by funext j; rfl
  rw [e2] at h1 h2
  exact kk q H1 ⟨h1, h2, h3, hH.2.2.2⟩
theorem xw_astq (C : Cx Z A p s m c args cc nL Ts own D tys) (hH : Hp D A s.heap ws H locs) (q0 t0 qk ci : Nat) {cK : ClassId} {r : vw_C} {n v : Nat} {vs : List Value} {l0 : List Nat} (ha : ws[q0]? = some (a, .inl (cK, n, .inr (.inr (.inr (.inr (rfA l0))))))) (ht : tys[t0]? = some (cK, .object r.1)) (hv : ws[qk]? = some (v, .inr (ci, vs))) (hc : vwCl[ci]? = some r) {z : Int} (hz : (iI z).toNatClampNeg = l0.length) (hin : vp_in (iI z) n) (hdg : decode cc pc = .ok (.aastore, 1)) (hs : ws.set q0 (a, .inl (cK, n, .inr (.inr (.inr (.inr (rfA (l0 ++ [v]))))))) = ws')
    (kk : ∀ (H1 : Heap) (locs1 : List Loc), Hp D A s.heap ws' H1 locs1 → W p l e R s m args below meth c H1 locs1 cells slots Q (F0 m (pc + 1) ls rest)) : W p l e R s m args below meth c H locs cells slots Q (F0 m pc ls (.ref v :: .int (iI z) :: .ref a :: rest)) := by
  refine va_astq C.1.1 C.1.2.1 C.2.1 hH.1 hH.2.1 hH.2.2.1 q0 t0 qk ci ha ht hv hc hin hdg (fun H1 locs1 h1 h2 h3 => ?_)
  rw [hz, rf_up] at h1 h2
  subst hs
  exact kk H1 locs1 ⟨h1, h2, h3, hH.2.2.2⟩
end XM
