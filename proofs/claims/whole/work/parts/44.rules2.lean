def colG (j : Int) : Int := if j = 1 ∨ j = 2 ∨ j = 3 then 1 else if j = 5 ∨ j = 6 ∨ j = 7 then -1 else 0
def rowG (j : Int) : Int := if j = 0 ∨ j = 1 ∨ j = 7 then -1 else if j = 3 ∨ j = 4 ∨ j = 5 then 1 else 0
def mskL : List Int := [0, 1, 4, 5, 7, 16, 17, 20, 21, 23, 28, 29, 31, 64, 65, 68, 69, 71, 80, 81, 84, 85, 87, 92, 93, 95, 112, 113, 116, 117, 119, 124, 125, 127, 193, 197, 199, 209, 213, 215, 221, 223, 241, 245, 247, 253, 255]
def mskG (j : Int) : Int := mskL.getD j.toNat 0
def neaG (j : Int) : Int := if j = 0 then 3 else if j = 1 then 7 else if j = 2 then 14 else 12
/-- the class's own constant rows -/
def ZA (C n : String) (N : Nat) (g : Int → Int) (A : Nat → Prop) (U : State) (H : Heap) : Prop := ∃ t : Nat, va_Z C n "[I" (.ref t) A U H ∧ va_T .int t N (fun j => .int (ia g j)) A U H
theorem ZA.pass {C n : String} {N : Nat} {g : Int → Int} {A B : Nat → Prop} {s U : State} {H : Heap} (h : ZA C n N g A s s.heap) (hk : ∀ a : Nat, a < s.heap.size → ¬ A a → H[a]? = s.heap[a]?) (hAB : ∀ q, B q → A q) (hv : s.vm.Alike U.vm) : ZA C n N g B U H := by
  obtain ⟨t, h1, h2⟩ := h
  exact ⟨t, ((h1.kept hk).narrow hAB).moved hv, ((h2.kept hk).narrow hAB).moved hv⟩
/-- links of members of nest mates -/
def nwT : List (String × Nat × String × String × String × String) := [("GroundEdges$Kinds", 26, "GroundEdges$Ground", "columns", "I", "GroundEdges"), ("GroundEdges$Seen", 30, "GroundEdges$Ground", "columns", "I", "GroundEdges"), ("GroundEdges$LeastChange", 67, "GroundEdges$Ground", "columns", "I", "GroundEdges"), ("GroundEdges$Telling", 84, "GroundEdges$Ground", "columns", "I", "GroundEdges"), ("GroundEdges", 195, "GroundEdges$Ground", "columns", "I", "GroundEdges"), ("GroundEdges$Kinds", 22, "GroundEdges$Ground", "rows", "I", "GroundEdges"), ("GroundEdges$Seen", 25, "GroundEdges$Ground", "rows", "I", "GroundEdges"), ("GroundEdges$LeastChange", 50, "GroundEdges$Ground", "rows", "I", "GroundEdges"), ("GroundEdges$Telling", 113, "GroundEdges$Ground", "rows", "I", "GroundEdges"), ("GroundEdges", 198, "GroundEdges$Ground", "rows", "I", "GroundEdges"), ("GroundEdges$LeastChange", 70, "GroundEdges$Ground", "heights", "J", "GroundEdges"), ("GroundEdges", 128, "GroundEdges$Ground", "heights", "J", "GroundEdges"), ("GroundEdges$LeastChange", 71, "GroundEdges$Ground", "fixed", "J", "GroundEdges"), ("GroundEdges$Telling", 90, "GroundEdges$Ground", "beyond", "I", "GroundEdges"), ("GroundEdges", 201, "GroundEdges$Ground", "beyond", "I", "GroundEdges"), ("GroundEdges", 65, "GroundEdges$Telling", "length", "I", "GroundEdges"), ("GroundEdges", 76, "GroundEdges$Telling", "items", "I", "GroundEdges"), ("GroundEdges", 138, "GroundEdges$Past", "known", "I", "GroundEdges"), ("GroundEdges", 165, "GroundEdges$Kinds", "known", "I", "GroundEdges"), ("GroundEdges", 121, "GroundEdges$LeastChange", "changed", "I", "GroundEdges"), ("GroundEdges", 124, "GroundEdges$LeastChange", "heights", "J", "GroundEdges"), ("GroundEdges", 174, "GroundEdges$Seen", "known", "I", "GroundEdges")]
def NW (U : State) : Prop := (∀ q ∈ nwT, va_Nw (.fieldLinkNest q.1 q.2.1 q.2.2.1 q.2.2.2.1 q.2.2.2.2.1 q.2.2.2.2.2) U) ∧ va_Nw (.methodLinkNest "GroundEdges$Telling" 93 yX8_isHeight "GroundEdges") U
theorem NW.warm {s U : State} (hW : s.WarmedH U.vm) (h : NW s) : NW U := ⟨fun q hq => (h.1 q hq).warmF hW, h.2.warmM hW⟩
theorem NW.same {s U : State} (hv : s.vm = U.vm) (h : NW s) : NW U := ⟨fun q hq => (h.1 q hq).same rfl hv, h.2.same rfl hv⟩
def ZG : Zty := fun A U H => ZA "GroundEdges$Ground" "COLUMN_STEPS" 8 colG A U H ∧ ZA "GroundEdges$Ground" "ROW_STEPS" 8 rowG A U H ∧ ZA "GroundEdges$Ground" "MASKS" 47 mskG A U H ∧ ZA "GroundEdges$LeastChange" "NEAR" 4 neaG A U H ∧ NW U
theorem ZG.pass {A B : Nat → Prop} {s U : State} {H : Heap} (h : ZG A s s.heap) (hk : ∀ a : Nat, a < s.heap.size → ¬ A a → H[a]? = s.heap[a]?) (hAB : ∀ q, B q → A q) (hv : s.vm.Alike U.vm) (hn : NW U) : ZG B U H := ⟨h.1.pass hk hAB hv, h.2.1.pass hk hAB hv, h.2.2.1.pass hk hAB hv, h.2.2.2.1.pass hk hAB hv, hn⟩
theorem ZG_b : ZB ZG := fun A U g mk a h => ZG.pass h (fun _ _ _ => rfl) (fun _ q => q) (Vm.Alike.refl U.vm) (NW.same rfl h.2.2.2.2)
section XZ
variable {p : Program} {l : Launch} {e : Env} {R : Room} {s : State} {m : MethodId} {args : Array Value} {below : List Frame} {meth : Method} {c : Code} {H : Heap} {locs : List Loc} {cells slots : Nat} {Q : State → Prop} {cc : ByteArray} {pc : Nat} {ls : Array Slot} {rest : List Value}
variable {Z : Zty} {A : Nat → Prop} {nL : Nat} {Ts : List Cond} {own : String} {D : va_G} {tys : List (ClassId × FieldType)} {ws ws' wc : va_W} {a : Nat}
theorem ZG_pass (C : Cx ZG A p s m c args cc nL Ts own D tys) (hH : Hp D A s.heap ws H locs) (isC : List Nat) (hC : isC.map (fun i => ws[i]?) = wc.map some) : ∀ U : State, U.heap = H → s.WarmedH U.vm → ZG (va_A wc H.size) U U.heap := fun U hU hW => by
  rw [hU]
  exact ZG.pass C.2.2 (fun q h1 h2 => hH.2.2.1.2.1 q h1 h2) (va_free (wc := wc) hH.2.1 hH.2.2.1 hH.2.2.2 isC hC) hW.alike (NW.warm hW C.2.2.2.2.2.2)
theorem xw_gets (C : Cx Z A p s m c args cc nL Ts own D tys) (hH : Hp D A s.heap ws H locs) {Cn n d : String} {v : Value} {index : Nat} (hz : va_Z Cn n d v A s s.heap) (hl : Cond.fieldLink own index Cn n d ∈ Ts) (hdg : decode cc pc = .ok (.getstatic index, 3)) (kk : W p l e R s m args below meth c H locs cells slots Q (F0 m (pc + 3) ls (v :: rest))) : W p l e R s m args below meth c H locs cells slots Q (F0 m pc ls rest) :=
  va_gets C.1.1 C.1.2.1 hz hH.2.2.1 C.1.2.2.2.1 (C.1.2.2.2.2 _ hl) (fun _ h => h) hdg kk
theorem xw_tld (C : Cx Z A p s m c args cc nL Ts own D tys) (hH : Hp D A s.heap ws H locs) {t N : Nat} {g : Int → Int} (hT : va_T .int t N (fun j => .int (ia g j)) A s s.heap) {z : Int} (h0 : 0 ≤ z) (h1 : z < N) (hn : N < 2147483648) (hdg : decode cc pc = .ok (.iaload, 1)) (kk : W p l e R s m args below meth c H locs cells slots Q (F0 m (pc + 1) ls (.int (iI (g z)) :: rest))) : W p l e R s m args below meth c H locs cells slots Q (F0 m pc ls (.int (iI z) :: .ref t :: rest)) :=
  va_ti C.1.1 C.1.2.1 hT hH.2.2.1 (iI_in h0 h1 hn) (by rw [ia_at h0 (by omega)]) hdg kk
theorem xw_tlen (C : Cx Z A p s m c args cc nL Ts own D tys) (hH : Hp D A s.heap ws H locs) {t N : Nat} {f : Nat → Value} (hT : va_T .int t N f A s s.heap) {z : Int} (hz : (N : Int) = z) (hdg : decode cc pc = .ok (.arraylength, 1)) (kk : W p l e R s m args below meth c H locs cells slots Q (F0 m (pc + 1) ls (.int (iI z) :: rest))) : W p l e R s m args below meth c H locs cells slots Q (F0 m pc ls (.ref t :: rest)) :=
  va_tlen C.1.1 C.1.2.1 hT hH.2.2.1 (by subst hz; exact iI_nI N) hdg kk
theorem xw_getN (C : Cx Z A p s m c args cc nL Ts own D tys) (hH : Hp D A s.heap ws H locs) (q0 : Nat) {ci index : Nat} {fs : List Value} (he : ws[q0]? = some (a, .inr (ci, fs))) {Cn : String} {T : u_T} {N : Nat} (hc : vwCl[ci]? = some (Cn, T, N)) (k : Nat) (hk : k < N) (hin : ∀ w ∈ u_ws Cn T N, w ∈ Ts) {host : String} (hl : va_Nw (Cond.fieldLinkNest own index (T k).1 (T k).2.1 (T k).2.2.1 host) s) {v : Value} (hv : fs[k]? = some v) (hdg : decode cc pc = .ok (.getfield index, 3)) (kk : W p l e R s m args below meth c H locs cells slots Q (F0 m (pc + 3) ls (v :: rest))) : W p l e R s m args below meth c H locs cells slots Q (F0 m pc ls (.ref a :: rest)) :=
  va_getN C.1.1 C.1.2.1 C.1.2.2.2.2 hin C.1.2.2.2.1 C.2.1 hH.1 q0 he hc k hk (va_Nw.use rfl hl) (fun _ h => h) hv hdg kk
theorem xw_putN (C : Cx Z A p s m c args cc nL Ts own D tys) (hH : Hp D A s.heap ws H locs) (q0 : Nat) {ci index : Nat} {fs : List Value} (he : ws[q0]? = some (a, .inr (ci, fs))) {Cn : String} {T : u_T} {N : Nat} (hc : vwCl[ci]? = some (Cn, T, N)) (ty0 : Nat → FieldType) (hty : ∀ k, k < N → parseFieldDescriptor (T k).2.2.1 = some (ty0 k)) (hnm : ∀ a, a < N → ∀ b, b < N → a ≠ b → (T a).2.1 ≠ (T b).2.1) (k : Nat) (hk : k < N) (hin : ∀ w ∈ u_ws Cn T N, w ∈ Ts) {host : String} (hl : va_Nw (Cond.fieldLinkNest own index (T k).1 (T k).2.1 (T k).2.2.1 host) s) (hfin : (T k).2.2.2 = false) {v : Value} (hn : narrow (ty0 k) v = v) (hfit : fits (ty0 k) v = true) (hlen : k < fs.length) (hdg : decode cc pc = .ok (.putfield index, 3)) (hs : ws.set q0 (a, .inr (ci, fs.set k v)) = ws') (kk : ∀ (H1 : Heap) (locs1 : List Loc), Hp D A s.heap ws' H1 locs1 → W p l e R s m args below meth c H1 locs1 cells slots Q (F0 m (pc + 3) ls rest)) : W p l e R s m args below meth c H locs cells slots Q (F0 m pc ls (v :: .ref a :: rest)) :=
  va_putN C.1.1 C.1.2.1 C.1.2.2.2.2 hin ty0 hty hnm C.1.2.2.2.1 C.2.1 hH.1 hH.2.1 hH.2.2.1 q0 he hc k hk (va_Nw.use rfl hl) (fun _ h => h) hfin (hty k hk) hn hfit hlen hdg (fun H1 locs1 h1 h2 h3 => kk H1 locs1 (by subst hs; exact ⟨h1, h2, h3, hH.2.2.2⟩))
end XZ
/-- a Ground: its five fields -/
abbrev gO (a : Nat) (w h : Int) (ht fx : Int64) (be : Int) : Nat × va_E := (a, .inr (0, [.int (iI w), .int (iI h), .long ht, .long fx, .int (iI be)]))
/-- the fields are those of the state s -/
def gR (s : Int → Int) (w h : Int) (ht fx : Int64) (be : Int) : Prop := w = s 0 ∧ h = s 1 ∧ ht = pk s 3 ∧ fx = pk s 27 ∧ be = s 2
theorem mS_h {s : Int → Int} (h : mS s) : pkR s 3 := fun j a b => h.2.2.2.1 j a b
theorem mS_f {s : Int → Int} (h : mS s) : ∀ j, 27 ≤ j → j < 27 + 24 → 0 ≤ s j ∧ s j ≤ 1 := fun j a b => h.2.2.2.2 j a b
theorem mS_uz {s : Int → Int} {c v : Int} (hS : mS s) (hc : 0 ≤ c ∧ c < 24) (hv : 0 ≤ v ∧ v ≤ 3) : mS (uz s (3 + c) v) := by
  obtain ⟨h0, h1, h2, h3, h4⟩ := hS
  refine ⟨?_, ?_, ?_, fun j a b => ?_, fun j a b => ?_⟩
  · rw [uz_n (by omega)]; exact h0
  · rw [uz_n (by omega)]; exact h1
  · rw [uz_n (by omega)]; exact h2
  · by_cases h : j = 3 + c
    · rw [h, uz_s]; exact hv
    · rw [uz_n h]; exact h3 j a b
  · rw [uz_n (by omega)]; exact h4 j a b
theorem gR_h {s : Int → Int} {c v : Int} (hc : 0 ≤ c ∧ c < 24) : uz s (3 + c) v 0 = s 0 ∧ uz s (3 + c) v 1 = s 1 ∧ pk (uz s (3 + c) v) 27 = pk s 27 ∧ uz s (3 + c) v 2 = s 2 := ⟨uz_n (by omega), uz_n (by omega), pk_congr (fun j a b => uz_n (by omega)), uz_n (by omega)⟩
theorem gR_f {s : Int → Int} {c v : Int} (hc : 0 ≤ c ∧ c < 24) : uz s (27 + c) v 0 = s 0 ∧ uz s (27 + c) v 1 = s 1 ∧ pk (uz s (27 + c) v) 3 = pk s 3 ∧ uz s (27 + c) v 2 = s 2 := ⟨uz_n (by omega), uz_n (by omega), pk_congr (fun j a b => uz_n (by omega)), uz_n (by omega)⟩
