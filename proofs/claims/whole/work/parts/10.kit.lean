/-! my kit: ints as Int, arrays as functions of Int, worlds and calls bundled -/
def iI (z : Int) : Int32 := Int32.ofInt z
def bz (b : Bool) : Int := cond b 1 0
def ia (g : Int → Int) : Nat → Int32 := fun j => iI (g (j : Int))
def uz (g : Int → Int) (k v : Int) : Int → Int := fun j => if j = k then v else g j
theorem uz_s (g : Int → Int) (k v : Int) : uz g k v k = v := if_pos rfl
theorem uz_n {g : Int → Int} {k v j : Int} (h : j ≠ k) : uz g k v j = g j := if_neg h
theorem bz_t : bz true = 1 := rfl
theorem bz_f : bz false = 0 := rfl
theorem iI_add (a b : Int) : iI a + iI b = iI (a + b) := (Int32.ofInt_add a b).symm
theorem iI_sub (a b : Int) : iI a - iI b = iI (a - b) := (Int32.ofInt_sub a b).symm
theorem iI_mul (a b : Int) : iI a * iI b = iI (a * b) := (Int32.ofInt_mul a b).symm
theorem iI_neg (a : Int) : -iI a = iI (-a) := (Int32.ofInt_neg a).symm
theorem iI_nI (n : Nat) : nI n = iI (n : Int) := (Int32.ofInt_eq_ofNat (n := n)).symm
theorem iI_toInt {z : Int} (h1 : -2147483648 ≤ z) (h2 : z < 2147483648) : (iI z).toInt = z := Int32.toInt_ofInt_of_le (by omega) (by omega)
theorem iI_lt {a b : Int} (ha : -2147483648 ≤ a ∧ a < 2147483648) (hb : -2147483648 ≤ b ∧ b < 2147483648) : iI a < iI b ↔ a < b := by
  rw [Int32.lt_iff_toInt_lt, iI_toInt ha.1 ha.2, iI_toInt hb.1 hb.2]
theorem iI_le {a b : Int} (ha : -2147483648 ≤ a ∧ a < 2147483648) (hb : -2147483648 ≤ b ∧ b < 2147483648) : iI a ≤ iI b ↔ a ≤ b := by
  rw [Int32.le_iff_toInt_le, iI_toInt ha.1 ha.2, iI_toInt hb.1 hb.2]
theorem iI_eq {a b : Int} (ha : -2147483648 ≤ a ∧ a < 2147483648) (hb : -2147483648 ≤ b ∧ b < 2147483648) : iI a = iI b ↔ a = b := by
  rw [← Int32.toInt_inj, iI_toInt ha.1 ha.2, iI_toInt hb.1 hb.2]
theorem iI_self (x : Int32) : x = iI x.toInt := (Int32.ofInt_toInt x).symm
theorem iI_rg (x : Int32) : -2147483648 ≤ x.toInt ∧ x.toInt < 2147483648 := ⟨by have := Int32.le_toInt x; omega, by have := Int32.toInt_lt x; omega⟩
theorem iI_clamp {z : Int} (h1 : 0 ≤ z) (h2 : z < 2147483648) : (iI z).toNatClampNeg = z.toNat := Int32.toNatClampNeg_ofInt_of_le (by omega) (by omega)
theorem iI_in {z : Int} {n : Nat} (h1 : 0 ≤ z) (h2 : z < n) (hn : n < 2147483648) : vp_in (iI z) n := by
  rw [vp_in_iff, iI_toInt (by omega) (by omega)]
  exact ⟨h1, h2⟩
theorem ia_at {g : Int → Int} {z : Int} (h1 : 0 ≤ z) (h2 : z < 2147483648) : ia g (iI z).toNatClampNeg = iI (g z) := by
  rw [iI_clamp h1 h2]
  unfold ia
  rw [Int.toNat_of_nonneg h1]
theorem ia_upd {g : Int → Int} {z v : Int} (h1 : 0 ≤ z) (h2 : z < 2147483648) : upd (ia g) (iI z).toNatClampNeg (iI v) = ia (uz g z v) := by
  funext j
  rw [iI_clamp h1 h2]
  unfold upd ia uz
  by_cases h : j = z.toNat
  · rw [if_pos h, if_pos (by omega)]
  · rw [if_neg h, if_neg (by omega)]
theorem iI_div {a b : Int} (ha : 0 ≤ a ∧ a < 2147483648) (hb : 0 < b ∧ b < 2147483648) : iI a / iI b = iI (a / b) := by
  obtain ⟨n, rfl⟩ := Int.eq_ofNat_of_zero_le ha.1
  obtain ⟨d, rfl⟩ := Int.eq_ofNat_of_zero_le (show 0 ≤ b by omega)
  rw [← iI_nI, ← iI_nI, pk_div (by omega) (by omega) (by omega), iI_nI]
  rfl
theorem iI_rem {a b : Int} (ha : 0 ≤ a ∧ a < 2147483648) (hb : 0 < b ∧ b < 2147483648) : iI a - iI a / iI b * iI b = iI (a % b) := by
  obtain ⟨n, rfl⟩ := Int.eq_ofNat_of_zero_le ha.1
  obtain ⟨d, rfl⟩ := Int.eq_ofNat_of_zero_le (show 0 ≤ b by omega)
  rw [← iI_nI, ← iI_nI, pk_rem (by omega) (by omega) (by omega), iI_nI]
  rfl
theorem iI_ne0 {b : Int} (hb : 0 < b ∧ b < 2147483648) : ¬ iI b = 0 := by
  intro h
  have h0 : iI b = iI 0 := h
  rw [iI_eq ⟨by omega, by omega⟩ ⟨by omega, by omega⟩] at h0
  omega
theorem bz_rg (b : Bool) : 0 ≤ bz b ∧ bz b ≤ 1 := by cases b <;> exact ⟨by decide, by decide⟩
theorem bz_inj {a b : Bool} : bz a = bz b ↔ a = b := by cases a <;> cases b <;> decide
theorem iI_bz0 (b : Bool) : iI (bz b) = 0 ↔ b = false := by cases b <;> decide
theorem nar_bz (b : Bool) : narrow .boolean (.int (iI (bz b))) = .int (iI (bz b)) := by cases b <;> rfl
theorem fit_bz (b : Bool) : fits .boolean (.int (iI (bz b))) = true := by cases b <;> rfl
theorem vpn_bz (b : Bool) : vp_nar .boolean (iI (bz b)) = iI (bz b) := by cases b <;> rfl
/-- what callers and callees know besides the cells: Z -/
abbrev Zty : Type := (Nat → Prop) → State → Heap → Prop
def ZT : Zty := fun _ _ _ => True
def ZB (Z : Zty) : Prop := ∀ (A : Nat → Prop) (U : State) (g : JFrame) (mk : MethodId) (a : Array Value), Z A U U.heap → Z A (U.calling g mk a) (U.calling g mk a).heap
theorem ZT_b : ZB ZT := fun _ _ _ _ _ _ => trivial
/-- the classes of arrays -/
abbrev tyk (k : Nat → ClassId) : List (ClassId × FieldType) := [(k 0, .int), (k 1, .byte), (k 2, .boolean), (k 3, .char), (k 4, .object "GroundEdges$Ground")]
def Hp (D : va_G) (A : Nat → Prop) (H0 : Heap) (ws : va_W) (H : Heap) (locs : List Loc) : Prop := va_P D vwCl ws H ∧ va_D A ws ∧ va_S A H0 H locs ∧ ∀ q, H0.size ≤ q → A q
def Cx (Z : Zty) (A : Nat → Prop) (p : Program) (s : State) (m : MethodId) (c : Code) (args : Array Value) (cc : ByteArray) (nL : Nat) (Ts : List Cond) (own : String) (D : va_G) (tys : List (ClassId × FieldType)) : Prop := CallFix p m c cc nL s args Ts own ∧ va_K D vwCl tys s ∧ Z A s s.heap
def gPc (Z : Zty) (D : va_G) (tys : List (ClassId × FieldType)) (av : List Value) (sz : Nat) (ws : va_W) : Array Value → State → Prop := va_Pc av (fun U => U.heap.size = sz ∧ va_P D vwCl ws U.heap ∧ va_K D vwCl tys U ∧ va_D (fun _ => True) ws ∧ Z (va_A ws sz) U U.heap)
theorem gPc_blind {Z : Zty} {D : va_G} {tys : List (ClassId × FieldType)} {av : List Value} {sz : Nat} {ws : va_W} (hz : ZB Z) : FrameBlind (gPc Z D tys av sz ws) := fun a U g mk q => by
  obtain ⟨q0, q1, qP, qK, qD, qZ⟩ := q
  exact ⟨q0, q1, qP, va_K.moved (u := U) (U := U.calling g mk a) (Vm.Alike.refl U.vm) qK, qD, hz _ _ _ _ _ qZ⟩
abbrev gB (D : va_G) (tys : List (ClassId × FieldType)) (A : Nat → Prop) (w : va_W) (t : State) : Prop := va_P D vwCl w t.heap ∧ va_K D vwCl tys t ∧ va_D A w
def gQi (D : va_G) (tys : List (ClassId × FieldType)) (ws : va_W) (sz : Nat) {S : Type} (post : S → Prop) (r : S → Int32) (w1 : S → va_W) : Array Value → State → Outcome → State → Prop := va_Qi (fun r' (u : S) => r' = r u ∧ post u) (fun u t => gB D tys (va_A ws sz) (w1 u) t) (va_A ws sz)
def gQl (D : va_G) (tys : List (ClassId × FieldType)) (ws : va_W) (sz : Nat) {S : Type} (post : S → Prop) (r : S → Int64) (w1 : S → va_W) : Array Value → State → Outcome → State → Prop := va_Ql (fun r' (u : S) => r' = r u ∧ post u) (fun u t => gB D tys (va_A ws sz) (w1 u) t) (va_A ws sz)
def gQv (D : va_G) (tys : List (ClassId × FieldType)) (ws : va_W) (sz : Nat) {S : Type} (post : S → Prop) (w1 : S → va_W) : Array Value → State → Outcome → State → Prop := va_Qv (fun (u : S) => post u) (fun u t => gB D tys (va_A ws sz) (w1 u) t) (va_A ws sz)
theorem iI_max {a b : Int} (ha : -2147483648 ≤ a ∧ a < 2147483648) (hb : -2147483648 ≤ b ∧ b < 2147483648) : (if iI a < iI b then iI b else iI a) = iI (max a b) := by
  by_cases h : a < b
  · rw [if_pos ((iI_lt ha hb).mpr h), Int.max_eq_right (by omega)]
  · rw [if_neg (fun q => h ((iI_lt ha hb).mp q)), Int.max_eq_left (by omega)]
theorem iI_min {a b : Int} (ha : -2147483648 ≤ a ∧ a < 2147483648) (hb : -2147483648 ≤ b ∧ b < 2147483648) : (if iI b < iI a then iI b else iI a) = iI (min a b) := by
  by_cases h : b < a
  · rw [if_pos ((iI_lt hb ha).mpr h), Int.min_eq_right (by omega)]
  · rw [if_neg (fun q => h ((iI_lt hb ha).mp q)), Int.min_eq_left (by omega)]
theorem bT {P : Prop} {_ : Decidable P} (h : P) : iI 1 = iI (bz (decide P)) := by rw [decide_eq_true h]; rfl
theorem bF {P : Prop} {_ : Decidable P} (h : ¬ P) : iI 0 = iI (bz (decide P)) := by rw [decide_eq_false h]; rfl
def by8 (g : Int → Int) : Nat → Int32 := fun j => (iI (g (j : Int))).toInt8.toInt32
theorem by8_at {g : Int → Int} {z : Int} (h1 : 0 ≤ z) (h2 : z < 2147483648) : by8 g (iI z).toNatClampNeg = (iI (g z)).toInt8.toInt32 := by
  rw [iI_clamp h1 h2]
  unfold by8
  rw [Int.toNat_of_nonneg h1]
theorem by8_upd {g : Int → Int} {z v : Int} (h1 : 0 ≤ z) (h2 : z < 2147483648) : upd (by8 g) (iI z).toNatClampNeg (vp_nar .byte ((iI v).toInt8.toInt32)) = by8 (uz g z v) := by
  funext j
  rw [iI_clamp h1 h2, pk_vb]
  unfold upd by8 uz
  by_cases h : j = z.toNat
  · rw [if_pos h, if_pos (by omega)]
  · rw [if_neg h, if_neg (by omega)]
theorem by8_255 {x : Int} (h : 0 ≤ x ∧ x < 256) : (iI x).toInt8.toInt32 &&& iI 255 = iI x := by
  obtain ⟨n, rfl⟩ := Int.eq_ofNat_of_zero_le h.1
  rw [← iI_nI]
  exact sc_k8 n (by omega)
/-- a contract out of a walk of its body -/
theorem xs_met {l : Launch} {y : MethodName} {wsm ws' : List Cond} {rm : Room} {Z : Zty} {D : va_G} {tys : List (ClassId × FieldType)} {av : List Value} {sz : Nat} {ws : va_W} {Qc : Array Value → State → Outcome → State → Prop} {mc ms : Nat} {cc : ByteArray} {maxL : Nat} {ret : Option FieldType} (hy : plainName y.cls = true) (hw : wsm = Cond.code y cc maxL ret :: ws') (hlen : (lg_sl av).length ≤ maxL)
    (body : ∀ (p : Program) (e : Env) (s : State) (m : MethodId) (below : List Frame) (meth : Method) (c : Code), sz = s.heap.size → ∀ (args : Array Value) (Q : State → Prop), Cx Z (va_A ws s.heap.size) p s m c args cc maxL wsm y.cls D tys → meth.sig.returnType = ret → meth.locks = false → meth.name = y.name → Q = MQ below Qc args s mc ms (va_A ws s.heap.size) → ∀ (ls : Array Slot) (H : Heap) (locs : List Loc), lv_has ls maxL (lv_args 0 av) → Hp D (va_A ws s.heap.size) s.heap ws H locs →
      W p l e rm s m args below meth c H locs 0 0 Q (F0 m 0 ls [])) : Met l y wsm rm (gPc Z D tys av sz ws) Qc mc ms (va_A ws sz) := by
  refine Met.ofW (cc := cc) (maxL := maxL) (ret := ret) hy hw ?_
  intro p e s m args below meth c s₁ B hml hv
  obtain ⟨rfl, hsz, hP, hK, hD0, hZ⟩ := hv
  subst hsz
  have hl := lv_entry av (n := maxL) hlen
  rw [lg_entry_eq]
  generalize (lg_sl av ++ List.replicate (maxL - (lg_sl av).length) Slot.unset).toArray = ls at hl ⊢
  exact body p e s m below meth c rfl _ _ ⟨⟨B.exec, B.bytes, hml, findClass_of_methodNamed B.named, atoms_spec B.pre⟩, hK, hZ⟩ B.returns B.notSynchronized (name_of_methodNamed B.named B.method).1 rfl ls _ _ hl ⟨hP, hD0.self, va_S.rf, fun q h => Or.inr h⟩
