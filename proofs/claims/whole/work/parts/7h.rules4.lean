def wdL : List Nat := [3, 3, 6]
def wdB : List (List Int32) := [[114, 111, 119], [102, 105, 120], [98, 101, 121, 111, 110, 100]]
def wdI : List (List Int) := [[114, 111, 119], [102, 105, 120], [98, 101, 121, 111, 110, 100]]
def wdN (i : Nat) : Int := ((wdL.getD i 0 : Nat) : Int)
def wdC (i : Nat) (z : Int) : Int := (wdI.getD i []).getD z.toNat 0
theorem wdN_dec : ∀ i : Nat, i < 3 → (3 ≤ wdN i ∧ wdN i ≤ 6) ∧ iI (wdN i) >>> (iI 0 &&& 31) = iI (wdN i) := by decide +kernel
theorem wdC_dec : ∀ i : Nat, i < 3 → ∀ z : Nat, z < wdL.getD i 0 → (((wdB.getD i []).getD z 0 &&& iI 255).toUInt32 % 65536).toInt32 = iI (wdC i (z : Int)) ∧ 0 ≤ wdC i (z : Int) ∧ wdC i (z : Int) < 256 := by decide +kernel
theorem wdC_eq {i : Nat} {z : Int} (hi : i < 3) (hz : 0 ≤ z ∧ z < wdN i) : (((wdB.getD i []).getD z.toNat 0 &&& iI 255).toUInt32 % 65536).toInt32 = iI (wdC i z) ∧ 0 ≤ wdC i z ∧ wdC i z < 256 := by
  have := wdC_dec i hi z.toNat (by have h := hz.2; unfold wdN at h; omega)
  rwa [Int.toNat_of_nonneg hz.1] at this
/-- the class's rows, and its three words as the machine holds them -/
def vkW (kK : Nat → Nat) (U : State) : Prop := vk_R "GroundEdges$Telling" 97 "row" (kK 0) U ∧ vk_R "GroundEdges$Telling" 103 "fix" (kK 1) U ∧ vk_R "GroundEdges$Telling" 105 "beyond" (kK 2) U
def ZS (kK kV : Nat → Nat) : Zty := fun A U H => ZG A U H ∧ vk_S 3 wdL wdB kK kV A U H ∧ vkW kK U ∧ va_Z "java/lang/String" "COMPACT_STRINGS" "Z" (.int 1) A U H ∧ va_Zq "jdk/internal/util/Preconditions" "SIOOBE_FORMATTER" "Ljava/util/function/BiFunction;" A U H
theorem ZS.pass {kK kV : Nat → Nat} {A B : Nat → Prop} {s U : State} {H : Heap} (h : ZS kK kV A s s.heap) (hk : ∀ a : Nat, a < s.heap.size → ¬ A a → H[a]? = s.heap[a]?) (hAB : ∀ q, B q → A q) (hv : s.vm.Alike U.vm) (hn : NW U) (hr : vkW kK U) : ZS kK kV B U H := by
  obtain ⟨h1, h2, _, h4, h5⟩ := h
  refine ⟨h1.pass hk hAB hv hn, ((h2.kept hk).narrow hAB).moved hv, hr, ((h4.kept hk).narrow hAB).moved hv, ?_⟩
  rcases h5 with h5 | ⟨q, h5⟩
  · exact Or.inl (((h5.kept hk).narrow hAB).moved hv)
  · exact Or.inr ⟨q, ((h5.kept hk).narrow hAB).moved hv⟩
theorem vkW.same {kK : Nat → Nat} {u U : State} (hv : U.vm = u.vm) (h : vkW kK u) : vkW kK U := ⟨vk_R.same hv h.1, vk_R.same hv h.2.1, vk_R.same hv h.2.2⟩
theorem vkW.warm {kK : Nat → Nat} {s U : State} (hW : s.WarmedH U.vm) (h : vkW kK s) : vkW kK U := ⟨vk_R.warm hW h.1, vk_R.warm hW h.2.1, vk_R.warm hW h.2.2⟩
theorem ZS_b {kK kV : Nat → Nat} : ZB (ZS kK kV) := fun A U g mk a h => ZS.pass h (fun _ _ _ => rfl) (fun _ q => q) (Vm.Alike.refl U.vm) (NW.same rfl h.1.2.2.2.2) (vkW.same rfl h.2.2.1)
section XS
variable {p : Program} {l : Launch} {e : Env} {R : Room} {s : State} {m : MethodId} {args : Array Value} {below : List Frame} {meth : Method} {c : Code} {H : Heap} {locs : List Loc} {cells slots : Nat} {Q : State → Prop} {cc : ByteArray} {pc : Nat} {ls : Array Slot}
variable {Z Zc : Zty} {A : Nat → Prop} {nL : Nat} {Ts : List Cond} {own : String} {D : va_G} {tys : List (ClassId × FieldType)} {ws wc wr : va_W} {S : Type} {post : S → Prop} {w1 ws' : S → va_W} {b : Nat} {y : MethodName} {wsc : List Cond} {rm : Room} {mc ms n index maxL : Nat} {bytes : ByteArray} {ret : Option FieldType} {Cn : String} {As rest st0 : List Value}
variable {kK kV : Nat → Nat}
theorem ZS_pass (C : Cx (ZS kK kV) A p s m c args cc nL Ts own D tys) (hH : Hp D A s.heap ws H locs) (isC : List Nat) (hC : isC.map (fun i => ws[i]?) = wc.map some) : ∀ U : State, U.heap = H → s.WarmedH U.vm → ZS kK kV (va_A wc H.size) U U.heap := fun U hU hW => by
  rw [hU]
  exact ZS.pass C.2.2 (fun q h1 h2 => hH.2.2.1.2.1 q h1 h2) (va_free (wc := wc) hH.2.1 hH.2.2.1 hH.2.2.2 isC hC) hW.alike (NW.warm hW C.2.2.1.2.2.2.2) (vkW.warm hW C.2.2.2.2.1)
theorem ZGS_pass (C : Cx (ZS kK kV) A p s m c args cc nL Ts own D tys) (hH : Hp D A s.heap ws H locs) (isC : List Nat) (hC : isC.map (fun i => ws[i]?) = wc.map some) : ∀ U : State, U.heap = H → s.WarmedH U.vm → ZG (va_A wc H.size) U U.heap := fun U hU hW => (ZS_pass C hH isC hC U hU hW).1
theorem xw_ldcS (C : Cx Z A p s m c args cc nL Ts own D tys) {index q : Nat} {tx : String} (hR : vk_R own index tx q s) (hdg : decode cc pc = .ok (.ldc index, 2)) (kk : W p l e R s m args below meth c H locs cells slots Q (F0 m (pc + 2) ls (.ref q :: rest))) : W p l e R s m args below meth c H locs cells slots Q (F0 m pc ls rest) :=
  va_ldcS C.1.1 C.1.2.1 C.1.2.2.2.1 hR hdg kk
theorem xw_sget (C : Cx Z A p s m c args cc nL Ts own D tys) (hH : Hp D A s.heap ws H locs) {o n d : String} {index q : Nat} {v : Value} (hE : va_OF o n d v q A s s.heap) (hl : Cond.fieldLink own index o n d ∈ Ts) (hdg : decode cc pc = .ok (.getfield index, 3)) (kk : W p l e R s m args below meth c H locs cells slots Q (F0 m (pc + 3) ls (v :: rest))) : W p l e R s m args below meth c H locs cells slots Q (F0 m pc ls (.ref q :: rest)) :=
  vk_getf C.1.1 C.1.2.1 hE hH.2.2.1 C.1.2.2.2.1 (C.1.2.2.2.2 _ hl) (fun _ h => h) hdg kk
theorem xw_slen (C : Cx Z A p s m c args cc nL Ts own D tys) (hH : Hp D A s.heap ws H locs) {t N : Nat} {f : Nat → Value} (hT : va_T .byte t N f A s s.heap) {z : Int} (hz : (N : Int) = z) (hdg : decode cc pc = .ok (.arraylength, 1)) (kk : W p l e R s m args below meth c H locs cells slots Q (F0 m (pc + 1) ls (.int (iI z) :: rest))) : W p l e R s m args below meth c H locs cells slots Q (F0 m pc ls (.ref t :: rest)) :=
  va_tlen C.1.1 C.1.2.1 hT hH.2.2.1 (by subst hz; exact iI_nI N) hdg kk
theorem xw_sld (C : Cx Z A p s m c args cc nL Ts own D tys) (hH : Hp D A s.heap ws H locs) {t N : Nat} {g : Nat → Int32} (hT : va_T .byte t N (fun j => .int (g j)) A s s.heap) {z : Int} (h0 : 0 ≤ z) (h1 : z < N) (hn : N < 2147483648) (hdg : decode cc pc = .ok (.baload, 1)) (kk : W p l e R s m args below meth c H locs cells slots Q (F0 m (pc + 1) ls (.int (g z.toNat) :: rest))) : W p l e R s m args below meth c H locs cells slots Q (F0 m pc ls (.int (iI z) :: .ref t :: rest)) :=
  va_tb C.1.1 C.1.2.1 hT hH.2.2.1 (iI_in h0 h1 hn) (by rw [iI_clamp h0 (by omega)]) hdg kk
theorem xc_Ti {r : S → Int32} (C : Cx Z A p s m c args cc nL Ts own D tys) (hH : Hp D A s.heap ws H locs) (hM : Met l y wsc rm (gPc Zc D tys (.ref b :: As) H.size wc) (gQi D tys wc H.size post r w1) mc ms (va_A wc H.size)) (hzb : ZB Zc) (hz : ∀ U : State, U.heap = H → s.WarmedH U.vm → Zc (va_A wc H.size) U U.heap) (cw : CallW R s args own Cn index y bytes maxL ret wsc rm mc ms n) (isC isR isN : List Nat) (hC : isC.map (fun i => ws[i]?) = wc.map some) (hR : isR.map (fun i => ws[i]?) = wr.map some) (hnC : va_nd isC = true) (hnd : va_nd isR = true) (hdis : ∀ i ∈ isR, i ∉ isC) (hN : ∀ u, isN.map (fun i => (wr ++ w1 u)[i]?) = (ws' u).map some) (hnN : va_nd isN = true) (hrv : ∃ cell : Cell, H[b]? = some cell ∧ cell.vm.isStatics = false ∧ s.vm.findClass Cn = some cell.cls) (hn : As.length = n) (hls : ls.size = nL) (hst : st0 = As.reverse ++ .ref b :: rest) (hrm : (rest.map fun v => v.category).sum ≤ 8) (hdg : decode cc pc = .ok (.invokevirtual index, 3)) (hf : cells + mc ≤ R.cells ∧ slots + ms ≤ R.slots) (k : ∀ (u : S), post u → ∀ (H1 : Heap) (locs1 : List Loc), Hp D A s.heap (ws' u) H1 locs1 → W p l e R s m args below meth c H1 locs1 (cells + mc) (slots + ms) Q (F0 m (pc + 3) ls (.int (r u) :: rest))) : W p l e R s m args below meth c H locs cells slots Q (F0 m pc ls st0) := by
  obtain ⟨hP, hD, hS, hA⟩ := hH
  have hK := C.2.1
  have hPc := hP.sub (ws' := wc) isC (fm_of_map hC)
  have hFc := va_free (wc := wc) hD hS hA isC hC
  have hDc := hD.sub (ws' := wc) isC hnC hC
  refine va_calli (va_runV (rest := rest) C.1 hM cw ⟨gPc_blind hzb, hrv, fun U hU hW => ⟨rfl, by rw [hU], by rw [hU]; exact hPc, va_K.moved hW.alike C.2.1, hDc.weaken (fun _ _ _ _ => trivial), hz U hU hW⟩⟩ rfl hn hls hst (lv_room hrm) hdg hf) hS (fun q _ h => hFc q h) hFc (fun r' u t H1 locs1 ht hvm hw hB hz1 hk1 hS1 => ?_)
  obtain ⟨hw, hpo⟩ := hw
  subst hw
  obtain ⟨hP1, hK1, hD1⟩ := hB
  rw [ht] at hP1
  obtain ⟨hP2, hD2⟩ := va_join (wr := wr) (w1 := w1 u) hP hD isC isR hC hR hnd hdis hk1 hFc hP1 hD1
  exact k u hpo H1 locs1 ⟨hP2.sub isN (fm_of_map (hN u)), hD2.sub isN hnN (hN u), hS1, hA⟩
theorem xc_Ni {r : S → Int32} (C : Cx Z A p s m c args cc nL Ts own D tys) (hH : Hp D A s.heap ws H locs) (hM : Met l y wsc rm (gPc Zc D tys As H.size wc) (gQi D tys wc H.size post r w1) mc ms (va_A wc H.size)) (hzb : ZB Zc) (hz : ∀ U : State, U.heap = H → s.WarmedH U.vm → Zc (va_A wc H.size) U U.heap) {host : String} (cw : va_CN R s args own index y host bytes maxL ret wsc rm mc ms n ∧ (Cond.static y).before args s = true ∧ True) (isC isR isN : List Nat) (hC : isC.map (fun i => ws[i]?) = wc.map some) (hR : isR.map (fun i => ws[i]?) = wr.map some) (hnC : va_nd isC = true) (hnd : va_nd isR = true) (hdis : ∀ i ∈ isR, i ∉ isC) (hN : ∀ u, isN.map (fun i => (wr ++ w1 u)[i]?) = (ws' u).map some) (hnN : va_nd isN = true)  (hn : As.length = n) (hls : ls.size = nL) (hst : st0 = As.reverse ++ rest) (hrm : (rest.map fun v => v.category).sum ≤ 8) (hdg : decode cc pc = .ok (.invokestatic index, 3)) (hf : cells + mc ≤ R.cells ∧ slots + ms ≤ R.slots) (k : ∀ (u : S), post u → ∀ (H1 : Heap) (locs1 : List Loc), Hp D A s.heap (ws' u) H1 locs1 → W p l e R s m args below meth c H1 locs1 (cells + mc) (slots + ms) Q (F0 m (pc + 3) ls (.int (r u) :: rest))) : W p l e R s m args below meth c H locs cells slots Q (F0 m pc ls st0) := by
  obtain ⟨hP, hD, hS, hA⟩ := hH
  have hK := C.2.1
  have hPc := hP.sub (ws' := wc) isC (fm_of_map hC)
  have hFc := va_free (wc := wc) hD hS hA isC hC
  have hDc := hD.sub (ws' := wc) isC hnC hC
  refine va_calli (va_runSN (rest := rest) C.1 hM cw ⟨gPc_blind hzb, fun U hU hW => ⟨rfl, by rw [hU], by rw [hU]; exact hPc, va_K.moved hW.alike C.2.1, hDc.weaken (fun _ _ _ _ => trivial), hz U hU hW⟩⟩ rfl hn hls hst (lv_room hrm) hdg hf) hS (fun q _ h => hFc q h) hFc (fun r' u t H1 locs1 ht hvm hw hB hz1 hk1 hS1 => ?_)
  obtain ⟨hw, hpo⟩ := hw
  subst hw
  obtain ⟨hP1, hK1, hD1⟩ := hB
  rw [ht] at hP1
  obtain ⟨hP2, hD2⟩ := va_join (wr := wr) (w1 := w1 u) hP hD isC isR hC hR hnd hdis hk1 hFc hP1 hD1
  exact k u hpo H1 locs1 ⟨hP2.sub isN (fm_of_map (hN u)), hD2.sub isN hnN (hN u), hS1, hA⟩
end XS
