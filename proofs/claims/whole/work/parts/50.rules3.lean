/-! rows of Grounds, answers that are references -/
def rfA (l : List Nat) : Nat → Option Nat := fun j => l[j]?
abbrev rA (a : Nat) (cA : ClassId) (l : List Nat) : Nat × va_E := (a, .inl (cA, l.length, .inr (.inr (.inr (.inr (rfA l))))))
abbrev sO (a q : Nat) : Nat × va_E := (a, .inr (6, [.ref q]))
abbrev pO (a q : Nat) (kn : Int) : Nat × va_E := (a, .inr (4, [.ref q, .int (iI kn)]))
abbrev nO (a q : Nat) (kp : Int) : Nat × va_E := (a, .inr (1, [.ref q, .int (iI kp)]))
def gQr (D : va_G) (tys : List (ClassId × FieldType)) (ws : va_W) (sz : Nat) {S : Type} (post : S → Prop) (r : S → Nat) (w1 : S → va_W) : Array Value → State → Outcome → State → Prop := va_Qr (fun (u : S) => post u) (fun u a t => a = r u ∧ gB D tys (va_A ws sz) (w1 u) t) (va_A ws sz)
section XQ
variable {p : Program} {l : Launch} {e : Env} {R : Room} {s : State} {m : MethodId} {args : Array Value} {below : List Frame} {meth : Method} {c : Code} {H : Heap} {locs : List Loc} {cells slots : Nat} {Q : State → Prop} {cc : ByteArray} {pc : Nat} {ls : Array Slot} {rest : List Value}
variable {Z : Zty} {A : Nat → Prop} {nL : Nat} {Ts : List Cond} {own : String} {D : va_G} {tys : List (ClassId × FieldType)} {ws ws' : va_W} {a : Nat}
theorem xt_r {x y : Nat} (h : x = y) (k : W p l e R s m args below meth c H locs cells slots Q (F0 m pc ls (.ref y :: rest))) : W p l e R s m args below meth c H locs cells slots Q (F0 m pc ls (.ref x :: rest)) := h ▸ k
theorem xw_ald (C : Cx Z A p s m c args cc nL Ts own D tys) (hH : Hp D A s.heap ws H locs) (q0 t0 : Nat) {cA : ClassId} {Cn : String} {l0 : List Nat} (ha : ws[q0]? = some (a, .inl (cA, l0.length, .inr (.inr (.inr (.inr (rfA l0))))))) (ht : tys[t0]? = some (cA, .object Cn)) {z : Int} (h0 : 0 ≤ z) (h1 : z < l0.length) (hn : l0.length < 2147483648) {r : Nat} (hv : l0[z.toNat]? = some r) (hdg : decode cc pc = .ok (.aaload, 1)) (kk : W p l e R s m args below meth c H locs cells slots Q (F0 m (pc + 1) ls (.ref r :: rest))) : W p l e R s m args below meth c H locs cells slots Q (F0 m pc ls (.int (iI z) :: .ref a :: rest)) := by
  refine va_aldq C.1.1 C.1.2.1 C.2.1 hH.1 q0 t0 ha ht (iI_in h0 h1 hn) hdg ?_
  have e : va_rf (rfA l0 (iI z).toNatClampNeg) = .ref r := by
    rw [iI_clamp h0 (by omega)]
    unfold rfA
    rw [hv]
    rfl
  rw [e]
  exact kk
variable {ws0 : va_W} {sz : Nat} {S : Type} {post : S → Prop} {w1 : S → va_W}
theorem xr_r (C : Cx Z A p s m c args cc nL Ts own D tys) (hH : Hp D A s.heap ws H locs) (hlk : meth.locks = false) {nm : String} (hr : meth.sig.returnType = some (.object nm)) {v : Nat} {r : S → Nat} (hQ : Q = MQ below (gQr D tys ws0 sz post r w1) args s cells slots A) (hA : va_A ws0 sz = A) (u0 : S) (hp : post u0) (hv : v = r u0) (hw : ws = w1 u0) (hdg : decode cc pc = .ok (.areturn, 1)) : W p l e R s m args below meth c H locs cells slots Q (F0 m pc ls [.ref v]) := by
  subst hA; subst hQ; rw [hw] at hH
  exact W.aret C.1.1 C.1.2.1 hr (Or.inl ⟨_, rfl⟩) (Or.inr ⟨_, rfl⟩) (fun t ht hW => ⟨⟨u0, v, rfl, hp, hv, by rw [ht]; exact hH.1, va_K.moved hW.alike C.2.1, hH.2.1⟩, hH.2.2.1.F ht⟩) hH.2.2.1.2.2 hdg hlk
end XQ
section XR2
variable {p : Program} {l : Launch} {e : Env} {R : Room} {s : State} {m : MethodId} {args : Array Value} {below : List Frame} {meth : Method} {c : Code} {H : Heap} {locs : List Loc} {cells slots : Nat} {Q : State → Prop} {cc : ByteArray} {pc : Nat} {ls : Array Slot}
variable {Z Zc : Zty} {A : Nat → Prop} {nL : Nat} {Ts : List Cond} {own : String} {D : va_G} {tys : List (ClassId × FieldType)} {ws wc wr : va_W} {S : Type} {post : S → Prop} {w1 ws' : S → va_W} {b : Nat} {y : MethodName} {wsc : List Cond} {rm : Room} {mc ms n index maxL : Nat} {bytes : ByteArray} {ret : Option FieldType} {Cn : String} {As rest st0 : List Value}
theorem xc_Vr {r : S → Nat} (C : Cx Z A p s m c args cc nL Ts own D tys) (hH : Hp D A s.heap ws H locs) (hM : Met l y wsc rm (gPc Zc D tys (.ref b :: As) H.size wc) (gQr D tys wc H.size post r w1) mc ms (va_A wc H.size)) (hzb : ZB Zc) (hz : ∀ U : State, U.heap = H → s.WarmedH U.vm → Zc (va_A wc H.size) U U.heap) (cw : CallW R s args own Cn index y bytes maxL ret wsc rm mc ms n) (isC isR isN : List Nat) (hC : isC.map (fun i => ws[i]?) = wc.map some) (hR : isR.map (fun i => ws[i]?) = wr.map some) (hnC : va_nd isC = true) (hnd : va_nd isR = true) (hdis : ∀ i ∈ isR, i ∉ isC) (hN : ∀ u, isN.map (fun i => (wr ++ w1 u)[i]?) = (ws' u).map some) (hnN : va_nd isN = true) {q0 ci : Nat} {fs : List Value} {T : u_T} {N : Nat} (he : wc[q0]? = some (b, .inr (ci, fs))) (hc : vwCl[ci]? = some (Cn, T, N)) (hn : As.length = n) (hls : ls.size = nL) (hst : st0 = As.reverse ++ .ref b :: rest) (hrm : (rest.map fun v => v.category).sum ≤ 8) (hdg : decode cc pc = .ok (.invokevirtual index, 3)) (hf : cells + mc ≤ R.cells ∧ slots + ms ≤ R.slots) (k : ∀ (u : S), post u → ∀ (H1 : Heap) (locs1 : List Loc), Hp D A s.heap (ws' u) H1 locs1 → W p l e R s m args below meth c H1 locs1 (cells + mc) (slots + ms) Q (F0 m (pc + 3) ls (.ref (r u) :: rest))) : W p l e R s m args below meth c H locs cells slots Q (F0 m pc ls st0) := by
  obtain ⟨hP, hD, hS, hA⟩ := hH
  have hK := C.2.1
  have hPc := hP.sub (ws' := wc) isC (fm_of_map hC)
  have hFc := va_free (wc := wc) hD hS hA isC hC
  have hDc := hD.sub (ws' := wc) isC hnC hC
  refine va_callr (va_runV (rest := rest) C.1 hM cw ⟨gPc_blind hzb, va_recv (hK.sub (tys' := []) [] rfl) hPc hc he, fun U hU hW => ⟨rfl, by rw [hU], by rw [hU]; exact hPc, va_K.moved hW.alike C.2.1, hDc.weaken (fun _ _ _ _ => trivial), hz U hU hW⟩⟩ rfl hn hls hst (lv_room hrm) hdg hf) hS (fun q _ h => hFc q h) hFc (fun u ra t H1 locs1 ht hvm hw hB hz1 hk1 hS1 => ?_)
  have hpo := hw
  obtain ⟨era, hP1, hK1, hD1⟩ := hB
  subst era
  rw [ht] at hP1
  obtain ⟨hP2, hD2⟩ := va_join (wr := wr) (w1 := w1 u) hP hD isC isR hC hR hnd hdis hk1 hFc hP1 hD1
  exact k u hpo H1 locs1 ⟨hP2.sub isN (fm_of_map (hN u)), hD2.sub isN hnN (hN u), hS1, hA⟩
end XR2
