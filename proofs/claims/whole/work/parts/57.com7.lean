abbrev wgX8_isHeight : List Cond := .code yX8_isHeight cX8_isHeight 1 (some .boolean) :: WG
abbrev rmX8_isHeight : Room := { frames := 0, cells := 0, slots := 0, locals := 0 }
set_option maxHeartbeats 4000000 in
set_option maxRecDepth 100000 in
/-- isHeight -/
theorem c_X8_isHeight (lL₀ : Launch) (D₀ : va_G) (k₀ : Nat → ClassId) (sz₀ : Nat) (v₀ : Int) (hv₀ : -2147483648 ≤ v₀ ∧ v₀ < 2147483648) : Met lL₀ yX8_isHeight wgX8_isHeight rmX8_isHeight (gPc ZT D₀ (tyk k₀) [.int (iI v₀)] sz₀ []) (gQi D₀ (tyk k₀) [] sz₀ (fun (_ : Unit) => True) (fun (_ : Unit) => (iI (bz (decide (0 ≤ v₀ ∧ v₀ < 4))))) (fun (_ : Unit) => [])) 0 0 (va_A [] sz₀) := by
  refine xs_met (cc := cX8_isHeight) (maxL := 1) (ret := some .boolean) (by decide) rfl (Nat.le_of_ble_eq_true rfl) ?_
  intro pP₀ eN₀ sT₀ mI₀ below₀ meth₀ cD₀ hsz₀ args₀ QQ₀ C₀ hr₀ hlk₀ hnm₀ hQ₀ ls₀ H₀ locs₀ hl₀ hH₀
  subst hsz₀
  have hl₀ : lv_has ls₀ 1 [(0, .int (iI v₀))] := hl₀
  generalize hAe₀ : va_A [] sT₀.heap.size = A₀ at C₀ hH₀ hQ₀
  refine lv_iload_n C₀.1.1 C₀.1.2.1 dX8_isHeight_0 rfl (lv_at hl₀ 0 rfl) ?_
  refine xi_zlt (tgt := 13) C₀.1.1 C₀.1.2.1 dX8_isHeight_1 (by decide) (by omega) (fun h_1₀ => ?_) (fun h_1₀ => ?_)
  · refine lv_iconst (v := iI 0) C₀.1.1 C₀.1.2.1 dX8_isHeight_13 (by decide) ?_
    exact xr_i C₀ hH₀ hlk₀ hr₀ hQ₀ rfl hAe₀ () trivial (bF (by omega)) rfl dX8_isHeight_14
  · refine lv_iload_n C₀.1.1 C₀.1.2.1 dX8_isHeight_4 rfl (lv_at hl₀ 0 rfl) ?_
    refine lv_iconst (v := iI 4) C₀.1.1 C₀.1.2.1 dX8_isHeight_5 (by decide) ?_
    refine xi_cge (tgt := 13) C₀.1.1 C₀.1.2.1 dX8_isHeight_6 (by decide) (by omega) (by omega) (fun h_2₀ => ?_) (fun h_2₀ => ?_)
    · refine lv_iconst (v := iI 0) C₀.1.1 C₀.1.2.1 dX8_isHeight_13 (by decide) ?_
      exact xr_i C₀ hH₀ hlk₀ hr₀ hQ₀ rfl hAe₀ () trivial (bF (by omega)) rfl dX8_isHeight_14
    · refine lv_iconst (v := iI 1) C₀.1.1 C₀.1.2.1 dX8_isHeight_9 (by decide) ?_
      refine lv_goto (tgt := 14) C₀.1.1 C₀.1.2.1 dX8_isHeight_10 (by decide) ?_
      exact xr_i C₀ hH₀ hlk₀ hr₀ hQ₀ rfl hAe₀ () trivial (bT (by omega)) rfl dX8_isHeight_14
abbrev wgX8_isLayer : List Cond := .code yX8_isLayer cX8_isLayer 1 (some .boolean) :: WG
abbrev rmX8_isLayer : Room := { frames := 0, cells := 0, slots := 0, locals := 0 }
set_option maxHeartbeats 4000000 in
set_option maxRecDepth 100000 in
/-- isLayer -/
theorem c_X8_isLayer (lL₀ : Launch) (D₀ : va_G) (k₀ : Nat → ClassId) (sz₀ : Nat) (v₀ : Int) (hv₀ : -2147483648 ≤ v₀ ∧ v₀ < 2147483648) : Met lL₀ yX8_isLayer wgX8_isLayer rmX8_isLayer (gPc ZT D₀ (tyk k₀) [.int (iI v₀)] sz₀ []) (gQi D₀ (tyk k₀) [] sz₀ (fun (_ : Unit) => True) (fun (_ : Unit) => (iI (bz (decide (1 ≤ v₀ ∧ v₀ ≤ 3))))) (fun (_ : Unit) => [])) 0 0 (va_A [] sz₀) := by
  refine xs_met (cc := cX8_isLayer) (maxL := 1) (ret := some .boolean) (by decide) rfl (Nat.le_of_ble_eq_true rfl) ?_
  intro pP₀ eN₀ sT₀ mI₀ below₀ meth₀ cD₀ hsz₀ args₀ QQ₀ C₀ hr₀ hlk₀ hnm₀ hQ₀ ls₀ H₀ locs₀ hl₀ hH₀
  subst hsz₀
  have hl₀ : lv_has ls₀ 1 [(0, .int (iI v₀))] := hl₀
  generalize hAe₀ : va_A [] sT₀.heap.size = A₀ at C₀ hH₀ hQ₀
  refine lv_iload_n C₀.1.1 C₀.1.2.1 dX8_isLayer_0 rfl (lv_at hl₀ 0 rfl) ?_
  refine lv_iconst (v := iI 1) C₀.1.1 C₀.1.2.1 dX8_isLayer_1 (by decide) ?_
  refine xi_clt (tgt := 14) C₀.1.1 C₀.1.2.1 dX8_isLayer_2 (by decide) (by omega) (by omega) (fun h_1₀ => ?_) (fun h_1₀ => ?_)
  · refine lv_iconst (v := iI 0) C₀.1.1 C₀.1.2.1 dX8_isLayer_14 (by decide) ?_
    exact xr_i C₀ hH₀ hlk₀ hr₀ hQ₀ rfl hAe₀ () trivial (bF (by omega)) rfl dX8_isLayer_15
  · refine lv_iload_n C₀.1.1 C₀.1.2.1 dX8_isLayer_5 rfl (lv_at hl₀ 0 rfl) ?_
    refine lv_iconst (v := iI 3) C₀.1.1 C₀.1.2.1 dX8_isLayer_6 (by decide) ?_
    refine xi_cgt (tgt := 14) C₀.1.1 C₀.1.2.1 dX8_isLayer_7 (by decide) (by omega) (by omega) (fun h_2₀ => ?_) (fun h_2₀ => ?_)
    · refine lv_iconst (v := iI 0) C₀.1.1 C₀.1.2.1 dX8_isLayer_14 (by decide) ?_
      exact xr_i C₀ hH₀ hlk₀ hr₀ hQ₀ rfl hAe₀ () trivial (bF (by omega)) rfl dX8_isLayer_15
    · refine lv_iconst (v := iI 1) C₀.1.1 C₀.1.2.1 dX8_isLayer_10 (by decide) ?_
      refine lv_goto (tgt := 15) C₀.1.1 C₀.1.2.1 dX8_isLayer_11 (by decide) ?_
      exact xr_i C₀ hH₀ hlk₀ hr₀ hQ₀ rfl hAe₀ () trivial (bT (by omega)) rfl dX8_isLayer_15
abbrev wgX8_squareAsAnswer : List Cond := .code yX8_squareAsAnswer cX8_squareAsAnswer 1 (some .int) :: WG
abbrev rmX8_squareAsAnswer : Room := { frames := 0, cells := 0, slots := 0, locals := 0 }
set_option maxHeartbeats 4000000 in
set_option maxRecDepth 100000 in
/-- squareAsAnswer -/
theorem c_X8_squareAsAnswer (lL₀ : Launch) (D₀ : va_G) (k₀ : Nat → ClassId) (sz₀ : Nat) (v₀ : Int) (hv₀ : -2147483648 ≤ v₀ ∧ v₀ < 2147483648) : Met lL₀ yX8_squareAsAnswer wgX8_squareAsAnswer rmX8_squareAsAnswer (gPc ZT D₀ (tyk k₀) [.int (iI v₀)] sz₀ []) (gQi D₀ (tyk k₀) [] sz₀ (fun (_ : Unit) => True) (fun (_ : Unit) => (iI (if v₀ = 47 then -9 else v₀))) (fun (_ : Unit) => [])) 0 0 (va_A [] sz₀) := by
  refine xs_met (cc := cX8_squareAsAnswer) (maxL := 1) (ret := some .int) (by decide) rfl (Nat.le_of_ble_eq_true rfl) ?_
  intro pP₀ eN₀ sT₀ mI₀ below₀ meth₀ cD₀ hsz₀ args₀ QQ₀ C₀ hr₀ hlk₀ hnm₀ hQ₀ ls₀ H₀ locs₀ hl₀ hH₀
  subst hsz₀
  have hl₀ : lv_has ls₀ 1 [(0, .int (iI v₀))] := hl₀
  generalize hAe₀ : va_A [] sT₀.heap.size = A₀ at C₀ hH₀ hQ₀
  refine lv_iload_n C₀.1.1 C₀.1.2.1 dX8_squareAsAnswer_0 rfl (lv_at hl₀ 0 rfl) ?_
  refine lv_bipush (v := iI 47) C₀.1.1 C₀.1.2.1 dX8_squareAsAnswer_1 (by decide) ?_
  refine xi_cne (tgt := 11) C₀.1.1 C₀.1.2.1 dX8_squareAsAnswer_3 (by decide) (by omega) (by omega) (fun h_1₀ => ?_) (fun h_1₀ => ?_)
  · refine lv_iload_n C₀.1.1 C₀.1.2.1 dX8_squareAsAnswer_11 rfl (lv_at hl₀ 0 rfl) ?_
    exact xr_i C₀ hH₀ hlk₀ hr₀ hQ₀ rfl hAe₀ () trivial (by simp (disch := omega) only [if_pos, if_neg]) rfl dX8_squareAsAnswer_12
  · refine lv_bipush (v := iI (-9)) C₀.1.1 C₀.1.2.1 dX8_squareAsAnswer_6 (by decide) ?_
    refine lv_goto (tgt := 12) C₀.1.1 C₀.1.2.1 dX8_squareAsAnswer_8 (by decide) ?_
    exact xr_i C₀ hH₀ hlk₀ hr₀ hQ₀ rfl hAe₀ () trivial (by simp (disch := omega) only [if_pos, if_neg]) rfl dX8_squareAsAnswer_12
abbrev wgX8_firstOf : List Cond := .code yX8_firstOf cX8_firstOf 2 (some .int) :: WG
abbrev rmX8_firstOf : Room := { frames := 0, cells := 0, slots := 0, locals := 0 }
set_option maxHeartbeats 4000000 in
set_option maxRecDepth 100000 in
/-- firstOf -/
theorem c_X8_firstOf (lL₀ : Launch) (D₀ : va_G) (k₀ : Nat → ClassId) (sz₀ : Nat) (n₀ : Int) (hn₀ : 0 ≤ n₀ ∧ n₀ < 2147483648) : Met lL₀ yX8_firstOf wgX8_firstOf rmX8_firstOf (gPc ZT D₀ (tyk k₀) [.int (iI n₀)] sz₀ []) (gQi D₀ (tyk k₀) [] sz₀ (fun (_ : Unit) => True) (fun (_ : Unit) => (iI (if fdI (mBit n₀) 24 0 < 24 then fdI (mBit n₀) 24 0 else -9))) (fun (_ : Unit) => [])) 0 0 (va_A [] sz₀) := by
  refine xs_met (cc := cX8_firstOf) (maxL := 2) (ret := some .int) (by decide) rfl (Nat.le_of_ble_eq_true rfl) ?_
  intro pP₀ eN₀ sT₀ mI₀ below₀ meth₀ cD₀ hsz₀ args₀ QQ₀ C₀ hr₀ hlk₀ hnm₀ hQ₀ ls₀ H₀ locs₀ hl₀ hH₀
  subst hsz₀
  have hl₀ : lv_has ls₀ 2 [(0, .int (iI n₀))] := hl₀
  generalize hAe₀ : va_A [] sT₀.heap.size = A₀ at C₀ hH₀ hQ₀
  refine lv_iconst (v := iI 0) C₀.1.1 C₀.1.2.1 dX8_firstOf_0 (by decide) ?_
  refine lv_istore_n (lv' := [(1, .int (iI 0)), (0, .int (iI n₀))]) C₀.1.1 C₀.1.2.1 dX8_firstOf_1 rfl hl₀ (by decide) rfl (fun ls₀ hl₀ => ?_)
  have L2₀ : ∀ (nn₀ : Nat), ∀ (z₀ : Int), (fdI (mBit n₀) 24 z₀ = fdI (mBit n₀) 24 0) → (0 ≤ z₀ ∧ z₀ ≤ 24) → ((24 - z₀) < (nn₀ : Int)) → ∀ (H₀ : Heap) (locs₀ : List Loc) (ls₀ : Array Slot), Hp D₀ A₀ sT₀.heap [] H₀ locs₀ → lv_has ls₀ 2 [(0, .int (iI n₀)), (1, .int (iI z₀))] → W pP₀ lL₀ eN₀ rmX8_firstOf sT₀ mI₀ args₀ below₀ meth₀ cD₀ H₀ locs₀ 0 0 QQ₀ (F0 mI₀ 2 ls₀ []) := by
    intro nn₀
    induction nn₀ with
    | zero => intro z₀ i1₀ i2₀ hm₀; exact absurd hm₀ (by omega)
    | succ nn₀ ih2₀ =>
      intro z₀ i1₀ i2₀ hm2₀ H₀ locs₀ ls₀ hH₀ hl₀
      refine lv_iload_n C₀.1.1 C₀.1.2.1 dX8_firstOf_2 rfl (lv_at hl₀ 1 rfl) ?_
      refine lv_bipush (v := iI 24) C₀.1.1 C₀.1.2.1 dX8_firstOf_3 (by decide) ?_
      refine xi_cge (tgt := 25) C₀.1.1 C₀.1.2.1 dX8_firstOf_5 (by decide) (by omega) (by omega) (fun h_1₀ => ?_) (fun h_1₀ => ?_)
      · refine lv_bipush (v := iI (-9)) C₀.1.1 C₀.1.2.1 dX8_firstOf_25 (by decide) ?_
        exact xr_i C₀ hH₀ hlk₀ hr₀ hQ₀ rfl hAe₀ () trivial (by have ez₀ : fdI (mBit n₀) 24 0 = z₀ := (by rw [← i1₀, fdI_eq (j := z₀), if_neg (by omega)]); rw [ez₀, if_neg (by omega)]) rfl dX8_firstOf_27
      · refine lv_iload_n C₀.1.1 C₀.1.2.1 dX8_firstOf_8 rfl (lv_at hl₀ 0 rfl) ?_
        refine lv_iload_n C₀.1.1 C₀.1.2.1 dX8_firstOf_9 rfl (lv_at hl₀ 1 rfl) ?_
        refine lv_ishr C₀.1.1 C₀.1.2.1 dX8_firstOf_10 ?_
        refine lv_iconst (v := iI 1) C₀.1.1 C₀.1.2.1 dX8_firstOf_11 (by decide) ?_
        refine lv_iand C₀.1.1 C₀.1.2.1 dX8_firstOf_12 ?_
        refine xt_i (y := (iI (n₀ / (2 : Int) ^ z₀.toNat % 2))) (mBit_eq (by omega) (by omega)) ?_
        refine lv_iconst (v := iI 1) C₀.1.1 C₀.1.2.1 dX8_firstOf_13 (by decide) ?_
        refine xi_cne (tgt := 19) C₀.1.1 C₀.1.2.1 dX8_firstOf_14 (by decide) (by omega) (by omega) (fun h_2₀ => ?_) (fun h_2₀ => ?_)
        · refine lv_iinc (v := iI (z₀ + 1)) (lv' := [(1, .int (iI (z₀ + 1))), (0, .int (iI n₀))]) C₀.1.1 C₀.1.2.1 dX8_firstOf_19 hl₀ (k := 1) rfl (iI_add _ (1)) (by decide) rfl (fun ls₀ hl₀ => ?_)
          refine lv_goto (tgt := 2) C₀.1.1 C₀.1.2.1 dX8_firstOf_22 (by decide) ?_
          exact ih2₀ (z₀ + 1) (by rw [← i1₀, fdI_eq (j := z₀), if_pos ⟨by omega, by unfold mBit; rw [decide_eq_true_eq]; omega⟩]) (by omega) (by omega) _ _ _ hH₀ (lv_sub hl₀ [1, 0] rfl)
        · refine lv_iload_n C₀.1.1 C₀.1.2.1 dX8_firstOf_17 rfl (lv_at hl₀ 1 rfl) ?_
          exact xr_i C₀ hH₀ hlk₀ hr₀ hQ₀ rfl hAe₀ () trivial (by have ez₀ : fdI (mBit n₀) 24 0 = z₀ := (by rw [← i1₀, fdI_eq (j := z₀), if_neg (fun q₀ => q₀.2 (by unfold mBit; rw [decide_eq_true_eq]; omega))]); rw [ez₀, if_pos (by omega)]) rfl dX8_firstOf_18
  exact L2₀ (((24 - 0) : Int).toNat + 1) 0 (rfl) (by omega) (by omega) _ _ _ hH₀ (lv_sub hl₀ [1, 0] rfl)
abbrev wgX7_add : List Cond := .code yX7_add cX7_add 2 (some .boolean) :: WG
abbrev rmX7_add : Room := { frames := 0, cells := 0, slots := 0, locals := 0 }
set_option maxHeartbeats 4000000 in
set_option maxRecDepth 100000 in
/-- Telling.add -/
theorem c_X7_add (lL₀ : Launch) (D₀ : va_G) (k₀ : Nat → ClassId) (sz₀ : Nat) (a₀ : Nat) (ql₀ : Nat) (qf₀ : Nat) (ty₀ : Int) (fr₀ : Int) (tt₀ : Int) (du₀ : Int) (it₀ : Int) (rt₀ : Int) (fc₀ : Int) (ft₀ : Bool) (bt₀ : Bool) (tx₀ : Int → Int) (v₀ : Int) (hty₀ : 0 ≤ ty₀ ∧ ty₀ ≤ 120) (hv₀ : 0 ≤ v₀ ∧ v₀ < 256) : Met lL₀ yX7_add wgX7_add rmX7_add (gPc ZT D₀ (tyk k₀) [.ref a₀, .int (iI v₀)] sz₀ [tO a₀ ql₀ qf₀ ty₀ fr₀ tt₀ du₀ it₀ rt₀ fc₀ (bz ft₀) (bz bt₀), (ql₀, .inl (k₀ 3, 120, .inl (ia tx₀)))]) (gQi D₀ (tyk k₀) [tO a₀ ql₀ qf₀ ty₀ fr₀ tt₀ du₀ it₀ rt₀ fc₀ (bz ft₀) (bz bt₀), (ql₀, .inl (k₀ 3, 120, .inl (ia tx₀)))] sz₀ (fun (_ : Unit) => True) (fun (_ : Unit) => (iI (bz (decide (ty₀ < 120))))) (fun (_ : Unit) => [tO a₀ ql₀ qf₀ (if ty₀ < 120 then ty₀ + 1 else ty₀) fr₀ tt₀ du₀ it₀ rt₀ fc₀ (bz ft₀) (bz bt₀), (ql₀, .inl (k₀ 3, 120, .inl (ia (if ty₀ < 120 then uz tx₀ ty₀ v₀ else tx₀))))])) 0 0 (va_A [tO a₀ ql₀ qf₀ ty₀ fr₀ tt₀ du₀ it₀ rt₀ fc₀ (bz ft₀) (bz bt₀), (ql₀, .inl (k₀ 3, 120, .inl (ia tx₀)))] sz₀) := by
  refine xs_met (cc := cX7_add) (maxL := 2) (ret := some .boolean) (by decide) rfl (Nat.le_of_ble_eq_true rfl) ?_
  intro pP₀ eN₀ sT₀ mI₀ below₀ meth₀ cD₀ hsz₀ args₀ QQ₀ C₀ hr₀ hlk₀ hnm₀ hQ₀ ls₀ H₀ locs₀ hl₀ hH₀
  subst hsz₀
  have hl₀ : lv_has ls₀ 2 [(0, .ref a₀), (1, .int (iI v₀))] := hl₀
  generalize hAe₀ : va_A [tO a₀ ql₀ qf₀ ty₀ fr₀ tt₀ du₀ it₀ rt₀ fc₀ (bz ft₀) (bz bt₀), (ql₀, .inl (k₀ 3, 120, .inl (ia tx₀)))] sT₀.heap.size = A₀ at C₀ hH₀ hQ₀
  refine lv_aload_n C₀.1.1 C₀.1.2.1 dX7_add_0 rfl (lv_at hl₀ 0 rfl) ?_
  refine xw_get C₀ hH₀ 0 rfl rfl 2 (by decide) (fun w₀ h₀ => List.mem_cons_of_mem _ (iwg_X7 w₀ h₀)) (List.mem_cons_of_mem _ (WG_mem 135 (by decide +kernel) (by decide +kernel))) (v := .int (iI ty₀)) rfl dX7_add_1 ?_
  refine xi_zlt (tgt := 19) C₀.1.1 C₀.1.2.1 dX7_add_4 (by decide) (by omega) (fun h_1₀ => ?_) (fun h_1₀ => ?_)
  · refine lv_iconst (v := iI 0) C₀.1.1 C₀.1.2.1 dX7_add_19 (by decide) ?_
    exact xr_i C₀ hH₀ hlk₀ hr₀ hQ₀ rfl hAe₀ () trivial (bF (by omega)) (by first | (exfalso; omega) | simp (disch := omega) only [if_pos, if_neg]) dX7_add_20
  · refine lv_aload_n C₀.1.1 C₀.1.2.1 dX7_add_7 rfl (lv_at hl₀ 0 rfl) ?_
    refine xw_get C₀ hH₀ 0 rfl rfl 2 (by decide) (fun w₀ h₀ => List.mem_cons_of_mem _ (iwg_X7 w₀ h₀)) (List.mem_cons_of_mem _ (WG_mem 135 (by decide +kernel) (by decide +kernel))) (v := .int (iI ty₀)) rfl dX7_add_8 ?_
    refine lv_aload_n C₀.1.1 C₀.1.2.1 dX7_add_11 rfl (lv_at hl₀ 0 rfl) ?_
    refine xw_get C₀ hH₀ 0 rfl rfl 0 (by decide) (fun w₀ h₀ => List.mem_cons_of_mem _ (iwg_X7 w₀ h₀)) (List.mem_cons_of_mem _ (WG_mem 133 (by decide +kernel) (by decide +kernel))) (v := .ref ql₀) rfl dX7_add_12 ?_
    refine xw_len C₀ hH₀ 1 3 rfl rfl (z := 120) rfl dX7_add_15 ?_
    refine xi_clt (tgt := 21) C₀.1.1 C₀.1.2.1 dX7_add_16 (by decide) (by omega) (by omega) (fun h_2₀ => ?_) (fun h_2₀ => ?_)
    · refine lv_aload_n C₀.1.1 C₀.1.2.1 dX7_add_21 rfl (lv_at hl₀ 0 rfl) ?_
      refine xw_get C₀ hH₀ 0 rfl rfl 0 (by decide) (fun w₀ h₀ => List.mem_cons_of_mem _ (iwg_X7 w₀ h₀)) (List.mem_cons_of_mem _ (WG_mem 133 (by decide +kernel) (by decide +kernel))) (v := .ref ql₀) rfl dX7_add_22 ?_
      refine lv_aload_n C₀.1.1 C₀.1.2.1 dX7_add_25 rfl (lv_at hl₀ 0 rfl) ?_
      refine xw_get C₀ hH₀ 0 rfl rfl 2 (by decide) (fun w₀ h₀ => List.mem_cons_of_mem _ (iwg_X7 w₀ h₀)) (List.mem_cons_of_mem _ (WG_mem 135 (by decide +kernel) (by decide +kernel))) (v := .int (iI ty₀)) rfl dX7_add_26 ?_
      refine lv_iload_n C₀.1.1 C₀.1.2.1 dX7_add_29 rfl (lv_at hl₀ 1 rfl) ?_
      refine xw_cst (ws' := [tO a₀ ql₀ qf₀ ty₀ fr₀ tt₀ du₀ it₀ rt₀ fc₀ (bz ft₀) (bz bt₀), (ql₀, .inl (k₀ 3, 120, .inl (ia (uz tx₀ ty₀ v₀))))]) C₀ hH₀ 1 3 rfl rfl (z := ty₀) (v := v₀) (by omega) (by omega) (by decide) (chr_all hv₀).2.1 dX7_add_30 rfl (fun H₀ locs₀ hH₀ => ?_)
      refine lv_aload_n C₀.1.1 C₀.1.2.1 dX7_add_31 rfl (lv_at hl₀ 0 rfl) ?_
      refine lv_dup C₀.1.1 C₀.1.2.1 dX7_add_32 rfl ?_
      refine xw_get C₀ hH₀ 0 rfl rfl 2 (by decide) (fun w₀ h₀ => List.mem_cons_of_mem _ (iwg_X7 w₀ h₀)) (List.mem_cons_of_mem _ (WG_mem 135 (by decide +kernel) (by decide +kernel))) (v := .int (iI ty₀)) rfl dX7_add_33 ?_
      refine lv_iconst (v := iI 1) C₀.1.1 C₀.1.2.1 dX7_add_36 (by decide) ?_
      refine xi_add C₀.1.1 C₀.1.2.1 dX7_add_37 ?_
      refine xw_put (ws' := [tO a₀ ql₀ qf₀ (ty₀ + 1) fr₀ tt₀ du₀ it₀ rt₀ fc₀ (bz ft₀) (bz bt₀), (ql₀, .inl (k₀ 3, 120, .inl (ia (uz tx₀ ty₀ v₀))))]) (v := .int (iI (ty₀ + 1))) C₀ hH₀ 0 rfl rfl tyX7 tyX7_ok nmX7 2 (by decide) (fun w₀ h₀ => List.mem_cons_of_mem _ (iwg_X7 w₀ h₀)) (List.mem_cons_of_mem _ (WG_mem 135 (by decide +kernel) (by decide +kernel))) rfl rfl rfl (Nat.le_of_ble_eq_true rfl) dX7_add_38 rfl (fun H₀ locs₀ hH₀ => ?_)
      refine lv_iconst (v := iI 1) C₀.1.1 C₀.1.2.1 dX7_add_41 (by decide) ?_
      exact xr_i C₀ hH₀ hlk₀ hr₀ hQ₀ rfl hAe₀ () trivial (bT (by omega)) (by first | (exfalso; omega) | simp (disch := omega) only [if_pos, if_neg]) dX7_add_42
    · refine lv_iconst (v := iI 0) C₀.1.1 C₀.1.2.1 dX7_add_19 (by decide) ?_
      exact xr_i C₀ hH₀ hlk₀ hr₀ hQ₀ rfl hAe₀ () trivial (bF (by omega)) (by first | (exfalso; omega) | simp (disch := omega) only [if_pos, if_neg]) dX7_add_20
abbrev wgX7_letterAt : List Cond := .code yX7_letterAt cX7_letterAt 2 (some .char) :: WG
abbrev rmX7_letterAt : Room := { frames := 0, cells := 0, slots := 0, locals := 0 }
set_option maxHeartbeats 4000000 in
set_option maxRecDepth 100000 in
/-- letterAt -/
theorem c_X7_letterAt (lL₀ : Launch) (D₀ : va_G) (k₀ : Nat → ClassId) (sz₀ : Nat) (a₀ : Nat) (ql₀ : Nat) (qf₀ : Nat) (ty₀ : Int) (fr₀ : Int) (tt₀ : Int) (du₀ : Int) (it₀ : Int) (rt₀ : Int) (fc₀ : Int) (ft₀ : Bool) (bt₀ : Bool) (tx₀ : Int → Int) (x : Int) (hty₀ : 0 ≤ ty₀ ∧ ty₀ ≤ 120) (htx₀ : ∀ j₀, 0 ≤ tx₀ j₀ ∧ tx₀ j₀ < 256) (hx₀ : -2147483648 ≤ x ∧ x < 2147483648) : Met lL₀ yX7_letterAt wgX7_letterAt rmX7_letterAt (gPc ZT D₀ (tyk k₀) [.ref a₀, .int (iI x)] sz₀ [tO a₀ ql₀ qf₀ ty₀ fr₀ tt₀ du₀ it₀ rt₀ fc₀ (bz ft₀) (bz bt₀), (ql₀, .inl (k₀ 3, 120, .inl (ia tx₀)))]) (gQi D₀ (tyk k₀) [tO a₀ ql₀ qf₀ ty₀ fr₀ tt₀ du₀ it₀ rt₀ fc₀ (bz ft₀) (bz bt₀), (ql₀, .inl (k₀ 3, 120, .inl (ia tx₀)))] sz₀ (fun (_ : Unit) => True) (fun (_ : Unit) => (iI (gAt tx₀ ty₀ x))) (fun (_ : Unit) => [tO a₀ ql₀ qf₀ ty₀ fr₀ tt₀ du₀ it₀ rt₀ fc₀ (bz ft₀) (bz bt₀), (ql₀, .inl (k₀ 3, 120, .inl (ia tx₀)))])) 0 0 (va_A [tO a₀ ql₀ qf₀ ty₀ fr₀ tt₀ du₀ it₀ rt₀ fc₀ (bz ft₀) (bz bt₀), (ql₀, .inl (k₀ 3, 120, .inl (ia tx₀)))] sz₀) := by
  refine xs_met (cc := cX7_letterAt) (maxL := 2) (ret := some .char) (by decide) rfl (Nat.le_of_ble_eq_true rfl) ?_
  intro pP₀ eN₀ sT₀ mI₀ below₀ meth₀ cD₀ hsz₀ args₀ QQ₀ C₀ hr₀ hlk₀ hnm₀ hQ₀ ls₀ H₀ locs₀ hl₀ hH₀
  subst hsz₀
  have hl₀ : lv_has ls₀ 2 [(0, .ref a₀), (1, .int (iI x))] := hl₀
  generalize hAe₀ : va_A [tO a₀ ql₀ qf₀ ty₀ fr₀ tt₀ du₀ it₀ rt₀ fc₀ (bz ft₀) (bz bt₀), (ql₀, .inl (k₀ 3, 120, .inl (ia tx₀)))] sT₀.heap.size = A₀ at C₀ hH₀ hQ₀
  have htx1₀ := htx₀ x
  refine lv_iload_n C₀.1.1 C₀.1.2.1 dX7_letterAt_0 rfl (lv_at hl₀ 1 rfl) ?_
  refine xi_zlt (tgt := 30) C₀.1.1 C₀.1.2.1 dX7_letterAt_1 (by decide) (by omega) (fun h_1₀ => ?_) (fun h_1₀ => ?_)
  · refine lv_bipush (v := iI 32) C₀.1.1 C₀.1.2.1 dX7_letterAt_30 (by decide) ?_
    exact xr_i C₀ hH₀ hlk₀ hr₀ hQ₀ (chr_all (by omega)).2.2 hAe₀ () trivial (by first | (exfalso; omega) | skip; unfold gAt; first | rw [if_pos (by omega)] | rw [if_neg (by omega)]) rfl dX7_letterAt_32
  · refine lv_iload_n C₀.1.1 C₀.1.2.1 dX7_letterAt_4 rfl (lv_at hl₀ 1 rfl) ?_
    refine lv_aload_n C₀.1.1 C₀.1.2.1 dX7_letterAt_5 rfl (lv_at hl₀ 0 rfl) ?_
    refine xw_get C₀ hH₀ 0 rfl rfl 2 (by decide) (fun w₀ h₀ => List.mem_cons_of_mem _ (iwg_X7 w₀ h₀)) (List.mem_cons_of_mem _ (WG_mem 135 (by decide +kernel) (by decide +kernel))) (v := .int (iI ty₀)) rfl dX7_letterAt_6 ?_
    refine xi_cge (tgt := 30) C₀.1.1 C₀.1.2.1 dX7_letterAt_9 (by decide) (by omega) (by omega) (fun h_2₀ => ?_) (fun h_2₀ => ?_)
    · refine lv_bipush (v := iI 32) C₀.1.1 C₀.1.2.1 dX7_letterAt_30 (by decide) ?_
      exact xr_i C₀ hH₀ hlk₀ hr₀ hQ₀ (chr_all (by omega)).2.2 hAe₀ () trivial (by first | (exfalso; omega) | skip; unfold gAt; first | rw [if_pos (by omega)] | rw [if_neg (by omega)]) rfl dX7_letterAt_32
    · refine lv_iload_n C₀.1.1 C₀.1.2.1 dX7_letterAt_12 rfl (lv_at hl₀ 1 rfl) ?_
      refine lv_aload_n C₀.1.1 C₀.1.2.1 dX7_letterAt_13 rfl (lv_at hl₀ 0 rfl) ?_
      refine xw_get C₀ hH₀ 0 rfl rfl 0 (by decide) (fun w₀ h₀ => List.mem_cons_of_mem _ (iwg_X7 w₀ h₀)) (List.mem_cons_of_mem _ (WG_mem 133 (by decide +kernel) (by decide +kernel))) (v := .ref ql₀) rfl dX7_letterAt_14 ?_
      refine xw_len C₀ hH₀ 1 3 rfl rfl (z := 120) rfl dX7_letterAt_17 ?_
      refine xi_cge (tgt := 30) C₀.1.1 C₀.1.2.1 dX7_letterAt_18 (by decide) (by omega) (by omega) (fun h_3₀ => ?_) (fun h_3₀ => ?_)
      · refine lv_bipush (v := iI 32) C₀.1.1 C₀.1.2.1 dX7_letterAt_30 (by decide) ?_
        exact xr_i C₀ hH₀ hlk₀ hr₀ hQ₀ (chr_all (by omega)).2.2 hAe₀ () trivial (by first | (exfalso; omega) | skip; unfold gAt; first | rw [if_pos (by omega)] | rw [if_neg (by omega)]) rfl dX7_letterAt_32
      · refine lv_aload_n C₀.1.1 C₀.1.2.1 dX7_letterAt_21 rfl (lv_at hl₀ 0 rfl) ?_
        refine xw_get C₀ hH₀ 0 rfl rfl 0 (by decide) (fun w₀ h₀ => List.mem_cons_of_mem _ (iwg_X7 w₀ h₀)) (List.mem_cons_of_mem _ (WG_mem 133 (by decide +kernel) (by decide +kernel))) (v := .ref ql₀) rfl dX7_letterAt_22 ?_
        refine lv_iload_n C₀.1.1 C₀.1.2.1 dX7_letterAt_25 rfl (lv_at hl₀ 1 rfl) ?_
        refine xw_cld C₀ hH₀ 1 3 rfl rfl (z := x) (by omega) (by omega) (by decide) dX7_letterAt_26 ?_
        refine lv_goto (tgt := 32) C₀.1.1 C₀.1.2.1 dX7_letterAt_27 (by decide) ?_
        exact xr_i C₀ hH₀ hlk₀ hr₀ hQ₀ (chr_all (by omega)).2.2 hAe₀ () trivial (by first | (exfalso; omega) | skip; unfold gAt; first | rw [if_pos (by omega)] | rw [if_neg (by omega)]) rfl dX7_letterAt_32
abbrev wgX7_sortOf : List Cond := .code yX7_sortOf cX7_sortOf 1 (some .int) :: WG
abbrev rmX7_sortOf : Room := { frames := 0, cells := 0, slots := 0, locals := 0 }
set_option maxHeartbeats 4000000 in
set_option maxRecDepth 100000 in
/-- sortOf -/
theorem c_X7_sortOf (lL₀ : Launch) (D₀ : va_G) (k₀ : Nat → ClassId) (sz₀ : Nat) (v₀ : Int) (hv₀ : 0 ≤ v₀ ∧ v₀ < 65536) : Met lL₀ yX7_sortOf wgX7_sortOf rmX7_sortOf (gPc ZT D₀ (tyk k₀) [.int (iI v₀)] sz₀ []) (gQi D₀ (tyk k₀) [] sz₀ (fun (_ : Unit) => True) (fun (_ : Unit) => (iI (gSort v₀))) (fun (_ : Unit) => [])) 0 0 (va_A [] sz₀) := by
  refine xs_met (cc := cX7_sortOf) (maxL := 1) (ret := some .int) (by decide) rfl (Nat.le_of_ble_eq_true rfl) ?_
  intro pP₀ eN₀ sT₀ mI₀ below₀ meth₀ cD₀ hsz₀ args₀ QQ₀ C₀ hr₀ hlk₀ hnm₀ hQ₀ ls₀ H₀ locs₀ hl₀ hH₀
  subst hsz₀
  have hl₀ : lv_has ls₀ 1 [(0, .int (iI v₀))] := hl₀
  generalize hAe₀ : va_A [] sT₀.heap.size = A₀ at C₀ hH₀ hQ₀
  refine lv_iload_n C₀.1.1 C₀.1.2.1 dX7_sortOf_0 rfl (lv_at hl₀ 0 rfl) ?_
  refine lv_bipush (v := iI 97) C₀.1.1 C₀.1.2.1 dX7_sortOf_1 (by decide) ?_
  refine xi_clt (tgt := 14) C₀.1.1 C₀.1.2.1 dX7_sortOf_3 (by decide) (by omega) (by omega) (fun h_1₀ => ?_) (fun h_1₀ => ?_)
  · refine lv_iload_n C₀.1.1 C₀.1.2.1 dX7_sortOf_14 rfl (lv_at hl₀ 0 rfl) ?_
    refine lv_bipush (v := iI 48) C₀.1.1 C₀.1.2.1 dX7_sortOf_15 (by decide) ?_
    refine xi_clt (tgt := 30) C₀.1.1 C₀.1.2.1 dX7_sortOf_17 (by decide) (by omega) (by omega) (fun h_2₀ => ?_) (fun h_2₀ => ?_)
    · refine lv_iconst (v := iI 2) C₀.1.1 C₀.1.2.1 dX7_sortOf_30 (by decide) ?_
      exact xr_i C₀ hH₀ hlk₀ hr₀ hQ₀ rfl hAe₀ () trivial (by first | (exfalso; omega) | skip; unfold gSort; simp (disch := omega) only [if_pos, if_neg]) rfl dX7_sortOf_31
    · refine lv_iload_n C₀.1.1 C₀.1.2.1 dX7_sortOf_20 rfl (lv_at hl₀ 0 rfl) ?_
      refine lv_bipush (v := iI 57) C₀.1.1 C₀.1.2.1 dX7_sortOf_21 (by decide) ?_
      refine xi_cgt (tgt := 30) C₀.1.1 C₀.1.2.1 dX7_sortOf_23 (by decide) (by omega) (by omega) (fun h_3₀ => ?_) (fun h_3₀ => ?_)
      · refine lv_iconst (v := iI 2) C₀.1.1 C₀.1.2.1 dX7_sortOf_30 (by decide) ?_
        exact xr_i C₀ hH₀ hlk₀ hr₀ hQ₀ rfl hAe₀ () trivial (by first | (exfalso; omega) | skip; unfold gSort; simp (disch := omega) only [if_pos, if_neg]) rfl dX7_sortOf_31
      · refine lv_iconst (v := iI 1) C₀.1.1 C₀.1.2.1 dX7_sortOf_26 (by decide) ?_
        refine lv_goto (tgt := 31) C₀.1.1 C₀.1.2.1 dX7_sortOf_27 (by decide) ?_
        exact xr_i C₀ hH₀ hlk₀ hr₀ hQ₀ rfl hAe₀ () trivial (by first | (exfalso; omega) | skip; unfold gSort; simp (disch := omega) only [if_pos, if_neg]) rfl dX7_sortOf_31
  · refine lv_iload_n C₀.1.1 C₀.1.2.1 dX7_sortOf_6 rfl (lv_at hl₀ 0 rfl) ?_
    refine lv_bipush (v := iI 122) C₀.1.1 C₀.1.2.1 dX7_sortOf_7 (by decide) ?_
    refine xi_cgt (tgt := 14) C₀.1.1 C₀.1.2.1 dX7_sortOf_9 (by decide) (by omega) (by omega) (fun h_4₀ => ?_) (fun h_4₀ => ?_)
    · refine lv_iload_n C₀.1.1 C₀.1.2.1 dX7_sortOf_14 rfl (lv_at hl₀ 0 rfl) ?_
      refine lv_bipush (v := iI 48) C₀.1.1 C₀.1.2.1 dX7_sortOf_15 (by decide) ?_
      refine xi_clt (tgt := 30) C₀.1.1 C₀.1.2.1 dX7_sortOf_17 (by decide) (by omega) (by omega) (fun h_5₀ => ?_) (fun h_5₀ => ?_)
      · refine lv_iconst (v := iI 2) C₀.1.1 C₀.1.2.1 dX7_sortOf_30 (by decide) ?_
        exact xr_i C₀ hH₀ hlk₀ hr₀ hQ₀ rfl hAe₀ () trivial (by first | (exfalso; omega) | skip; unfold gSort; simp (disch := omega) only [if_pos, if_neg]) rfl dX7_sortOf_31
      · refine lv_iload_n C₀.1.1 C₀.1.2.1 dX7_sortOf_20 rfl (lv_at hl₀ 0 rfl) ?_
        refine lv_bipush (v := iI 57) C₀.1.1 C₀.1.2.1 dX7_sortOf_21 (by decide) ?_
        refine xi_cgt (tgt := 30) C₀.1.1 C₀.1.2.1 dX7_sortOf_23 (by decide) (by omega) (by omega) (fun h_6₀ => ?_) (fun h_6₀ => ?_)
        · refine lv_iconst (v := iI 2) C₀.1.1 C₀.1.2.1 dX7_sortOf_30 (by decide) ?_
          exact xr_i C₀ hH₀ hlk₀ hr₀ hQ₀ rfl hAe₀ () trivial (by first | (exfalso; omega) | skip; unfold gSort; simp (disch := omega) only [if_pos, if_neg]) rfl dX7_sortOf_31
        · refine lv_iconst (v := iI 1) C₀.1.1 C₀.1.2.1 dX7_sortOf_26 (by decide) ?_
          refine lv_goto (tgt := 31) C₀.1.1 C₀.1.2.1 dX7_sortOf_27 (by decide) ?_
          exact xr_i C₀ hH₀ hlk₀ hr₀ hQ₀ rfl hAe₀ () trivial (by first | (exfalso; omega) | skip; unfold gSort; simp (disch := omega) only [if_pos, if_neg]) rfl dX7_sortOf_31
    · refine lv_iconst (v := iI 0) C₀.1.1 C₀.1.2.1 dX7_sortOf_12 (by decide) ?_
      exact xr_i C₀ hH₀ hlk₀ hr₀ hQ₀ rfl hAe₀ () trivial (by first | (exfalso; omega) | skip; unfold gSort; simp (disch := omega) only [if_pos, if_neg]) rfl dX7_sortOf_13
abbrev wgX7_takeToken : List Cond := .code yX7_takeToken cX7_takeToken 2 none :: WG
abbrev rmX7_takeToken : Room := { frames := 1, cells := 0, slots := 0, locals := 21 }
set_option maxHeartbeats 4000000 in
set_option maxRecDepth 100000 in
/-- takeToken -/
theorem c_X7_takeToken (lL₀ : Launch) (D₀ : va_G) (k₀ : Nat → ClassId) (sz₀ : Nat) (a₀ : Nat) (ql₀ : Nat) (qf₀ : Nat) (ty₀ : Int) (fr₀ : Int) (tt₀ : Int) (du₀ : Int) (it₀ : Int) (rt₀ : Int) (fc₀ : Int) (ft₀ : Bool) (bt₀ : Bool) (tx₀ : Int → Int) (hty₀ : 0 ≤ ty₀ ∧ ty₀ ≤ 120) (htx₀ : ∀ j₀, 0 ≤ tx₀ j₀ ∧ tx₀ j₀ < 256) (htt₀ : 0 ≤ tt₀ ∧ tt₀ ≤ ty₀) : Met lL₀ yX7_takeToken wgX7_takeToken rmX7_takeToken (gPc ZT D₀ (tyk k₀) [.ref a₀] sz₀ [tO a₀ ql₀ qf₀ ty₀ fr₀ tt₀ du₀ it₀ rt₀ fc₀ (bz ft₀) (bz bt₀), (ql₀, .inl (k₀ 3, 120, .inl (ia tx₀)))]) (gQv D₀ (tyk k₀) [tO a₀ ql₀ qf₀ ty₀ fr₀ tt₀ du₀ it₀ rt₀ fc₀ (bz ft₀) (bz bt₀), (ql₀, .inl (k₀ 3, 120, .inl (ia tx₀)))] sz₀ (fun (_ : Unit) => True) (fun (_ : Unit) => [tO a₀ ql₀ qf₀ ty₀ (mSkip tx₀ ty₀ tt₀) (gTo tx₀ ty₀ (mSkip tx₀ ty₀ tt₀)) du₀ it₀ rt₀ fc₀ (bz ft₀) (bz bt₀), (ql₀, .inl (k₀ 3, 120, .inl (ia tx₀)))])) 0 0 (va_A [tO a₀ ql₀ qf₀ ty₀ fr₀ tt₀ du₀ it₀ rt₀ fc₀ (bz ft₀) (bz bt₀), (ql₀, .inl (k₀ 3, 120, .inl (ia tx₀)))] sz₀) := by
  refine xs_met (cc := cX7_takeToken) (maxL := 2) (ret := none) (by decide) rfl (Nat.le_of_ble_eq_true rfl) ?_
  intro pP₀ eN₀ sT₀ mI₀ below₀ meth₀ cD₀ hsz₀ args₀ QQ₀ C₀ hr₀ hlk₀ hnm₀ hQ₀ ls₀ H₀ locs₀ hl₀ hH₀
  subst hsz₀
  have hl₀ : lv_has ls₀ 2 [(0, .ref a₀)] := hl₀
  generalize hAe₀ : va_A [tO a₀ ql₀ qf₀ ty₀ fr₀ tt₀ du₀ it₀ rt₀ fc₀ (bz ft₀) (bz bt₀), (ql₀, .inl (k₀ 3, 120, .inl (ia tx₀)))] sT₀.heap.size = A₀ at C₀ hH₀ hQ₀
  obtain ⟨f₀, ef₀⟩ : ∃ f₀, f₀ = mSkip tx₀ ty₀ tt₀ := ⟨_, rfl⟩
  have rf₀ := mSkip_rg (ty := ty₀) (tx := tx₀) (p := tt₀) htt₀.2
  rw [← ef₀] at rf₀ hQ₀
  have raf₀ := gAt_rg (ty := ty₀) htx₀ f₀
  have rso₀ := gSort_rg (gAt tx₀ ty₀ f₀)
  refine lv_aload_n C₀.1.1 C₀.1.2.1 dX7_takeToken_0 rfl (lv_at hl₀ 0 rfl) ?_
  refine lv_aload_n C₀.1.1 C₀.1.2.1 dX7_takeToken_1 rfl (lv_at hl₀ 0 rfl) ?_
  refine xw_get C₀ hH₀ 0 rfl rfl 4 (by decide) (fun w₀ h₀ => List.mem_cons_of_mem _ (iwg_X7 w₀ h₀)) (List.mem_cons_of_mem _ (WG_mem 138 (by decide +kernel) (by decide +kernel))) (v := .int (iI tt₀)) rfl dX7_takeToken_2 ?_
  refine xw_put (ws' := [tO a₀ ql₀ qf₀ ty₀ tt₀ tt₀ du₀ it₀ rt₀ fc₀ (bz ft₀) (bz bt₀), (ql₀, .inl (k₀ 3, 120, .inl (ia tx₀)))]) (v := .int (iI tt₀)) C₀ hH₀ 0 rfl rfl tyX7 tyX7_ok nmX7 3 (by decide) (fun w₀ h₀ => List.mem_cons_of_mem _ (iwg_X7 w₀ h₀)) (List.mem_cons_of_mem _ (WG_mem 137 (by decide +kernel) (by decide +kernel))) rfl rfl rfl (Nat.le_of_ble_eq_true rfl) dX7_takeToken_5 rfl (fun H₀ locs₀ hH₀ => ?_)
  have L8₀ : ∀ (nn₀ : Nat), ∀ (fq₀ : Int), (mSkip tx₀ ty₀ fq₀ = f₀) → (0 ≤ fq₀ ∧ fq₀ ≤ ty₀) → ((ty₀ - fq₀) < (nn₀ : Int)) → ∀ (H₀ : Heap) (locs₀ : List Loc) (ls₀ : Array Slot), Hp D₀ A₀ sT₀.heap [tO a₀ ql₀ qf₀ ty₀ fq₀ tt₀ du₀ it₀ rt₀ fc₀ (bz ft₀) (bz bt₀), (ql₀, .inl (k₀ 3, 120, .inl (ia tx₀)))] H₀ locs₀ → lv_has ls₀ 2 [(0, .ref a₀)] → W pP₀ lL₀ eN₀ rmX7_takeToken sT₀ mI₀ args₀ below₀ meth₀ cD₀ H₀ locs₀ 0 0 QQ₀ (F0 mI₀ 8 ls₀ []) := by
    intro nn₀
    induction nn₀ with
    | zero => intro fq₀ i1₀ i2₀ hm₀; exact absurd hm₀ (by omega)
    | succ nn₀ ih8₀ =>
      intro fq₀ i1₀ i2₀ hm8₀ H₀ locs₀ ls₀ hH₀ hl₀
      have rq₀ := gAt_rg (ty := ty₀) htx₀ fq₀
      have hgi₀ : fq₀ < ty₀ → gAt tx₀ ty₀ fq₀ = mAt tx₀ ty₀ fq₀ := fun q₀ => gAt_in ⟨i2₀.1, q₀⟩
      have hge₀ : ty₀ ≤ fq₀ → mAt tx₀ ty₀ fq₀ = -1 := fun q₀ => if_neg (by omega)
      have L45₀ : ∀ (f4₀ : Int), (f4₀ = f₀) → ∀ (H₀ : Heap) (locs₀ : List Loc) (ls₀ : Array Slot), Hp D₀ A₀ sT₀.heap [tO a₀ ql₀ qf₀ ty₀ f4₀ tt₀ du₀ it₀ rt₀ fc₀ (bz ft₀) (bz bt₀), (ql₀, .inl (k₀ 3, 120, .inl (ia tx₀)))] H₀ locs₀ → lv_has ls₀ 2 [(0, .ref a₀)] → W pP₀ lL₀ eN₀ rmX7_takeToken sT₀ mI₀ args₀ below₀ meth₀ cD₀ H₀ locs₀ 0 0 QQ₀ (F0 mI₀ 45 ls₀ []) := by
        intro f4₀ je₀ H₀ locs₀ ls₀ hH₀ hl₀
        have je2₀ : f₀ = f4₀ := je₀.symm
        subst je2₀
        refine lv_aload_n C₀.1.1 C₀.1.2.1 dX7_takeToken_45 rfl (lv_at hl₀ 0 rfl) ?_
        refine lv_aload_n C₀.1.1 C₀.1.2.1 dX7_takeToken_46 rfl (lv_at hl₀ 0 rfl) ?_
        refine xw_get C₀ hH₀ 0 rfl rfl 3 (by decide) (fun w₀ h₀ => List.mem_cons_of_mem _ (iwg_X7 w₀ h₀)) (List.mem_cons_of_mem _ (WG_mem 137 (by decide +kernel) (by decide +kernel))) (v := .int (iI f₀)) rfl dX7_takeToken_47 ?_
        refine xc_Vi (wr := []) (ws' := fun _ => [tO a₀ ql₀ qf₀ ty₀ f₀ tt₀ du₀ it₀ rt₀ fc₀ (bz ft₀) (bz bt₀), (ql₀, .inl (k₀ 3, 120, .inl (ia tx₀)))]) (As := [.int (iI f₀)]) (rest := []) C₀ hH₀ (c_X7_letterAt lL₀ D₀ k₀ H₀.size a₀ ql₀ qf₀ ty₀ f₀ tt₀ du₀ it₀ rt₀ fc₀ ft₀ bt₀ tx₀ f₀ (by omega) (htx₀) (by omega)) ZT_b (fun _ _ _ => trivial) (cwV 1 C₀.1.2.2.2.2 (WG_V WG_c (WG_mem 345 (by decide +kernel) (by decide +kernel)) (WG_mem 347 (by decide +kernel) (by decide +kernel)) (WG_mem 2 (by decide +kernel) (by decide +kernel)) (WG_mem 65 (by decide +kernel) (by decide +kernel)) (WG_k (WG_mem 348 (by decide +kernel) (by decide +kernel)))) rfl rfl rfl (by decide +kernel) ⟨Nat.le_of_ble_eq_true rfl, Nat.le_of_ble_eq_true rfl⟩) [0, 1] [] [0, 1] rfl rfl (by decide) (by decide) (by decide) (fun _ => rfl) (by decide) (q0 := 0) rfl rfl rfl hl₀.1 rfl (Nat.le_of_ble_eq_true rfl) dX7_takeToken_50 ⟨Nat.le_of_ble_eq_true rfl, Nat.le_of_ble_eq_true rfl⟩ (fun _ _ H₀ locs₀ hH₀ => ?_)
        refine xc_Si (wr := [tO a₀ ql₀ qf₀ ty₀ f₀ tt₀ du₀ it₀ rt₀ fc₀ (bz ft₀) (bz bt₀), (ql₀, .inl (k₀ 3, 120, .inl (ia tx₀)))]) (ws' := fun _ => [tO a₀ ql₀ qf₀ ty₀ f₀ tt₀ du₀ it₀ rt₀ fc₀ (bz ft₀) (bz bt₀), (ql₀, .inl (k₀ 3, 120, .inl (ia tx₀)))]) (As := [.int (iI (gAt tx₀ ty₀ f₀))]) (rest := []) C₀ hH₀ (c_X7_sortOf lL₀ D₀ k₀ H₀.size (gAt tx₀ ty₀ f₀) (by omega)) ZT_b (fun _ _ _ => trivial) (va_cwS 1 C₀.1.2.2.2.2 (WG_S WG_c (WG_mem 349 (by decide +kernel) (by decide +kernel)) (WG_mem 350 (by decide +kernel) (by decide +kernel)) (WG_mem 65 (by decide +kernel) (by decide +kernel)) (WG_k (WG_mem 351 (by decide +kernel) (by decide +kernel)))) rfl rfl rfl (by decide +kernel) ⟨Nat.le_of_ble_eq_true rfl, Nat.le_of_ble_eq_true rfl⟩) [] [0, 1] [0, 1] rfl rfl (by decide) (by decide) (by decide) (fun _ => rfl) (by decide) rfl hl₀.1 rfl (Nat.le_of_ble_eq_true rfl) dX7_takeToken_53 ⟨Nat.le_of_ble_eq_true rfl, Nat.le_of_ble_eq_true rfl⟩ (fun _ _ H₀ locs₀ hH₀ => ?_)
        refine lv_istore_n (lv' := [(1, .int (iI (gSort (gAt tx₀ ty₀ f₀)))), (0, .ref a₀)]) C₀.1.1 C₀.1.2.1 dX7_takeToken_56 rfl hl₀ (by decide) rfl (fun ls₀ hl₀ => ?_)
        refine lv_aload_n C₀.1.1 C₀.1.2.1 dX7_takeToken_57 rfl (lv_at hl₀ 1 rfl) ?_
        refine lv_aload_n C₀.1.1 C₀.1.2.1 dX7_takeToken_58 rfl (lv_at hl₀ 1 rfl) ?_
        refine xw_get C₀ hH₀ 0 rfl rfl 3 (by decide) (fun w₀ h₀ => List.mem_cons_of_mem _ (iwg_X7 w₀ h₀)) (List.mem_cons_of_mem _ (WG_mem 137 (by decide +kernel) (by decide +kernel))) (v := .int (iI f₀)) rfl dX7_takeToken_59 ?_
        refine lv_iconst (v := iI 1) C₀.1.1 C₀.1.2.1 dX7_takeToken_62 (by decide) ?_
        refine xi_add C₀.1.1 C₀.1.2.1 dX7_takeToken_63 ?_
        refine xw_put (ws' := [tO a₀ ql₀ qf₀ ty₀ f₀ (f₀ + 1) du₀ it₀ rt₀ fc₀ (bz ft₀) (bz bt₀), (ql₀, .inl (k₀ 3, 120, .inl (ia tx₀)))]) (v := .int (iI (f₀ + 1))) C₀ hH₀ 0 rfl rfl tyX7 tyX7_ok nmX7 4 (by decide) (fun w₀ h₀ => List.mem_cons_of_mem _ (iwg_X7 w₀ h₀)) (List.mem_cons_of_mem _ (WG_mem 138 (by decide +kernel) (by decide +kernel))) rfl rfl rfl (Nat.le_of_ble_eq_true rfl) dX7_takeToken_64 rfl (fun H₀ locs₀ hH₀ => ?_)
        have L67₀ : ∀ (nn₀ : Nat), ∀ (tq₀ : Int), (gTq tx₀ ty₀ f₀ tq₀) → (0 ≤ tq₀ ∧ tq₀ ≤ ty₀ + 1) → ((ty₀ + 1 - tq₀) < (nn₀ : Int)) → ∀ (H₀ : Heap) (locs₀ : List Loc) (ls₀ : Array Slot), Hp D₀ A₀ sT₀.heap [tO a₀ ql₀ qf₀ ty₀ f₀ tq₀ du₀ it₀ rt₀ fc₀ (bz ft₀) (bz bt₀), (ql₀, .inl (k₀ 3, 120, .inl (ia tx₀)))] H₀ locs₀ → lv_has ls₀ 2 [(0, .ref a₀), (1, .int (iI (gSort (gAt tx₀ ty₀ f₀))))] → W pP₀ lL₀ eN₀ rmX7_takeToken sT₀ mI₀ args₀ below₀ meth₀ cD₀ H₀ locs₀ 0 0 QQ₀ (F0 mI₀ 67 ls₀ []) := by
          intro nn₀
          induction nn₀ with
          | zero => intro tq₀ j1₀ j2₀ hm₀; exact absurd hm₀ (by omega)
          | succ nn₀ ih67₀ =>
            intro tq₀ j1₀ j2₀ hm67₀ H₀ locs₀ ls₀ hH₀ hl₀
            have rtq₀ := gAt_rg (ty := ty₀) htx₀ tq₀
            have rtq2₀ := gSort_rg (gAt tx₀ ty₀ tq₀)
            have L111₀ : ∀ (t4₀ : Int), (t4₀ = gTo tx₀ ty₀ f₀) → ∀ (H₀ : Heap) (locs₀ : List Loc) (ls₀ : Array Slot), Hp D₀ A₀ sT₀.heap [tO a₀ ql₀ qf₀ ty₀ f₀ t4₀ du₀ it₀ rt₀ fc₀ (bz ft₀) (bz bt₀), (ql₀, .inl (k₀ 3, 120, .inl (ia tx₀)))] H₀ locs₀ → lv_has ls₀ 2 [(0, .ref a₀)] → W pP₀ lL₀ eN₀ rmX7_takeToken sT₀ mI₀ args₀ below₀ meth₀ cD₀ H₀ locs₀ 0 0 QQ₀ (F0 mI₀ 111 ls₀ []) := by
              intro t4₀ jf₀ H₀ locs₀ ls₀ hH₀ hl₀
              exact xr_v C₀ hH₀ hlk₀ hr₀ hQ₀ hAe₀ () trivial (by rw [jf₀]) dX7_takeToken_111
            refine lv_iload_n C₀.1.1 C₀.1.2.1 dX7_takeToken_67 rfl (lv_at hl₀ 1 rfl) ?_
            refine lv_iconst (v := iI 2) C₀.1.1 C₀.1.2.1 dX7_takeToken_68 (by decide) ?_
            refine xi_ceq (tgt := 111) C₀.1.1 C₀.1.2.1 dX7_takeToken_69 (by decide) (by omega) (by omega) (fun h_1₀ => ?_) (fun h_1₀ => ?_)
            · exact L111₀ tq₀ (gTq_e j1₀ (by omega) (by omega)) _ _ _ hH₀ (lv_sub hl₀ [0] rfl)
            · refine lv_aload_n C₀.1.1 C₀.1.2.1 dX7_takeToken_72 rfl (lv_at hl₀ 0 rfl) ?_
              refine xw_get C₀ hH₀ 0 rfl rfl 4 (by decide) (fun w₀ h₀ => List.mem_cons_of_mem _ (iwg_X7 w₀ h₀)) (List.mem_cons_of_mem _ (WG_mem 138 (by decide +kernel) (by decide +kernel))) (v := .int (iI tq₀)) rfl dX7_takeToken_73 ?_
              refine lv_aload_n C₀.1.1 C₀.1.2.1 dX7_takeToken_76 rfl (lv_at hl₀ 0 rfl) ?_
              refine xw_get C₀ hH₀ 0 rfl rfl 2 (by decide) (fun w₀ h₀ => List.mem_cons_of_mem _ (iwg_X7 w₀ h₀)) (List.mem_cons_of_mem _ (WG_mem 135 (by decide +kernel) (by decide +kernel))) (v := .int (iI ty₀)) rfl dX7_takeToken_77 ?_
              refine xi_cge (tgt := 111) C₀.1.1 C₀.1.2.1 dX7_takeToken_80 (by decide) (by omega) (by omega) (fun h_2₀ => ?_) (fun h_2₀ => ?_)
              · exact L111₀ tq₀ (gTq_e j1₀ (by omega) (by omega)) _ _ _ hH₀ (lv_sub hl₀ [0] rfl)
              · refine lv_aload_n C₀.1.1 C₀.1.2.1 dX7_takeToken_83 rfl (lv_at hl₀ 0 rfl) ?_
                refine lv_aload_n C₀.1.1 C₀.1.2.1 dX7_takeToken_84 rfl (lv_at hl₀ 0 rfl) ?_
                refine xw_get C₀ hH₀ 0 rfl rfl 4 (by decide) (fun w₀ h₀ => List.mem_cons_of_mem _ (iwg_X7 w₀ h₀)) (List.mem_cons_of_mem _ (WG_mem 138 (by decide +kernel) (by decide +kernel))) (v := .int (iI tq₀)) rfl dX7_takeToken_85 ?_
                refine xc_Vi (wr := []) (ws' := fun _ => [tO a₀ ql₀ qf₀ ty₀ f₀ tq₀ du₀ it₀ rt₀ fc₀ (bz ft₀) (bz bt₀), (ql₀, .inl (k₀ 3, 120, .inl (ia tx₀)))]) (As := [.int (iI tq₀)]) (rest := []) C₀ hH₀ (c_X7_letterAt lL₀ D₀ k₀ H₀.size a₀ ql₀ qf₀ ty₀ f₀ tq₀ du₀ it₀ rt₀ fc₀ ft₀ bt₀ tx₀ tq₀ (by omega) (htx₀) (by omega)) ZT_b (fun _ _ _ => trivial) (cwV 1 C₀.1.2.2.2.2 (WG_V WG_c (WG_mem 345 (by decide +kernel) (by decide +kernel)) (WG_mem 347 (by decide +kernel) (by decide +kernel)) (WG_mem 2 (by decide +kernel) (by decide +kernel)) (WG_mem 65 (by decide +kernel) (by decide +kernel)) (WG_k (WG_mem 348 (by decide +kernel) (by decide +kernel)))) rfl rfl rfl (by decide +kernel) ⟨Nat.le_of_ble_eq_true rfl, Nat.le_of_ble_eq_true rfl⟩) [0, 1] [] [0, 1] rfl rfl (by decide) (by decide) (by decide) (fun _ => rfl) (by decide) (q0 := 0) rfl rfl rfl hl₀.1 rfl (Nat.le_of_ble_eq_true rfl) dX7_takeToken_88 ⟨Nat.le_of_ble_eq_true rfl, Nat.le_of_ble_eq_true rfl⟩ (fun _ _ H₀ locs₀ hH₀ => ?_)
                refine xc_Si (wr := [tO a₀ ql₀ qf₀ ty₀ f₀ tq₀ du₀ it₀ rt₀ fc₀ (bz ft₀) (bz bt₀), (ql₀, .inl (k₀ 3, 120, .inl (ia tx₀)))]) (ws' := fun _ => [tO a₀ ql₀ qf₀ ty₀ f₀ tq₀ du₀ it₀ rt₀ fc₀ (bz ft₀) (bz bt₀), (ql₀, .inl (k₀ 3, 120, .inl (ia tx₀)))]) (As := [.int (iI (gAt tx₀ ty₀ tq₀))]) (rest := []) C₀ hH₀ (c_X7_sortOf lL₀ D₀ k₀ H₀.size (gAt tx₀ ty₀ tq₀) (by omega)) ZT_b (fun _ _ _ => trivial) (va_cwS 1 C₀.1.2.2.2.2 (WG_S WG_c (WG_mem 349 (by decide +kernel) (by decide +kernel)) (WG_mem 350 (by decide +kernel) (by decide +kernel)) (WG_mem 65 (by decide +kernel) (by decide +kernel)) (WG_k (WG_mem 351 (by decide +kernel) (by decide +kernel)))) rfl rfl rfl (by decide +kernel) ⟨Nat.le_of_ble_eq_true rfl, Nat.le_of_ble_eq_true rfl⟩) [] [0, 1] [0, 1] rfl rfl (by decide) (by decide) (by decide) (fun _ => rfl) (by decide) rfl hl₀.1 rfl (Nat.le_of_ble_eq_true rfl) dX7_takeToken_91 ⟨Nat.le_of_ble_eq_true rfl, Nat.le_of_ble_eq_true rfl⟩ (fun _ _ H₀ locs₀ hH₀ => ?_)
                refine lv_iload_n C₀.1.1 C₀.1.2.1 dX7_takeToken_94 rfl (lv_at hl₀ 1 rfl) ?_
                refine xi_cne (tgt := 111) C₀.1.1 C₀.1.2.1 dX7_takeToken_95 (by decide) (by omega) (by omega) (fun h_3₀ => ?_) (fun h_3₀ => ?_)
                · exact L111₀ tq₀ (gTq_e j1₀ (by omega) (by omega)) _ _ _ hH₀ (lv_sub hl₀ [0] rfl)
                · refine lv_aload_n C₀.1.1 C₀.1.2.1 dX7_takeToken_98 rfl (lv_at hl₀ 0 rfl) ?_
                  refine lv_dup C₀.1.1 C₀.1.2.1 dX7_takeToken_99 rfl ?_
                  refine xw_get C₀ hH₀ 0 rfl rfl 4 (by decide) (fun w₀ h₀ => List.mem_cons_of_mem _ (iwg_X7 w₀ h₀)) (List.mem_cons_of_mem _ (WG_mem 138 (by decide +kernel) (by decide +kernel))) (v := .int (iI tq₀)) rfl dX7_takeToken_100 ?_
                  refine lv_iconst (v := iI 1) C₀.1.1 C₀.1.2.1 dX7_takeToken_103 (by decide) ?_
                  refine xi_add C₀.1.1 C₀.1.2.1 dX7_takeToken_104 ?_
                  refine xw_put (ws' := [tO a₀ ql₀ qf₀ ty₀ f₀ (tq₀ + 1) du₀ it₀ rt₀ fc₀ (bz ft₀) (bz bt₀), (ql₀, .inl (k₀ 3, 120, .inl (ia tx₀)))]) (v := .int (iI (tq₀ + 1))) C₀ hH₀ 0 rfl rfl tyX7 tyX7_ok nmX7 4 (by decide) (fun w₀ h₀ => List.mem_cons_of_mem _ (iwg_X7 w₀ h₀)) (List.mem_cons_of_mem _ (WG_mem 138 (by decide +kernel) (by decide +kernel))) rfl rfl rfl (Nat.le_of_ble_eq_true rfl) dX7_takeToken_105 rfl (fun H₀ locs₀ hH₀ => ?_)
                  refine lv_goto (tgt := 67) C₀.1.1 C₀.1.2.1 dX7_takeToken_108 (by decide) ?_
                  exact ih67₀ (tq₀ + 1) (gTq_s j1₀ (by omega) (by omega) (by assumption)) (by omega) (by omega) _ _ _ hH₀ (lv_sub hl₀ [0, 1] rfl)
        exact L67₀ (((ty₀ + 1 - (f₀ + 1)) : Int).toNat + 1) (f₀ + 1) (gTq_0 htx₀ (by omega)) (by omega) (by omega) _ _ _ hH₀ (lv_sub hl₀ [1, 0] rfl)
      refine lv_aload_n C₀.1.1 C₀.1.2.1 dX7_takeToken_8 rfl (lv_at hl₀ 0 rfl) ?_
      refine xw_get C₀ hH₀ 0 rfl rfl 3 (by decide) (fun w₀ h₀ => List.mem_cons_of_mem _ (iwg_X7 w₀ h₀)) (List.mem_cons_of_mem _ (WG_mem 137 (by decide +kernel) (by decide +kernel))) (v := .int (iI fq₀)) rfl dX7_takeToken_9 ?_
      refine lv_aload_n C₀.1.1 C₀.1.2.1 dX7_takeToken_12 rfl (lv_at hl₀ 0 rfl) ?_
      refine xw_get C₀ hH₀ 0 rfl rfl 2 (by decide) (fun w₀ h₀ => List.mem_cons_of_mem _ (iwg_X7 w₀ h₀)) (List.mem_cons_of_mem _ (WG_mem 135 (by decide +kernel) (by decide +kernel))) (v := .int (iI ty₀)) rfl dX7_takeToken_13 ?_
      refine xi_cge (tgt := 45) C₀.1.1 C₀.1.2.1 dX7_takeToken_16 (by decide) (by omega) (by omega) (fun h_4₀ => ?_) (fun h_4₀ => ?_)
      · exact L45₀ fq₀ (by rw [← i1₀, mSkip_eq (p := fq₀), if_neg (by rw [hge₀ (by omega)]; decide)]) _ _ _ hH₀ (lv_sub hl₀ [0] rfl)
      · refine lv_aload_n C₀.1.1 C₀.1.2.1 dX7_takeToken_19 rfl (lv_at hl₀ 0 rfl) ?_
        refine lv_aload_n C₀.1.1 C₀.1.2.1 dX7_takeToken_20 rfl (lv_at hl₀ 0 rfl) ?_
        refine xw_get C₀ hH₀ 0 rfl rfl 3 (by decide) (fun w₀ h₀ => List.mem_cons_of_mem _ (iwg_X7 w₀ h₀)) (List.mem_cons_of_mem _ (WG_mem 137 (by decide +kernel) (by decide +kernel))) (v := .int (iI fq₀)) rfl dX7_takeToken_21 ?_
        refine xc_Vi (wr := []) (ws' := fun _ => [tO a₀ ql₀ qf₀ ty₀ fq₀ tt₀ du₀ it₀ rt₀ fc₀ (bz ft₀) (bz bt₀), (ql₀, .inl (k₀ 3, 120, .inl (ia tx₀)))]) (As := [.int (iI fq₀)]) (rest := []) C₀ hH₀ (c_X7_letterAt lL₀ D₀ k₀ H₀.size a₀ ql₀ qf₀ ty₀ fq₀ tt₀ du₀ it₀ rt₀ fc₀ ft₀ bt₀ tx₀ fq₀ (by omega) (htx₀) (by omega)) ZT_b (fun _ _ _ => trivial) (cwV 1 C₀.1.2.2.2.2 (WG_V WG_c (WG_mem 345 (by decide +kernel) (by decide +kernel)) (WG_mem 347 (by decide +kernel) (by decide +kernel)) (WG_mem 2 (by decide +kernel) (by decide +kernel)) (WG_mem 65 (by decide +kernel) (by decide +kernel)) (WG_k (WG_mem 348 (by decide +kernel) (by decide +kernel)))) rfl rfl rfl (by decide +kernel) ⟨Nat.le_of_ble_eq_true rfl, Nat.le_of_ble_eq_true rfl⟩) [0, 1] [] [0, 1] rfl rfl (by decide) (by decide) (by decide) (fun _ => rfl) (by decide) (q0 := 0) rfl rfl rfl hl₀.1 rfl (Nat.le_of_ble_eq_true rfl) dX7_takeToken_24 ⟨Nat.le_of_ble_eq_true rfl, Nat.le_of_ble_eq_true rfl⟩ (fun _ _ H₀ locs₀ hH₀ => ?_)
        refine lv_bipush (v := iI 32) C₀.1.1 C₀.1.2.1 dX7_takeToken_27 (by decide) ?_
        refine xi_cne (tgt := 45) C₀.1.1 C₀.1.2.1 dX7_takeToken_29 (by decide) (by omega) (by omega) (fun h_5₀ => ?_) (fun h_5₀ => ?_)
        · exact L45₀ fq₀ (by rw [← i1₀, mSkip_eq (p := fq₀), if_neg (by rw [← hgi₀ (by omega)]; omega)]) _ _ _ hH₀ (lv_sub hl₀ [0] rfl)
        · refine lv_aload_n C₀.1.1 C₀.1.2.1 dX7_takeToken_32 rfl (lv_at hl₀ 0 rfl) ?_
          refine lv_dup C₀.1.1 C₀.1.2.1 dX7_takeToken_33 rfl ?_
          refine xw_get C₀ hH₀ 0 rfl rfl 3 (by decide) (fun w₀ h₀ => List.mem_cons_of_mem _ (iwg_X7 w₀ h₀)) (List.mem_cons_of_mem _ (WG_mem 137 (by decide +kernel) (by decide +kernel))) (v := .int (iI fq₀)) rfl dX7_takeToken_34 ?_
          refine lv_iconst (v := iI 1) C₀.1.1 C₀.1.2.1 dX7_takeToken_37 (by decide) ?_
          refine xi_add C₀.1.1 C₀.1.2.1 dX7_takeToken_38 ?_
          refine xw_put (ws' := [tO a₀ ql₀ qf₀ ty₀ (fq₀ + 1) tt₀ du₀ it₀ rt₀ fc₀ (bz ft₀) (bz bt₀), (ql₀, .inl (k₀ 3, 120, .inl (ia tx₀)))]) (v := .int (iI (fq₀ + 1))) C₀ hH₀ 0 rfl rfl tyX7 tyX7_ok nmX7 3 (by decide) (fun w₀ h₀ => List.mem_cons_of_mem _ (iwg_X7 w₀ h₀)) (List.mem_cons_of_mem _ (WG_mem 137 (by decide +kernel) (by decide +kernel))) rfl rfl rfl (Nat.le_of_ble_eq_true rfl) dX7_takeToken_39 rfl (fun H₀ locs₀ hH₀ => ?_)
          refine lv_goto (tgt := 8) C₀.1.1 C₀.1.2.1 dX7_takeToken_42 (by decide) ?_
          exact ih8₀ (fq₀ + 1) (by rw [← i1₀, mSkip_eq (p := fq₀), if_pos (by rw [← hgi₀ (by omega)]; omega)]) (by omega) (by omega) _ _ _ hH₀ (lv_sub hl₀ [0] rfl)
  exact L8₀ (((ty₀ - tt₀) : Int).toNat + 1) tt₀ (ef₀.symm) (by omega) (by omega) _ _ _ hH₀ (lv_sub hl₀ [0] rfl)
abbrev wgX7_figure : List Cond := .code yX7_figure cX7_figure 1 (some .int) :: WG
abbrev rmX7_figure : Room := { frames := 1, cells := 0, slots := 0, locals := 21 }
set_option maxHeartbeats 4000000 in
set_option maxRecDepth 100000 in
/-- figure -/
theorem c_X7_figure (lL₀ : Launch) (D₀ : va_G) (k₀ : Nat → ClassId) (sz₀ : Nat) (a₀ : Nat) (ql₀ : Nat) (qf₀ : Nat) (ty₀ : Int) (fr₀ : Int) (tt₀ : Int) (du₀ : Int) (it₀ : Int) (rt₀ : Int) (fc₀ : Int) (ft₀ : Bool) (bt₀ : Bool) (tx₀ : Int → Int) (hty₀ : 0 ≤ ty₀ ∧ ty₀ ≤ 120) (htx₀ : ∀ j₀, 0 ≤ tx₀ j₀ ∧ tx₀ j₀ < 256) (htt₀ : 0 ≤ fr₀ ∧ fr₀ ≤ 121 ∧ 0 ≤ tt₀ ∧ tt₀ ≤ 122) : Met lL₀ yX7_figure wgX7_figure rmX7_figure (gPc ZT D₀ (tyk k₀) [.ref a₀] sz₀ [tO a₀ ql₀ qf₀ ty₀ fr₀ tt₀ du₀ it₀ rt₀ fc₀ (bz ft₀) (bz bt₀), (ql₀, .inl (k₀ 3, 120, .inl (ia tx₀)))]) (gQi D₀ (tyk k₀) [tO a₀ ql₀ qf₀ ty₀ fr₀ tt₀ du₀ it₀ rt₀ fc₀ (bz ft₀) (bz bt₀), (ql₀, .inl (k₀ 3, 120, .inl (ia tx₀)))] sz₀ (fun (_ : Unit) => True) (fun (_ : Unit) => (iI (if tt₀ - fr₀ = 1 ∧ gSort (gAt tx₀ ty₀ fr₀) = 1 then gAt tx₀ ty₀ fr₀ - 48 else -1))) (fun (_ : Unit) => [tO a₀ ql₀ qf₀ ty₀ fr₀ tt₀ du₀ it₀ rt₀ fc₀ (bz ft₀) (bz bt₀), (ql₀, .inl (k₀ 3, 120, .inl (ia tx₀)))])) 0 0 (va_A [tO a₀ ql₀ qf₀ ty₀ fr₀ tt₀ du₀ it₀ rt₀ fc₀ (bz ft₀) (bz bt₀), (ql₀, .inl (k₀ 3, 120, .inl (ia tx₀)))] sz₀) := by
  refine xs_met (cc := cX7_figure) (maxL := 1) (ret := some .int) (by decide) rfl (Nat.le_of_ble_eq_true rfl) ?_
  intro pP₀ eN₀ sT₀ mI₀ below₀ meth₀ cD₀ hsz₀ args₀ QQ₀ C₀ hr₀ hlk₀ hnm₀ hQ₀ ls₀ H₀ locs₀ hl₀ hH₀
  subst hsz₀
  have hl₀ : lv_has ls₀ 1 [(0, .ref a₀)] := hl₀
  generalize hAe₀ : va_A [tO a₀ ql₀ qf₀ ty₀ fr₀ tt₀ du₀ it₀ rt₀ fc₀ (bz ft₀) (bz bt₀), (ql₀, .inl (k₀ 3, 120, .inl (ia tx₀)))] sT₀.heap.size = A₀ at C₀ hH₀ hQ₀
  have raf₀ := gAt_rg (ty := ty₀) htx₀ fr₀
  have rso₀ := gSort_rg (gAt tx₀ ty₀ fr₀)
  refine lv_aload_n C₀.1.1 C₀.1.2.1 dX7_figure_0 rfl (lv_at hl₀ 0 rfl) ?_
  refine xw_get C₀ hH₀ 0 rfl rfl 4 (by decide) (fun w₀ h₀ => List.mem_cons_of_mem _ (iwg_X7 w₀ h₀)) (List.mem_cons_of_mem _ (WG_mem 138 (by decide +kernel) (by decide +kernel))) (v := .int (iI tt₀)) rfl dX7_figure_1 ?_
  refine lv_aload_n C₀.1.1 C₀.1.2.1 dX7_figure_4 rfl (lv_at hl₀ 0 rfl) ?_
  refine xw_get C₀ hH₀ 0 rfl rfl 3 (by decide) (fun w₀ h₀ => List.mem_cons_of_mem _ (iwg_X7 w₀ h₀)) (List.mem_cons_of_mem _ (WG_mem 137 (by decide +kernel) (by decide +kernel))) (v := .int (iI fr₀)) rfl dX7_figure_5 ?_
  refine xi_sub C₀.1.1 C₀.1.2.1 dX7_figure_8 ?_
  refine lv_iconst (v := iI 1) C₀.1.1 C₀.1.2.1 dX7_figure_9 (by decide) ?_
  refine xi_cne (tgt := 42) C₀.1.1 C₀.1.2.1 dX7_figure_10 (by decide) (by omega) (by omega) (fun h_1₀ => ?_) (fun h_1₀ => ?_)
  · refine lv_iconst (v := iI (-1)) C₀.1.1 C₀.1.2.1 dX7_figure_42 (by decide) ?_
    exact xr_i C₀ hH₀ hlk₀ hr₀ hQ₀ rfl hAe₀ () trivial (by simp (disch := omega) only [if_pos, if_neg]) rfl dX7_figure_43
  · refine lv_aload_n C₀.1.1 C₀.1.2.1 dX7_figure_13 rfl (lv_at hl₀ 0 rfl) ?_
    refine lv_aload_n C₀.1.1 C₀.1.2.1 dX7_figure_14 rfl (lv_at hl₀ 0 rfl) ?_
    refine xw_get C₀ hH₀ 0 rfl rfl 3 (by decide) (fun w₀ h₀ => List.mem_cons_of_mem _ (iwg_X7 w₀ h₀)) (List.mem_cons_of_mem _ (WG_mem 137 (by decide +kernel) (by decide +kernel))) (v := .int (iI fr₀)) rfl dX7_figure_15 ?_
    refine xc_Vi (wr := []) (ws' := fun _ => [tO a₀ ql₀ qf₀ ty₀ fr₀ tt₀ du₀ it₀ rt₀ fc₀ (bz ft₀) (bz bt₀), (ql₀, .inl (k₀ 3, 120, .inl (ia tx₀)))]) (As := [.int (iI fr₀)]) (rest := []) C₀ hH₀ (c_X7_letterAt lL₀ D₀ k₀ H₀.size a₀ ql₀ qf₀ ty₀ fr₀ tt₀ du₀ it₀ rt₀ fc₀ ft₀ bt₀ tx₀ fr₀ (by omega) (htx₀) (by omega)) ZT_b (fun _ _ _ => trivial) (cwV 1 C₀.1.2.2.2.2 (WG_V WG_c (WG_mem 345 (by decide +kernel) (by decide +kernel)) (WG_mem 347 (by decide +kernel) (by decide +kernel)) (WG_mem 2 (by decide +kernel) (by decide +kernel)) (WG_mem 65 (by decide +kernel) (by decide +kernel)) (WG_k (WG_mem 348 (by decide +kernel) (by decide +kernel)))) rfl rfl rfl (by decide +kernel) ⟨Nat.le_of_ble_eq_true rfl, Nat.le_of_ble_eq_true rfl⟩) [0, 1] [] [0, 1] rfl rfl (by decide) (by decide) (by decide) (fun _ => rfl) (by decide) (q0 := 0) rfl rfl rfl hl₀.1 rfl (Nat.le_of_ble_eq_true rfl) dX7_figure_18 ⟨Nat.le_of_ble_eq_true rfl, Nat.le_of_ble_eq_true rfl⟩ (fun _ _ H₀ locs₀ hH₀ => ?_)
    refine xc_Si (wr := [tO a₀ ql₀ qf₀ ty₀ fr₀ tt₀ du₀ it₀ rt₀ fc₀ (bz ft₀) (bz bt₀), (ql₀, .inl (k₀ 3, 120, .inl (ia tx₀)))]) (ws' := fun _ => [tO a₀ ql₀ qf₀ ty₀ fr₀ tt₀ du₀ it₀ rt₀ fc₀ (bz ft₀) (bz bt₀), (ql₀, .inl (k₀ 3, 120, .inl (ia tx₀)))]) (As := [.int (iI (gAt tx₀ ty₀ fr₀))]) (rest := []) C₀ hH₀ (c_X7_sortOf lL₀ D₀ k₀ H₀.size (gAt tx₀ ty₀ fr₀) (by omega)) ZT_b (fun _ _ _ => trivial) (va_cwS 1 C₀.1.2.2.2.2 (WG_S WG_c (WG_mem 349 (by decide +kernel) (by decide +kernel)) (WG_mem 350 (by decide +kernel) (by decide +kernel)) (WG_mem 65 (by decide +kernel) (by decide +kernel)) (WG_k (WG_mem 351 (by decide +kernel) (by decide +kernel)))) rfl rfl rfl (by decide +kernel) ⟨Nat.le_of_ble_eq_true rfl, Nat.le_of_ble_eq_true rfl⟩) [] [0, 1] [0, 1] rfl rfl (by decide) (by decide) (by decide) (fun _ => rfl) (by decide) rfl hl₀.1 rfl (Nat.le_of_ble_eq_true rfl) dX7_figure_21 ⟨Nat.le_of_ble_eq_true rfl, Nat.le_of_ble_eq_true rfl⟩ (fun _ _ H₀ locs₀ hH₀ => ?_)
    refine lv_iconst (v := iI 1) C₀.1.1 C₀.1.2.1 dX7_figure_24 (by decide) ?_
    refine xi_cne (tgt := 42) C₀.1.1 C₀.1.2.1 dX7_figure_25 (by decide) (by omega) (by omega) (fun h_2₀ => ?_) (fun h_2₀ => ?_)
    · refine lv_iconst (v := iI (-1)) C₀.1.1 C₀.1.2.1 dX7_figure_42 (by decide) ?_
      exact xr_i C₀ hH₀ hlk₀ hr₀ hQ₀ rfl hAe₀ () trivial (by simp (disch := omega) only [if_pos, if_neg]) rfl dX7_figure_43
    · refine lv_aload_n C₀.1.1 C₀.1.2.1 dX7_figure_28 rfl (lv_at hl₀ 0 rfl) ?_
      refine lv_aload_n C₀.1.1 C₀.1.2.1 dX7_figure_29 rfl (lv_at hl₀ 0 rfl) ?_
      refine xw_get C₀ hH₀ 0 rfl rfl 3 (by decide) (fun w₀ h₀ => List.mem_cons_of_mem _ (iwg_X7 w₀ h₀)) (List.mem_cons_of_mem _ (WG_mem 137 (by decide +kernel) (by decide +kernel))) (v := .int (iI fr₀)) rfl dX7_figure_30 ?_
      refine xc_Vi (wr := []) (ws' := fun _ => [tO a₀ ql₀ qf₀ ty₀ fr₀ tt₀ du₀ it₀ rt₀ fc₀ (bz ft₀) (bz bt₀), (ql₀, .inl (k₀ 3, 120, .inl (ia tx₀)))]) (As := [.int (iI fr₀)]) (rest := []) C₀ hH₀ (c_X7_letterAt lL₀ D₀ k₀ H₀.size a₀ ql₀ qf₀ ty₀ fr₀ tt₀ du₀ it₀ rt₀ fc₀ ft₀ bt₀ tx₀ fr₀ (by omega) (htx₀) (by omega)) ZT_b (fun _ _ _ => trivial) (cwV 1 C₀.1.2.2.2.2 (WG_V WG_c (WG_mem 345 (by decide +kernel) (by decide +kernel)) (WG_mem 347 (by decide +kernel) (by decide +kernel)) (WG_mem 2 (by decide +kernel) (by decide +kernel)) (WG_mem 65 (by decide +kernel) (by decide +kernel)) (WG_k (WG_mem 348 (by decide +kernel) (by decide +kernel)))) rfl rfl rfl (by decide +kernel) ⟨Nat.le_of_ble_eq_true rfl, Nat.le_of_ble_eq_true rfl⟩) [0, 1] [] [0, 1] rfl rfl (by decide) (by decide) (by decide) (fun _ => rfl) (by decide) (q0 := 0) rfl rfl rfl hl₀.1 rfl (Nat.le_of_ble_eq_true rfl) dX7_figure_33 ⟨Nat.le_of_ble_eq_true rfl, Nat.le_of_ble_eq_true rfl⟩ (fun _ _ H₀ locs₀ hH₀ => ?_)
      refine lv_bipush (v := iI 48) C₀.1.1 C₀.1.2.1 dX7_figure_36 (by decide) ?_
      refine xi_sub C₀.1.1 C₀.1.2.1 dX7_figure_38 ?_
      refine lv_goto (tgt := 43) C₀.1.1 C₀.1.2.1 dX7_figure_39 (by decide) ?_
      exact xr_i C₀ hH₀ hlk₀ hr₀ hQ₀ rfl hAe₀ () trivial (by simp (disch := omega) only [if_pos, if_neg]) rfl dX7_figure_43
