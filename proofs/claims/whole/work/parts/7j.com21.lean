abbrev wgJ3_checkIndex_8e157 : List Cond := .code yJ3_checkIndex_8e157 cJ3_checkIndex_8e157 3 (some .int) :: WG
abbrev rmJ3_checkIndex_8e157 : Room := { frames := 0, cells := 0, slots := 0, locals := 0 }
set_option maxHeartbeats 4000000 in
set_option maxRecDepth 100000 in
/-- Preconditions.checkIndex -/
theorem c_J3_checkIndex_8e157 (lL₀ : Launch) (D₀ : va_G) (k₀ : Nat → ClassId) (sz₀ : Nat) (z₀ : Int) (n₀ : Int) (qq₀ : Nat) (hz₀ : 0 ≤ z₀ ∧ z₀ < n₀) (hn₀ : 0 ≤ n₀ ∧ n₀ < 2147483648) : Met lL₀ yJ3_checkIndex_8e157 wgJ3_checkIndex_8e157 rmJ3_checkIndex_8e157 (gPc ZT D₀ (tyk k₀) [.int (iI z₀), .int (iI n₀), .ref qq₀] sz₀ []) (gQi D₀ (tyk k₀) [] sz₀ (fun (_ : Unit) => True) (fun (_ : Unit) => (iI z₀)) (fun (_ : Unit) => [])) 0 0 (va_A [] sz₀) := by
  refine xs_met (cc := cJ3_checkIndex_8e157) (maxL := 3) (ret := some .int) (by decide) rfl (Nat.le_of_ble_eq_true rfl) ?_
  intro pP₀ eN₀ sT₀ mI₀ below₀ meth₀ cD₀ hsz₀ args₀ QQ₀ C₀ hr₀ hlk₀ hnm₀ hQ₀ ls₀ H₀ locs₀ hl₀ hH₀
  subst hsz₀
  have hl₀ : lv_has ls₀ 3 [(0, .int (iI z₀)), (1, .int (iI n₀)), (2, .ref qq₀)] := hl₀
  generalize hAe₀ : va_A [] sT₀.heap.size = A₀ at C₀ hH₀ hQ₀
  refine lv_iload_n C₀.1.1 C₀.1.2.1 dJ3_checkIndex_8e157_0 rfl (lv_at hl₀ 0 rfl) ?_
  refine xi_zlt (tgt := 9) C₀.1.1 C₀.1.2.1 dJ3_checkIndex_8e157_1 (by decide) (by omega) (fun h_1₀ => ?_) (fun h_1₀ => ?_)
  · exfalso; omega
  · refine lv_iload_n C₀.1.1 C₀.1.2.1 dJ3_checkIndex_8e157_4 rfl (lv_at hl₀ 0 rfl) ?_
    refine lv_iload_n C₀.1.1 C₀.1.2.1 dJ3_checkIndex_8e157_5 rfl (lv_at hl₀ 1 rfl) ?_
    refine xi_clt (tgt := 16) C₀.1.1 C₀.1.2.1 dJ3_checkIndex_8e157_6 (by decide) (by omega) (by omega) (fun h_2₀ => ?_) (fun h_2₀ => ?_)
    · refine lv_iload_n C₀.1.1 C₀.1.2.1 dJ3_checkIndex_8e157_16 rfl (lv_at hl₀ 0 rfl) ?_
      exact xr_i C₀ hH₀ hlk₀ hr₀ hQ₀ rfl hAe₀ () trivial rfl rfl dJ3_checkIndex_8e157_17
    · exfalso; omega
abbrev wgJ3_checkIndex_n : List Cond := .code yJ3_checkIndex_8e157 cJ3_checkIndex_8e157 3 (some .int) :: WG
abbrev rmJ3_checkIndex_n : Room := { frames := 0, cells := 0, slots := 0, locals := 0 }
set_option maxHeartbeats 4000000 in
set_option maxRecDepth 100000 in
/-- Preconditions.checkIndex -/
theorem c_J3_checkIndex_n (lL₀ : Launch) (D₀ : va_G) (k₀ : Nat → ClassId) (sz₀ : Nat) (z₀ : Int) (n₀ : Int) (hz₀ : 0 ≤ z₀ ∧ z₀ < n₀) (hn₀ : 0 ≤ n₀ ∧ n₀ < 2147483648) : Met lL₀ yJ3_checkIndex_8e157 wgJ3_checkIndex_n rmJ3_checkIndex_n (gPc ZT D₀ (tyk k₀) [.int (iI z₀), .int (iI n₀), .null] sz₀ []) (gQi D₀ (tyk k₀) [] sz₀ (fun (_ : Unit) => True) (fun (_ : Unit) => (iI z₀)) (fun (_ : Unit) => [])) 0 0 (va_A [] sz₀) := by
  refine xs_met (cc := cJ3_checkIndex_8e157) (maxL := 3) (ret := some .int) (by decide) rfl (Nat.le_of_ble_eq_true rfl) ?_
  intro pP₀ eN₀ sT₀ mI₀ below₀ meth₀ cD₀ hsz₀ args₀ QQ₀ C₀ hr₀ hlk₀ hnm₀ hQ₀ ls₀ H₀ locs₀ hl₀ hH₀
  subst hsz₀
  have hl₀ : lv_has ls₀ 3 [(0, .int (iI z₀)), (1, .int (iI n₀)), (2, .null)] := hl₀
  generalize hAe₀ : va_A [] sT₀.heap.size = A₀ at C₀ hH₀ hQ₀
  refine lv_iload_n C₀.1.1 C₀.1.2.1 dJ3_checkIndex_8e157_0 rfl (lv_at hl₀ 0 rfl) ?_
  refine xi_zlt (tgt := 9) C₀.1.1 C₀.1.2.1 dJ3_checkIndex_8e157_1 (by decide) (by omega) (fun h_1₀ => ?_) (fun h_1₀ => ?_)
  · exfalso; omega
  · refine lv_iload_n C₀.1.1 C₀.1.2.1 dJ3_checkIndex_8e157_4 rfl (lv_at hl₀ 0 rfl) ?_
    refine lv_iload_n C₀.1.1 C₀.1.2.1 dJ3_checkIndex_8e157_5 rfl (lv_at hl₀ 1 rfl) ?_
    refine xi_clt (tgt := 16) C₀.1.1 C₀.1.2.1 dJ3_checkIndex_8e157_6 (by decide) (by omega) (by omega) (fun h_2₀ => ?_) (fun h_2₀ => ?_)
    · refine lv_iload_n C₀.1.1 C₀.1.2.1 dJ3_checkIndex_8e157_16 rfl (lv_at hl₀ 0 rfl) ?_
      exact xr_i C₀ hH₀ hlk₀ hr₀ hQ₀ rfl hAe₀ () trivial rfl rfl dJ3_checkIndex_8e157_17
    · exfalso; omega
abbrev wgJ0_checkIndex_df160 : List Cond := .code yJ0_checkIndex_df160 cJ0_checkIndex_df160 2 none :: WG
abbrev rmJ0_checkIndex_df160 : Room := { frames := 1, cells := 0, slots := 0, locals := 22 }
set_option maxHeartbeats 4000000 in
set_option maxRecDepth 100000 in
/-- String.checkIndex -/
theorem c_J0_checkIndex_df160 (lL₀ : Launch) (D₀ : va_G) (k₀ : Nat → ClassId) (sz₀ : Nat) (z₀ : Int) (n₀ : Int) (kK₀ : Nat → Nat) (kV₀ : Nat → Nat) (hz₀ : 0 ≤ z₀ ∧ z₀ < n₀) (hn₀ : 0 ≤ n₀ ∧ n₀ < 2147483648) : Met lL₀ yJ0_checkIndex_df160 wgJ0_checkIndex_df160 rmJ0_checkIndex_df160 (gPc (ZS kK₀ kV₀) D₀ (tyk k₀) [.int (iI z₀), .int (iI n₀)] sz₀ []) (gQv D₀ (tyk k₀) [] sz₀ (fun (_ : Unit) => True) (fun (_ : Unit) => [])) 0 0 (va_A [] sz₀) := by
  refine xs_met (cc := cJ0_checkIndex_df160) (maxL := 2) (ret := none) (by decide) rfl (Nat.le_of_ble_eq_true rfl) ?_
  intro pP₀ eN₀ sT₀ mI₀ below₀ meth₀ cD₀ hsz₀ args₀ QQ₀ C₀ hr₀ hlk₀ hnm₀ hQ₀ ls₀ H₀ locs₀ hl₀ hH₀
  subst hsz₀
  have hl₀ : lv_has ls₀ 2 [(0, .int (iI z₀)), (1, .int (iI n₀))] := hl₀
  generalize hAe₀ : va_A [] sT₀.heap.size = A₀ at C₀ hH₀ hQ₀
  refine lv_iload_n C₀.1.1 C₀.1.2.1 dJ0_checkIndex_df160_0 rfl (lv_at hl₀ 0 rfl) ?_
  refine lv_iload_n C₀.1.1 C₀.1.2.1 dJ0_checkIndex_df160_1 rfl (lv_at hl₀ 1 rfl) ?_
  rcases id C₀.2.2.2.2.2.2 with hqf₀ | ⟨qf₀, hqf₀⟩
  · refine xw_gets C₀ hH₀ hqf₀ (List.mem_cons_of_mem _ (WG_mem 389 (by decide +kernel) (by decide +kernel))) dJ0_checkIndex_df160_2 ?_
    refine xc_Si (wr := []) (ws' := fun _ => []) (As := [.int (iI z₀), .int (iI n₀), .null]) (rest := []) C₀ hH₀ (c_J3_checkIndex_n lL₀ D₀ k₀ H₀.size z₀ n₀ (by omega) (by omega)) ZT_b (fun _ _ _ => trivial) (va_cwS 3 C₀.1.2.2.2.2 (WG_S WG_c (WG_mem 391 (by decide +kernel) (by decide +kernel)) (WG_mem 392 (by decide +kernel) (by decide +kernel)) (WG_mem 76 (by decide +kernel) (by decide +kernel)) (WG_k (WG_mem 393 (by decide +kernel) (by decide +kernel)))) rfl rfl rfl (by decide +kernel) ⟨Nat.le_of_ble_eq_true rfl, Nat.le_of_ble_eq_true rfl⟩) [] [] [] rfl rfl (by decide) (by decide) (by decide) (fun _ => rfl) (by decide) rfl hl₀.1 rfl (Nat.le_of_ble_eq_true rfl) dJ0_checkIndex_df160_5 ⟨Nat.le_of_ble_eq_true rfl, Nat.le_of_ble_eq_true rfl⟩ (fun _ _ H₀ locs₀ hH₀ => ?_)
    refine lv_pop C₀.1.1 C₀.1.2.1 dJ0_checkIndex_df160_8 rfl ?_
    exact xr_v C₀ hH₀ hlk₀ hr₀ hQ₀ hAe₀ () trivial rfl dJ0_checkIndex_df160_9
  · refine xw_gets C₀ hH₀ hqf₀ (List.mem_cons_of_mem _ (WG_mem 389 (by decide +kernel) (by decide +kernel))) dJ0_checkIndex_df160_2 ?_
    refine xc_Si (wr := []) (ws' := fun _ => []) (As := [.int (iI z₀), .int (iI n₀), .ref qf₀]) (rest := []) C₀ hH₀ (c_J3_checkIndex_8e157 lL₀ D₀ k₀ H₀.size z₀ n₀ qf₀ (by omega) (by omega)) ZT_b (fun _ _ _ => trivial) (va_cwS 3 C₀.1.2.2.2.2 (WG_S WG_c (WG_mem 391 (by decide +kernel) (by decide +kernel)) (WG_mem 392 (by decide +kernel) (by decide +kernel)) (WG_mem 76 (by decide +kernel) (by decide +kernel)) (WG_k (WG_mem 393 (by decide +kernel) (by decide +kernel)))) rfl rfl rfl (by decide +kernel) ⟨Nat.le_of_ble_eq_true rfl, Nat.le_of_ble_eq_true rfl⟩) [] [] [] rfl rfl (by decide) (by decide) (by decide) (fun _ => rfl) (by decide) rfl hl₀.1 rfl (Nat.le_of_ble_eq_true rfl) dJ0_checkIndex_df160_5 ⟨Nat.le_of_ble_eq_true rfl, Nat.le_of_ble_eq_true rfl⟩ (fun _ _ H₀ locs₀ hH₀ => ?_)
    refine lv_pop C₀.1.1 C₀.1.2.1 dJ0_checkIndex_df160_8 rfl ?_
    exact xr_v C₀ hH₀ hlk₀ hr₀ hQ₀ hAe₀ () trivial rfl dJ0_checkIndex_df160_9
abbrev wgJ1_charAt_3b067 : List Cond := .code yJ1_charAt_3b067 cJ1_charAt_3b067 2 (some .char) :: WG
abbrev rmJ1_charAt_3b067 : Room := { frames := 2, cells := 0, slots := 0, locals := 43 }
set_option maxHeartbeats 4000000 in
set_option maxRecDepth 100000 in
/-- StringLatin1.charAt -/
theorem c_J1_charAt_3b067 (lL₀ : Launch) (D₀ : va_G) (k₀ : Nat → ClassId) (sz₀ : Nat) (z₀ : Int) (kK₀ : Nat → Nat) (kV₀ : Nat → Nat) (wi₀ : Nat) (hwi₀ : wi₀ < 3) (hz₀ : 0 ≤ z₀ ∧ z₀ < wdN wi₀) : Met lL₀ yJ1_charAt_3b067 wgJ1_charAt_3b067 rmJ1_charAt_3b067 (gPc (ZS kK₀ kV₀) D₀ (tyk k₀) [.ref (kV₀ wi₀), .int (iI z₀)] sz₀ []) (gQi D₀ (tyk k₀) [] sz₀ (fun (_ : Unit) => True) (fun (_ : Unit) => (iI (wdC wi₀ z₀))) (fun (_ : Unit) => [])) 0 0 (va_A [] sz₀) := by
  refine xs_met (cc := cJ1_charAt_3b067) (maxL := 2) (ret := some .char) (by decide) rfl (Nat.le_of_ble_eq_true rfl) ?_
  intro pP₀ eN₀ sT₀ mI₀ below₀ meth₀ cD₀ hsz₀ args₀ QQ₀ C₀ hr₀ hlk₀ hnm₀ hQ₀ ls₀ H₀ locs₀ hl₀ hH₀
  subst hsz₀
  have hl₀ : lv_has ls₀ 2 [(0, .ref (kV₀ wi₀)), (1, .int (iI z₀))] := hl₀
  generalize hAe₀ : va_A [] sT₀.heap.size = A₀ at C₀ hH₀ hQ₀
  have hwd₀ := (wdN_dec wi₀ hwi₀).1
  have hzn₀ : z₀ < ((wdL.getD wi₀ 0 : Nat) : Int) := hz₀.2
  have hwL₀ : wdL.getD wi₀ 0 < 2147483648 := by unfold wdN at hwd₀; omega
  refine lv_iload_n C₀.1.1 C₀.1.2.1 dJ1_charAt_3b067_0 rfl (lv_at hl₀ 1 rfl) ?_
  refine lv_aload_n C₀.1.1 C₀.1.2.1 dJ1_charAt_3b067_1 rfl (lv_at hl₀ 0 rfl) ?_
  refine xw_slen C₀ hH₀ (C₀.2.2.2.1.1 wi₀ hwi₀).2.2.2 (z := wdN wi₀) rfl dJ1_charAt_3b067_2 ?_
  refine xc_Sv (wr := []) (ws' := fun _ => []) (As := [.int (iI z₀), .int (iI (wdN wi₀))]) (rest := []) C₀ hH₀ (c_J0_checkIndex_df160 lL₀ D₀ k₀ H₀.size z₀ (wdN wi₀) kK₀ kV₀ (by omega) (by omega)) ZS_b (ZS_pass C₀ hH₀ [] rfl) (va_cwS 2 C₀.1.2.2.2.2 (WG_S WG_c (WG_mem 386 (by decide +kernel) (by decide +kernel)) (WG_mem 387 (by decide +kernel) (by decide +kernel)) (WG_mem 74 (by decide +kernel) (by decide +kernel)) (WG_k (WG_mem 388 (by decide +kernel) (by decide +kernel)))) rfl rfl rfl (by decide +kernel) ⟨Nat.le_of_ble_eq_true rfl, Nat.le_of_ble_eq_true rfl⟩) [] [] [] rfl rfl (by decide) (by decide) (by decide) (fun _ => rfl) (by decide) rfl hl₀.1 rfl (Nat.le_of_ble_eq_true rfl) dJ1_charAt_3b067_3 ⟨Nat.le_of_ble_eq_true rfl, Nat.le_of_ble_eq_true rfl⟩ (fun _ _ H₀ locs₀ hH₀ => ?_)
  refine lv_aload_n C₀.1.1 C₀.1.2.1 dJ1_charAt_3b067_6 rfl (lv_at hl₀ 0 rfl) ?_
  refine lv_iload_n C₀.1.1 C₀.1.2.1 dJ1_charAt_3b067_7 rfl (lv_at hl₀ 1 rfl) ?_
  refine xw_sld C₀ hH₀ (C₀.2.2.2.1.1 wi₀ hwi₀).2.2.2 (z := z₀) (by omega) hzn₀ hwL₀ dJ1_charAt_3b067_8 ?_
  refine lv_sipush (v := iI 255) C₀.1.1 C₀.1.2.1 dJ1_charAt_3b067_9 (by decide) ?_
  refine lv_iand C₀.1.1 C₀.1.2.1 dJ1_charAt_3b067_12 ?_
  refine lv_i2c (v := ((((wdB.getD wi₀ []).getD (z₀).toNat 0) &&& (iI 255)).toUInt32 % 65536).toInt32) C₀.1.1 C₀.1.2.1 dJ1_charAt_3b067_13 rfl ?_
  refine xt_i (y := (iI (wdC wi₀ z₀))) (wdC_eq hwi₀ hz₀).1 ?_
  exact xr_i C₀ hH₀ hlk₀ hr₀ hQ₀ (chr_all (wdC_eq hwi₀ hz₀).2).2.2 hAe₀ () trivial rfl rfl dJ1_charAt_3b067_14
abbrev wgJ0_isLatin1_aae02 : List Cond := .code yJ0_isLatin1_aae02 cJ0_isLatin1_aae02 1 (some .boolean) :: WG
abbrev rmJ0_isLatin1_aae02 : Room := { frames := 0, cells := 0, slots := 0, locals := 0 }
set_option maxHeartbeats 4000000 in
set_option maxRecDepth 100000 in
/-- isLatin1 -/
theorem c_J0_isLatin1_aae02 (lL₀ : Launch) (D₀ : va_G) (k₀ : Nat → ClassId) (sz₀ : Nat) (kK₀ : Nat → Nat) (kV₀ : Nat → Nat) (wi₀ : Nat) (hwi₀ : wi₀ < 3) : Met lL₀ yJ0_isLatin1_aae02 wgJ0_isLatin1_aae02 rmJ0_isLatin1_aae02 (gPc (ZS kK₀ kV₀) D₀ (tyk k₀) [.ref (kK₀ wi₀)] sz₀ []) (gQi D₀ (tyk k₀) [] sz₀ (fun (_ : Unit) => True) (fun (_ : Unit) => (iI 1)) (fun (_ : Unit) => [])) 0 0 (va_A [] sz₀) := by
  refine xs_met (cc := cJ0_isLatin1_aae02) (maxL := 1) (ret := some .boolean) (by decide) rfl (Nat.le_of_ble_eq_true rfl) ?_
  intro pP₀ eN₀ sT₀ mI₀ below₀ meth₀ cD₀ hsz₀ args₀ QQ₀ C₀ hr₀ hlk₀ hnm₀ hQ₀ ls₀ H₀ locs₀ hl₀ hH₀
  subst hsz₀
  have hl₀ : lv_has ls₀ 1 [(0, .ref (kK₀ wi₀))] := hl₀
  generalize hAe₀ : va_A [] sT₀.heap.size = A₀ at C₀ hH₀ hQ₀
  refine xw_gets C₀ hH₀ C₀.2.2.2.2.2.1 (List.mem_cons_of_mem _ (WG_mem 373 (by decide +kernel) (by decide +kernel))) dJ0_isLatin1_aae02_0 ?_
  refine xt_i (y := iI 1) (by decide) ?_
  refine xi_zeq (tgt := 17) C₀.1.1 C₀.1.2.1 dJ0_isLatin1_aae02_3 (by decide) (by omega) (fun h_1₀ => absurd h_1₀ (by decide)) (fun h_1₀ => ?_)
  refine lv_aload_n C₀.1.1 C₀.1.2.1 dJ0_isLatin1_aae02_6 rfl (lv_at hl₀ 0 rfl) ?_
  refine xw_sget C₀ hH₀ (C₀.2.2.2.1.1 wi₀ hwi₀).2.1 (List.mem_cons_of_mem _ (WG_mem 1097 (by decide +kernel) (by decide +kernel))) dJ0_isLatin1_aae02_7 ?_
  refine xt_i (y := iI 0) (by decide) ?_
  refine xi_zne (tgt := 17) C₀.1.1 C₀.1.2.1 dJ0_isLatin1_aae02_10 (by decide) (by omega) (fun h_2₀ => absurd h_2₀ (by decide)) (fun h_2₀ => ?_)
  refine lv_iconst (v := iI 1) C₀.1.1 C₀.1.2.1 dJ0_isLatin1_aae02_13 (by decide) ?_
  refine lv_goto (tgt := 18) C₀.1.1 C₀.1.2.1 dJ0_isLatin1_aae02_14 (by decide) ?_
  exact xr_i C₀ hH₀ hlk₀ hr₀ hQ₀ rfl hAe₀ () trivial rfl rfl dJ0_isLatin1_aae02_18
abbrev wgJ0_coder_7d493 : List Cond := .code yJ0_coder_7d493 cJ0_coder_7d493 1 (some .byte) :: WG
abbrev rmJ0_coder_7d493 : Room := { frames := 0, cells := 0, slots := 0, locals := 0 }
set_option maxHeartbeats 4000000 in
set_option maxRecDepth 100000 in
/-- coder -/
theorem c_J0_coder_7d493 (lL₀ : Launch) (D₀ : va_G) (k₀ : Nat → ClassId) (sz₀ : Nat) (kK₀ : Nat → Nat) (kV₀ : Nat → Nat) (wi₀ : Nat) (hwi₀ : wi₀ < 3) : Met lL₀ yJ0_coder_7d493 wgJ0_coder_7d493 rmJ0_coder_7d493 (gPc (ZS kK₀ kV₀) D₀ (tyk k₀) [.ref (kK₀ wi₀)] sz₀ []) (gQi D₀ (tyk k₀) [] sz₀ (fun (_ : Unit) => True) (fun (_ : Unit) => (iI 0)) (fun (_ : Unit) => [])) 0 0 (va_A [] sz₀) := by
  refine xs_met (cc := cJ0_coder_7d493) (maxL := 1) (ret := some .byte) (by decide) rfl (Nat.le_of_ble_eq_true rfl) ?_
  intro pP₀ eN₀ sT₀ mI₀ below₀ meth₀ cD₀ hsz₀ args₀ QQ₀ C₀ hr₀ hlk₀ hnm₀ hQ₀ ls₀ H₀ locs₀ hl₀ hH₀
  subst hsz₀
  have hl₀ : lv_has ls₀ 1 [(0, .ref (kK₀ wi₀))] := hl₀
  generalize hAe₀ : va_A [] sT₀.heap.size = A₀ at C₀ hH₀ hQ₀
  refine xw_gets C₀ hH₀ C₀.2.2.2.2.2.1 (List.mem_cons_of_mem _ (WG_mem 373 (by decide +kernel) (by decide +kernel))) dJ0_coder_7d493_0 ?_
  refine xt_i (y := iI 1) (by decide) ?_
  refine xi_zeq (tgt := 13) C₀.1.1 C₀.1.2.1 dJ0_coder_7d493_3 (by decide) (by omega) (fun h_1₀ => absurd h_1₀ (by decide)) (fun h_1₀ => ?_)
  refine lv_aload_n C₀.1.1 C₀.1.2.1 dJ0_coder_7d493_6 rfl (lv_at hl₀ 0 rfl) ?_
  refine xw_sget C₀ hH₀ (C₀.2.2.2.1.1 wi₀ hwi₀).2.1 (List.mem_cons_of_mem _ (WG_mem 1097 (by decide +kernel) (by decide +kernel))) dJ0_coder_7d493_7 ?_
  refine xt_i (y := iI 0) (by decide) ?_
  refine lv_goto (tgt := 14) C₀.1.1 C₀.1.2.1 dJ0_coder_7d493_10 (by decide) ?_
  exact xr_i C₀ hH₀ hlk₀ hr₀ hQ₀ rfl hAe₀ () trivial rfl rfl dJ0_coder_7d493_14
abbrev wgJ0_length_8abf5 : List Cond := .code yJ0_length_8abf5 cJ0_length_8abf5 1 (some .int) :: WG
abbrev rmJ0_length_8abf5 : Room := { frames := 1, cells := 0, slots := 0, locals := 20 }
set_option maxHeartbeats 4000000 in
set_option maxRecDepth 100000 in
/-- String.length -/
theorem c_J0_length_8abf5 (lL₀ : Launch) (D₀ : va_G) (k₀ : Nat → ClassId) (sz₀ : Nat) (kK₀ : Nat → Nat) (kV₀ : Nat → Nat) (wi₀ : Nat) (hwi₀ : wi₀ < 3) : Met lL₀ yJ0_length_8abf5 wgJ0_length_8abf5 rmJ0_length_8abf5 (gPc (ZS kK₀ kV₀) D₀ (tyk k₀) [.ref (kK₀ wi₀)] sz₀ []) (gQi D₀ (tyk k₀) [] sz₀ (fun (_ : Unit) => True) (fun (_ : Unit) => (iI (wdN wi₀))) (fun (_ : Unit) => [])) 0 0 (va_A [] sz₀) := by
  refine xs_met (cc := cJ0_length_8abf5) (maxL := 1) (ret := some .int) (by decide) rfl (Nat.le_of_ble_eq_true rfl) ?_
  intro pP₀ eN₀ sT₀ mI₀ below₀ meth₀ cD₀ hsz₀ args₀ QQ₀ C₀ hr₀ hlk₀ hnm₀ hQ₀ ls₀ H₀ locs₀ hl₀ hH₀
  subst hsz₀
  have hl₀ : lv_has ls₀ 1 [(0, .ref (kK₀ wi₀))] := hl₀
  generalize hAe₀ : va_A [] sT₀.heap.size = A₀ at C₀ hH₀ hQ₀
  refine lv_aload_n C₀.1.1 C₀.1.2.1 dJ0_length_8abf5_0 rfl (lv_at hl₀ 0 rfl) ?_
  refine xw_sget C₀ hH₀ (C₀.2.2.2.1.1 wi₀ hwi₀).2.2.1 (List.mem_cons_of_mem _ (WG_mem 1096 (by decide +kernel) (by decide +kernel))) dJ0_length_8abf5_1 ?_
  refine xw_slen C₀ hH₀ (C₀.2.2.2.1.1 wi₀ hwi₀).2.2.2 (z := wdN wi₀) rfl dJ0_length_8abf5_4 ?_
  refine lv_aload_n C₀.1.1 C₀.1.2.1 dJ0_length_8abf5_5 rfl (lv_at hl₀ 0 rfl) ?_
  refine xc_Ti (wr := []) (ws' := fun _ => []) (As := []) (rest := [.int (iI (wdN wi₀))]) C₀ hH₀ (c_J0_coder_7d493 lL₀ D₀ k₀ H₀.size kK₀ kV₀ wi₀ (by omega)) ZS_b (ZS_pass C₀ hH₀ [] rfl) (cwV 0 C₀.1.2.2.2.2 (WG_V WG_c (WG_mem 369 (by decide +kernel) (by decide +kernel)) (WG_mem 370 (by decide +kernel) (by decide +kernel)) (WG_mem 371 (by decide +kernel) (by decide +kernel)) (WG_mem 74 (by decide +kernel) (by decide +kernel)) (WG_k (WG_mem 372 (by decide +kernel) (by decide +kernel)))) rfl rfl rfl (by decide +kernel) ⟨Nat.le_of_ble_eq_true rfl, Nat.le_of_ble_eq_true rfl⟩) [] [] [] rfl rfl (by decide) (by decide) (by decide) (fun _ => rfl) (by decide) (vk_recv C₀.2.2.2.1 hwi₀ hH₀.2.2.1) rfl hl₀.1 rfl (Nat.le_of_ble_eq_true rfl) dJ0_length_8abf5_6 ⟨Nat.le_of_ble_eq_true rfl, Nat.le_of_ble_eq_true rfl⟩ (fun _ _ H₀ locs₀ hH₀ => ?_)
  refine lv_ishr C₀.1.1 C₀.1.2.1 dJ0_length_8abf5_9 ?_
  exact xr_i C₀ hH₀ hlk₀ hr₀ hQ₀ rfl hAe₀ () trivial (wdN_dec wi₀ hwi₀).2 rfl dJ0_length_8abf5_10
abbrev wgJ0_charAt_5068e : List Cond := .code yJ0_charAt_5068e cJ0_charAt_5068e 2 (some .char) :: WG
abbrev rmJ0_charAt_5068e : Room := { frames := 3, cells := 0, slots := 0, locals := 64 }
set_option maxHeartbeats 4000000 in
set_option maxRecDepth 100000 in
/-- String.charAt -/
theorem c_J0_charAt_5068e (lL₀ : Launch) (D₀ : va_G) (k₀ : Nat → ClassId) (sz₀ : Nat) (z₀ : Int) (kK₀ : Nat → Nat) (kV₀ : Nat → Nat) (wi₀ : Nat) (hwi₀ : wi₀ < 3) (hz₀ : 0 ≤ z₀ ∧ z₀ < wdN wi₀) : Met lL₀ yJ0_charAt_5068e wgJ0_charAt_5068e rmJ0_charAt_5068e (gPc (ZS kK₀ kV₀) D₀ (tyk k₀) [.ref (kK₀ wi₀), .int (iI z₀)] sz₀ []) (gQi D₀ (tyk k₀) [] sz₀ (fun (_ : Unit) => True) (fun (_ : Unit) => (iI (wdC wi₀ z₀))) (fun (_ : Unit) => [])) 0 0 (va_A [] sz₀) := by
  refine xs_met (cc := cJ0_charAt_5068e) (maxL := 2) (ret := some .char) (by decide) rfl (Nat.le_of_ble_eq_true rfl) ?_
  intro pP₀ eN₀ sT₀ mI₀ below₀ meth₀ cD₀ hsz₀ args₀ QQ₀ C₀ hr₀ hlk₀ hnm₀ hQ₀ ls₀ H₀ locs₀ hl₀ hH₀
  subst hsz₀
  have hl₀ : lv_has ls₀ 2 [(0, .ref (kK₀ wi₀)), (1, .int (iI z₀))] := hl₀
  generalize hAe₀ : va_A [] sT₀.heap.size = A₀ at C₀ hH₀ hQ₀
  refine lv_aload_n C₀.1.1 C₀.1.2.1 dJ0_charAt_5068e_0 rfl (lv_at hl₀ 0 rfl) ?_
  refine xc_Ti (wr := []) (ws' := fun _ => []) (As := []) (rest := []) C₀ hH₀ (c_J0_isLatin1_aae02 lL₀ D₀ k₀ H₀.size kK₀ kV₀ wi₀ (by omega)) ZS_b (ZS_pass C₀ hH₀ [] rfl) (cwV 0 C₀.1.2.2.2.2 (WG_V WG_c (WG_mem 379 (by decide +kernel) (by decide +kernel)) (WG_mem 380 (by decide +kernel) (by decide +kernel)) (WG_mem 381 (by decide +kernel) (by decide +kernel)) (WG_mem 74 (by decide +kernel) (by decide +kernel)) (WG_k (WG_mem 382 (by decide +kernel) (by decide +kernel)))) rfl rfl rfl (by decide +kernel) ⟨Nat.le_of_ble_eq_true rfl, Nat.le_of_ble_eq_true rfl⟩) [] [] [] rfl rfl (by decide) (by decide) (by decide) (fun _ => rfl) (by decide) (vk_recv C₀.2.2.2.1 hwi₀ hH₀.2.2.1) rfl hl₀.1 rfl (Nat.le_of_ble_eq_true rfl) dJ0_charAt_5068e_1 ⟨Nat.le_of_ble_eq_true rfl, Nat.le_of_ble_eq_true rfl⟩ (fun _ _ H₀ locs₀ hH₀ => ?_)
  refine xi_zeq (tgt := 16) C₀.1.1 C₀.1.2.1 dJ0_charAt_5068e_4 (by decide) (by omega) (fun h_1₀ => absurd h_1₀ (by decide)) (fun h_1₀ => ?_)
  refine lv_aload_n C₀.1.1 C₀.1.2.1 dJ0_charAt_5068e_7 rfl (lv_at hl₀ 0 rfl) ?_
  refine xw_sget C₀ hH₀ (C₀.2.2.2.1.1 wi₀ hwi₀).2.2.1 (List.mem_cons_of_mem _ (WG_mem 1096 (by decide +kernel) (by decide +kernel))) dJ0_charAt_5068e_8 ?_
  refine lv_iload_n C₀.1.1 C₀.1.2.1 dJ0_charAt_5068e_11 rfl (lv_at hl₀ 1 rfl) ?_
  refine xc_Si (wr := []) (ws' := fun _ => []) (As := [.ref (kV₀ wi₀), .int (iI z₀)]) (rest := []) C₀ hH₀ (c_J1_charAt_3b067 lL₀ D₀ k₀ H₀.size z₀ kK₀ kV₀ wi₀ (by omega) (by omega)) ZS_b (ZS_pass C₀ hH₀ [] rfl) (va_cwS 2 C₀.1.2.2.2.2 (WG_S WG_c (WG_mem 383 (by decide +kernel) (by decide +kernel)) (WG_mem 384 (by decide +kernel) (by decide +kernel)) (WG_mem 75 (by decide +kernel) (by decide +kernel)) (WG_k (WG_mem 385 (by decide +kernel) (by decide +kernel)))) rfl rfl rfl (by decide +kernel) ⟨Nat.le_of_ble_eq_true rfl, Nat.le_of_ble_eq_true rfl⟩) [] [] [] rfl rfl (by decide) (by decide) (by decide) (fun _ => rfl) (by decide) rfl hl₀.1 rfl (Nat.le_of_ble_eq_true rfl) dJ0_charAt_5068e_12 ⟨Nat.le_of_ble_eq_true rfl, Nat.le_of_ble_eq_true rfl⟩ (fun _ _ H₀ locs₀ hH₀ => ?_)
  exact xr_i C₀ hH₀ hlk₀ hr₀ hQ₀ (chr_all (wdC_eq hwi₀ hz₀).2).2.2 hAe₀ () trivial rfl rfl dJ0_charAt_5068e_15
abbrev wgX7_isWord : List Cond := .code yX7_isWord cX7_isWord 3 (some .boolean) :: WG
abbrev rmX7_isWord : Room := { frames := 4, cells := 0, slots := 0, locals := 85 }
set_option maxHeartbeats 4000000 in
set_option maxRecDepth 100000 in
/-- isWord -/
theorem c_X7_isWord (lL₀ : Launch) (D₀ : va_G) (k₀ : Nat → ClassId) (sz₀ : Nat) (a₀ : Nat) (ql₀ : Nat) (qf₀ : Nat) (ty₀ : Int) (fr₀ : Int) (tt₀ : Int) (du₀ : Int) (it₀ : Int) (rt₀ : Int) (fc₀ : Int) (ft₀ : Bool) (bt₀ : Bool) (tx₀ : Int → Int) (kK₀ : Nat → Nat) (kV₀ : Nat → Nat) (wi₀ : Nat) (hwi₀ : wi₀ < 3) (hty₀ : 0 ≤ ty₀ ∧ ty₀ ≤ 120) (htx₀ : ∀ j₀, 0 ≤ tx₀ j₀ ∧ tx₀ j₀ < 256) (hft₀ : 0 ≤ fr₀ ∧ fr₀ ≤ 121 ∧ 0 ≤ tt₀ ∧ tt₀ ≤ 122) : Met lL₀ yX7_isWord wgX7_isWord rmX7_isWord (gPc (ZS kK₀ kV₀) D₀ (tyk k₀) [.ref a₀, .ref (kK₀ wi₀)] sz₀ [tO a₀ ql₀ qf₀ ty₀ fr₀ tt₀ du₀ it₀ rt₀ fc₀ (bz ft₀) (bz bt₀), (ql₀, .inl (k₀ 3, 120, .inl (ia tx₀)))]) (gQi D₀ (tyk k₀) [tO a₀ ql₀ qf₀ ty₀ fr₀ tt₀ du₀ it₀ rt₀ fc₀ (bz ft₀) (bz bt₀), (ql₀, .inl (k₀ 3, 120, .inl (ia tx₀)))] sz₀ (fun (_ : Unit) => True) (fun (_ : Unit) => (iI (bz (gWd tx₀ ty₀ fr₀ tt₀ wi₀)))) (fun (_ : Unit) => [tO a₀ ql₀ qf₀ ty₀ fr₀ tt₀ du₀ it₀ rt₀ fc₀ (bz ft₀) (bz bt₀), (ql₀, .inl (k₀ 3, 120, .inl (ia tx₀)))])) 0 0 (va_A [tO a₀ ql₀ qf₀ ty₀ fr₀ tt₀ du₀ it₀ rt₀ fc₀ (bz ft₀) (bz bt₀), (ql₀, .inl (k₀ 3, 120, .inl (ia tx₀)))] sz₀) := by
  refine xs_met (cc := cX7_isWord) (maxL := 3) (ret := some .boolean) (by decide) rfl (Nat.le_of_ble_eq_true rfl) ?_
  intro pP₀ eN₀ sT₀ mI₀ below₀ meth₀ cD₀ hsz₀ args₀ QQ₀ C₀ hr₀ hlk₀ hnm₀ hQ₀ ls₀ H₀ locs₀ hl₀ hH₀
  subst hsz₀
  have hl₀ : lv_has ls₀ 3 [(0, .ref a₀), (1, .ref (kK₀ wi₀))] := hl₀
  generalize hAe₀ : va_A [tO a₀ ql₀ qf₀ ty₀ fr₀ tt₀ du₀ it₀ rt₀ fc₀ (bz ft₀) (bz bt₀), (ql₀, .inl (k₀ 3, 120, .inl (ia tx₀)))] sT₀.heap.size = A₀ at C₀ hH₀ hQ₀
  have hwd₀ := (wdN_dec wi₀ hwi₀).1
  refine lv_aload_n C₀.1.1 C₀.1.2.1 dX7_isWord_0 rfl (lv_at hl₀ 0 rfl) ?_
  refine xw_get C₀ hH₀ 0 rfl rfl 4 (by decide) (fun w₀ h₀ => List.mem_cons_of_mem _ (iwg_X7 w₀ h₀)) (List.mem_cons_of_mem _ (WG_mem 138 (by decide +kernel) (by decide +kernel))) (v := .int (iI tt₀)) rfl dX7_isWord_1 ?_
  refine lv_aload_n C₀.1.1 C₀.1.2.1 dX7_isWord_4 rfl (lv_at hl₀ 0 rfl) ?_
  refine xw_get C₀ hH₀ 0 rfl rfl 3 (by decide) (fun w₀ h₀ => List.mem_cons_of_mem _ (iwg_X7 w₀ h₀)) (List.mem_cons_of_mem _ (WG_mem 137 (by decide +kernel) (by decide +kernel))) (v := .int (iI fr₀)) rfl dX7_isWord_5 ?_
  refine xi_sub C₀.1.1 C₀.1.2.1 dX7_isWord_8 ?_
  refine lv_aload_n C₀.1.1 C₀.1.2.1 dX7_isWord_9 rfl (lv_at hl₀ 1 rfl) ?_
  refine xc_Ti (wr := [tO a₀ ql₀ qf₀ ty₀ fr₀ tt₀ du₀ it₀ rt₀ fc₀ (bz ft₀) (bz bt₀), (ql₀, .inl (k₀ 3, 120, .inl (ia tx₀)))]) (ws' := fun _ => [tO a₀ ql₀ qf₀ ty₀ fr₀ tt₀ du₀ it₀ rt₀ fc₀ (bz ft₀) (bz bt₀), (ql₀, .inl (k₀ 3, 120, .inl (ia tx₀)))]) (As := []) (rest := [.int (iI (tt₀ - fr₀))]) C₀ hH₀ (c_J0_length_8abf5 lL₀ D₀ k₀ H₀.size kK₀ kV₀ wi₀ (hwi₀)) ZS_b (ZS_pass C₀ hH₀ [] rfl) (cwV 0 C₀.1.2.2.2.2 (WG_V WG_c (WG_mem 365 (by decide +kernel) (by decide +kernel)) (WG_mem 366 (by decide +kernel) (by decide +kernel)) (WG_mem 367 (by decide +kernel) (by decide +kernel)) (WG_mem 74 (by decide +kernel) (by decide +kernel)) (WG_k (WG_mem 368 (by decide +kernel) (by decide +kernel)))) rfl rfl rfl (by decide +kernel) ⟨Nat.le_of_ble_eq_true rfl, Nat.le_of_ble_eq_true rfl⟩) [] [0, 1] [0, 1] rfl rfl (by decide) (by decide) (by decide) (fun _ => rfl) (by decide) (vk_recv C₀.2.2.2.1 hwi₀ hH₀.2.2.1) rfl hl₀.1 rfl (Nat.le_of_ble_eq_true rfl) dX7_isWord_10 ⟨Nat.le_of_ble_eq_true rfl, Nat.le_of_ble_eq_true rfl⟩ (fun _ _ H₀ locs₀ hH₀ => ?_)
  refine xi_ceq (tgt := 18) C₀.1.1 C₀.1.2.1 dX7_isWord_13 (by decide) (by omega) (by omega) (fun h_1₀ => ?_) (fun h_1₀ => ?_)
  · refine lv_iconst (v := iI 0) C₀.1.1 C₀.1.2.1 dX7_isWord_18 (by decide) ?_
    refine lv_istore_n (lv' := [(2, .int (iI 0)), (0, .ref a₀), (1, .ref (kK₀ wi₀))]) C₀.1.1 C₀.1.2.1 dX7_isWord_19 rfl hl₀ (by decide) rfl (fun ls₀ hl₀ => ?_)
    have L20₀ : ∀ (nn₀ : Nat), ∀ (i₀ : Int), (alI (gWx tx₀ ty₀ fr₀ wi₀) i₀ = true) → (0 ≤ i₀ ∧ i₀ ≤ wdN wi₀) → ((wdN wi₀ - i₀) < (nn₀ : Int)) → ∀ (H₀ : Heap) (locs₀ : List Loc) (ls₀ : Array Slot), Hp D₀ A₀ sT₀.heap [tO a₀ ql₀ qf₀ ty₀ fr₀ tt₀ du₀ it₀ rt₀ fc₀ (bz ft₀) (bz bt₀), (ql₀, .inl (k₀ 3, 120, .inl (ia tx₀)))] H₀ locs₀ → lv_has ls₀ 3 [(0, .ref a₀), (1, .ref (kK₀ wi₀)), (2, .int (iI i₀))] → W pP₀ lL₀ eN₀ rmX7_isWord sT₀ mI₀ args₀ below₀ meth₀ cD₀ H₀ locs₀ 0 0 QQ₀ (F0 mI₀ 20 ls₀ []) := by
      intro nn₀
      induction nn₀ with
      | zero => intro i₀ i1₀ i2₀ hm₀; exact absurd hm₀ (by omega)
      | succ nn₀ ih20₀ =>
        intro i₀ i1₀ i2₀ hm20₀ H₀ locs₀ ls₀ hH₀ hl₀
        refine lv_iload_n C₀.1.1 C₀.1.2.1 dX7_isWord_20 rfl (lv_at hl₀ 2 rfl) ?_
        refine lv_aload_n C₀.1.1 C₀.1.2.1 dX7_isWord_21 rfl (lv_at hl₀ 1 rfl) ?_
        refine xc_Ti (wr := [tO a₀ ql₀ qf₀ ty₀ fr₀ tt₀ du₀ it₀ rt₀ fc₀ (bz ft₀) (bz bt₀), (ql₀, .inl (k₀ 3, 120, .inl (ia tx₀)))]) (ws' := fun _ => [tO a₀ ql₀ qf₀ ty₀ fr₀ tt₀ du₀ it₀ rt₀ fc₀ (bz ft₀) (bz bt₀), (ql₀, .inl (k₀ 3, 120, .inl (ia tx₀)))]) (As := []) (rest := [.int (iI i₀)]) C₀ hH₀ (c_J0_length_8abf5 lL₀ D₀ k₀ H₀.size kK₀ kV₀ wi₀ (hwi₀)) ZS_b (ZS_pass C₀ hH₀ [] rfl) (cwV 0 C₀.1.2.2.2.2 (WG_V WG_c (WG_mem 365 (by decide +kernel) (by decide +kernel)) (WG_mem 366 (by decide +kernel) (by decide +kernel)) (WG_mem 367 (by decide +kernel) (by decide +kernel)) (WG_mem 74 (by decide +kernel) (by decide +kernel)) (WG_k (WG_mem 368 (by decide +kernel) (by decide +kernel)))) rfl rfl rfl (by decide +kernel) ⟨Nat.le_of_ble_eq_true rfl, Nat.le_of_ble_eq_true rfl⟩) [] [0, 1] [0, 1] rfl rfl (by decide) (by decide) (by decide) (fun _ => rfl) (by decide) (vk_recv C₀.2.2.2.1 hwi₀ hH₀.2.2.1) rfl hl₀.1 rfl (Nat.le_of_ble_eq_true rfl) dX7_isWord_22 ⟨Nat.le_of_ble_eq_true rfl, Nat.le_of_ble_eq_true rfl⟩ (fun _ _ H₀ locs₀ hH₀ => ?_)
        refine xi_cge (tgt := 54) C₀.1.1 C₀.1.2.1 dX7_isWord_25 (by decide) (by omega) (by omega) (fun h_2₀ => ?_) (fun h_2₀ => ?_)
        · refine lv_iconst (v := iI 1) C₀.1.1 C₀.1.2.1 dX7_isWord_54 (by decide) ?_
          exact xr_i C₀ hH₀ hlk₀ hr₀ hQ₀ rfl hAe₀ () trivial (by unfold gWd; rw [show wdN wi₀ = i₀ by omega, i1₀, decide_eq_true (by omega)]; rfl) rfl dX7_isWord_55
        · have hch₀ := (wdC_eq hwi₀ (show 0 ≤ i₀ ∧ i₀ < wdN wi₀ by omega)).2
          have hga₀ := gAt_rg (ty := ty₀) htx₀ (fr₀ + i₀)
          refine lv_aload_n C₀.1.1 C₀.1.2.1 dX7_isWord_28 rfl (lv_at hl₀ 0 rfl) ?_
          refine lv_aload_n C₀.1.1 C₀.1.2.1 dX7_isWord_29 rfl (lv_at hl₀ 0 rfl) ?_
          refine xw_get C₀ hH₀ 0 rfl rfl 3 (by decide) (fun w₀ h₀ => List.mem_cons_of_mem _ (iwg_X7 w₀ h₀)) (List.mem_cons_of_mem _ (WG_mem 137 (by decide +kernel) (by decide +kernel))) (v := .int (iI fr₀)) rfl dX7_isWord_30 ?_
          refine lv_iload_n C₀.1.1 C₀.1.2.1 dX7_isWord_33 rfl (lv_at hl₀ 2 rfl) ?_
          refine xi_add C₀.1.1 C₀.1.2.1 dX7_isWord_34 ?_
          refine xc_Vi (wr := []) (ws' := fun _ => [tO a₀ ql₀ qf₀ ty₀ fr₀ tt₀ du₀ it₀ rt₀ fc₀ (bz ft₀) (bz bt₀), (ql₀, .inl (k₀ 3, 120, .inl (ia tx₀)))]) (As := [.int (iI (fr₀ + i₀))]) (rest := []) C₀ hH₀ (c_X7_letterAt lL₀ D₀ k₀ H₀.size a₀ ql₀ qf₀ ty₀ fr₀ tt₀ du₀ it₀ rt₀ fc₀ ft₀ bt₀ tx₀ (fr₀ + i₀) (by omega) (htx₀) (by omega)) ZT_b (fun _ _ _ => trivial) (cwV 1 C₀.1.2.2.2.2 (WG_V WG_c (WG_mem 345 (by decide +kernel) (by decide +kernel)) (WG_mem 347 (by decide +kernel) (by decide +kernel)) (WG_mem 2 (by decide +kernel) (by decide +kernel)) (WG_mem 65 (by decide +kernel) (by decide +kernel)) (WG_k (WG_mem 348 (by decide +kernel) (by decide +kernel)))) rfl rfl rfl (by decide +kernel) ⟨Nat.le_of_ble_eq_true rfl, Nat.le_of_ble_eq_true rfl⟩) [0, 1] [] [0, 1] rfl rfl (by decide) (by decide) (by decide) (fun _ => rfl) (by decide) (q0 := 0) rfl rfl rfl hl₀.1 rfl (Nat.le_of_ble_eq_true rfl) dX7_isWord_35 ⟨Nat.le_of_ble_eq_true rfl, Nat.le_of_ble_eq_true rfl⟩ (fun _ _ H₀ locs₀ hH₀ => ?_)
          refine lv_aload_n C₀.1.1 C₀.1.2.1 dX7_isWord_38 rfl (lv_at hl₀ 1 rfl) ?_
          refine lv_iload_n C₀.1.1 C₀.1.2.1 dX7_isWord_39 rfl (lv_at hl₀ 2 rfl) ?_
          refine xc_Ti (wr := [tO a₀ ql₀ qf₀ ty₀ fr₀ tt₀ du₀ it₀ rt₀ fc₀ (bz ft₀) (bz bt₀), (ql₀, .inl (k₀ 3, 120, .inl (ia tx₀)))]) (ws' := fun _ => [tO a₀ ql₀ qf₀ ty₀ fr₀ tt₀ du₀ it₀ rt₀ fc₀ (bz ft₀) (bz bt₀), (ql₀, .inl (k₀ 3, 120, .inl (ia tx₀)))]) (As := [.int (iI i₀)]) (rest := [.int (iI (gAt tx₀ ty₀ (fr₀ + i₀)))]) C₀ hH₀ (c_J0_charAt_5068e lL₀ D₀ k₀ H₀.size i₀ kK₀ kV₀ wi₀ (hwi₀) (by omega)) ZS_b (ZS_pass C₀ hH₀ [] rfl) (cwV 1 C₀.1.2.2.2.2 (WG_V WG_c (WG_mem 375 (by decide +kernel) (by decide +kernel)) (WG_mem 376 (by decide +kernel) (by decide +kernel)) (WG_mem 377 (by decide +kernel) (by decide +kernel)) (WG_mem 74 (by decide +kernel) (by decide +kernel)) (WG_k (WG_mem 378 (by decide +kernel) (by decide +kernel)))) rfl rfl rfl (by decide +kernel) ⟨Nat.le_of_ble_eq_true rfl, Nat.le_of_ble_eq_true rfl⟩) [] [0, 1] [0, 1] rfl rfl (by decide) (by decide) (by decide) (fun _ => rfl) (by decide) (vk_recv C₀.2.2.2.1 hwi₀ hH₀.2.2.1) rfl hl₀.1 rfl (Nat.le_of_ble_eq_true rfl) dX7_isWord_40 ⟨Nat.le_of_ble_eq_true rfl, Nat.le_of_ble_eq_true rfl⟩ (fun _ _ H₀ locs₀ hH₀ => ?_)
          refine xi_ceq (tgt := 48) C₀.1.1 C₀.1.2.1 dX7_isWord_43 (by decide) (by omega) (by omega) (fun h_3₀ => ?_) (fun h_3₀ => ?_)
          · refine lv_iinc (v := iI (i₀ + 1)) (lv' := [(2, .int (iI (i₀ + 1))), (0, .ref a₀), (1, .ref (kK₀ wi₀))]) C₀.1.1 C₀.1.2.1 dX7_isWord_48 hl₀ (k := 2) rfl (iI_add _ (1)) (by decide) rfl (fun ls₀ hl₀ => ?_)
            refine lv_goto (tgt := 20) C₀.1.1 C₀.1.2.1 dX7_isWord_51 (by decide) ?_
            exact ih20₀ (i₀ + 1) ((by rw [alI_s i2₀.1, i1₀, show gWx tx₀ ty₀ fr₀ wi₀ i₀ = true from decide_eq_true (by omega)]; rfl)) (by omega) (by omega) _ _ _ hH₀ (lv_sub hl₀ [1, 2, 0] rfl)
          · refine lv_iconst (v := iI 0) C₀.1.1 C₀.1.2.1 dX7_isWord_46 (by decide) ?_
            exact xr_i C₀ hH₀ hlk₀ hr₀ hQ₀ rfl hAe₀ () trivial (by unfold gWd; rw [gWx_no (i := i₀) (by omega) (by omega), Bool.and_false]; rfl) rfl dX7_isWord_47
    exact L20₀ (((wdN wi₀ - 0) : Int).toNat + 1) 0 (rfl) (by omega) (by omega) _ _ _ hH₀ (lv_sub hl₀ [1, 2, 0] rfl)
  · refine lv_iconst (v := iI 0) C₀.1.1 C₀.1.2.1 dX7_isWord_16 (by decide) ?_
    exact xr_i C₀ hH₀ hlk₀ hr₀ hQ₀ rfl hAe₀ () trivial (by unfold gWd; rw [decide_eq_false (by omega)]; rfl) rfl dX7_isWord_17
abbrev wgX7_begin : List Cond := .code yX7_begin cX7_begin 2 none :: WG
abbrev rmX7_begin : Room := { frames := 1, cells := 0, slots := 0, locals := 21 }
set_option maxHeartbeats 4000000 in
set_option maxRecDepth 100000 in
/-- begin -/
theorem c_X7_begin (lL₀ : Launch) (D₀ : va_G) (k₀ : Nat → ClassId) (sz₀ : Nat) (a₀ : Nat) (ql₀ : Nat) (qf₀ : Nat) (ty₀ : Int) (fr₀ : Int) (tt₀ : Int) (du₀ : Int) (it₀ : Int) (rt₀ : Int) (fc₀ : Int) (ft₀ : Bool) (bt₀ : Bool) (w1₀ : Int) (h1₀ : Int) (ht1₀ : Int64) (fx1₀ : Int64) (be1₀ : Int) (g₀ : Nat) (w₀ : Int) (h₀ : Int) (ht₀ : Int64) (fx₀ : Int64) (be₀ : Int)  : Met lL₀ yX7_begin wgX7_begin rmX7_begin (gPc ZT D₀ (tyk k₀) [.ref a₀, .ref g₀] sz₀ [tO a₀ ql₀ qf₀ ty₀ fr₀ tt₀ du₀ it₀ rt₀ fc₀ (bz ft₀) (bz bt₀), gO qf₀ w1₀ h1₀ ht1₀ fx1₀ be1₀, gO g₀ w₀ h₀ ht₀ fx₀ be₀]) (gQv D₀ (tyk k₀) [tO a₀ ql₀ qf₀ ty₀ fr₀ tt₀ du₀ it₀ rt₀ fc₀ (bz ft₀) (bz bt₀), gO qf₀ w1₀ h1₀ ht1₀ fx1₀ be1₀, gO g₀ w₀ h₀ ht₀ fx₀ be₀] sz₀ (fun (_ : Unit) => True) (fun (_ : Unit) => [tO a₀ ql₀ qf₀ ty₀ fr₀ 0 0 0 0 fc₀ (bz false) (bz false), gO qf₀ w1₀ h1₀ ht1₀ fx1₀ be1₀, gO g₀ w1₀ h1₀ ht1₀ fx1₀ be1₀])) 0 0 (va_A [tO a₀ ql₀ qf₀ ty₀ fr₀ tt₀ du₀ it₀ rt₀ fc₀ (bz ft₀) (bz bt₀), gO qf₀ w1₀ h1₀ ht1₀ fx1₀ be1₀, gO g₀ w₀ h₀ ht₀ fx₀ be₀] sz₀) := by
  refine xs_met (cc := cX7_begin) (maxL := 2) (ret := none) (by decide) rfl (Nat.le_of_ble_eq_true rfl) ?_
  intro pP₀ eN₀ sT₀ mI₀ below₀ meth₀ cD₀ hsz₀ args₀ QQ₀ C₀ hr₀ hlk₀ hnm₀ hQ₀ ls₀ H₀ locs₀ hl₀ hH₀
  subst hsz₀
  have hl₀ : lv_has ls₀ 2 [(0, .ref a₀), (1, .ref g₀)] := hl₀
  generalize hAe₀ : va_A [tO a₀ ql₀ qf₀ ty₀ fr₀ tt₀ du₀ it₀ rt₀ fc₀ (bz ft₀) (bz bt₀), gO qf₀ w1₀ h1₀ ht1₀ fx1₀ be1₀, gO g₀ w₀ h₀ ht₀ fx₀ be₀] sT₀.heap.size = A₀ at C₀ hH₀ hQ₀
  refine lv_aload_n C₀.1.1 C₀.1.2.1 dX7_begin_0 rfl (lv_at hl₀ 1 rfl) ?_
  refine lv_aload_n C₀.1.1 C₀.1.2.1 dX7_begin_1 rfl (lv_at hl₀ 0 rfl) ?_
  refine xw_get C₀ hH₀ 0 rfl rfl 1 (by decide) (fun w₀ h₀ => List.mem_cons_of_mem _ (iwg_X7 w₀ h₀)) (List.mem_cons_of_mem _ (WG_mem 134 (by decide +kernel) (by decide +kernel))) (v := .ref qf₀) rfl dX7_begin_2 ?_
  refine xc_Vv (wr := [tO a₀ ql₀ qf₀ ty₀ fr₀ tt₀ du₀ it₀ rt₀ fc₀ (bz ft₀) (bz bt₀)]) (ws' := fun _ => [tO a₀ ql₀ qf₀ ty₀ fr₀ tt₀ du₀ it₀ rt₀ fc₀ (bz ft₀) (bz bt₀), gO qf₀ w1₀ h1₀ ht1₀ fx1₀ be1₀, gO g₀ w1₀ h1₀ ht1₀ fx1₀ be1₀]) (As := [.ref qf₀]) (rest := []) C₀ hH₀ (c_X0_become lL₀ D₀ k₀ H₀.size g₀ w₀ h₀ ht₀ fx₀ be₀ qf₀ w1₀ h1₀ ht1₀ fx1₀ be1₀ ) ZT_b (fun _ _ _ => trivial) (cwV 1 C₀.1.2.2.2.2 (WG_V WG_c (WG_mem 337 (by decide +kernel) (by decide +kernel)) (WG_mem 338 (by decide +kernel) (by decide +kernel)) (WG_mem 339 (by decide +kernel) (by decide +kernel)) (WG_mem 64 (by decide +kernel) (by decide +kernel)) (WG_k (WG_mem 340 (by decide +kernel) (by decide +kernel)))) rfl rfl rfl (by decide +kernel) ⟨Nat.le_of_ble_eq_true rfl, Nat.le_of_ble_eq_true rfl⟩) [2, 1] [0] [0, 2, 1] rfl rfl (by decide) (by decide) (by decide) (fun _ => rfl) (by decide) (q0 := 0) rfl rfl rfl hl₀.1 rfl (Nat.le_of_ble_eq_true rfl) dX7_begin_5 ⟨Nat.le_of_ble_eq_true rfl, Nat.le_of_ble_eq_true rfl⟩ (fun _ _ H₀ locs₀ hH₀ => ?_)
  refine lv_aload_n C₀.1.1 C₀.1.2.1 dX7_begin_8 rfl (lv_at hl₀ 0 rfl) ?_
  refine lv_iconst (v := iI 0) C₀.1.1 C₀.1.2.1 dX7_begin_9 (by decide) ?_
  refine xw_put (ws' := [tO a₀ ql₀ qf₀ ty₀ fr₀ 0 du₀ it₀ rt₀ fc₀ (bz ft₀) (bz bt₀), gO qf₀ w1₀ h1₀ ht1₀ fx1₀ be1₀, gO g₀ w1₀ h1₀ ht1₀ fx1₀ be1₀]) (v := .int (iI 0)) C₀ hH₀ 0 rfl rfl tyX7 tyX7_ok nmX7 4 (by decide) (fun w₀ h₀ => List.mem_cons_of_mem _ (iwg_X7 w₀ h₀)) (List.mem_cons_of_mem _ (WG_mem 138 (by decide +kernel) (by decide +kernel))) rfl rfl rfl (Nat.le_of_ble_eq_true rfl) dX7_begin_10 rfl (fun H₀ locs₀ hH₀ => ?_)
  refine lv_aload_n C₀.1.1 C₀.1.2.1 dX7_begin_13 rfl (lv_at hl₀ 0 rfl) ?_
  refine lv_iconst (v := iI 0) C₀.1.1 C₀.1.2.1 dX7_begin_14 (by decide) ?_
  refine xw_put (ws' := [tO a₀ ql₀ qf₀ ty₀ fr₀ 0 0 it₀ rt₀ fc₀ (bz ft₀) (bz bt₀), gO qf₀ w1₀ h1₀ ht1₀ fx1₀ be1₀, gO g₀ w1₀ h1₀ ht1₀ fx1₀ be1₀]) (v := .int (iI 0)) C₀ hH₀ 0 rfl rfl tyX7 tyX7_ok nmX7 5 (by decide) (fun w₀ h₀ => List.mem_cons_of_mem _ (iwg_X7 w₀ h₀)) (List.mem_cons_of_mem _ (WG_mem 139 (by decide +kernel) (by decide +kernel))) rfl rfl rfl (Nat.le_of_ble_eq_true rfl) dX7_begin_15 rfl (fun H₀ locs₀ hH₀ => ?_)
  refine lv_aload_n C₀.1.1 C₀.1.2.1 dX7_begin_18 rfl (lv_at hl₀ 0 rfl) ?_
  refine lv_iconst (v := iI 0) C₀.1.1 C₀.1.2.1 dX7_begin_19 (by decide) ?_
  refine xw_put (ws' := [tO a₀ ql₀ qf₀ ty₀ fr₀ 0 0 0 rt₀ fc₀ (bz ft₀) (bz bt₀), gO qf₀ w1₀ h1₀ ht1₀ fx1₀ be1₀, gO g₀ w1₀ h1₀ ht1₀ fx1₀ be1₀]) (v := .int (iI 0)) C₀ hH₀ 0 rfl rfl tyX7 tyX7_ok nmX7 6 (by decide) (fun w₀ h₀ => List.mem_cons_of_mem _ (iwg_X7 w₀ h₀)) (List.mem_cons_of_mem _ (WG_mem 140 (by decide +kernel) (by decide +kernel))) rfl rfl rfl (Nat.le_of_ble_eq_true rfl) dX7_begin_20 rfl (fun H₀ locs₀ hH₀ => ?_)
  refine lv_aload_n C₀.1.1 C₀.1.2.1 dX7_begin_23 rfl (lv_at hl₀ 0 rfl) ?_
  refine lv_iconst (v := iI 0) C₀.1.1 C₀.1.2.1 dX7_begin_24 (by decide) ?_
  refine xw_put (ws' := [tO a₀ ql₀ qf₀ ty₀ fr₀ 0 0 0 0 fc₀ (bz ft₀) (bz bt₀), gO qf₀ w1₀ h1₀ ht1₀ fx1₀ be1₀, gO g₀ w1₀ h1₀ ht1₀ fx1₀ be1₀]) (v := .int (iI 0)) C₀ hH₀ 0 rfl rfl tyX7 tyX7_ok nmX7 7 (by decide) (fun w₀ h₀ => List.mem_cons_of_mem _ (iwg_X7 w₀ h₀)) (List.mem_cons_of_mem _ (WG_mem 142 (by decide +kernel) (by decide +kernel))) rfl rfl rfl (Nat.le_of_ble_eq_true rfl) dX7_begin_25 rfl (fun H₀ locs₀ hH₀ => ?_)
  refine lv_aload_n C₀.1.1 C₀.1.2.1 dX7_begin_28 rfl (lv_at hl₀ 0 rfl) ?_
  refine lv_iconst (v := iI 0) C₀.1.1 C₀.1.2.1 dX7_begin_29 (by decide) ?_
  refine xw_put (ws' := [tO a₀ ql₀ qf₀ ty₀ fr₀ 0 0 0 0 fc₀ 0 (bz bt₀), gO qf₀ w1₀ h1₀ ht1₀ fx1₀ be1₀, gO g₀ w1₀ h1₀ ht1₀ fx1₀ be1₀]) (v := .int (iI 0)) C₀ hH₀ 0 rfl rfl tyX7 tyX7_ok nmX7 9 (by decide) (fun w₀ h₀ => List.mem_cons_of_mem _ (iwg_X7 w₀ h₀)) (List.mem_cons_of_mem _ (WG_mem 144 (by decide +kernel) (by decide +kernel))) rfl rfl rfl (Nat.le_of_ble_eq_true rfl) dX7_begin_30 rfl (fun H₀ locs₀ hH₀ => ?_)
  refine lv_aload_n C₀.1.1 C₀.1.2.1 dX7_begin_33 rfl (lv_at hl₀ 0 rfl) ?_
  refine lv_iconst (v := iI 0) C₀.1.1 C₀.1.2.1 dX7_begin_34 (by decide) ?_
  refine xw_put (ws' := [tO a₀ ql₀ qf₀ ty₀ fr₀ 0 0 0 0 fc₀ 0 0, gO qf₀ w1₀ h1₀ ht1₀ fx1₀ be1₀, gO g₀ w1₀ h1₀ ht1₀ fx1₀ be1₀]) (v := .int (iI 0)) C₀ hH₀ 0 rfl rfl tyX7 tyX7_ok nmX7 10 (by decide) (fun w₀ h₀ => List.mem_cons_of_mem _ (iwg_X7 w₀ h₀)) (List.mem_cons_of_mem _ (WG_mem 145 (by decide +kernel) (by decide +kernel))) rfl rfl rfl (Nat.le_of_ble_eq_true rfl) dX7_begin_35 rfl (fun H₀ locs₀ hH₀ => ?_)
  exact xr_v C₀ hH₀ hlk₀ hr₀ hQ₀ hAe₀ () trivial rfl dX7_begin_38
