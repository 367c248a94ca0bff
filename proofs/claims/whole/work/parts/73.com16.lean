abbrev wgX0_heightsOfRow : List Cond := .code yX0_heightsOfRow cX0_heightsOfRow 2 (some .int) :: WG
abbrev rmX0_heightsOfRow : Room := { frames := 2, cells := 0, slots := 0, locals := 41 }
set_option maxHeartbeats 4000000 in
set_option maxRecDepth 100000 in
/-- heightsOfRow -/
theorem c_X0_heightsOfRow (lL₀ : Launch) (D₀ : va_G) (k₀ : Nat → ClassId) (sz₀ : Nat) (g₀ : Nat) (w₀ : Int) (h₀ : Int) (ht₀ : Int64) (fx₀ : Int64) (be₀ : Int) (y₀ : Int) (s₀ : Int → Int) (hg₀ : gR s₀ w₀ h₀ ht₀ fx₀ be₀) (hS₀ : mS s₀) (hy₀ : 0 ≤ y₀ ∧ y₀ < s₀ 1) : Met lL₀ yX0_heightsOfRow wgX0_heightsOfRow rmX0_heightsOfRow (gPc ZT D₀ (tyk k₀) [.ref g₀, .int (iI y₀)] sz₀ [gO g₀ w₀ h₀ ht₀ fx₀ be₀]) (gQi D₀ (tyk k₀) [gO g₀ w₀ h₀ ht₀ fx₀ be₀] sz₀ (fun (_ : Unit) => True) (fun (_ : Unit) => (iI (gHr s₀ 3 y₀))) (fun (_ : Unit) => [gO g₀ w₀ h₀ ht₀ fx₀ be₀])) 0 0 (va_A [gO g₀ w₀ h₀ ht₀ fx₀ be₀] sz₀) := by
  refine xs_met (cc := cX0_heightsOfRow) (maxL := 2) (ret := some .int) (by decide) rfl (Nat.le_of_ble_eq_true rfl) ?_
  intro pP₀ eN₀ sT₀ mI₀ below₀ meth₀ cD₀ hsz₀ args₀ QQ₀ C₀ hr₀ hlk₀ hnm₀ hQ₀ ls₀ H₀ locs₀ hl₀ hH₀
  subst hsz₀
  have hl₀ : lv_has ls₀ 2 [(0, .ref g₀), (1, .int (iI y₀))] := hl₀
  generalize hAe₀ : va_A [gO g₀ w₀ h₀ ht₀ fx₀ be₀] sT₀.heap.size = A₀ at C₀ hH₀ hQ₀
  obtain ⟨rfl, rfl, rfl, rfl, rfl⟩ := hg₀
  obtain ⟨hs0₀, hs1₀, hs2₀, hsh₀, hsf₀⟩ := id hS₀
  have hcl₀ := cells_rg hs0₀ hs1₀
  have hre₀ := row_end hs0₀ hs1₀ hy₀
  refine lv_aload_n C₀.1.1 C₀.1.2.1 dX0_heightsOfRow_0 rfl (lv_at hl₀ 0 rfl) ?_
  refine xw_get C₀ hH₀ 0 rfl rfl 2 (by decide) (fun w₀ h₀ => List.mem_cons_of_mem _ (iwg_X0 w₀ h₀)) (List.mem_cons_of_mem _ (WG_mem 106 (by decide +kernel) (by decide +kernel))) (v := .long (pk s₀ 3)) rfl dX0_heightsOfRow_1 ?_
  refine lv_aload_n C₀.1.1 C₀.1.2.1 dX0_heightsOfRow_4 rfl (lv_at hl₀ 0 rfl) ?_
  refine lv_iload_n C₀.1.1 C₀.1.2.1 dX0_heightsOfRow_5 rfl (lv_at hl₀ 1 rfl) ?_
  refine xc_Vi (wr := []) (ws' := fun _ => [gO g₀ (s₀ 0) (s₀ 1) (pk s₀ 3) (pk s₀ 27) (s₀ 2)]) (As := [.int (iI y₀)]) (rest := [.long (pk s₀ 3)]) C₀ hH₀ (c_X0_placeOfRow lL₀ D₀ k₀ H₀.size g₀ (s₀ 0) (s₀ 1) (pk s₀ 3) (pk s₀ 27) (s₀ 2) y₀ s₀ (⟨rfl, rfl, rfl, rfl, rfl⟩)) ZT_b (fun _ _ _ => trivial) (cwV 1 C₀.1.2.2.2.2 (WG_V WG_c (WG_mem 570 (by decide +kernel) (by decide +kernel)) (WG_mem 571 (by decide +kernel) (by decide +kernel)) (WG_mem 572 (by decide +kernel) (by decide +kernel)) (WG_mem 64 (by decide +kernel) (by decide +kernel)) (WG_k (WG_mem 573 (by decide +kernel) (by decide +kernel)))) rfl rfl rfl (by decide +kernel) ⟨Nat.le_of_ble_eq_true rfl, Nat.le_of_ble_eq_true rfl⟩) [0] [] [0] rfl rfl (by decide) (by decide) (by decide) (fun _ => rfl) (by decide) (q0 := 0) rfl rfl rfl hl₀.1 rfl (Nat.le_of_ble_eq_true rfl) dX0_heightsOfRow_6 ⟨Nat.le_of_ble_eq_true rfl, Nat.le_of_ble_eq_true rfl⟩ (fun _ _ H₀ locs₀ hH₀ => ?_)
  refine lv_lushr (v := ((pk s₀ 3).toUInt64 >>> ((iI (2 * (23 - (s₀ 0 * (y₀ + 1) - 1)))).toInt64.toUInt64 &&& Int64.toUInt64 63)).toInt64) C₀.1.1 C₀.1.2.1 dX0_heightsOfRow_9 rfl ?_
  refine lv_l2i (v := (((pk s₀ 3).toUInt64 >>> ((iI (2 * (23 - (s₀ 0 * (y₀ + 1) - 1)))).toInt64.toUInt64 &&& Int64.toUInt64 63)).toInt64).toInt32) C₀.1.1 C₀.1.2.1 dX0_heightsOfRow_10 rfl ?_
  refine lv_aload_n C₀.1.1 C₀.1.2.1 dX0_heightsOfRow_11 rfl (lv_at hl₀ 0 rfl) ?_
  refine xc_Vi (wr := []) (ws' := fun _ => [gO g₀ (s₀ 0) (s₀ 1) (pk s₀ 3) (pk s₀ 27) (s₀ 2)]) (As := []) (rest := [.int ((((pk s₀ 3).toUInt64 >>> ((iI (2 * (23 - (s₀ 0 * (y₀ + 1) - 1)))).toInt64.toUInt64 &&& Int64.toUInt64 63)).toInt64).toInt32)]) C₀ hH₀ (c_X0_rowBits lL₀ D₀ k₀ H₀.size g₀ (s₀ 0) (s₀ 1) (pk s₀ 3) (pk s₀ 27) (s₀ 2) s₀ (⟨rfl, rfl, rfl, rfl, rfl⟩) (by omega)) ZT_b (fun _ _ _ => trivial) (cwV 0 C₀.1.2.2.2.2 (WG_V WG_c (WG_mem 574 (by decide +kernel) (by decide +kernel)) (WG_mem 576 (by decide +kernel) (by decide +kernel)) (WG_mem 19 (by decide +kernel) (by decide +kernel)) (WG_mem 64 (by decide +kernel) (by decide +kernel)) (WG_k (WG_mem 577 (by decide +kernel) (by decide +kernel)))) rfl rfl rfl (by decide +kernel) ⟨Nat.le_of_ble_eq_true rfl, Nat.le_of_ble_eq_true rfl⟩) [0] [] [0] rfl rfl (by decide) (by decide) (by decide) (fun _ => rfl) (by decide) (q0 := 0) rfl rfl rfl hl₀.1 rfl (Nat.le_of_ble_eq_true rfl) dX0_heightsOfRow_12 ⟨Nat.le_of_ble_eq_true rfl, Nat.le_of_ble_eq_true rfl⟩ (fun _ _ H₀ locs₀ hH₀ => ?_)
  refine lv_iand C₀.1.1 C₀.1.2.1 dX0_heightsOfRow_15 ?_
  exact xr_i C₀ hH₀ hlk₀ hr₀ hQ₀ rfl hAe₀ () trivial (gHr_eq (mS_h hS₀) hs0₀ (by omega)) rfl dX0_heightsOfRow_16
abbrev wgX0_fixedOfRow : List Cond := .code yX0_fixedOfRow cX0_fixedOfRow 2 (some .int) :: WG
abbrev rmX0_fixedOfRow : Room := { frames := 2, cells := 0, slots := 0, locals := 41 }
set_option maxHeartbeats 4000000 in
set_option maxRecDepth 100000 in
/-- fixedOfRow -/
theorem c_X0_fixedOfRow (lL₀ : Launch) (D₀ : va_G) (k₀ : Nat → ClassId) (sz₀ : Nat) (g₀ : Nat) (w₀ : Int) (h₀ : Int) (ht₀ : Int64) (fx₀ : Int64) (be₀ : Int) (y₀ : Int) (s₀ : Int → Int) (hg₀ : gR s₀ w₀ h₀ ht₀ fx₀ be₀) (hS₀ : mS s₀) (hy₀ : 0 ≤ y₀ ∧ y₀ < s₀ 1) : Met lL₀ yX0_fixedOfRow wgX0_fixedOfRow rmX0_fixedOfRow (gPc ZT D₀ (tyk k₀) [.ref g₀, .int (iI y₀)] sz₀ [gO g₀ w₀ h₀ ht₀ fx₀ be₀]) (gQi D₀ (tyk k₀) [gO g₀ w₀ h₀ ht₀ fx₀ be₀] sz₀ (fun (_ : Unit) => True) (fun (_ : Unit) => (iI (gHr s₀ 27 y₀))) (fun (_ : Unit) => [gO g₀ w₀ h₀ ht₀ fx₀ be₀])) 0 0 (va_A [gO g₀ w₀ h₀ ht₀ fx₀ be₀] sz₀) := by
  refine xs_met (cc := cX0_fixedOfRow) (maxL := 2) (ret := some .int) (by decide) rfl (Nat.le_of_ble_eq_true rfl) ?_
  intro pP₀ eN₀ sT₀ mI₀ below₀ meth₀ cD₀ hsz₀ args₀ QQ₀ C₀ hr₀ hlk₀ hnm₀ hQ₀ ls₀ H₀ locs₀ hl₀ hH₀
  subst hsz₀
  have hl₀ : lv_has ls₀ 2 [(0, .ref g₀), (1, .int (iI y₀))] := hl₀
  generalize hAe₀ : va_A [gO g₀ w₀ h₀ ht₀ fx₀ be₀] sT₀.heap.size = A₀ at C₀ hH₀ hQ₀
  obtain ⟨rfl, rfl, rfl, rfl, rfl⟩ := hg₀
  obtain ⟨hs0₀, hs1₀, hs2₀, hsh₀, hsf₀⟩ := id hS₀
  have hcl₀ := cells_rg hs0₀ hs1₀
  have hre₀ := row_end hs0₀ hs1₀ hy₀
  refine lv_aload_n C₀.1.1 C₀.1.2.1 dX0_fixedOfRow_0 rfl (lv_at hl₀ 0 rfl) ?_
  refine xw_get C₀ hH₀ 0 rfl rfl 3 (by decide) (fun w₀ h₀ => List.mem_cons_of_mem _ (iwg_X0 w₀ h₀)) (List.mem_cons_of_mem _ (WG_mem 109 (by decide +kernel) (by decide +kernel))) (v := .long (pk s₀ 27)) rfl dX0_fixedOfRow_1 ?_
  refine lv_aload_n C₀.1.1 C₀.1.2.1 dX0_fixedOfRow_4 rfl (lv_at hl₀ 0 rfl) ?_
  refine lv_iload_n C₀.1.1 C₀.1.2.1 dX0_fixedOfRow_5 rfl (lv_at hl₀ 1 rfl) ?_
  refine xc_Vi (wr := []) (ws' := fun _ => [gO g₀ (s₀ 0) (s₀ 1) (pk s₀ 3) (pk s₀ 27) (s₀ 2)]) (As := [.int (iI y₀)]) (rest := [.long (pk s₀ 27)]) C₀ hH₀ (c_X0_placeOfRow lL₀ D₀ k₀ H₀.size g₀ (s₀ 0) (s₀ 1) (pk s₀ 3) (pk s₀ 27) (s₀ 2) y₀ s₀ (⟨rfl, rfl, rfl, rfl, rfl⟩)) ZT_b (fun _ _ _ => trivial) (cwV 1 C₀.1.2.2.2.2 (WG_V WG_c (WG_mem 570 (by decide +kernel) (by decide +kernel)) (WG_mem 571 (by decide +kernel) (by decide +kernel)) (WG_mem 572 (by decide +kernel) (by decide +kernel)) (WG_mem 64 (by decide +kernel) (by decide +kernel)) (WG_k (WG_mem 573 (by decide +kernel) (by decide +kernel)))) rfl rfl rfl (by decide +kernel) ⟨Nat.le_of_ble_eq_true rfl, Nat.le_of_ble_eq_true rfl⟩) [0] [] [0] rfl rfl (by decide) (by decide) (by decide) (fun _ => rfl) (by decide) (q0 := 0) rfl rfl rfl hl₀.1 rfl (Nat.le_of_ble_eq_true rfl) dX0_fixedOfRow_6 ⟨Nat.le_of_ble_eq_true rfl, Nat.le_of_ble_eq_true rfl⟩ (fun _ _ H₀ locs₀ hH₀ => ?_)
  refine lv_lushr (v := ((pk s₀ 27).toUInt64 >>> ((iI (2 * (23 - (s₀ 0 * (y₀ + 1) - 1)))).toInt64.toUInt64 &&& Int64.toUInt64 63)).toInt64) C₀.1.1 C₀.1.2.1 dX0_fixedOfRow_9 rfl ?_
  refine lv_l2i (v := (((pk s₀ 27).toUInt64 >>> ((iI (2 * (23 - (s₀ 0 * (y₀ + 1) - 1)))).toInt64.toUInt64 &&& Int64.toUInt64 63)).toInt64).toInt32) C₀.1.1 C₀.1.2.1 dX0_fixedOfRow_10 rfl ?_
  refine lv_aload_n C₀.1.1 C₀.1.2.1 dX0_fixedOfRow_11 rfl (lv_at hl₀ 0 rfl) ?_
  refine xc_Vi (wr := []) (ws' := fun _ => [gO g₀ (s₀ 0) (s₀ 1) (pk s₀ 3) (pk s₀ 27) (s₀ 2)]) (As := []) (rest := [.int ((((pk s₀ 27).toUInt64 >>> ((iI (2 * (23 - (s₀ 0 * (y₀ + 1) - 1)))).toInt64.toUInt64 &&& Int64.toUInt64 63)).toInt64).toInt32)]) C₀ hH₀ (c_X0_rowBits lL₀ D₀ k₀ H₀.size g₀ (s₀ 0) (s₀ 1) (pk s₀ 3) (pk s₀ 27) (s₀ 2) s₀ (⟨rfl, rfl, rfl, rfl, rfl⟩) (by omega)) ZT_b (fun _ _ _ => trivial) (cwV 0 C₀.1.2.2.2.2 (WG_V WG_c (WG_mem 574 (by decide +kernel) (by decide +kernel)) (WG_mem 576 (by decide +kernel) (by decide +kernel)) (WG_mem 19 (by decide +kernel) (by decide +kernel)) (WG_mem 64 (by decide +kernel) (by decide +kernel)) (WG_k (WG_mem 577 (by decide +kernel) (by decide +kernel)))) rfl rfl rfl (by decide +kernel) ⟨Nat.le_of_ble_eq_true rfl, Nat.le_of_ble_eq_true rfl⟩) [0] [] [0] rfl rfl (by decide) (by decide) (by decide) (fun _ => rfl) (by decide) (q0 := 0) rfl rfl rfl hl₀.1 rfl (Nat.le_of_ble_eq_true rfl) dX0_fixedOfRow_12 ⟨Nat.le_of_ble_eq_true rfl, Nat.le_of_ble_eq_true rfl⟩ (fun _ _ H₀ locs₀ hH₀ => ?_)
  refine lv_iand C₀.1.1 C₀.1.2.1 dX0_fixedOfRow_15 ?_
  exact xr_i C₀ hH₀ hlk₀ hr₀ hQ₀ rfl hAe₀ () trivial (gHr_eq (fun j₀ a₀ b₀ => by have := mS_f hS₀ j₀ a₀ b₀; omega) hs0₀ (by omega)) rfl dX0_fixedOfRow_16
abbrev wgX3_rowAt : List Cond := .code yX3_rowAt cX3_rowAt 2 (some .int) :: WG
abbrev rmX3_rowAt : Room := { frames := 0, cells := 0, slots := 0, locals := 0 }
set_option maxHeartbeats 4000000 in
set_option maxRecDepth 100000 in
/-- X3_rowAt -/
theorem c_X3_rowAt (lL₀ : Launch) (D₀ : va_G) (k₀ : Nat → ClassId) (sz₀ : Nat) (a₀ : Nat) (qa₀ : Nat) (qr₀ : Nat) (qs₀ : Nat) (qn₀ : Nat) (qf₀ : Nat) (li₀ : Int) (ch₀ : Int) (hh₀ : Int64) (ro₀ : Int → Int) (z₀ : Int) (hz₀ : -2147483648 ≤ z₀ ∧ z₀ < 2147483648) : Met lL₀ yX3_rowAt wgX3_rowAt rmX3_rowAt (gPc ZT D₀ (tyk k₀) [.ref a₀, .int (iI z₀)] sz₀ [lO a₀ qa₀ qr₀ qs₀ qn₀ qf₀ li₀ ch₀ hh₀, (qr₀, .inl (k₀ 0, 68, .inl (ia ro₀)))]) (gQi D₀ (tyk k₀) [lO a₀ qa₀ qr₀ qs₀ qn₀ qf₀ li₀ ch₀ hh₀, (qr₀, .inl (k₀ 0, 68, .inl (ia ro₀)))] sz₀ (fun (_ : Unit) => True) (fun (_ : Unit) => (iI (if 0 ≤ z₀ ∧ z₀ < 68 then ro₀ z₀ else 0))) (fun (_ : Unit) => [lO a₀ qa₀ qr₀ qs₀ qn₀ qf₀ li₀ ch₀ hh₀, (qr₀, .inl (k₀ 0, 68, .inl (ia ro₀)))])) 0 0 (va_A [lO a₀ qa₀ qr₀ qs₀ qn₀ qf₀ li₀ ch₀ hh₀, (qr₀, .inl (k₀ 0, 68, .inl (ia ro₀)))] sz₀) := by
  refine xs_met (cc := cX3_rowAt) (maxL := 2) (ret := some .int) (by decide) rfl (Nat.le_of_ble_eq_true rfl) ?_
  intro pP₀ eN₀ sT₀ mI₀ below₀ meth₀ cD₀ hsz₀ args₀ QQ₀ C₀ hr₀ hlk₀ hnm₀ hQ₀ ls₀ H₀ locs₀ hl₀ hH₀
  subst hsz₀
  have hl₀ : lv_has ls₀ 2 [(0, .ref a₀), (1, .int (iI z₀))] := hl₀
  generalize hAe₀ : va_A [lO a₀ qa₀ qr₀ qs₀ qn₀ qf₀ li₀ ch₀ hh₀, (qr₀, .inl (k₀ 0, 68, .inl (ia ro₀)))] sT₀.heap.size = A₀ at C₀ hH₀ hQ₀
  refine lv_iload_n C₀.1.1 C₀.1.2.1 dX3_rowAt_0 rfl (lv_at hl₀ 1 rfl) ?_
  refine xi_zlt (tgt := 22) C₀.1.1 C₀.1.2.1 dX3_rowAt_1 (by decide) (by omega) (fun h_1₀ => ?_) (fun h_1₀ => ?_)
  · refine lv_iconst (v := iI 0) C₀.1.1 C₀.1.2.1 dX3_rowAt_22 (by decide) ?_
    exact xr_i C₀ hH₀ hlk₀ hr₀ hQ₀ rfl hAe₀ () trivial (by simp (disch := omega) only [if_pos, if_neg]) rfl dX3_rowAt_23
  · refine lv_iload_n C₀.1.1 C₀.1.2.1 dX3_rowAt_4 rfl (lv_at hl₀ 1 rfl) ?_
    refine lv_aload_n C₀.1.1 C₀.1.2.1 dX3_rowAt_5 rfl (lv_at hl₀ 0 rfl) ?_
    refine xw_get C₀ hH₀ 0 rfl rfl 1 (by decide) (fun w₀ h₀ => List.mem_cons_of_mem _ (iwg_X3 w₀ h₀)) (List.mem_cons_of_mem _ (WG_mem 242 (by decide +kernel) (by decide +kernel))) (v := .ref qr₀) rfl dX3_rowAt_6 ?_
    refine xw_len C₀ hH₀ 1 0 rfl rfl (z := 68) rfl dX3_rowAt_9 ?_
    refine xi_cge (tgt := 22) C₀.1.1 C₀.1.2.1 dX3_rowAt_10 (by decide) (by omega) (by omega) (fun h_2₀ => ?_) (fun h_2₀ => ?_)
    · refine lv_iconst (v := iI 0) C₀.1.1 C₀.1.2.1 dX3_rowAt_22 (by decide) ?_
      exact xr_i C₀ hH₀ hlk₀ hr₀ hQ₀ rfl hAe₀ () trivial (by simp (disch := omega) only [if_pos, if_neg]) rfl dX3_rowAt_23
    · refine lv_aload_n C₀.1.1 C₀.1.2.1 dX3_rowAt_13 rfl (lv_at hl₀ 0 rfl) ?_
      refine xw_get C₀ hH₀ 0 rfl rfl 1 (by decide) (fun w₀ h₀ => List.mem_cons_of_mem _ (iwg_X3 w₀ h₀)) (List.mem_cons_of_mem _ (WG_mem 242 (by decide +kernel) (by decide +kernel))) (v := .ref qr₀) rfl dX3_rowAt_14 ?_
      refine lv_iload_n C₀.1.1 C₀.1.2.1 dX3_rowAt_17 rfl (lv_at hl₀ 1 rfl) ?_
      refine xw_ild C₀ hH₀ 1 0 rfl rfl (z := z₀) (by omega) (by omega) (by decide) dX3_rowAt_18 ?_
      refine lv_goto (tgt := 23) C₀.1.1 C₀.1.2.1 dX3_rowAt_19 (by decide) ?_
      exact xr_i C₀ hH₀ hlk₀ hr₀ hQ₀ rfl hAe₀ () trivial (by simp (disch := omega) only [if_pos, if_neg]) rfl dX3_rowAt_23
abbrev wgX3_nearAt : List Cond := .code yX3_nearAt cX3_nearAt 2 (some .int) :: WG
abbrev rmX3_nearAt : Room := { frames := 0, cells := 0, slots := 0, locals := 0 }
set_option maxHeartbeats 4000000 in
set_option maxRecDepth 100000 in
/-- X3_nearAt -/
theorem c_X3_nearAt (lL₀ : Launch) (D₀ : va_G) (k₀ : Nat → ClassId) (sz₀ : Nat) (a₀ : Nat) (qa₀ : Nat) (qr₀ : Nat) (qs₀ : Nat) (qn₀ : Nat) (qf₀ : Nat) (li₀ : Int) (ch₀ : Int) (hh₀ : Int64) (ne₀ : Int → Int) (z₀ : Int) (hz₀ : -2147483648 ≤ z₀ ∧ z₀ < 2147483648) : Met lL₀ yX3_nearAt wgX3_nearAt rmX3_nearAt (gPc ZT D₀ (tyk k₀) [.ref a₀, .int (iI z₀)] sz₀ [lO a₀ qa₀ qr₀ qs₀ qn₀ qf₀ li₀ ch₀ hh₀, (qn₀, .inl (k₀ 0, 68, .inl (ia ne₀)))]) (gQi D₀ (tyk k₀) [lO a₀ qa₀ qr₀ qs₀ qn₀ qf₀ li₀ ch₀ hh₀, (qn₀, .inl (k₀ 0, 68, .inl (ia ne₀)))] sz₀ (fun (_ : Unit) => True) (fun (_ : Unit) => (iI (if 0 ≤ z₀ ∧ z₀ < 68 then ne₀ z₀ else 0))) (fun (_ : Unit) => [lO a₀ qa₀ qr₀ qs₀ qn₀ qf₀ li₀ ch₀ hh₀, (qn₀, .inl (k₀ 0, 68, .inl (ia ne₀)))])) 0 0 (va_A [lO a₀ qa₀ qr₀ qs₀ qn₀ qf₀ li₀ ch₀ hh₀, (qn₀, .inl (k₀ 0, 68, .inl (ia ne₀)))] sz₀) := by
  refine xs_met (cc := cX3_nearAt) (maxL := 2) (ret := some .int) (by decide) rfl (Nat.le_of_ble_eq_true rfl) ?_
  intro pP₀ eN₀ sT₀ mI₀ below₀ meth₀ cD₀ hsz₀ args₀ QQ₀ C₀ hr₀ hlk₀ hnm₀ hQ₀ ls₀ H₀ locs₀ hl₀ hH₀
  subst hsz₀
  have hl₀ : lv_has ls₀ 2 [(0, .ref a₀), (1, .int (iI z₀))] := hl₀
  generalize hAe₀ : va_A [lO a₀ qa₀ qr₀ qs₀ qn₀ qf₀ li₀ ch₀ hh₀, (qn₀, .inl (k₀ 0, 68, .inl (ia ne₀)))] sT₀.heap.size = A₀ at C₀ hH₀ hQ₀
  refine lv_iload_n C₀.1.1 C₀.1.2.1 dX3_nearAt_0 rfl (lv_at hl₀ 1 rfl) ?_
  refine xi_zlt (tgt := 22) C₀.1.1 C₀.1.2.1 dX3_nearAt_1 (by decide) (by omega) (fun h_1₀ => ?_) (fun h_1₀ => ?_)
  · refine lv_iconst (v := iI 0) C₀.1.1 C₀.1.2.1 dX3_nearAt_22 (by decide) ?_
    exact xr_i C₀ hH₀ hlk₀ hr₀ hQ₀ rfl hAe₀ () trivial (by simp (disch := omega) only [if_pos, if_neg]) rfl dX3_nearAt_23
  · refine lv_iload_n C₀.1.1 C₀.1.2.1 dX3_nearAt_4 rfl (lv_at hl₀ 1 rfl) ?_
    refine lv_aload_n C₀.1.1 C₀.1.2.1 dX3_nearAt_5 rfl (lv_at hl₀ 0 rfl) ?_
    refine xw_get C₀ hH₀ 0 rfl rfl 3 (by decide) (fun w₀ h₀ => List.mem_cons_of_mem _ (iwg_X3 w₀ h₀)) (List.mem_cons_of_mem _ (WG_mem 244 (by decide +kernel) (by decide +kernel))) (v := .ref qn₀) rfl dX3_nearAt_6 ?_
    refine xw_len C₀ hH₀ 1 0 rfl rfl (z := 68) rfl dX3_nearAt_9 ?_
    refine xi_cge (tgt := 22) C₀.1.1 C₀.1.2.1 dX3_nearAt_10 (by decide) (by omega) (by omega) (fun h_2₀ => ?_) (fun h_2₀ => ?_)
    · refine lv_iconst (v := iI 0) C₀.1.1 C₀.1.2.1 dX3_nearAt_22 (by decide) ?_
      exact xr_i C₀ hH₀ hlk₀ hr₀ hQ₀ rfl hAe₀ () trivial (by simp (disch := omega) only [if_pos, if_neg]) rfl dX3_nearAt_23
    · refine lv_aload_n C₀.1.1 C₀.1.2.1 dX3_nearAt_13 rfl (lv_at hl₀ 0 rfl) ?_
      refine xw_get C₀ hH₀ 0 rfl rfl 3 (by decide) (fun w₀ h₀ => List.mem_cons_of_mem _ (iwg_X3 w₀ h₀)) (List.mem_cons_of_mem _ (WG_mem 244 (by decide +kernel) (by decide +kernel))) (v := .ref qn₀) rfl dX3_nearAt_14 ?_
      refine lv_iload_n C₀.1.1 C₀.1.2.1 dX3_nearAt_17 rfl (lv_at hl₀ 1 rfl) ?_
      refine xw_ild C₀ hH₀ 1 0 rfl rfl (z := z₀) (by omega) (by omega) (by decide) dX3_nearAt_18 ?_
      refine lv_goto (tgt := 23) C₀.1.1 C₀.1.2.1 dX3_nearAt_19 (by decide) ?_
      exact xr_i C₀ hH₀ hlk₀ hr₀ hQ₀ rfl hAe₀ () trivial (by simp (disch := omega) only [if_pos, if_neg]) rfl dX3_nearAt_23
abbrev wgX3_fewestAt : List Cond := .code yX3_fewestAt cX3_fewestAt 4 (some .int) :: WG
abbrev rmX3_fewestAt : Room := { frames := 0, cells := 0, slots := 0, locals := 0 }
set_option maxHeartbeats 4000000 in
set_option maxRecDepth 100000 in
/-- fewestAt -/
theorem c_X3_fewestAt (lL₀ : Launch) (D₀ : va_G) (k₀ : Nat → ClassId) (sz₀ : Nat) (a₀ : Nat) (qa₀ : Nat) (qr₀ : Nat) (qs₀ : Nat) (qn₀ : Nat) (qf₀ : Nat) (li₀ : Int) (ch₀ : Int) (hh₀ : Int64) (fw₀ : Int → Int) (y₀ : Int) (z₀ : Int) (hy₀ : -100 ≤ y₀ ∧ y₀ ≤ 100) (hz₀ : -1000 ≤ z₀ ∧ z₀ ≤ 1000) : Met lL₀ yX3_fewestAt wgX3_fewestAt rmX3_fewestAt (gPc ZT D₀ (tyk k₀) [.ref a₀, .int (iI y₀), .int (iI z₀)] sz₀ [lO a₀ qa₀ qr₀ qs₀ qn₀ qf₀ li₀ ch₀ hh₀, (qf₀, .inl (k₀ 0, 408, .inl (ia fw₀)))]) (gQi D₀ (tyk k₀) [lO a₀ qa₀ qr₀ qs₀ qn₀ qf₀ li₀ ch₀ hh₀, (qf₀, .inl (k₀ 0, 408, .inl (ia fw₀)))] sz₀ (fun (_ : Unit) => True) (fun (_ : Unit) => (iI (if 0 ≤ y₀ * 68 + z₀ ∧ y₀ * 68 + z₀ < 408 then fw₀ (y₀ * 68 + z₀) else 99))) (fun (_ : Unit) => [lO a₀ qa₀ qr₀ qs₀ qn₀ qf₀ li₀ ch₀ hh₀, (qf₀, .inl (k₀ 0, 408, .inl (ia fw₀)))])) 0 0 (va_A [lO a₀ qa₀ qr₀ qs₀ qn₀ qf₀ li₀ ch₀ hh₀, (qf₀, .inl (k₀ 0, 408, .inl (ia fw₀)))] sz₀) := by
  refine xs_met (cc := cX3_fewestAt) (maxL := 4) (ret := some .int) (by decide) rfl (Nat.le_of_ble_eq_true rfl) ?_
  intro pP₀ eN₀ sT₀ mI₀ below₀ meth₀ cD₀ hsz₀ args₀ QQ₀ C₀ hr₀ hlk₀ hnm₀ hQ₀ ls₀ H₀ locs₀ hl₀ hH₀
  subst hsz₀
  have hl₀ : lv_has ls₀ 4 [(0, .ref a₀), (1, .int (iI y₀)), (2, .int (iI z₀))] := hl₀
  generalize hAe₀ : va_A [lO a₀ qa₀ qr₀ qs₀ qn₀ qf₀ li₀ ch₀ hh₀, (qf₀, .inl (k₀ 0, 408, .inl (ia fw₀)))] sT₀.heap.size = A₀ at C₀ hH₀ hQ₀
  refine lv_iload_n C₀.1.1 C₀.1.2.1 dX3_fewestAt_0 rfl (lv_at hl₀ 1 rfl) ?_
  refine lv_bipush (v := iI 68) C₀.1.1 C₀.1.2.1 dX3_fewestAt_1 (by decide) ?_
  refine xi_mul C₀.1.1 C₀.1.2.1 dX3_fewestAt_3 ?_
  refine lv_iload_n C₀.1.1 C₀.1.2.1 dX3_fewestAt_4 rfl (lv_at hl₀ 2 rfl) ?_
  refine xi_add C₀.1.1 C₀.1.2.1 dX3_fewestAt_5 ?_
  refine lv_istore_n (lv' := [(3, .int (iI (y₀ * 68 + z₀))), (0, .ref a₀), (1, .int (iI y₀)), (2, .int (iI z₀))]) C₀.1.1 C₀.1.2.1 dX3_fewestAt_6 rfl hl₀ (by decide) rfl (fun ls₀ hl₀ => ?_)
  refine lv_iload_n C₀.1.1 C₀.1.2.1 dX3_fewestAt_7 rfl (lv_at hl₀ 0 rfl) ?_
  refine xi_zlt (tgt := 29) C₀.1.1 C₀.1.2.1 dX3_fewestAt_8 (by decide) (by omega) (fun h_1₀ => ?_) (fun h_1₀ => ?_)
  · refine lv_bipush (v := iI 99) C₀.1.1 C₀.1.2.1 dX3_fewestAt_29 (by decide) ?_
    exact xr_i C₀ hH₀ hlk₀ hr₀ hQ₀ rfl hAe₀ () trivial (by simp (disch := omega) only [if_pos, if_neg]) rfl dX3_fewestAt_31
  · refine lv_iload_n C₀.1.1 C₀.1.2.1 dX3_fewestAt_11 rfl (lv_at hl₀ 0 rfl) ?_
    refine lv_aload_n C₀.1.1 C₀.1.2.1 dX3_fewestAt_12 rfl (lv_at hl₀ 1 rfl) ?_
    refine xw_get C₀ hH₀ 0 rfl rfl 4 (by decide) (fun w₀ h₀ => List.mem_cons_of_mem _ (iwg_X3 w₀ h₀)) (List.mem_cons_of_mem _ (WG_mem 245 (by decide +kernel) (by decide +kernel))) (v := .ref qf₀) rfl dX3_fewestAt_13 ?_
    refine xw_len C₀ hH₀ 1 0 rfl rfl (z := 408) rfl dX3_fewestAt_16 ?_
    refine xi_cge (tgt := 29) C₀.1.1 C₀.1.2.1 dX3_fewestAt_17 (by decide) (by omega) (by omega) (fun h_2₀ => ?_) (fun h_2₀ => ?_)
    · refine lv_bipush (v := iI 99) C₀.1.1 C₀.1.2.1 dX3_fewestAt_29 (by decide) ?_
      exact xr_i C₀ hH₀ hlk₀ hr₀ hQ₀ rfl hAe₀ () trivial (by simp (disch := omega) only [if_pos, if_neg]) rfl dX3_fewestAt_31
    · refine lv_aload_n C₀.1.1 C₀.1.2.1 dX3_fewestAt_20 rfl (lv_at hl₀ 1 rfl) ?_
      refine xw_get C₀ hH₀ 0 rfl rfl 4 (by decide) (fun w₀ h₀ => List.mem_cons_of_mem _ (iwg_X3 w₀ h₀)) (List.mem_cons_of_mem _ (WG_mem 245 (by decide +kernel) (by decide +kernel))) (v := .ref qf₀) rfl dX3_fewestAt_21 ?_
      refine lv_iload_n C₀.1.1 C₀.1.2.1 dX3_fewestAt_24 rfl (lv_at hl₀ 0 rfl) ?_
      refine xw_ild C₀ hH₀ 1 0 rfl rfl (z := y₀ * 68 + z₀) (by omega) (by omega) (by decide) dX3_fewestAt_25 ?_
      refine lv_goto (tgt := 31) C₀.1.1 C₀.1.2.1 dX3_fewestAt_26 (by decide) ?_
      exact xr_i C₀ hH₀ hlk₀ hr₀ hQ₀ rfl hAe₀ () trivial (by simp (disch := omega) only [if_pos, if_neg]) rfl dX3_fewestAt_31
abbrev wgX3_setFewest : List Cond := .code yX3_setFewest cX3_setFewest 5 none :: WG
abbrev rmX3_setFewest : Room := { frames := 0, cells := 0, slots := 0, locals := 0 }
set_option maxHeartbeats 4000000 in
set_option maxRecDepth 100000 in
/-- setFewest -/
theorem c_X3_setFewest (lL₀ : Launch) (D₀ : va_G) (k₀ : Nat → ClassId) (sz₀ : Nat) (a₀ : Nat) (qa₀ : Nat) (qr₀ : Nat) (qs₀ : Nat) (qn₀ : Nat) (qf₀ : Nat) (li₀ : Int) (ch₀ : Int) (hh₀ : Int64) (fw₀ : Int → Int) (y₀ : Int) (z₀ : Int) (v₀ : Int) (hy₀ : -100 ≤ y₀ ∧ y₀ ≤ 100) (hz₀ : -1000 ≤ z₀ ∧ z₀ ≤ 1000) : Met lL₀ yX3_setFewest wgX3_setFewest rmX3_setFewest (gPc ZT D₀ (tyk k₀) [.ref a₀, .int (iI y₀), .int (iI z₀), .int (iI v₀)] sz₀ [lO a₀ qa₀ qr₀ qs₀ qn₀ qf₀ li₀ ch₀ hh₀, (qf₀, .inl (k₀ 0, 408, .inl (ia fw₀)))]) (gQv D₀ (tyk k₀) [lO a₀ qa₀ qr₀ qs₀ qn₀ qf₀ li₀ ch₀ hh₀, (qf₀, .inl (k₀ 0, 408, .inl (ia fw₀)))] sz₀ (fun (_ : Unit) => True) (fun (_ : Unit) => [lO a₀ qa₀ qr₀ qs₀ qn₀ qf₀ li₀ ch₀ hh₀, (qf₀, .inl (k₀ 0, 408, .inl (ia (if 0 ≤ y₀ * 68 + z₀ ∧ y₀ * 68 + z₀ < 408 then uz fw₀ (y₀ * 68 + z₀) v₀ else fw₀))))])) 0 0 (va_A [lO a₀ qa₀ qr₀ qs₀ qn₀ qf₀ li₀ ch₀ hh₀, (qf₀, .inl (k₀ 0, 408, .inl (ia fw₀)))] sz₀) := by
  refine xs_met (cc := cX3_setFewest) (maxL := 5) (ret := none) (by decide) rfl (Nat.le_of_ble_eq_true rfl) ?_
  intro pP₀ eN₀ sT₀ mI₀ below₀ meth₀ cD₀ hsz₀ args₀ QQ₀ C₀ hr₀ hlk₀ hnm₀ hQ₀ ls₀ H₀ locs₀ hl₀ hH₀
  subst hsz₀
  have hl₀ : lv_has ls₀ 5 [(0, .ref a₀), (1, .int (iI y₀)), (2, .int (iI z₀)), (3, .int (iI v₀))] := hl₀
  generalize hAe₀ : va_A [lO a₀ qa₀ qr₀ qs₀ qn₀ qf₀ li₀ ch₀ hh₀, (qf₀, .inl (k₀ 0, 408, .inl (ia fw₀)))] sT₀.heap.size = A₀ at C₀ hH₀ hQ₀
  refine lv_iload_n C₀.1.1 C₀.1.2.1 dX3_setFewest_0 rfl (lv_at hl₀ 1 rfl) ?_
  refine lv_bipush (v := iI 68) C₀.1.1 C₀.1.2.1 dX3_setFewest_1 (by decide) ?_
  refine xi_mul C₀.1.1 C₀.1.2.1 dX3_setFewest_3 ?_
  refine lv_iload_n C₀.1.1 C₀.1.2.1 dX3_setFewest_4 rfl (lv_at hl₀ 2 rfl) ?_
  refine xi_add C₀.1.1 C₀.1.2.1 dX3_setFewest_5 ?_
  refine lv_istore (lv' := [(4, .int (iI (y₀ * 68 + z₀))), (0, .ref a₀), (1, .int (iI y₀)), (2, .int (iI z₀)), (3, .int (iI v₀))]) C₀.1.1 C₀.1.2.1 dX3_setFewest_6 hl₀ (by decide) rfl (fun ls₀ hl₀ => ?_)
  refine lv_iload C₀.1.1 C₀.1.2.1 dX3_setFewest_8 (lv_at hl₀ 0 rfl) ?_
  refine xi_zlt (tgt := 31) C₀.1.1 C₀.1.2.1 dX3_setFewest_10 (by decide) (by omega) (fun h_1₀ => ?_) (fun h_1₀ => ?_)
  · exact xr_v C₀ hH₀ hlk₀ hr₀ hQ₀ hAe₀ () trivial (by simp (disch := omega) only [if_pos, if_neg]) dX3_setFewest_31
  · refine lv_iload C₀.1.1 C₀.1.2.1 dX3_setFewest_13 (lv_at hl₀ 0 rfl) ?_
    refine lv_aload_n C₀.1.1 C₀.1.2.1 dX3_setFewest_15 rfl (lv_at hl₀ 1 rfl) ?_
    refine xw_get C₀ hH₀ 0 rfl rfl 4 (by decide) (fun w₀ h₀ => List.mem_cons_of_mem _ (iwg_X3 w₀ h₀)) (List.mem_cons_of_mem _ (WG_mem 245 (by decide +kernel) (by decide +kernel))) (v := .ref qf₀) rfl dX3_setFewest_16 ?_
    refine xw_len C₀ hH₀ 1 0 rfl rfl (z := 408) rfl dX3_setFewest_19 ?_
    refine xi_cge (tgt := 31) C₀.1.1 C₀.1.2.1 dX3_setFewest_20 (by decide) (by omega) (by omega) (fun h_2₀ => ?_) (fun h_2₀ => ?_)
    · exact xr_v C₀ hH₀ hlk₀ hr₀ hQ₀ hAe₀ () trivial (by simp (disch := omega) only [if_pos, if_neg]) dX3_setFewest_31
    · refine lv_aload_n C₀.1.1 C₀.1.2.1 dX3_setFewest_23 rfl (lv_at hl₀ 1 rfl) ?_
      refine xw_get C₀ hH₀ 0 rfl rfl 4 (by decide) (fun w₀ h₀ => List.mem_cons_of_mem _ (iwg_X3 w₀ h₀)) (List.mem_cons_of_mem _ (WG_mem 245 (by decide +kernel) (by decide +kernel))) (v := .ref qf₀) rfl dX3_setFewest_24 ?_
      refine lv_iload C₀.1.1 C₀.1.2.1 dX3_setFewest_27 (lv_at hl₀ 0 rfl) ?_
      refine lv_iload_n C₀.1.1 C₀.1.2.1 dX3_setFewest_29 rfl (lv_at hl₀ 4 rfl) ?_
      refine xw_ist (ws' := [lO a₀ qa₀ qr₀ qs₀ qn₀ qf₀ li₀ ch₀ hh₀, (qf₀, .inl (k₀ 0, 408, .inl (ia (uz fw₀ (y₀ * 68 + z₀) v₀))))]) C₀ hH₀ 1 0 rfl rfl (z := y₀ * 68 + z₀) (v := v₀) (by omega) (by omega) (by decide) dX3_setFewest_30 rfl (fun H₀ locs₀ hH₀ => ?_)
      exact xr_v C₀ hH₀ hlk₀ hr₀ hQ₀ hAe₀ () trivial (by simp (disch := omega) only [if_pos, if_neg]) dX3_setFewest_31
abbrev wgX3_meets : List Cond := .code yX3_meets cX3_meets 2 (some .boolean) :: WG
abbrev rmX3_meets : Room := { frames := 0, cells := 0, slots := 0, locals := 0 }
set_option maxHeartbeats 4000000 in
set_option maxRecDepth 100000 in
/-- meets -/
theorem c_X3_meets (lL₀ : Launch) (D₀ : va_G) (k₀ : Nat → ClassId) (sz₀ : Nat) (x : Int) (y₀ : Int)  : Met lL₀ yX3_meets wgX3_meets rmX3_meets (gPc ZT D₀ (tyk k₀) [.int (iI x), .int (iI y₀)] sz₀ []) (gQi D₀ (tyk k₀) [] sz₀ (fun (_ : Unit) => True) (fun (_ : Unit) => (iI (bz (gMeet x y₀)))) (fun (_ : Unit) => [])) 0 0 (va_A [] sz₀) := by
  refine xs_met (cc := cX3_meets) (maxL := 2) (ret := some .boolean) (by decide) rfl (Nat.le_of_ble_eq_true rfl) ?_
  intro pP₀ eN₀ sT₀ mI₀ below₀ meth₀ cD₀ hsz₀ args₀ QQ₀ C₀ hr₀ hlk₀ hnm₀ hQ₀ ls₀ H₀ locs₀ hl₀ hH₀
  subst hsz₀
  have hl₀ : lv_has ls₀ 2 [(0, .int (iI x)), (1, .int (iI y₀))] := hl₀
  generalize hAe₀ : va_A [] sT₀.heap.size = A₀ at C₀ hH₀ hQ₀
  refine lv_iload_n C₀.1.1 C₀.1.2.1 dX3_meets_0 rfl (lv_at hl₀ 0 rfl) ?_
  refine lv_iload_n C₀.1.1 C₀.1.2.1 dX3_meets_1 rfl (lv_at hl₀ 1 rfl) ?_
  refine lv_iconst (v := iI (-1)) C₀.1.1 C₀.1.2.1 dX3_meets_2 (by decide) ?_
  refine lv_ixor C₀.1.1 C₀.1.2.1 dX3_meets_3 ?_
  refine lv_iand C₀.1.1 C₀.1.2.1 dX3_meets_4 ?_
  refine lv_if_ne (tgt := 12) C₀.1.1 C₀.1.2.1 dX3_meets_5 (by decide) (fun h_1₀ => ?_) (fun h_1₀ => ?_)
  · refine lv_iconst (v := iI 0) C₀.1.1 C₀.1.2.1 dX3_meets_12 (by decide) ?_
    exact xr_i C₀ hH₀ hlk₀ hr₀ hQ₀ rfl hAe₀ () trivial (by unfold gMeet; exact bF (by assumption)) rfl dX3_meets_13
  · refine lv_iconst (v := iI 1) C₀.1.1 C₀.1.2.1 dX3_meets_8 (by decide) ?_
    refine lv_goto (tgt := 13) C₀.1.1 C₀.1.2.1 dX3_meets_9 (by decide) ?_
    exact xr_i C₀ hH₀ hlk₀ hr₀ hQ₀ rfl hAe₀ () trivial (by unfold gMeet; exact bT (by assumption)) rfl dX3_meets_13
abbrev wgX3_heightOf : List Cond := .code yX3_heightOf cX3_heightOf 2 (some .int) :: WG
abbrev rmX3_heightOf : Room := { frames := 1, cells := 0, slots := 0, locals := 20 }
set_option maxHeartbeats 4000000 in
set_option maxRecDepth 100000 in
/-- LeastChange.heightOf -/
theorem c_X3_heightOf (lL₀ : Launch) (D₀ : va_G) (k₀ : Nat → ClassId) (sz₀ : Nat) (a₀ : Nat) (qa₀ : Nat) (qr₀ : Nat) (qs₀ : Nat) (qn₀ : Nat) (qf₀ : Nat) (li₀ : Int) (ch₀ : Int) (hh₀ : Int64) (c₀ : Int) (t₀ : Int → Int) (hht₀ : hh₀ = pk t₀ 3) (htr₀ : pkR t₀ 3) (hc₀ : 0 ≤ c₀ ∧ c₀ < 24) : Met lL₀ yX3_heightOf wgX3_heightOf rmX3_heightOf (gPc ZT D₀ (tyk k₀) [.ref a₀, .int (iI c₀)] sz₀ [lO a₀ qa₀ qr₀ qs₀ qn₀ qf₀ li₀ ch₀ hh₀]) (gQi D₀ (tyk k₀) [lO a₀ qa₀ qr₀ qs₀ qn₀ qf₀ li₀ ch₀ hh₀] sz₀ (fun (_ : Unit) => True) (fun (_ : Unit) => (iI (t₀ (3 + c₀)))) (fun (_ : Unit) => [lO a₀ qa₀ qr₀ qs₀ qn₀ qf₀ li₀ ch₀ hh₀])) 0 0 (va_A [lO a₀ qa₀ qr₀ qs₀ qn₀ qf₀ li₀ ch₀ hh₀] sz₀) := by
  refine xs_met (cc := cX3_heightOf) (maxL := 2) (ret := some .int) (by decide) rfl (Nat.le_of_ble_eq_true rfl) ?_
  intro pP₀ eN₀ sT₀ mI₀ below₀ meth₀ cD₀ hsz₀ args₀ QQ₀ C₀ hr₀ hlk₀ hnm₀ hQ₀ ls₀ H₀ locs₀ hl₀ hH₀
  subst hsz₀
  have hl₀ : lv_has ls₀ 2 [(0, .ref a₀), (1, .int (iI c₀))] := hl₀
  generalize hAe₀ : va_A [lO a₀ qa₀ qr₀ qs₀ qn₀ qf₀ li₀ ch₀ hh₀] sT₀.heap.size = A₀ at C₀ hH₀ hQ₀
  subst hht₀
  refine lv_aload_n C₀.1.1 C₀.1.2.1 dX3_heightOf_0 rfl (lv_at hl₀ 0 rfl) ?_
  refine xw_get C₀ hH₀ 0 rfl rfl 7 (by decide) (fun w₀ h₀ => List.mem_cons_of_mem _ (iwg_X3 w₀ h₀)) (List.mem_cons_of_mem _ (WG_mem 249 (by decide +kernel) (by decide +kernel))) (v := .long (pk t₀ 3)) rfl dX3_heightOf_1 ?_
  refine lv_iload_n C₀.1.1 C₀.1.2.1 dX3_heightOf_4 rfl (lv_at hl₀ 1 rfl) ?_
  refine xc_Si (wr := [lO a₀ qa₀ qr₀ qs₀ qn₀ qf₀ li₀ ch₀ (pk t₀ 3)]) (ws' := fun _ => [lO a₀ qa₀ qr₀ qs₀ qn₀ qf₀ li₀ ch₀ (pk t₀ 3)]) (As := [.int (iI c₀)]) (rest := [.long (pk t₀ 3)]) C₀ hH₀ (c_X0_placeOf lL₀ D₀ k₀ H₀.size c₀ ) ZT_b (fun _ _ _ => trivial) (va_cwS 1 C₀.1.2.2.2.2 (WG_S WG_c (WG_mem 717 (by decide +kernel) (by decide +kernel)) (WG_mem 431 (by decide +kernel) (by decide +kernel)) (WG_mem 64 (by decide +kernel) (by decide +kernel)) (WG_k (WG_mem 432 (by decide +kernel) (by decide +kernel)))) rfl rfl rfl (by decide +kernel) ⟨Nat.le_of_ble_eq_true rfl, Nat.le_of_ble_eq_true rfl⟩) [] [0] [0] rfl rfl (by decide) (by decide) (by decide) (fun _ => rfl) (by decide) rfl hl₀.1 rfl (Nat.le_of_ble_eq_true rfl) dX3_heightOf_5 ⟨Nat.le_of_ble_eq_true rfl, Nat.le_of_ble_eq_true rfl⟩ (fun _ _ H₀ locs₀ hH₀ => ?_)
  refine lv_lushr (v := ((pk t₀ 3).toUInt64 >>> ((iI (2 * (23 - c₀))).toInt64.toUInt64 &&& Int64.toUInt64 63)).toInt64) C₀.1.1 C₀.1.2.1 dX3_heightOf_8 rfl ?_
  refine lv_l2i (v := (((pk t₀ 3).toUInt64 >>> ((iI (2 * (23 - c₀))).toInt64.toUInt64 &&& Int64.toUInt64 63)).toInt64).toInt32) C₀.1.1 C₀.1.2.1 dX3_heightOf_9 rfl ?_
  refine lv_iconst (v := iI 3) C₀.1.1 C₀.1.2.1 dX3_heightOf_10 (by decide) ?_
  refine lv_iand C₀.1.1 C₀.1.2.1 dX3_heightOf_11 ?_
  exact xr_i C₀ hH₀ hlk₀ hr₀ hQ₀ rfl hAe₀ () trivial (pk_get htr₀ hc₀) rfl dX3_heightOf_12
