abbrev rmX9_in : Room := { frames := 0, cells := 0, slots := 0, locals := 0 }
set_option maxHeartbeats 4000000 in
set_option maxRecDepth 100000 in
/-- in -/
theorem c_X9_in (lL₀ : Launch) (D₀ : va_G) (k₀ : Nat → ClassId) (sz₀ : Nat) (v₀ : Int) (lo₀ : Int) (hi₀ : Int) (hv₀ : -2147483648 ≤ v₀ ∧ v₀ < 2147483648) (hlo₀ : -2147483648 ≤ lo₀ ∧ lo₀ < 2147483648) (hhi₀ : -2147483648 ≤ hi₀ ∧ hi₀ < 2147483648) : Met lL₀ yX9_in wsX9_in rmX9_in (gPc ZT D₀ (tyk k₀) [.int (iI v₀), .int (iI lo₀), .int (iI hi₀)] sz₀ []) (gQi D₀ (tyk k₀) [] sz₀ (fun (_ : Unit) => True) (fun (_ : Unit) => (iI (bz (decide (lo₀ ≤ v₀ ∧ v₀ ≤ hi₀))))) (fun (_ : Unit) => [])) 0 0 (va_A [] sz₀) := by
  refine xs_met (cc := cX9_in) (maxL := 3) (ret := some .boolean) (by decide) rfl (Nat.le_of_ble_eq_true rfl) ?_
  intro pP₀ eN₀ sT₀ mI₀ below₀ meth₀ cD₀ hsz₀ args₀ QQ₀ C₀ hr₀ hlk₀ hnm₀ hQ₀ ls₀ H₀ locs₀ hl₀ hH₀
  subst hsz₀
  have hl₀ : lv_has ls₀ 3 [(0, .int (iI v₀)), (1, .int (iI lo₀)), (2, .int (iI hi₀))] := hl₀
  generalize hAe₀ : va_A [] sT₀.heap.size = A₀ at C₀ hH₀ hQ₀
  refine lv_iload_n C₀.1.1 C₀.1.2.1 dX9_in_0 rfl (lv_at hl₀ 0 rfl) ?_
  refine lv_iload_n C₀.1.1 C₀.1.2.1 dX9_in_1 rfl (lv_at hl₀ 1 rfl) ?_
  refine xi_clt (tgt := 14) C₀.1.1 C₀.1.2.1 dX9_in_2 (by decide) (by omega) (by omega) (fun h_1₀ => ?_) (fun h_1₀ => ?_)
  · refine lv_iconst (v := iI 0) C₀.1.1 C₀.1.2.1 dX9_in_14 (by decide) ?_
    exact xr_i C₀ hH₀ hlk₀ hr₀ hQ₀ rfl hAe₀ () trivial (bF (by omega)) rfl dX9_in_15
  · refine lv_iload_n C₀.1.1 C₀.1.2.1 dX9_in_5 rfl (lv_at hl₀ 0 rfl) ?_
    refine lv_iload_n C₀.1.1 C₀.1.2.1 dX9_in_6 rfl (lv_at hl₀ 2 rfl) ?_
    refine xi_cgt (tgt := 14) C₀.1.1 C₀.1.2.1 dX9_in_7 (by decide) (by omega) (by omega) (fun h_2₀ => ?_) (fun h_2₀ => ?_)
    · refine lv_iconst (v := iI 0) C₀.1.1 C₀.1.2.1 dX9_in_14 (by decide) ?_
      exact xr_i C₀ hH₀ hlk₀ hr₀ hQ₀ rfl hAe₀ () trivial (bF (by omega)) rfl dX9_in_15
    · refine lv_iconst (v := iI 1) C₀.1.1 C₀.1.2.1 dX9_in_10 (by decide) ?_
      refine lv_goto (tgt := 15) C₀.1.1 C₀.1.2.1 dX9_in_11 (by decide) ?_
      exact xr_i C₀ hH₀ hlk₀ hr₀ hQ₀ rfl hAe₀ () trivial (bT (by omega)) rfl dX9_in_15
theorem iw_X9_at_X9 : ∀ w₀ ∈ u_ws RX9 TX9 24, w₀ ∈ wsX9_at := (fun w₀ h₀ => List.mem_cons_of_mem _ (List.mem_append_right _ h₀))
abbrev rmX9_at : Room := { frames := 0, cells := 0, slots := 0, locals := 0 }
set_option maxHeartbeats 4000000 in
set_option maxRecDepth 100000 in
/-- at -/
theorem c_X9_at (lL₀ : Launch) (D₀ : va_G) (k₀ : Nat → ClassId) (sz₀ : Nat) (a₀ : Nat) (q₀ : Nat → Nat) (th₀ : Int) (un₀ : Int) (mf₀ : Int) (ty₀ : Int) (fr₀ : Int) (tt₀ : Int) (tk₀ : Int) (fa₀ : Int) (hf₀ : Bool) (ho₀ : Bool) (km₀ : Int) (tx₀ : Int → Int) (x : Int) (hx₀ : 0 ≤ x ∧ x < 2147483648) (hty₀ : 0 ≤ ty₀ ∧ ty₀ ≤ 120) (htx₀ : ∀ j₀, 0 ≤ tx₀ j₀ ∧ tx₀ j₀ < 256) : Met lL₀ yX9_at wsX9_at rmX9_at (gPc ZT D₀ (tyk k₀) [.ref a₀, .int (iI x)] sz₀ [mO a₀ q₀ th₀ un₀ mf₀ ty₀ fr₀ tt₀ tk₀ fa₀ (bz hf₀) (bz ho₀) km₀, (q₀ 9, .inl (k₀ 1, 120, .inl (by8 tx₀)))]) (gQi D₀ (tyk k₀) [mO a₀ q₀ th₀ un₀ mf₀ ty₀ fr₀ tt₀ tk₀ fa₀ (bz hf₀) (bz ho₀) km₀, (q₀ 9, .inl (k₀ 1, 120, .inl (by8 tx₀)))] sz₀ (fun (_ : Unit) => True) (fun (_ : Unit) => (iI (mAt tx₀ ty₀ x))) (fun (_ : Unit) => [mO a₀ q₀ th₀ un₀ mf₀ ty₀ fr₀ tt₀ tk₀ fa₀ (bz hf₀) (bz ho₀) km₀, (q₀ 9, .inl (k₀ 1, 120, .inl (by8 tx₀)))])) 0 0 (va_A [mO a₀ q₀ th₀ un₀ mf₀ ty₀ fr₀ tt₀ tk₀ fa₀ (bz hf₀) (bz ho₀) km₀, (q₀ 9, .inl (k₀ 1, 120, .inl (by8 tx₀)))] sz₀) := by
  refine xs_met (cc := cX9_at) (maxL := 2) (ret := some .int) (by decide) rfl (Nat.le_of_ble_eq_true rfl) ?_
  intro pP₀ eN₀ sT₀ mI₀ below₀ meth₀ cD₀ hsz₀ args₀ QQ₀ C₀ hr₀ hlk₀ hnm₀ hQ₀ ls₀ H₀ locs₀ hl₀ hH₀
  subst hsz₀
  have hl₀ : lv_has ls₀ 2 [(0, .ref a₀), (1, .int (iI x))] := hl₀
  generalize hAe₀ : va_A [mO a₀ q₀ th₀ un₀ mf₀ ty₀ fr₀ tt₀ tk₀ fa₀ (bz hf₀) (bz ho₀) km₀, (q₀ 9, .inl (k₀ 1, 120, .inl (by8 tx₀)))] sT₀.heap.size = A₀ at C₀ hH₀ hQ₀
  refine lv_iload_n C₀.1.1 C₀.1.2.1 dX9_at_0 rfl (lv_at hl₀ 1 rfl) ?_
  refine lv_aload_n C₀.1.1 C₀.1.2.1 dX9_at_1 rfl (lv_at hl₀ 0 rfl) ?_
  refine xw_get C₀ hH₀ 0 rfl rfl 10 (by decide) iw_X9_at_X9 (by decide +kernel) (v := .int (iI ty₀)) rfl dX9_at_2 ?_
  refine xi_cge (tgt := 21) C₀.1.1 C₀.1.2.1 dX9_at_5 (by decide) (by omega) (by omega) (fun h_1₀ => ?_) (fun h_1₀ => ?_)
  · refine lv_iconst (v := iI (-1)) C₀.1.1 C₀.1.2.1 dX9_at_21 (by decide) ?_
    exact xr_i C₀ hH₀ hlk₀ hr₀ hQ₀ rfl hAe₀ () trivial (by unfold mAt; rw [if_neg (by omega)]) rfl dX9_at_22
  · refine lv_aload_n C₀.1.1 C₀.1.2.1 dX9_at_8 rfl (lv_at hl₀ 0 rfl) ?_
    refine xw_get C₀ hH₀ 0 rfl rfl 9 (by decide) iw_X9_at_X9 (by decide +kernel) (v := .ref (q₀ 9)) rfl dX9_at_9 ?_
    refine lv_iload_n C₀.1.1 C₀.1.2.1 dX9_at_12 rfl (lv_at hl₀ 1 rfl) ?_
    refine xw_bld C₀ hH₀ 1 1 rfl rfl (z := x) (by omega) (by omega) (by decide) dX9_at_13 ?_
    refine lv_sipush (v := iI 255) C₀.1.1 C₀.1.2.1 dX9_at_14 (by decide) ?_
    refine lv_iand C₀.1.1 C₀.1.2.1 dX9_at_17 ?_
    refine xt_i (y := (iI (tx₀ x))) (by8_255 (htx₀ x)) ?_
    refine lv_goto (tgt := 22) C₀.1.1 C₀.1.2.1 dX9_at_18 (by decide) ?_
    exact xr_i C₀ hH₀ hlk₀ hr₀ hQ₀ rfl hAe₀ () trivial (by unfold mAt; rw [if_pos (by omega)]) rfl dX9_at_22
theorem iw_X9_cells_X9 : ∀ w₀ ∈ u_ws RX9 TX9 24, w₀ ∈ wsX9_cells := (fun w₀ h₀ => List.mem_cons_of_mem _ (List.mem_append_right _ h₀))
abbrev rmX9_cells : Room := { frames := 0, cells := 0, slots := 0, locals := 0 }
set_option maxHeartbeats 4000000 in
set_option maxRecDepth 100000 in
/-- cells -/
theorem c_X9_cells (lL₀ : Launch) (D₀ : va_G) (k₀ : Nat → ClassId) (sz₀ : Nat) (a₀ : Nat) (q₀ : Nat → Nat) (th₀ : Int) (un₀ : Int) (mf₀ : Int) (ty₀ : Int) (fr₀ : Int) (tt₀ : Int) (tk₀ : Int) (fa₀ : Int) (hf₀ : Bool) (ho₀ : Bool) (km₀ : Int) (s₀ : Int → Int)  : Met lL₀ yX9_cells wsX9_cells rmX9_cells (gPc ZT D₀ (tyk k₀) [.ref a₀] sz₀ [mO a₀ q₀ th₀ un₀ mf₀ ty₀ fr₀ tt₀ tk₀ fa₀ (bz hf₀) (bz ho₀) km₀, (q₀ 1, .inl (k₀ 0, 51, .inl (ia s₀)))]) (gQi D₀ (tyk k₀) [mO a₀ q₀ th₀ un₀ mf₀ ty₀ fr₀ tt₀ tk₀ fa₀ (bz hf₀) (bz ho₀) km₀, (q₀ 1, .inl (k₀ 0, 51, .inl (ia s₀)))] sz₀ (fun (_ : Unit) => True) (fun (_ : Unit) => (iI (s₀ 0 * s₀ 1))) (fun (_ : Unit) => [mO a₀ q₀ th₀ un₀ mf₀ ty₀ fr₀ tt₀ tk₀ fa₀ (bz hf₀) (bz ho₀) km₀, (q₀ 1, .inl (k₀ 0, 51, .inl (ia s₀)))])) 0 0 (va_A [mO a₀ q₀ th₀ un₀ mf₀ ty₀ fr₀ tt₀ tk₀ fa₀ (bz hf₀) (bz ho₀) km₀, (q₀ 1, .inl (k₀ 0, 51, .inl (ia s₀)))] sz₀) := by
  refine xs_met (cc := cX9_cells) (maxL := 1) (ret := some .int) (by decide) rfl (Nat.le_of_ble_eq_true rfl) ?_
  intro pP₀ eN₀ sT₀ mI₀ below₀ meth₀ cD₀ hsz₀ args₀ QQ₀ C₀ hr₀ hlk₀ hnm₀ hQ₀ ls₀ H₀ locs₀ hl₀ hH₀
  subst hsz₀
  have hl₀ : lv_has ls₀ 1 [(0, .ref a₀)] := hl₀
  generalize hAe₀ : va_A [mO a₀ q₀ th₀ un₀ mf₀ ty₀ fr₀ tt₀ tk₀ fa₀ (bz hf₀) (bz ho₀) km₀, (q₀ 1, .inl (k₀ 0, 51, .inl (ia s₀)))] sT₀.heap.size = A₀ at C₀ hH₀ hQ₀
  refine lv_aload_n C₀.1.1 C₀.1.2.1 dX9_cells_0 rfl (lv_at hl₀ 0 rfl) ?_
  refine xw_get C₀ hH₀ 0 rfl rfl 1 (by decide) iw_X9_cells_X9 (by decide +kernel) (v := .ref (q₀ 1)) rfl dX9_cells_1 ?_
  refine lv_iconst (v := iI 0) C₀.1.1 C₀.1.2.1 dX9_cells_4 (by decide) ?_
  refine xw_ild C₀ hH₀ 1 0 rfl rfl (z := 0) (by omega) (by omega) (by decide) dX9_cells_5 ?_
  refine lv_aload_n C₀.1.1 C₀.1.2.1 dX9_cells_6 rfl (lv_at hl₀ 0 rfl) ?_
  refine xw_get C₀ hH₀ 0 rfl rfl 1 (by decide) iw_X9_cells_X9 (by decide +kernel) (v := .ref (q₀ 1)) rfl dX9_cells_7 ?_
  refine lv_iconst (v := iI 1) C₀.1.1 C₀.1.2.1 dX9_cells_10 (by decide) ?_
  refine xw_ild C₀ hH₀ 1 0 rfl rfl (z := 1) (by omega) (by omega) (by decide) dX9_cells_11 ?_
  refine xi_mul C₀.1.1 C₀.1.2.1 dX9_cells_12 ?_
  exact xr_i C₀ hH₀ hlk₀ hr₀ hQ₀ rfl hAe₀ () trivial rfl rfl dX9_cells_13
theorem iw_X9_isCell_X9 : ∀ w₀ ∈ u_ws RX9 TX9 24, w₀ ∈ wsX9_isCell := (fun w₀ h₀ => List.mem_cons_of_mem _ (List.mem_append_right _ h₀))
abbrev rmX9_isCell : Room := { frames := 1, cells := 0, slots := 0, locals := 22 }
set_option maxHeartbeats 4000000 in
set_option maxRecDepth 100000 in
/-- isCell -/
theorem c_X9_isCell (lL₀ : Launch) (D₀ : va_G) (k₀ : Nat → ClassId) (sz₀ : Nat) (a₀ : Nat) (q₀ : Nat → Nat) (th₀ : Int) (un₀ : Int) (mf₀ : Int) (ty₀ : Int) (fr₀ : Int) (tt₀ : Int) (tk₀ : Int) (fa₀ : Int) (hf₀ : Bool) (ho₀ : Bool) (km₀ : Int) (s₀ : Int → Int) (x : Int) (y₀ : Int) (hs0₀ : 1 ≤ s₀ 0 ∧ s₀ 0 ≤ 4) (hs1₀ : 1 ≤ s₀ 1 ∧ s₀ 1 ≤ 6) (hx₀ : -2147483648 ≤ x ∧ x < 2147483648) (hy₀ : -2147483648 ≤ y₀ ∧ y₀ < 2147483648) : Met lL₀ yX9_isCell wsX9_isCell rmX9_isCell (gPc ZT D₀ (tyk k₀) [.ref a₀, .int (iI x), .int (iI y₀)] sz₀ [mO a₀ q₀ th₀ un₀ mf₀ ty₀ fr₀ tt₀ tk₀ fa₀ (bz hf₀) (bz ho₀) km₀, (q₀ 1, .inl (k₀ 0, 51, .inl (ia s₀)))]) (gQi D₀ (tyk k₀) [mO a₀ q₀ th₀ un₀ mf₀ ty₀ fr₀ tt₀ tk₀ fa₀ (bz hf₀) (bz ho₀) km₀, (q₀ 1, .inl (k₀ 0, 51, .inl (ia s₀)))] sz₀ (fun (_ : Unit) => True) (fun (_ : Unit) => (iI (bz (decide (0 ≤ x ∧ x < s₀ 0 ∧ 0 ≤ y₀ ∧ y₀ < s₀ 1))))) (fun (_ : Unit) => [mO a₀ q₀ th₀ un₀ mf₀ ty₀ fr₀ tt₀ tk₀ fa₀ (bz hf₀) (bz ho₀) km₀, (q₀ 1, .inl (k₀ 0, 51, .inl (ia s₀)))])) 0 0 (va_A [mO a₀ q₀ th₀ un₀ mf₀ ty₀ fr₀ tt₀ tk₀ fa₀ (bz hf₀) (bz ho₀) km₀, (q₀ 1, .inl (k₀ 0, 51, .inl (ia s₀)))] sz₀) := by
  refine xs_met (cc := cX9_isCell) (maxL := 3) (ret := some .boolean) (by decide) rfl (Nat.le_of_ble_eq_true rfl) ?_
  intro pP₀ eN₀ sT₀ mI₀ below₀ meth₀ cD₀ hsz₀ args₀ QQ₀ C₀ hr₀ hlk₀ hnm₀ hQ₀ ls₀ H₀ locs₀ hl₀ hH₀
  subst hsz₀
  have hl₀ : lv_has ls₀ 3 [(0, .ref a₀), (1, .int (iI x)), (2, .int (iI y₀))] := hl₀
  generalize hAe₀ : va_A [mO a₀ q₀ th₀ un₀ mf₀ ty₀ fr₀ tt₀ tk₀ fa₀ (bz hf₀) (bz ho₀) km₀, (q₀ 1, .inl (k₀ 0, 51, .inl (ia s₀)))] sT₀.heap.size = A₀ at C₀ hH₀ hQ₀
  refine lv_iload_n C₀.1.1 C₀.1.2.1 dX9_isCell_0 rfl (lv_at hl₀ 1 rfl) ?_
  refine lv_iconst (v := iI 0) C₀.1.1 C₀.1.2.1 dX9_isCell_1 (by decide) ?_
  refine lv_aload_n C₀.1.1 C₀.1.2.1 dX9_isCell_2 rfl (lv_at hl₀ 0 rfl) ?_
  refine xw_get C₀ hH₀ 0 rfl rfl 1 (by decide) iw_X9_isCell_X9 (by decide +kernel) (v := .ref (q₀ 1)) rfl dX9_isCell_3 ?_
  refine lv_iconst (v := iI 0) C₀.1.1 C₀.1.2.1 dX9_isCell_6 (by decide) ?_
  refine xw_ild C₀ hH₀ 1 0 rfl rfl (z := 0) (by omega) (by omega) (by decide) dX9_isCell_7 ?_
  refine lv_iconst (v := iI 1) C₀.1.1 C₀.1.2.1 dX9_isCell_8 (by decide) ?_
  refine xi_sub C₀.1.1 C₀.1.2.1 dX9_isCell_9 ?_
  refine xc_Si (wr := [mO a₀ q₀ th₀ un₀ mf₀ ty₀ fr₀ tt₀ tk₀ fa₀ (bz hf₀) (bz ho₀) km₀, (q₀ 1, .inl (k₀ 0, 51, .inl (ia s₀)))]) (ws' := fun _ => [mO a₀ q₀ th₀ un₀ mf₀ ty₀ fr₀ tt₀ tk₀ fa₀ (bz hf₀) (bz ho₀) km₀, (q₀ 1, .inl (k₀ 0, 51, .inl (ia s₀)))]) (As := [.int (iI x), .int (iI 0), .int (iI (s₀ 0 - 1))]) (rest := []) C₀ hH₀ (c_X9_in lL₀ D₀ k₀ H₀.size x 0 (s₀ 0 - 1) (by omega) (by omega) (by omega)) ZT_b (fun _ _ _ => trivial) (va_cwS 3 C₀.1.2.2.2.2 gX9_isCell_X9_in rfl rfl rfl (by decide +kernel) ⟨Nat.le_of_ble_eq_true rfl, Nat.le_of_ble_eq_true rfl⟩) [] [0, 1] [0, 1] rfl rfl (by decide) (by decide) (by decide) (fun _ => rfl) (by decide) rfl hl₀.1 rfl (Nat.le_of_ble_eq_true rfl) dX9_isCell_10 ⟨Nat.le_of_ble_eq_true rfl, Nat.le_of_ble_eq_true rfl⟩ (fun _ _ H₀ locs₀ hH₀ => ?_)
  refine xp_eq (tgt := 36) C₀.1.1 C₀.1.2.1 dX9_isCell_13 (by decide) (fun h_1₀ => ?_) (fun h_1₀ => ?_)
  · refine lv_iconst (v := iI 0) C₀.1.1 C₀.1.2.1 dX9_isCell_36 (by decide) ?_
    exact xr_i C₀ hH₀ hlk₀ hr₀ hQ₀ rfl hAe₀ () trivial (bF (by omega)) rfl dX9_isCell_37
  · refine lv_iload_n C₀.1.1 C₀.1.2.1 dX9_isCell_16 rfl (lv_at hl₀ 2 rfl) ?_
    refine lv_iconst (v := iI 0) C₀.1.1 C₀.1.2.1 dX9_isCell_17 (by decide) ?_
    refine lv_aload_n C₀.1.1 C₀.1.2.1 dX9_isCell_18 rfl (lv_at hl₀ 0 rfl) ?_
    refine xw_get C₀ hH₀ 0 rfl rfl 1 (by decide) iw_X9_isCell_X9 (by decide +kernel) (v := .ref (q₀ 1)) rfl dX9_isCell_19 ?_
    refine lv_iconst (v := iI 1) C₀.1.1 C₀.1.2.1 dX9_isCell_22 (by decide) ?_
    refine xw_ild C₀ hH₀ 1 0 rfl rfl (z := 1) (by omega) (by omega) (by decide) dX9_isCell_23 ?_
    refine lv_iconst (v := iI 1) C₀.1.1 C₀.1.2.1 dX9_isCell_24 (by decide) ?_
    refine xi_sub C₀.1.1 C₀.1.2.1 dX9_isCell_25 ?_
    refine xc_Si (wr := [mO a₀ q₀ th₀ un₀ mf₀ ty₀ fr₀ tt₀ tk₀ fa₀ (bz hf₀) (bz ho₀) km₀, (q₀ 1, .inl (k₀ 0, 51, .inl (ia s₀)))]) (ws' := fun _ => [mO a₀ q₀ th₀ un₀ mf₀ ty₀ fr₀ tt₀ tk₀ fa₀ (bz hf₀) (bz ho₀) km₀, (q₀ 1, .inl (k₀ 0, 51, .inl (ia s₀)))]) (As := [.int (iI y₀), .int (iI 0), .int (iI (s₀ 1 - 1))]) (rest := []) C₀ hH₀ (c_X9_in lL₀ D₀ k₀ H₀.size y₀ 0 (s₀ 1 - 1) (by omega) (by omega) (by omega)) ZT_b (fun _ _ _ => trivial) (va_cwS 3 C₀.1.2.2.2.2 gX9_isCell_X9_in rfl rfl rfl (by decide +kernel) ⟨Nat.le_of_ble_eq_true rfl, Nat.le_of_ble_eq_true rfl⟩) [] [0, 1] [0, 1] rfl rfl (by decide) (by decide) (by decide) (fun _ => rfl) (by decide) rfl hl₀.1 rfl (Nat.le_of_ble_eq_true rfl) dX9_isCell_26 ⟨Nat.le_of_ble_eq_true rfl, Nat.le_of_ble_eq_true rfl⟩ (fun _ _ H₀ locs₀ hH₀ => ?_)
    refine xp_eq (tgt := 36) C₀.1.1 C₀.1.2.1 dX9_isCell_29 (by decide) (fun h_2₀ => ?_) (fun h_2₀ => ?_)
    · refine lv_iconst (v := iI 0) C₀.1.1 C₀.1.2.1 dX9_isCell_36 (by decide) ?_
      exact xr_i C₀ hH₀ hlk₀ hr₀ hQ₀ rfl hAe₀ () trivial (bF (by omega)) rfl dX9_isCell_37
    · refine lv_iconst (v := iI 1) C₀.1.1 C₀.1.2.1 dX9_isCell_32 (by decide) ?_
      refine lv_goto (tgt := 37) C₀.1.1 C₀.1.2.1 dX9_isCell_33 (by decide) ?_
      exact xr_i C₀ hH₀ hlk₀ hr₀ hQ₀ rfl hAe₀ () trivial (bT (by omega)) rfl dX9_isCell_37
theorem iw_X9_height_X9 : ∀ w₀ ∈ u_ws RX9 TX9 24, w₀ ∈ wsX9_height := (fun w₀ h₀ => List.mem_cons_of_mem _ (List.mem_append_right _ h₀))
abbrev rmX9_height : Room := { frames := 0, cells := 0, slots := 0, locals := 0 }
set_option maxHeartbeats 4000000 in
set_option maxRecDepth 100000 in
/-- height -/
theorem c_X9_height (lL₀ : Launch) (D₀ : va_G) (k₀ : Nat → ClassId) (sz₀ : Nat) (a₀ : Nat) (q₀ : Nat → Nat) (th₀ : Int) (un₀ : Int) (mf₀ : Int) (ty₀ : Int) (fr₀ : Int) (tt₀ : Int) (tk₀ : Int) (fa₀ : Int) (hf₀ : Bool) (ho₀ : Bool) (km₀ : Int) (s₀ : Int → Int) (x : Int) (y₀ : Int) (hz₀ : 0 ≤ 3 + s₀ 0 * y₀ + x ∧ 3 + s₀ 0 * y₀ + x < 51) : Met lL₀ yX9_height wsX9_height rmX9_height (gPc ZT D₀ (tyk k₀) [.ref a₀, .int (iI x), .int (iI y₀)] sz₀ [mO a₀ q₀ th₀ un₀ mf₀ ty₀ fr₀ tt₀ tk₀ fa₀ (bz hf₀) (bz ho₀) km₀, (q₀ 1, .inl (k₀ 0, 51, .inl (ia s₀)))]) (gQi D₀ (tyk k₀) [mO a₀ q₀ th₀ un₀ mf₀ ty₀ fr₀ tt₀ tk₀ fa₀ (bz hf₀) (bz ho₀) km₀, (q₀ 1, .inl (k₀ 0, 51, .inl (ia s₀)))] sz₀ (fun (_ : Unit) => True) (fun (_ : Unit) => (iI (s₀ (3 + s₀ 0 * y₀ + x)))) (fun (_ : Unit) => [mO a₀ q₀ th₀ un₀ mf₀ ty₀ fr₀ tt₀ tk₀ fa₀ (bz hf₀) (bz ho₀) km₀, (q₀ 1, .inl (k₀ 0, 51, .inl (ia s₀)))])) 0 0 (va_A [mO a₀ q₀ th₀ un₀ mf₀ ty₀ fr₀ tt₀ tk₀ fa₀ (bz hf₀) (bz ho₀) km₀, (q₀ 1, .inl (k₀ 0, 51, .inl (ia s₀)))] sz₀) := by
  refine xs_met (cc := cX9_height) (maxL := 3) (ret := some .int) (by decide) rfl (Nat.le_of_ble_eq_true rfl) ?_
  intro pP₀ eN₀ sT₀ mI₀ below₀ meth₀ cD₀ hsz₀ args₀ QQ₀ C₀ hr₀ hlk₀ hnm₀ hQ₀ ls₀ H₀ locs₀ hl₀ hH₀
  subst hsz₀
  have hl₀ : lv_has ls₀ 3 [(0, .ref a₀), (1, .int (iI x)), (2, .int (iI y₀))] := hl₀
  generalize hAe₀ : va_A [mO a₀ q₀ th₀ un₀ mf₀ ty₀ fr₀ tt₀ tk₀ fa₀ (bz hf₀) (bz ho₀) km₀, (q₀ 1, .inl (k₀ 0, 51, .inl (ia s₀)))] sT₀.heap.size = A₀ at C₀ hH₀ hQ₀
  refine lv_aload_n C₀.1.1 C₀.1.2.1 dX9_height_0 rfl (lv_at hl₀ 0 rfl) ?_
  refine xw_get C₀ hH₀ 0 rfl rfl 1 (by decide) iw_X9_height_X9 (by decide +kernel) (v := .ref (q₀ 1)) rfl dX9_height_1 ?_
  refine lv_iconst (v := iI 3) C₀.1.1 C₀.1.2.1 dX9_height_4 (by decide) ?_
  refine lv_aload_n C₀.1.1 C₀.1.2.1 dX9_height_5 rfl (lv_at hl₀ 0 rfl) ?_
  refine xw_get C₀ hH₀ 0 rfl rfl 1 (by decide) iw_X9_height_X9 (by decide +kernel) (v := .ref (q₀ 1)) rfl dX9_height_6 ?_
  refine lv_iconst (v := iI 0) C₀.1.1 C₀.1.2.1 dX9_height_9 (by decide) ?_
  refine xw_ild C₀ hH₀ 1 0 rfl rfl (z := 0) (by omega) (by omega) (by decide) dX9_height_10 ?_
  refine lv_iload_n C₀.1.1 C₀.1.2.1 dX9_height_11 rfl (lv_at hl₀ 2 rfl) ?_
  refine xi_mul C₀.1.1 C₀.1.2.1 dX9_height_12 ?_
  refine xi_add C₀.1.1 C₀.1.2.1 dX9_height_13 ?_
  refine lv_iload_n C₀.1.1 C₀.1.2.1 dX9_height_14 rfl (lv_at hl₀ 1 rfl) ?_
  refine xi_add C₀.1.1 C₀.1.2.1 dX9_height_15 ?_
  refine xw_ild C₀ hH₀ 1 0 rfl rfl (z := 3 + ((s₀ 0) * y₀) + x) (by omega) (by omega) (by decide) dX9_height_16 ?_
  exact xr_i C₀ hH₀ hlk₀ hr₀ hQ₀ rfl hAe₀ () trivial rfl rfl dX9_height_17
abbrev rmX9_isNear : Room := { frames := 1, cells := 0, slots := 0, locals := 22 }
set_option maxHeartbeats 4000000 in
set_option maxRecDepth 100000 in
/-- isNear -/
theorem c_X9_isNear (lL₀ : Launch) (D₀ : va_G) (k₀ : Nat → ClassId) (sz₀ : Nat) (x : Int) (y₀ : Int) (hx₀ : -2147483648 ≤ x - y₀ ∧ x - y₀ < 2147483648) : Met lL₀ yX9_isNear wsX9_isNear rmX9_isNear (gPc ZT D₀ (tyk k₀) [.int (iI x), .int (iI y₀)] sz₀ []) (gQi D₀ (tyk k₀) [] sz₀ (fun (_ : Unit) => True) (fun (_ : Unit) => (iI (bz (decide (-1 ≤ x - y₀ ∧ x - y₀ ≤ 1))))) (fun (_ : Unit) => [])) 0 0 (va_A [] sz₀) := by
  refine xs_met (cc := cX9_isNear) (maxL := 2) (ret := some .boolean) (by decide) rfl (Nat.le_of_ble_eq_true rfl) ?_
  intro pP₀ eN₀ sT₀ mI₀ below₀ meth₀ cD₀ hsz₀ args₀ QQ₀ C₀ hr₀ hlk₀ hnm₀ hQ₀ ls₀ H₀ locs₀ hl₀ hH₀
  subst hsz₀
  have hl₀ : lv_has ls₀ 2 [(0, .int (iI x)), (1, .int (iI y₀))] := hl₀
  generalize hAe₀ : va_A [] sT₀.heap.size = A₀ at C₀ hH₀ hQ₀
  refine lv_iload_n C₀.1.1 C₀.1.2.1 dX9_isNear_0 rfl (lv_at hl₀ 0 rfl) ?_
  refine lv_iload_n C₀.1.1 C₀.1.2.1 dX9_isNear_1 rfl (lv_at hl₀ 1 rfl) ?_
  refine xi_sub C₀.1.1 C₀.1.2.1 dX9_isNear_2 ?_
  refine lv_iconst (v := iI (-1)) C₀.1.1 C₀.1.2.1 dX9_isNear_3 (by decide) ?_
  refine lv_iconst (v := iI 1) C₀.1.1 C₀.1.2.1 dX9_isNear_4 (by decide) ?_
  refine xc_Si (wr := []) (ws' := fun _ => []) (As := [.int (iI (x - y₀)), .int (iI (-1)), .int (iI 1)]) (rest := []) C₀ hH₀ (c_X9_in lL₀ D₀ k₀ H₀.size (x - y₀) (-1) 1 (by omega) (by omega) (by omega)) ZT_b (fun _ _ _ => trivial) (va_cwS 3 C₀.1.2.2.2.2 gX9_isNear_X9_in rfl rfl rfl (by decide +kernel) ⟨Nat.le_of_ble_eq_true rfl, Nat.le_of_ble_eq_true rfl⟩) [] [] [] rfl rfl (by decide) (by decide) (by decide) (fun _ => rfl) (by decide) rfl hl₀.1 rfl (Nat.le_of_ble_eq_true rfl) dX9_isNear_5 ⟨Nat.le_of_ble_eq_true rfl, Nat.le_of_ble_eq_true rfl⟩ (fun _ _ H₀ locs₀ hH₀ => ?_)
  exact xr_i C₀ hH₀ hlk₀ hr₀ hQ₀ (nar_bz _) hAe₀ () trivial rfl rfl dX9_isNear_8
theorem iw_X9_clear_X9 : ∀ w₀ ∈ u_ws RX9 TX9 24, w₀ ∈ wsX9_clear := (fun w₀ h₀ => List.mem_cons_of_mem _ (List.mem_append_right _ h₀))
abbrev rmX9_clear : Room := { frames := 0, cells := 0, slots := 0, locals := 0 }
set_option maxHeartbeats 4000000 in
set_option maxRecDepth 100000 in
/-- clear -/
theorem c_X9_clear (lL₀ : Launch) (D₀ : va_G) (k₀ : Nat → ClassId) (sz₀ : Nat) (a₀ : Nat) (q₀ : Nat → Nat) (th₀ : Int) (un₀ : Int) (mf₀ : Int) (ty₀ : Int) (fr₀ : Int) (tt₀ : Int) (tk₀ : Int) (fa₀ : Int) (hf₀ : Bool) (ho₀ : Bool) (km₀ : Int)  : Met lL₀ yX9_clear wsX9_clear rmX9_clear (gPc ZT D₀ (tyk k₀) [.ref a₀] sz₀ [mO a₀ q₀ th₀ un₀ mf₀ ty₀ fr₀ tt₀ tk₀ fa₀ (bz hf₀) (bz ho₀) km₀]) (gQi D₀ (tyk k₀) [mO a₀ q₀ th₀ un₀ mf₀ ty₀ fr₀ tt₀ tk₀ fa₀ (bz hf₀) (bz ho₀) km₀] sz₀ (fun (_ : Unit) => True) (fun (_ : Unit) => (iI ty₀)) (fun (_ : Unit) => [mO a₀ q₀ 0 un₀ mf₀ 0 fr₀ tt₀ tk₀ fa₀ (bz hf₀) (bz ho₀) km₀])) 0 0 (va_A [mO a₀ q₀ th₀ un₀ mf₀ ty₀ fr₀ tt₀ tk₀ fa₀ (bz hf₀) (bz ho₀) km₀] sz₀) := by
  refine xs_met (cc := cX9_clear) (maxL := 2) (ret := some .int) (by decide) rfl (Nat.le_of_ble_eq_true rfl) ?_
  intro pP₀ eN₀ sT₀ mI₀ below₀ meth₀ cD₀ hsz₀ args₀ QQ₀ C₀ hr₀ hlk₀ hnm₀ hQ₀ ls₀ H₀ locs₀ hl₀ hH₀
  subst hsz₀
  have hl₀ : lv_has ls₀ 2 [(0, .ref a₀)] := hl₀
  generalize hAe₀ : va_A [mO a₀ q₀ th₀ un₀ mf₀ ty₀ fr₀ tt₀ tk₀ fa₀ (bz hf₀) (bz ho₀) km₀] sT₀.heap.size = A₀ at C₀ hH₀ hQ₀
  refine lv_aload_n C₀.1.1 C₀.1.2.1 dX9_clear_0 rfl (lv_at hl₀ 0 rfl) ?_
  refine lv_iconst (v := iI 0) C₀.1.1 C₀.1.2.1 dX9_clear_1 (by decide) ?_
  refine xw_put (ws' := [mO a₀ q₀ 0 un₀ mf₀ ty₀ fr₀ tt₀ tk₀ fa₀ (bz hf₀) (bz ho₀) km₀]) (v := .int (iI 0)) C₀ hH₀ 0 rfl rfl tyX9 tyX9_ok nmX9 0 (by decide) iw_X9_clear_X9 (by decide +kernel) rfl rfl rfl (Nat.le_of_ble_eq_true rfl) dX9_clear_2 rfl (fun H₀ locs₀ hH₀ => ?_)
  refine lv_aload_n C₀.1.1 C₀.1.2.1 dX9_clear_5 rfl (lv_at hl₀ 0 rfl) ?_
  refine xw_get C₀ hH₀ 0 rfl rfl 10 (by decide) iw_X9_clear_X9 (by decide +kernel) (v := .int (iI ty₀)) rfl dX9_clear_6 ?_
  refine lv_istore_n (lv' := [(1, .int (iI ty₀)), (0, .ref a₀)]) C₀.1.1 C₀.1.2.1 dX9_clear_9 rfl hl₀ (by decide) rfl (fun ls₀ hl₀ => ?_)
  refine lv_aload_n C₀.1.1 C₀.1.2.1 dX9_clear_10 rfl (lv_at hl₀ 1 rfl) ?_
  refine lv_iconst (v := iI 0) C₀.1.1 C₀.1.2.1 dX9_clear_11 (by decide) ?_
  refine xw_put (ws' := [mO a₀ q₀ 0 un₀ mf₀ 0 fr₀ tt₀ tk₀ fa₀ (bz hf₀) (bz ho₀) km₀]) (v := .int (iI 0)) C₀ hH₀ 0 rfl rfl tyX9 tyX9_ok nmX9 10 (by decide) iw_X9_clear_X9 (by decide +kernel) rfl rfl rfl (Nat.le_of_ble_eq_true rfl) dX9_clear_12 rfl (fun H₀ locs₀ hH₀ => ?_)
  refine lv_iload_n C₀.1.1 C₀.1.2.1 dX9_clear_15 rfl (lv_at hl₀ 0 rfl) ?_
  exact xr_i C₀ hH₀ hlk₀ hr₀ hQ₀ rfl hAe₀ () trivial rfl rfl dX9_clear_16
theorem iw_X9_wordOf_X9 : ∀ w₀ ∈ u_ws RX9 TX9 24, w₀ ∈ wsX9_wordOf := (fun w₀ h₀ => List.mem_cons_of_mem _ (List.mem_append_right _ h₀))
abbrev rmX9_wordOf : Room := { frames := 1, cells := 0, slots := 0, locals := 21 }
set_option maxHeartbeats 4000000 in
set_option maxRecDepth 100000 in
/-- wordOf -/
theorem c_X9_wordOf (lL₀ : Launch) (D₀ : va_G) (k₀ : Nat → ClassId) (sz₀ : Nat) (a₀ : Nat) (q₀ : Nat → Nat) (th₀ : Int) (un₀ : Int) (mf₀ : Int) (ty₀ : Int) (fr₀ : Int) (tt₀ : Int) (tk₀ : Int) (fa₀ : Int) (hf₀ : Bool) (ho₀ : Bool) (km₀ : Int) (tx₀ : Int → Int) (hty₀ : 0 ≤ ty₀ ∧ ty₀ ≤ 120) (htx₀ : ∀ j₀, 0 ≤ tx₀ j₀ ∧ tx₀ j₀ < 256) (hfr₀ : 0 ≤ fr₀ ∧ fr₀ ≤ tt₀ ∧ tt₀ ≤ 120) : Met lL₀ yX9_wordOf wsX9_wordOf rmX9_wordOf (gPc ZT D₀ (tyk k₀) [.ref a₀] sz₀ [mO a₀ q₀ th₀ un₀ mf₀ ty₀ fr₀ tt₀ tk₀ fa₀ (bz hf₀) (bz ho₀) km₀, (q₀ 9, .inl (k₀ 1, 120, .inl (by8 tx₀)))]) (gQi D₀ (tyk k₀) [mO a₀ q₀ th₀ un₀ mf₀ ty₀ fr₀ tt₀ tk₀ fa₀ (bz hf₀) (bz ho₀) km₀, (q₀ 9, .inl (k₀ 1, 120, .inl (by8 tx₀)))] sz₀ (fun (_ : Unit) => True) (fun (_ : Unit) => (iI (mWord tx₀ ty₀ fr₀ tt₀))) (fun (_ : Unit) => [mO a₀ q₀ th₀ un₀ mf₀ ty₀ fr₀ tt₀ tk₀ fa₀ (bz hf₀) (bz ho₀) km₀, (q₀ 9, .inl (k₀ 1, 120, .inl (by8 tx₀)))])) 0 0 (va_A [mO a₀ q₀ th₀ un₀ mf₀ ty₀ fr₀ tt₀ tk₀ fa₀ (bz hf₀) (bz ho₀) km₀, (q₀ 9, .inl (k₀ 1, 120, .inl (by8 tx₀)))] sz₀) := by
  refine xs_met (cc := cX9_wordOf) (maxL := 6) (ret := some .int) (by decide) rfl (Nat.le_of_ble_eq_true rfl) ?_
  intro pP₀ eN₀ sT₀ mI₀ below₀ meth₀ cD₀ hsz₀ args₀ QQ₀ C₀ hr₀ hlk₀ hnm₀ hQ₀ ls₀ H₀ locs₀ hl₀ hH₀
  subst hsz₀
  have hl₀ : lv_has ls₀ 6 [(0, .ref a₀)] := hl₀
  generalize hAe₀ : va_A [mO a₀ q₀ th₀ un₀ mf₀ ty₀ fr₀ tt₀ tk₀ fa₀ (bz hf₀) (bz ho₀) km₀, (q₀ 9, .inl (k₀ 1, 120, .inl (by8 tx₀)))] sT₀.heap.size = A₀ at C₀ hH₀ hQ₀
  have ra_0₀ := mAt_rg (ty := ty₀) htx₀ fr₀
  have ra_1₀ := mAt_rg (ty := ty₀) htx₀ (fr₀ + 1)
  have ra_2₀ := mAt_rg (ty := ty₀) htx₀ (fr₀ + 2)
  have ra_3₀ := mAt_rg (ty := ty₀) htx₀ (fr₀ + 3)
  have ra_4₀ := mAt_rg (ty := ty₀) htx₀ (fr₀ + 4)
  have ra_5₀ := mAt_rg (ty := ty₀) htx₀ (fr₀ + 5)
  refine lv_aload_n C₀.1.1 C₀.1.2.1 dX9_wordOf_0 rfl (lv_at hl₀ 0 rfl) ?_
  refine xw_get C₀ hH₀ 0 rfl rfl 12 (by decide) iw_X9_wordOf_X9 (by decide +kernel) (v := .int (iI tt₀)) rfl dX9_wordOf_1 ?_
  refine lv_aload_n C₀.1.1 C₀.1.2.1 dX9_wordOf_4 rfl (lv_at hl₀ 0 rfl) ?_
  refine xw_get C₀ hH₀ 0 rfl rfl 11 (by decide) iw_X9_wordOf_X9 (by decide +kernel) (v := .int (iI fr₀)) rfl dX9_wordOf_5 ?_
  refine xi_sub C₀.1.1 C₀.1.2.1 dX9_wordOf_8 ?_
  refine lv_istore_n (lv' := [(1, .int (iI (tt₀ - fr₀))), (0, .ref a₀)]) C₀.1.1 C₀.1.2.1 dX9_wordOf_9 rfl hl₀ (by decide) rfl (fun ls₀ hl₀ => ?_)
  refine lv_aload_n C₀.1.1 C₀.1.2.1 dX9_wordOf_10 rfl (lv_at hl₀ 1 rfl) ?_
  refine lv_aload_n C₀.1.1 C₀.1.2.1 dX9_wordOf_11 rfl (lv_at hl₀ 1 rfl) ?_
  refine xw_get C₀ hH₀ 0 rfl rfl 11 (by decide) iw_X9_wordOf_X9 (by decide +kernel) (v := .int (iI fr₀)) rfl dX9_wordOf_12 ?_
  refine xc_Vi (wr := []) (ws' := fun _ => [mO a₀ q₀ th₀ un₀ mf₀ ty₀ fr₀ tt₀ tk₀ fa₀ (bz hf₀) (bz ho₀) km₀, (q₀ 9, .inl (k₀ 1, 120, .inl (by8 tx₀)))]) (As := [.int (iI fr₀)]) (rest := []) C₀ hH₀ (c_X9_at lL₀ D₀ k₀ H₀.size a₀ q₀ th₀ un₀ mf₀ ty₀ fr₀ tt₀ tk₀ fa₀ hf₀ ho₀ km₀ tx₀ fr₀ (by omega) (by omega) (htx₀)) ZT_b (fun _ _ _ => trivial) (cwV 1 C₀.1.2.2.2.2 gX9_wordOf_X9_at rfl rfl rfl (by decide +kernel) ⟨Nat.le_of_ble_eq_true rfl, Nat.le_of_ble_eq_true rfl⟩) [0, 1] [] [0, 1] rfl rfl (by decide) (by decide) (by decide) (fun _ => rfl) (by decide) (q0 := 0) rfl rfl rfl hl₀.1 rfl (Nat.le_of_ble_eq_true rfl) dX9_wordOf_15 ⟨Nat.le_of_ble_eq_true rfl, Nat.le_of_ble_eq_true rfl⟩ (fun _ _ H₀ locs₀ hH₀ => ?_)
  refine lv_istore_n (lv' := [(2, .int (iI (mAt tx₀ ty₀ fr₀))), (1, .int (iI (tt₀ - fr₀))), (0, .ref a₀)]) C₀.1.1 C₀.1.2.1 dX9_wordOf_18 rfl hl₀ (by decide) rfl (fun ls₀ hl₀ => ?_)
  refine lv_aload_n C₀.1.1 C₀.1.2.1 dX9_wordOf_19 rfl (lv_at hl₀ 2 rfl) ?_
  refine lv_aload_n C₀.1.1 C₀.1.2.1 dX9_wordOf_20 rfl (lv_at hl₀ 2 rfl) ?_
  refine xw_get C₀ hH₀ 0 rfl rfl 11 (by decide) iw_X9_wordOf_X9 (by decide +kernel) (v := .int (iI fr₀)) rfl dX9_wordOf_21 ?_
  refine lv_iconst (v := iI 1) C₀.1.1 C₀.1.2.1 dX9_wordOf_24 (by decide) ?_
  refine xi_add C₀.1.1 C₀.1.2.1 dX9_wordOf_25 ?_
  refine xc_Vi (wr := []) (ws' := fun _ => [mO a₀ q₀ th₀ un₀ mf₀ ty₀ fr₀ tt₀ tk₀ fa₀ (bz hf₀) (bz ho₀) km₀, (q₀ 9, .inl (k₀ 1, 120, .inl (by8 tx₀)))]) (As := [.int (iI (fr₀ + 1))]) (rest := []) C₀ hH₀ (c_X9_at lL₀ D₀ k₀ H₀.size a₀ q₀ th₀ un₀ mf₀ ty₀ fr₀ tt₀ tk₀ fa₀ hf₀ ho₀ km₀ tx₀ (fr₀ + 1) (by omega) (by omega) (htx₀)) ZT_b (fun _ _ _ => trivial) (cwV 1 C₀.1.2.2.2.2 gX9_wordOf_X9_at rfl rfl rfl (by decide +kernel) ⟨Nat.le_of_ble_eq_true rfl, Nat.le_of_ble_eq_true rfl⟩) [0, 1] [] [0, 1] rfl rfl (by decide) (by decide) (by decide) (fun _ => rfl) (by decide) (q0 := 0) rfl rfl rfl hl₀.1 rfl (Nat.le_of_ble_eq_true rfl) dX9_wordOf_26 ⟨Nat.le_of_ble_eq_true rfl, Nat.le_of_ble_eq_true rfl⟩ (fun _ _ H₀ locs₀ hH₀ => ?_)
  refine lv_istore_n (lv' := [(3, .int (iI (mAt tx₀ ty₀ (fr₀ + 1)))), (2, .int (iI (mAt tx₀ ty₀ fr₀))), (1, .int (iI (tt₀ - fr₀))), (0, .ref a₀)]) C₀.1.1 C₀.1.2.1 dX9_wordOf_29 rfl hl₀ (by decide) rfl (fun ls₀ hl₀ => ?_)
  refine lv_aload_n C₀.1.1 C₀.1.2.1 dX9_wordOf_30 rfl (lv_at hl₀ 3 rfl) ?_
  refine lv_aload_n C₀.1.1 C₀.1.2.1 dX9_wordOf_31 rfl (lv_at hl₀ 3 rfl) ?_
  refine xw_get C₀ hH₀ 0 rfl rfl 11 (by decide) iw_X9_wordOf_X9 (by decide +kernel) (v := .int (iI fr₀)) rfl dX9_wordOf_32 ?_
  refine lv_iconst (v := iI 2) C₀.1.1 C₀.1.2.1 dX9_wordOf_35 (by decide) ?_
  refine xi_add C₀.1.1 C₀.1.2.1 dX9_wordOf_36 ?_
  refine xc_Vi (wr := []) (ws' := fun _ => [mO a₀ q₀ th₀ un₀ mf₀ ty₀ fr₀ tt₀ tk₀ fa₀ (bz hf₀) (bz ho₀) km₀, (q₀ 9, .inl (k₀ 1, 120, .inl (by8 tx₀)))]) (As := [.int (iI (fr₀ + 2))]) (rest := []) C₀ hH₀ (c_X9_at lL₀ D₀ k₀ H₀.size a₀ q₀ th₀ un₀ mf₀ ty₀ fr₀ tt₀ tk₀ fa₀ hf₀ ho₀ km₀ tx₀ (fr₀ + 2) (by omega) (by omega) (htx₀)) ZT_b (fun _ _ _ => trivial) (cwV 1 C₀.1.2.2.2.2 gX9_wordOf_X9_at rfl rfl rfl (by decide +kernel) ⟨Nat.le_of_ble_eq_true rfl, Nat.le_of_ble_eq_true rfl⟩) [0, 1] [] [0, 1] rfl rfl (by decide) (by decide) (by decide) (fun _ => rfl) (by decide) (q0 := 0) rfl rfl rfl hl₀.1 rfl (Nat.le_of_ble_eq_true rfl) dX9_wordOf_37 ⟨Nat.le_of_ble_eq_true rfl, Nat.le_of_ble_eq_true rfl⟩ (fun _ _ H₀ locs₀ hH₀ => ?_)
  refine lv_istore (lv' := [(4, .int (iI (mAt tx₀ ty₀ (fr₀ + 2)))), (3, .int (iI (mAt tx₀ ty₀ (fr₀ + 1)))), (2, .int (iI (mAt tx₀ ty₀ fr₀))), (1, .int (iI (tt₀ - fr₀))), (0, .ref a₀)]) C₀.1.1 C₀.1.2.1 dX9_wordOf_40 hl₀ (by decide) rfl (fun ls₀ hl₀ => ?_)
  have L68₀ : (¬ (tt₀ - fr₀ = 3 ∧ mAt tx₀ ty₀ fr₀ = 114 ∧ mAt tx₀ ty₀ (fr₀ + 1) = 111 ∧ mAt tx₀ ty₀ (fr₀ + 2) = 119)) → ∀ (H₀ : Heap) (locs₀ : List Loc) (ls₀ : Array Slot), Hp D₀ A₀ sT₀.heap [mO a₀ q₀ th₀ un₀ mf₀ ty₀ fr₀ tt₀ tk₀ fa₀ (bz hf₀) (bz ho₀) km₀, (q₀ 9, .inl (k₀ 1, 120, .inl (by8 tx₀)))] H₀ locs₀ → lv_has ls₀ 6 [(0, .ref a₀), (1, .int (iI (tt₀ - fr₀))), (2, .int (iI (mAt tx₀ ty₀ fr₀))), (3, .int (iI (mAt tx₀ ty₀ (fr₀ + 1)))), (4, .int (iI (mAt tx₀ ty₀ (fr₀ + 2))))] → W pP₀ lL₀ eN₀ rmX9_wordOf sT₀ mI₀ args₀ below₀ meth₀ cD₀ H₀ locs₀ 0 0 QQ₀ (F0 mI₀ 68 ls₀ []) := by
    intro  hn1₀ H₀ locs₀ ls₀ hH₀ hl₀
    have L94₀ : (¬ (tt₀ - fr₀ = 3 ∧ mAt tx₀ ty₀ fr₀ = 102 ∧ mAt tx₀ ty₀ (fr₀ + 1) = 105 ∧ mAt tx₀ ty₀ (fr₀ + 2) = 120)) → ∀ (H₀ : Heap) (locs₀ : List Loc) (ls₀ : Array Slot), Hp D₀ A₀ sT₀.heap [mO a₀ q₀ th₀ un₀ mf₀ ty₀ fr₀ tt₀ tk₀ fa₀ (bz hf₀) (bz ho₀) km₀, (q₀ 9, .inl (k₀ 1, 120, .inl (by8 tx₀)))] H₀ locs₀ → lv_has ls₀ 6 [(0, .ref a₀), (1, .int (iI (tt₀ - fr₀))), (2, .int (iI (mAt tx₀ ty₀ fr₀))), (3, .int (iI (mAt tx₀ ty₀ (fr₀ + 1)))), (4, .int (iI (mAt tx₀ ty₀ (fr₀ + 2))))] → W pP₀ lL₀ eN₀ rmX9_wordOf sT₀ mI₀ args₀ below₀ meth₀ cD₀ H₀ locs₀ 0 0 QQ₀ (F0 mI₀ 94 ls₀ []) := by
      intro  hn2₀ H₀ locs₀ ls₀ hH₀ hl₀
      have L169₀ : ∀ (b₀ : Bool), (b₀ = decide (tt₀ - fr₀ = 6 ∧ mAt tx₀ ty₀ fr₀ = 98 ∧ mAt tx₀ ty₀ (fr₀ + 1) = 101 ∧ mAt tx₀ ty₀ (fr₀ + 2) = 121 ∧ mAt tx₀ ty₀ (fr₀ + 3) = 111 ∧ mAt tx₀ ty₀ (fr₀ + 4) = 110 ∧ mAt tx₀ ty₀ (fr₀ + 5) = 100)) → ∀ (H₀ : Heap) (locs₀ : List Loc) (ls₀ : Array Slot), Hp D₀ A₀ sT₀.heap [mO a₀ q₀ th₀ un₀ mf₀ ty₀ fr₀ tt₀ tk₀ fa₀ (bz hf₀) (bz ho₀) km₀, (q₀ 9, .inl (k₀ 1, 120, .inl (by8 tx₀)))] H₀ locs₀ → lv_has ls₀ 6 [(0, .ref a₀), (1, .int (iI (tt₀ - fr₀))), (2, .int (iI (mAt tx₀ ty₀ fr₀))), (3, .int (iI (mAt tx₀ ty₀ (fr₀ + 1)))), (4, .int (iI (mAt tx₀ ty₀ (fr₀ + 2))))] → W pP₀ lL₀ eN₀ rmX9_wordOf sT₀ mI₀ args₀ below₀ meth₀ cD₀ H₀ locs₀ 0 0 QQ₀ (F0 mI₀ 169 ls₀ [.int (iI (bz b₀))]) := by
        intro b₀ hb₀ H₀ locs₀ ls₀ hH₀ hl₀
        refine lv_istore (lv' := [(5, .int (iI (bz b₀))), (0, .ref a₀), (1, .int (iI (tt₀ - fr₀))), (2, .int (iI (mAt tx₀ ty₀ fr₀))), (3, .int (iI (mAt tx₀ ty₀ (fr₀ + 1)))), (4, .int (iI (mAt tx₀ ty₀ (fr₀ + 2))))]) C₀.1.1 C₀.1.2.1 dX9_wordOf_169 hl₀ (by decide) rfl (fun ls₀ hl₀ => ?_)
        refine lv_iload C₀.1.1 C₀.1.2.1 dX9_wordOf_171 (lv_at hl₀ 0 rfl) ?_
        refine xb_eq (tgt := 180) C₀.1.1 C₀.1.2.1 dX9_wordOf_173 (by decide) (fun h_1₀ => ?_) (fun h_1₀ => ?_)
        · refine lv_bipush (v := iI 6) C₀.1.1 C₀.1.2.1 dX9_wordOf_180 (by decide) ?_
          exact xr_i C₀ hH₀ hlk₀ hr₀ hQ₀ rfl hAe₀ () trivial (by unfold mWord; rw [if_neg hn1₀, if_neg hn2₀, if_neg (by rw [hb₀] at *; simp_all)]) rfl dX9_wordOf_182
        · refine lv_iconst (v := iI 3) C₀.1.1 C₀.1.2.1 dX9_wordOf_176 (by decide) ?_
          refine lv_goto (tgt := 182) C₀.1.1 C₀.1.2.1 dX9_wordOf_177 (by decide) ?_
          exact xr_i C₀ hH₀ hlk₀ hr₀ hQ₀ rfl hAe₀ () trivial (by unfold mWord; rw [if_neg hn1₀, if_neg hn2₀, if_pos (by rw [hb₀] at *; simp_all)]) rfl dX9_wordOf_182
      refine lv_iload_n C₀.1.1 C₀.1.2.1 dX9_wordOf_94 rfl (lv_at hl₀ 1 rfl) ?_
      refine lv_bipush (v := iI 6) C₀.1.1 C₀.1.2.1 dX9_wordOf_95 (by decide) ?_
      refine xi_cne (tgt := 168) C₀.1.1 C₀.1.2.1 dX9_wordOf_97 (by decide) (by omega) (by omega) (fun h_2₀ => ?_) (fun h_2₀ => ?_)
      · refine lv_iconst (v := iI 0) C₀.1.1 C₀.1.2.1 dX9_wordOf_168 (by decide) ?_
        exact L169₀ false ((decide_eq_false (by first | omega | (simp_all; done) | (simp_all; omega))).symm) _ _ _ hH₀ (lv_sub hl₀ [0, 1, 2, 3, 4] rfl)
      · refine lv_iload_n C₀.1.1 C₀.1.2.1 dX9_wordOf_100 rfl (lv_at hl₀ 2 rfl) ?_
        refine lv_bipush (v := iI 98) C₀.1.1 C₀.1.2.1 dX9_wordOf_101 (by decide) ?_
        refine xi_cne (tgt := 168) C₀.1.1 C₀.1.2.1 dX9_wordOf_103 (by decide) (by omega) (by omega) (fun h_3₀ => ?_) (fun h_3₀ => ?_)
        · refine lv_iconst (v := iI 0) C₀.1.1 C₀.1.2.1 dX9_wordOf_168 (by decide) ?_
          exact L169₀ false ((decide_eq_false (by first | omega | (simp_all; done) | (simp_all; omega))).symm) _ _ _ hH₀ (lv_sub hl₀ [0, 1, 2, 3, 4] rfl)
        · refine lv_iload_n C₀.1.1 C₀.1.2.1 dX9_wordOf_106 rfl (lv_at hl₀ 3 rfl) ?_
          refine lv_bipush (v := iI 101) C₀.1.1 C₀.1.2.1 dX9_wordOf_107 (by decide) ?_
          refine xi_cne (tgt := 168) C₀.1.1 C₀.1.2.1 dX9_wordOf_109 (by decide) (by omega) (by omega) (fun h_4₀ => ?_) (fun h_4₀ => ?_)
          · refine lv_iconst (v := iI 0) C₀.1.1 C₀.1.2.1 dX9_wordOf_168 (by decide) ?_
            exact L169₀ false ((decide_eq_false (by first | omega | (simp_all; done) | (simp_all; omega))).symm) _ _ _ hH₀ (lv_sub hl₀ [0, 1, 2, 3, 4] rfl)
          · refine lv_iload C₀.1.1 C₀.1.2.1 dX9_wordOf_112 (lv_at hl₀ 4 rfl) ?_
            refine lv_bipush (v := iI 121) C₀.1.1 C₀.1.2.1 dX9_wordOf_114 (by decide) ?_
            refine xi_cne (tgt := 168) C₀.1.1 C₀.1.2.1 dX9_wordOf_116 (by decide) (by omega) (by omega) (fun h_5₀ => ?_) (fun h_5₀ => ?_)
            · refine lv_iconst (v := iI 0) C₀.1.1 C₀.1.2.1 dX9_wordOf_168 (by decide) ?_
              exact L169₀ false ((decide_eq_false (by first | omega | (simp_all; done) | (simp_all; omega))).symm) _ _ _ hH₀ (lv_sub hl₀ [0, 1, 2, 3, 4] rfl)
            · refine lv_aload_n C₀.1.1 C₀.1.2.1 dX9_wordOf_119 rfl (lv_at hl₀ 0 rfl) ?_
              refine lv_aload_n C₀.1.1 C₀.1.2.1 dX9_wordOf_120 rfl (lv_at hl₀ 0 rfl) ?_
              refine xw_get C₀ hH₀ 0 rfl rfl 11 (by decide) iw_X9_wordOf_X9 (by decide +kernel) (v := .int (iI fr₀)) rfl dX9_wordOf_121 ?_
              refine lv_iconst (v := iI 3) C₀.1.1 C₀.1.2.1 dX9_wordOf_124 (by decide) ?_
              refine xi_add C₀.1.1 C₀.1.2.1 dX9_wordOf_125 ?_
              refine xc_Vi (wr := []) (ws' := fun _ => [mO a₀ q₀ th₀ un₀ mf₀ ty₀ fr₀ tt₀ tk₀ fa₀ (bz hf₀) (bz ho₀) km₀, (q₀ 9, .inl (k₀ 1, 120, .inl (by8 tx₀)))]) (As := [.int (iI (fr₀ + 3))]) (rest := []) C₀ hH₀ (c_X9_at lL₀ D₀ k₀ H₀.size a₀ q₀ th₀ un₀ mf₀ ty₀ fr₀ tt₀ tk₀ fa₀ hf₀ ho₀ km₀ tx₀ (fr₀ + 3) (by omega) (by omega) (htx₀)) ZT_b (fun _ _ _ => trivial) (cwV 1 C₀.1.2.2.2.2 gX9_wordOf_X9_at rfl rfl rfl (by decide +kernel) ⟨Nat.le_of_ble_eq_true rfl, Nat.le_of_ble_eq_true rfl⟩) [0, 1] [] [0, 1] rfl rfl (by decide) (by decide) (by decide) (fun _ => rfl) (by decide) (q0 := 0) rfl rfl rfl hl₀.1 rfl (Nat.le_of_ble_eq_true rfl) dX9_wordOf_126 ⟨Nat.le_of_ble_eq_true rfl, Nat.le_of_ble_eq_true rfl⟩ (fun _ _ H₀ locs₀ hH₀ => ?_)
              refine lv_bipush (v := iI 111) C₀.1.1 C₀.1.2.1 dX9_wordOf_129 (by decide) ?_
              refine xi_cne (tgt := 168) C₀.1.1 C₀.1.2.1 dX9_wordOf_131 (by decide) (by omega) (by omega) (fun h_6₀ => ?_) (fun h_6₀ => ?_)
              · refine lv_iconst (v := iI 0) C₀.1.1 C₀.1.2.1 dX9_wordOf_168 (by decide) ?_
                exact L169₀ false ((decide_eq_false (by first | omega | (simp_all; done) | (simp_all; omega))).symm) _ _ _ hH₀ (lv_sub hl₀ [0, 1, 2, 3, 4] rfl)
              · refine lv_aload_n C₀.1.1 C₀.1.2.1 dX9_wordOf_134 rfl (lv_at hl₀ 0 rfl) ?_
                refine lv_aload_n C₀.1.1 C₀.1.2.1 dX9_wordOf_135 rfl (lv_at hl₀ 0 rfl) ?_
                refine xw_get C₀ hH₀ 0 rfl rfl 11 (by decide) iw_X9_wordOf_X9 (by decide +kernel) (v := .int (iI fr₀)) rfl dX9_wordOf_136 ?_
                refine lv_iconst (v := iI 4) C₀.1.1 C₀.1.2.1 dX9_wordOf_139 (by decide) ?_
                refine xi_add C₀.1.1 C₀.1.2.1 dX9_wordOf_140 ?_
                refine xc_Vi (wr := []) (ws' := fun _ => [mO a₀ q₀ th₀ un₀ mf₀ ty₀ fr₀ tt₀ tk₀ fa₀ (bz hf₀) (bz ho₀) km₀, (q₀ 9, .inl (k₀ 1, 120, .inl (by8 tx₀)))]) (As := [.int (iI (fr₀ + 4))]) (rest := []) C₀ hH₀ (c_X9_at lL₀ D₀ k₀ H₀.size a₀ q₀ th₀ un₀ mf₀ ty₀ fr₀ tt₀ tk₀ fa₀ hf₀ ho₀ km₀ tx₀ (fr₀ + 4) (by omega) (by omega) (htx₀)) ZT_b (fun _ _ _ => trivial) (cwV 1 C₀.1.2.2.2.2 gX9_wordOf_X9_at rfl rfl rfl (by decide +kernel) ⟨Nat.le_of_ble_eq_true rfl, Nat.le_of_ble_eq_true rfl⟩) [0, 1] [] [0, 1] rfl rfl (by decide) (by decide) (by decide) (fun _ => rfl) (by decide) (q0 := 0) rfl rfl rfl hl₀.1 rfl (Nat.le_of_ble_eq_true rfl) dX9_wordOf_141 ⟨Nat.le_of_ble_eq_true rfl, Nat.le_of_ble_eq_true rfl⟩ (fun _ _ H₀ locs₀ hH₀ => ?_)
                refine lv_bipush (v := iI 110) C₀.1.1 C₀.1.2.1 dX9_wordOf_144 (by decide) ?_
                refine xi_cne (tgt := 168) C₀.1.1 C₀.1.2.1 dX9_wordOf_146 (by decide) (by omega) (by omega) (fun h_7₀ => ?_) (fun h_7₀ => ?_)
                · refine lv_iconst (v := iI 0) C₀.1.1 C₀.1.2.1 dX9_wordOf_168 (by decide) ?_
                  exact L169₀ false ((decide_eq_false (by first | omega | (simp_all; done) | (simp_all; omega))).symm) _ _ _ hH₀ (lv_sub hl₀ [0, 1, 2, 3, 4] rfl)
                · refine lv_aload_n C₀.1.1 C₀.1.2.1 dX9_wordOf_149 rfl (lv_at hl₀ 0 rfl) ?_
                  refine lv_aload_n C₀.1.1 C₀.1.2.1 dX9_wordOf_150 rfl (lv_at hl₀ 0 rfl) ?_
                  refine xw_get C₀ hH₀ 0 rfl rfl 11 (by decide) iw_X9_wordOf_X9 (by decide +kernel) (v := .int (iI fr₀)) rfl dX9_wordOf_151 ?_
                  refine lv_iconst (v := iI 5) C₀.1.1 C₀.1.2.1 dX9_wordOf_154 (by decide) ?_
                  refine xi_add C₀.1.1 C₀.1.2.1 dX9_wordOf_155 ?_
                  refine xc_Vi (wr := []) (ws' := fun _ => [mO a₀ q₀ th₀ un₀ mf₀ ty₀ fr₀ tt₀ tk₀ fa₀ (bz hf₀) (bz ho₀) km₀, (q₀ 9, .inl (k₀ 1, 120, .inl (by8 tx₀)))]) (As := [.int (iI (fr₀ + 5))]) (rest := []) C₀ hH₀ (c_X9_at lL₀ D₀ k₀ H₀.size a₀ q₀ th₀ un₀ mf₀ ty₀ fr₀ tt₀ tk₀ fa₀ hf₀ ho₀ km₀ tx₀ (fr₀ + 5) (by omega) (by omega) (htx₀)) ZT_b (fun _ _ _ => trivial) (cwV 1 C₀.1.2.2.2.2 gX9_wordOf_X9_at rfl rfl rfl (by decide +kernel) ⟨Nat.le_of_ble_eq_true rfl, Nat.le_of_ble_eq_true rfl⟩) [0, 1] [] [0, 1] rfl rfl (by decide) (by decide) (by decide) (fun _ => rfl) (by decide) (q0 := 0) rfl rfl rfl hl₀.1 rfl (Nat.le_of_ble_eq_true rfl) dX9_wordOf_156 ⟨Nat.le_of_ble_eq_true rfl, Nat.le_of_ble_eq_true rfl⟩ (fun _ _ H₀ locs₀ hH₀ => ?_)
                  refine lv_bipush (v := iI 100) C₀.1.1 C₀.1.2.1 dX9_wordOf_159 (by decide) ?_
                  refine xi_cne (tgt := 168) C₀.1.1 C₀.1.2.1 dX9_wordOf_161 (by decide) (by omega) (by omega) (fun h_8₀ => ?_) (fun h_8₀ => ?_)
                  · refine lv_iconst (v := iI 0) C₀.1.1 C₀.1.2.1 dX9_wordOf_168 (by decide) ?_
                    exact L169₀ false ((decide_eq_false (by first | omega | (simp_all; done) | (simp_all; omega))).symm) _ _ _ hH₀ (lv_sub hl₀ [0, 1, 2, 3, 4] rfl)
                  · refine lv_iconst (v := iI 1) C₀.1.1 C₀.1.2.1 dX9_wordOf_164 (by decide) ?_
                    refine lv_goto (tgt := 169) C₀.1.1 C₀.1.2.1 dX9_wordOf_165 (by decide) ?_
                    exact L169₀ true ((decide_eq_true (by first | omega | (simp_all; done) | (simp_all; omega))).symm) _ _ _ hH₀ (lv_sub hl₀ [0, 1, 2, 3, 4] rfl)
    refine lv_iload_n C₀.1.1 C₀.1.2.1 dX9_wordOf_68 rfl (lv_at hl₀ 1 rfl) ?_
    refine lv_iconst (v := iI 3) C₀.1.1 C₀.1.2.1 dX9_wordOf_69 (by decide) ?_
    refine xi_cne (tgt := 94) C₀.1.1 C₀.1.2.1 dX9_wordOf_70 (by decide) (by omega) (by omega) (fun h_9₀ => ?_) (fun h_9₀ => ?_)
    · exact L94₀  (by omega) _ _ _ hH₀ (lv_sub hl₀ [0, 1, 2, 3, 4] rfl)
    · refine lv_iload_n C₀.1.1 C₀.1.2.1 dX9_wordOf_73 rfl (lv_at hl₀ 2 rfl) ?_
      refine lv_bipush (v := iI 102) C₀.1.1 C₀.1.2.1 dX9_wordOf_74 (by decide) ?_
      refine xi_cne (tgt := 94) C₀.1.1 C₀.1.2.1 dX9_wordOf_76 (by decide) (by omega) (by omega) (fun h_10₀ => ?_) (fun h_10₀ => ?_)
      · exact L94₀  (by omega) _ _ _ hH₀ (lv_sub hl₀ [0, 1, 2, 3, 4] rfl)
      · refine lv_iload_n C₀.1.1 C₀.1.2.1 dX9_wordOf_79 rfl (lv_at hl₀ 3 rfl) ?_
        refine lv_bipush (v := iI 105) C₀.1.1 C₀.1.2.1 dX9_wordOf_80 (by decide) ?_
        refine xi_cne (tgt := 94) C₀.1.1 C₀.1.2.1 dX9_wordOf_82 (by decide) (by omega) (by omega) (fun h_11₀ => ?_) (fun h_11₀ => ?_)
        · exact L94₀  (by omega) _ _ _ hH₀ (lv_sub hl₀ [0, 1, 2, 3, 4] rfl)
        · refine lv_iload C₀.1.1 C₀.1.2.1 dX9_wordOf_85 (lv_at hl₀ 4 rfl) ?_
          refine lv_bipush (v := iI 120) C₀.1.1 C₀.1.2.1 dX9_wordOf_87 (by decide) ?_
          refine xi_cne (tgt := 94) C₀.1.1 C₀.1.2.1 dX9_wordOf_89 (by decide) (by omega) (by omega) (fun h_12₀ => ?_) (fun h_12₀ => ?_)
          · exact L94₀  (by omega) _ _ _ hH₀ (lv_sub hl₀ [0, 1, 2, 3, 4] rfl)
          · refine lv_iconst (v := iI 2) C₀.1.1 C₀.1.2.1 dX9_wordOf_92 (by decide) ?_
            exact xr_i C₀ hH₀ hlk₀ hr₀ hQ₀ rfl hAe₀ () trivial (by unfold mWord; rw [if_neg hn1₀, if_pos (by omega)]) rfl dX9_wordOf_93
  refine lv_iload_n C₀.1.1 C₀.1.2.1 dX9_wordOf_42 rfl (lv_at hl₀ 3 rfl) ?_
  refine lv_iconst (v := iI 3) C₀.1.1 C₀.1.2.1 dX9_wordOf_43 (by decide) ?_
  refine xi_cne (tgt := 68) C₀.1.1 C₀.1.2.1 dX9_wordOf_44 (by decide) (by omega) (by omega) (fun h_13₀ => ?_) (fun h_13₀ => ?_)
  · exact L68₀  (by omega) _ _ _ hH₀ (lv_sub hl₀ [4, 3, 2, 1, 0] rfl)
  · refine lv_iload_n C₀.1.1 C₀.1.2.1 dX9_wordOf_47 rfl (lv_at hl₀ 2 rfl) ?_
    refine lv_bipush (v := iI 114) C₀.1.1 C₀.1.2.1 dX9_wordOf_48 (by decide) ?_
    refine xi_cne (tgt := 68) C₀.1.1 C₀.1.2.1 dX9_wordOf_50 (by decide) (by omega) (by omega) (fun h_14₀ => ?_) (fun h_14₀ => ?_)
    · exact L68₀  (by omega) _ _ _ hH₀ (lv_sub hl₀ [4, 3, 2, 1, 0] rfl)
    · refine lv_iload_n C₀.1.1 C₀.1.2.1 dX9_wordOf_53 rfl (lv_at hl₀ 1 rfl) ?_
      refine lv_bipush (v := iI 111) C₀.1.1 C₀.1.2.1 dX9_wordOf_54 (by decide) ?_
      refine xi_cne (tgt := 68) C₀.1.1 C₀.1.2.1 dX9_wordOf_56 (by decide) (by omega) (by omega) (fun h_15₀ => ?_) (fun h_15₀ => ?_)
      · exact L68₀  (by omega) _ _ _ hH₀ (lv_sub hl₀ [4, 3, 2, 1, 0] rfl)
      · refine lv_iload C₀.1.1 C₀.1.2.1 dX9_wordOf_59 (lv_at hl₀ 0 rfl) ?_
        refine lv_bipush (v := iI 119) C₀.1.1 C₀.1.2.1 dX9_wordOf_61 (by decide) ?_
        refine xi_cne (tgt := 68) C₀.1.1 C₀.1.2.1 dX9_wordOf_63 (by decide) (by omega) (by omega) (fun h_16₀ => ?_) (fun h_16₀ => ?_)
        · exact L68₀  (by omega) _ _ _ hH₀ (lv_sub hl₀ [4, 3, 2, 1, 0] rfl)
        · refine lv_iconst (v := iI 1) C₀.1.1 C₀.1.2.1 dX9_wordOf_66 (by decide) ?_
          exact xr_i C₀ hH₀ hlk₀ hr₀ hQ₀ rfl hAe₀ () trivial (by unfold mWord; rw [if_pos (by omega)]) rfl dX9_wordOf_67
theorem iw_X9_steps_X9 : ∀ w₀ ∈ u_ws RX9 TX9 24, w₀ ∈ wsX9_steps := (fun w₀ h₀ => List.mem_cons_of_mem _ (List.mem_append_right _ h₀))
abbrev rmX9_steps : Room := { frames := 2, cells := 0, slots := 0, locals := 46 }
set_option maxHeartbeats 4000000 in
set_option maxRecDepth 100000 in
/-- steps -/
theorem c_X9_steps (lL₀ : Launch) (D₀ : va_G) (k₀ : Nat → ClassId) (sz₀ : Nat) (a₀ : Nat) (q₀ : Nat → Nat) (th₀ : Int) (un₀ : Int) (mf₀ : Int) (ty₀ : Int) (fr₀ : Int) (tt₀ : Int) (tk₀ : Int) (fa₀ : Int) (hf₀ : Bool) (ho₀ : Bool) (km₀ : Int) (tx₀ : Int → Int) (hty₀ : 0 ≤ ty₀ ∧ ty₀ ≤ 120) (htx₀ : ∀ j₀, 0 ≤ tx₀ j₀ ∧ tx₀ j₀ < 256) (htt₀ : 0 ≤ tt₀ ∧ tt₀ ≤ ty₀) : Met lL₀ yX9_steps wsX9_steps rmX9_steps (gPc ZT D₀ (tyk k₀) [.ref a₀] sz₀ [mO a₀ q₀ th₀ un₀ mf₀ ty₀ fr₀ tt₀ tk₀ fa₀ (bz hf₀) (bz ho₀) km₀, (q₀ 9, .inl (k₀ 1, 120, .inl (by8 tx₀)))]) (gQv D₀ (tyk k₀) [mO a₀ q₀ th₀ un₀ mf₀ ty₀ fr₀ tt₀ tk₀ fa₀ (bz hf₀) (bz ho₀) km₀, (q₀ 9, .inl (k₀ 1, 120, .inl (by8 tx₀)))] sz₀ (fun (_ : Unit) => True) (fun (_ : Unit) => [mO a₀ q₀ th₀ un₀ mf₀ ty₀ (mSkip tx₀ ty₀ tt₀) (mTo tx₀ ty₀ (mSkip tx₀ ty₀ tt₀)) (mTk tx₀ ty₀ (mSkip tx₀ ty₀ tt₀)) fa₀ (bz hf₀) (bz ho₀) km₀, (q₀ 9, .inl (k₀ 1, 120, .inl (by8 tx₀)))])) 0 0 (va_A [mO a₀ q₀ th₀ un₀ mf₀ ty₀ fr₀ tt₀ tk₀ fa₀ (bz hf₀) (bz ho₀) km₀, (q₀ 9, .inl (k₀ 1, 120, .inl (by8 tx₀)))] sz₀) := by
  refine xs_met (cc := cX9_steps) (maxL := 1) (ret := none) (by decide) rfl (Nat.le_of_ble_eq_true rfl) ?_
  intro pP₀ eN₀ sT₀ mI₀ below₀ meth₀ cD₀ hsz₀ args₀ QQ₀ C₀ hr₀ hlk₀ hnm₀ hQ₀ ls₀ H₀ locs₀ hl₀ hH₀
  subst hsz₀
  have hl₀ : lv_has ls₀ 1 [(0, .ref a₀)] := hl₀
  generalize hAe₀ : va_A [mO a₀ q₀ th₀ un₀ mf₀ ty₀ fr₀ tt₀ tk₀ fa₀ (bz hf₀) (bz ho₀) km₀, (q₀ 9, .inl (k₀ 1, 120, .inl (by8 tx₀)))] sT₀.heap.size = A₀ at C₀ hH₀ hQ₀
  obtain ⟨f₀, ef₀⟩ : ∃ f₀, f₀ = mSkip tx₀ ty₀ tt₀ := ⟨_, rfl⟩
  have rf₀ := mSkip_rg (ty := ty₀) (tx := tx₀) (p := tt₀) htt₀.2
  rw [← ef₀] at rf₀
  have raf₀ := mAt_rg (ty := ty₀) htx₀ f₀
  rw [← ef₀] at hQ₀
  refine lv_aload_n C₀.1.1 C₀.1.2.1 dX9_steps_0 rfl (lv_at hl₀ 0 rfl) ?_
  refine lv_aload_n C₀.1.1 C₀.1.2.1 dX9_steps_1 rfl (lv_at hl₀ 0 rfl) ?_
  refine xw_get C₀ hH₀ 0 rfl rfl 12 (by decide) iw_X9_steps_X9 (by decide +kernel) (v := .int (iI tt₀)) rfl dX9_steps_2 ?_
  refine xw_put (ws' := [mO a₀ q₀ th₀ un₀ mf₀ ty₀ tt₀ tt₀ tk₀ fa₀ (bz hf₀) (bz ho₀) km₀, (q₀ 9, .inl (k₀ 1, 120, .inl (by8 tx₀)))]) (v := .int (iI tt₀)) C₀ hH₀ 0 rfl rfl tyX9 tyX9_ok nmX9 11 (by decide) iw_X9_steps_X9 (by decide +kernel) rfl rfl rfl (Nat.le_of_ble_eq_true rfl) dX9_steps_5 rfl (fun H₀ locs₀ hH₀ => ?_)
  have L8₀ : ∀ (nn₀ : Nat), ∀ (fq₀ : Int), (mSkip tx₀ ty₀ fq₀ = f₀) → (0 ≤ fq₀ ∧ fq₀ ≤ ty₀) → ((ty₀ - fq₀) < (nn₀ : Int)) → ∀ (H₀ : Heap) (locs₀ : List Loc) (ls₀ : Array Slot), Hp D₀ A₀ sT₀.heap [mO a₀ q₀ th₀ un₀ mf₀ ty₀ fq₀ tt₀ tk₀ fa₀ (bz hf₀) (bz ho₀) km₀, (q₀ 9, .inl (k₀ 1, 120, .inl (by8 tx₀)))] H₀ locs₀ → lv_has ls₀ 1 [(0, .ref a₀)] → W pP₀ lL₀ eN₀ rmX9_steps sT₀ mI₀ args₀ below₀ meth₀ cD₀ H₀ locs₀ 0 0 QQ₀ (F0 mI₀ 8 ls₀ []) := by
    intro nn₀
    induction nn₀ with
    | zero => intro fq₀ i1₀ i2₀ hm₀; exact absurd hm₀ (by omega)
    | succ nn₀ ih8₀ =>
      intro fq₀ i1₀ i2₀ hm8₀ H₀ locs₀ ls₀ hH₀ hl₀
      have rq₀ := mAt_rg (ty := ty₀) htx₀ fq₀
      have rq2₀ := mAt_lt (ty := ty₀) (tx := tx₀) (x := fq₀)
      refine lv_aload_n C₀.1.1 C₀.1.2.1 dX9_steps_8 rfl (lv_at hl₀ 0 rfl) ?_
      refine lv_aload_n C₀.1.1 C₀.1.2.1 dX9_steps_9 rfl (lv_at hl₀ 0 rfl) ?_
      refine xw_get C₀ hH₀ 0 rfl rfl 11 (by decide) iw_X9_steps_X9 (by decide +kernel) (v := .int (iI fq₀)) rfl dX9_steps_10 ?_
      refine xc_Vi (wr := []) (ws' := fun _ => [mO a₀ q₀ th₀ un₀ mf₀ ty₀ fq₀ tt₀ tk₀ fa₀ (bz hf₀) (bz ho₀) km₀, (q₀ 9, .inl (k₀ 1, 120, .inl (by8 tx₀)))]) (As := [.int (iI fq₀)]) (rest := []) C₀ hH₀ (c_X9_at lL₀ D₀ k₀ H₀.size a₀ q₀ th₀ un₀ mf₀ ty₀ fq₀ tt₀ tk₀ fa₀ hf₀ ho₀ km₀ tx₀ fq₀ (by omega) (by omega) (htx₀)) ZT_b (fun _ _ _ => trivial) (cwV 1 C₀.1.2.2.2.2 gX9_steps_X9_at rfl rfl rfl (by decide +kernel) ⟨Nat.le_of_ble_eq_true rfl, Nat.le_of_ble_eq_true rfl⟩) [0, 1] [] [0, 1] rfl rfl (by decide) (by decide) (by decide) (fun _ => rfl) (by decide) (q0 := 0) rfl rfl rfl hl₀.1 rfl (Nat.le_of_ble_eq_true rfl) dX9_steps_13 ⟨Nat.le_of_ble_eq_true rfl, Nat.le_of_ble_eq_true rfl⟩ (fun _ _ H₀ locs₀ hH₀ => ?_)
      refine lv_bipush (v := iI 32) C₀.1.1 C₀.1.2.1 dX9_steps_16 (by decide) ?_
      refine xi_cne (tgt := 34) C₀.1.1 C₀.1.2.1 dX9_steps_18 (by decide) (by omega) (by omega) (fun h_1₀ => ?_) (fun h_1₀ => ?_)
      · have ef2₀ : f₀ = fq₀ := by rw [← i1₀, mSkip_eq (p := fq₀), if_neg (by omega)]
        subst ef2₀
        refine lv_aload_n C₀.1.1 C₀.1.2.1 dX9_steps_34 rfl (lv_at hl₀ 0 rfl) ?_
        refine lv_aload_n C₀.1.1 C₀.1.2.1 dX9_steps_35 rfl (lv_at hl₀ 0 rfl) ?_
        refine xw_get C₀ hH₀ 0 rfl rfl 11 (by decide) iw_X9_steps_X9 (by decide +kernel) (v := .int (iI f₀)) rfl dX9_steps_36 ?_
        refine xw_put (ws' := [mO a₀ q₀ th₀ un₀ mf₀ ty₀ f₀ f₀ tk₀ fa₀ (bz hf₀) (bz ho₀) km₀, (q₀ 9, .inl (k₀ 1, 120, .inl (by8 tx₀)))]) (v := .int (iI f₀)) C₀ hH₀ 0 rfl rfl tyX9 tyX9_ok nmX9 12 (by decide) iw_X9_steps_X9 (by decide +kernel) rfl rfl rfl (Nat.le_of_ble_eq_true rfl) dX9_steps_39 rfl (fun H₀ locs₀ hH₀ => ?_)
        refine lv_aload_n C₀.1.1 C₀.1.2.1 dX9_steps_42 rfl (lv_at hl₀ 0 rfl) ?_
        refine lv_aload_n C₀.1.1 C₀.1.2.1 dX9_steps_43 rfl (lv_at hl₀ 0 rfl) ?_
        refine xw_get C₀ hH₀ 0 rfl rfl 12 (by decide) iw_X9_steps_X9 (by decide +kernel) (v := .int (iI f₀)) rfl dX9_steps_44 ?_
        refine xc_Vi (wr := []) (ws' := fun _ => [mO a₀ q₀ th₀ un₀ mf₀ ty₀ f₀ f₀ tk₀ fa₀ (bz hf₀) (bz ho₀) km₀, (q₀ 9, .inl (k₀ 1, 120, .inl (by8 tx₀)))]) (As := [.int (iI f₀)]) (rest := []) C₀ hH₀ (c_X9_at lL₀ D₀ k₀ H₀.size a₀ q₀ th₀ un₀ mf₀ ty₀ f₀ f₀ tk₀ fa₀ hf₀ ho₀ km₀ tx₀ f₀ (by omega) (by omega) (htx₀)) ZT_b (fun _ _ _ => trivial) (cwV 1 C₀.1.2.2.2.2 gX9_steps_X9_at rfl rfl rfl (by decide +kernel) ⟨Nat.le_of_ble_eq_true rfl, Nat.le_of_ble_eq_true rfl⟩) [0, 1] [] [0, 1] rfl rfl (by decide) (by decide) (by decide) (fun _ => rfl) (by decide) (q0 := 0) rfl rfl rfl hl₀.1 rfl (Nat.le_of_ble_eq_true rfl) dX9_steps_47 ⟨Nat.le_of_ble_eq_true rfl, Nat.le_of_ble_eq_true rfl⟩ (fun _ _ H₀ locs₀ hH₀ => ?_)
        refine xi_zge (tgt := 61) C₀.1.1 C₀.1.2.1 dX9_steps_50 (by decide) (by omega) (fun h_2₀ => ?_) (fun h_2₀ => ?_)
        · refine lv_aload_n C₀.1.1 C₀.1.2.1 dX9_steps_61 rfl (lv_at hl₀ 0 rfl) ?_
          refine lv_aload_n C₀.1.1 C₀.1.2.1 dX9_steps_62 rfl (lv_at hl₀ 0 rfl) ?_
          refine xw_get C₀ hH₀ 0 rfl rfl 12 (by decide) iw_X9_steps_X9 (by decide +kernel) (v := .int (iI f₀)) rfl dX9_steps_63 ?_
          refine xc_Vi (wr := []) (ws' := fun _ => [mO a₀ q₀ th₀ un₀ mf₀ ty₀ f₀ f₀ tk₀ fa₀ (bz hf₀) (bz ho₀) km₀, (q₀ 9, .inl (k₀ 1, 120, .inl (by8 tx₀)))]) (As := [.int (iI f₀)]) (rest := []) C₀ hH₀ (c_X9_at lL₀ D₀ k₀ H₀.size a₀ q₀ th₀ un₀ mf₀ ty₀ f₀ f₀ tk₀ fa₀ hf₀ ho₀ km₀ tx₀ f₀ (by omega) (by omega) (htx₀)) ZT_b (fun _ _ _ => trivial) (cwV 1 C₀.1.2.2.2.2 gX9_steps_X9_at rfl rfl rfl (by decide +kernel) ⟨Nat.le_of_ble_eq_true rfl, Nat.le_of_ble_eq_true rfl⟩) [0, 1] [] [0, 1] rfl rfl (by decide) (by decide) (by decide) (fun _ => rfl) (by decide) (q0 := 0) rfl rfl rfl hl₀.1 rfl (Nat.le_of_ble_eq_true rfl) dX9_steps_66 ⟨Nat.le_of_ble_eq_true rfl, Nat.le_of_ble_eq_true rfl⟩ (fun _ _ H₀ locs₀ hH₀ => ?_)
          refine lv_bipush (v := iI 48) C₀.1.1 C₀.1.2.1 dX9_steps_69 (by decide) ?_
          refine lv_bipush (v := iI 57) C₀.1.1 C₀.1.2.1 dX9_steps_71 (by decide) ?_
          refine xc_Si (wr := [mO a₀ q₀ th₀ un₀ mf₀ ty₀ f₀ f₀ tk₀ fa₀ (bz hf₀) (bz ho₀) km₀, (q₀ 9, .inl (k₀ 1, 120, .inl (by8 tx₀)))]) (ws' := fun _ => [mO a₀ q₀ th₀ un₀ mf₀ ty₀ f₀ f₀ tk₀ fa₀ (bz hf₀) (bz ho₀) km₀, (q₀ 9, .inl (k₀ 1, 120, .inl (by8 tx₀)))]) (As := [.int (iI (mAt tx₀ ty₀ f₀)), .int (iI 48), .int (iI 57)]) (rest := []) C₀ hH₀ (c_X9_in lL₀ D₀ k₀ H₀.size (mAt tx₀ ty₀ f₀) 48 57 (by omega) (by omega) (by omega)) ZT_b (fun _ _ _ => trivial) (va_cwS 3 C₀.1.2.2.2.2 gX9_steps_X9_in rfl rfl rfl (by decide +kernel) ⟨Nat.le_of_ble_eq_true rfl, Nat.le_of_ble_eq_true rfl⟩) [] [0, 1] [0, 1] rfl rfl (by decide) (by decide) (by decide) (fun _ => rfl) (by decide) rfl hl₀.1 rfl (Nat.le_of_ble_eq_true rfl) dX9_steps_73 ⟨Nat.le_of_ble_eq_true rfl, Nat.le_of_ble_eq_true rfl⟩ (fun _ _ H₀ locs₀ hH₀ => ?_)
          refine xp_eq (tgt := 118) C₀.1.1 C₀.1.2.1 dX9_steps_76 (by decide) (fun h_3₀ => ?_) (fun h_3₀ => ?_)
          · refine lv_aload_n C₀.1.1 C₀.1.2.1 dX9_steps_118 rfl (lv_at hl₀ 0 rfl) ?_
            refine lv_aload_n C₀.1.1 C₀.1.2.1 dX9_steps_119 rfl (lv_at hl₀ 0 rfl) ?_
            refine xw_get C₀ hH₀ 0 rfl rfl 12 (by decide) iw_X9_steps_X9 (by decide +kernel) (v := .int (iI f₀)) rfl dX9_steps_120 ?_
            refine xc_Vi (wr := []) (ws' := fun _ => [mO a₀ q₀ th₀ un₀ mf₀ ty₀ f₀ f₀ tk₀ fa₀ (bz hf₀) (bz ho₀) km₀, (q₀ 9, .inl (k₀ 1, 120, .inl (by8 tx₀)))]) (As := [.int (iI f₀)]) (rest := []) C₀ hH₀ (c_X9_at lL₀ D₀ k₀ H₀.size a₀ q₀ th₀ un₀ mf₀ ty₀ f₀ f₀ tk₀ fa₀ hf₀ ho₀ km₀ tx₀ f₀ (by omega) (by omega) (htx₀)) ZT_b (fun _ _ _ => trivial) (cwV 1 C₀.1.2.2.2.2 gX9_steps_X9_at rfl rfl rfl (by decide +kernel) ⟨Nat.le_of_ble_eq_true rfl, Nat.le_of_ble_eq_true rfl⟩) [0, 1] [] [0, 1] rfl rfl (by decide) (by decide) (by decide) (fun _ => rfl) (by decide) (q0 := 0) rfl rfl rfl hl₀.1 rfl (Nat.le_of_ble_eq_true rfl) dX9_steps_123 ⟨Nat.le_of_ble_eq_true rfl, Nat.le_of_ble_eq_true rfl⟩ (fun _ _ H₀ locs₀ hH₀ => ?_)
            refine lv_bipush (v := iI 97) C₀.1.1 C₀.1.2.1 dX9_steps_126 (by decide) ?_
            refine lv_bipush (v := iI 122) C₀.1.1 C₀.1.2.1 dX9_steps_128 (by decide) ?_
            refine xc_Si (wr := [mO a₀ q₀ th₀ un₀ mf₀ ty₀ f₀ f₀ tk₀ fa₀ (bz hf₀) (bz ho₀) km₀, (q₀ 9, .inl (k₀ 1, 120, .inl (by8 tx₀)))]) (ws' := fun _ => [mO a₀ q₀ th₀ un₀ mf₀ ty₀ f₀ f₀ tk₀ fa₀ (bz hf₀) (bz ho₀) km₀, (q₀ 9, .inl (k₀ 1, 120, .inl (by8 tx₀)))]) (As := [.int (iI (mAt tx₀ ty₀ f₀)), .int (iI 97), .int (iI 122)]) (rest := []) C₀ hH₀ (c_X9_in lL₀ D₀ k₀ H₀.size (mAt tx₀ ty₀ f₀) 97 122 (by omega) (by omega) (by omega)) ZT_b (fun _ _ _ => trivial) (va_cwS 3 C₀.1.2.2.2.2 gX9_steps_X9_in rfl rfl rfl (by decide +kernel) ⟨Nat.le_of_ble_eq_true rfl, Nat.le_of_ble_eq_true rfl⟩) [] [0, 1] [0, 1] rfl rfl (by decide) (by decide) (by decide) (fun _ => rfl) (by decide) rfl hl₀.1 rfl (Nat.le_of_ble_eq_true rfl) dX9_steps_130 ⟨Nat.le_of_ble_eq_true rfl, Nat.le_of_ble_eq_true rfl⟩ (fun _ _ H₀ locs₀ hH₀ => ?_)
            refine xp_eq (tgt := 178) C₀.1.1 C₀.1.2.1 dX9_steps_133 (by decide) (fun h_4₀ => ?_) (fun h_4₀ => ?_)
            · have rq9₀ := mAt_lt (ty := ty₀) (tx := tx₀) (x := f₀)
              refine lv_aload_n C₀.1.1 C₀.1.2.1 dX9_steps_178 rfl (lv_at hl₀ 0 rfl) ?_
              refine lv_aload_n C₀.1.1 C₀.1.2.1 dX9_steps_179 rfl (lv_at hl₀ 0 rfl) ?_
              refine lv_aload_n C₀.1.1 C₀.1.2.1 dX9_steps_180 rfl (lv_at hl₀ 0 rfl) ?_
              refine xw_get C₀ hH₀ 0 rfl rfl 12 (by decide) iw_X9_steps_X9 (by decide +kernel) (v := .int (iI f₀)) rfl dX9_steps_181 ?_
              refine xc_Vi (wr := []) (ws' := fun _ => [mO a₀ q₀ th₀ un₀ mf₀ ty₀ f₀ f₀ tk₀ fa₀ (bz hf₀) (bz ho₀) km₀, (q₀ 9, .inl (k₀ 1, 120, .inl (by8 tx₀)))]) (As := [.int (iI f₀)]) (rest := [.ref a₀]) C₀ hH₀ (c_X9_at lL₀ D₀ k₀ H₀.size a₀ q₀ th₀ un₀ mf₀ ty₀ f₀ f₀ tk₀ fa₀ hf₀ ho₀ km₀ tx₀ f₀ (by omega) (by omega) (htx₀)) ZT_b (fun _ _ _ => trivial) (cwV 1 C₀.1.2.2.2.2 gX9_steps_X9_at rfl rfl rfl (by decide +kernel) ⟨Nat.le_of_ble_eq_true rfl, Nat.le_of_ble_eq_true rfl⟩) [0, 1] [] [0, 1] rfl rfl (by decide) (by decide) (by decide) (fun _ => rfl) (by decide) (q0 := 0) rfl rfl rfl hl₀.1 rfl (Nat.le_of_ble_eq_true rfl) dX9_steps_184 ⟨Nat.le_of_ble_eq_true rfl, Nat.le_of_ble_eq_true rfl⟩ (fun _ _ H₀ locs₀ hH₀ => ?_)
              refine lv_bipush (v := iI 59) C₀.1.1 C₀.1.2.1 dX9_steps_187 (by decide) ?_
              refine xi_cne (tgt := 196) C₀.1.1 C₀.1.2.1 dX9_steps_189 (by decide) (by omega) (by omega) (fun h_5₀ => ?_) (fun h_5₀ => ?_)
              · refine lv_bipush (v := iI 6) C₀.1.1 C₀.1.2.1 dX9_steps_196 (by decide) ?_
                refine xw_put (ws' := [mO a₀ q₀ th₀ un₀ mf₀ ty₀ f₀ f₀ 6 fa₀ (bz hf₀) (bz ho₀) km₀, (q₀ 9, .inl (k₀ 1, 120, .inl (by8 tx₀)))]) (v := .int (iI 6)) C₀ hH₀ 0 rfl rfl tyX9 tyX9_ok nmX9 13 (by decide) iw_X9_steps_X9 (by decide +kernel) rfl rfl rfl (Nat.le_of_ble_eq_true rfl) dX9_steps_198 rfl (fun H₀ locs₀ hH₀ => ?_)
                refine lv_aload_n C₀.1.1 C₀.1.2.1 dX9_steps_201 rfl (lv_at hl₀ 0 rfl) ?_
                refine lv_dup C₀.1.1 C₀.1.2.1 dX9_steps_202 rfl ?_
                refine xw_get C₀ hH₀ 0 rfl rfl 12 (by decide) iw_X9_steps_X9 (by decide +kernel) (v := .int (iI f₀)) rfl dX9_steps_203 ?_
                refine lv_iconst (v := iI 1) C₀.1.1 C₀.1.2.1 dX9_steps_206 (by decide) ?_
                refine xi_add C₀.1.1 C₀.1.2.1 dX9_steps_207 ?_
                refine xw_put (ws' := [mO a₀ q₀ th₀ un₀ mf₀ ty₀ f₀ (f₀ + 1) 6 fa₀ (bz hf₀) (bz ho₀) km₀, (q₀ 9, .inl (k₀ 1, 120, .inl (by8 tx₀)))]) (v := .int (iI (f₀ + 1))) C₀ hH₀ 0 rfl rfl tyX9 tyX9_ok nmX9 12 (by decide) iw_X9_steps_X9 (by decide +kernel) rfl rfl rfl (Nat.le_of_ble_eq_true rfl) dX9_steps_208 rfl (fun H₀ locs₀ hH₀ => ?_)
                exact xr_v C₀ hH₀ hlk₀ hr₀ hQ₀ hAe₀ () trivial (by simp (disch := omega) only [mTo, mTk, if_pos, if_neg] <;> simp_all) dX9_steps_211
              · refine lv_iconst (v := iI 5) C₀.1.1 C₀.1.2.1 dX9_steps_192 (by decide) ?_
                refine lv_goto (tgt := 198) C₀.1.1 C₀.1.2.1 dX9_steps_193 (by decide) ?_
                refine xw_put (ws' := [mO a₀ q₀ th₀ un₀ mf₀ ty₀ f₀ f₀ 5 fa₀ (bz hf₀) (bz ho₀) km₀, (q₀ 9, .inl (k₀ 1, 120, .inl (by8 tx₀)))]) (v := .int (iI 5)) C₀ hH₀ 0 rfl rfl tyX9 tyX9_ok nmX9 13 (by decide) iw_X9_steps_X9 (by decide +kernel) rfl rfl rfl (Nat.le_of_ble_eq_true rfl) dX9_steps_198 rfl (fun H₀ locs₀ hH₀ => ?_)
                refine lv_aload_n C₀.1.1 C₀.1.2.1 dX9_steps_201 rfl (lv_at hl₀ 0 rfl) ?_
                refine lv_dup C₀.1.1 C₀.1.2.1 dX9_steps_202 rfl ?_
                refine xw_get C₀ hH₀ 0 rfl rfl 12 (by decide) iw_X9_steps_X9 (by decide +kernel) (v := .int (iI f₀)) rfl dX9_steps_203 ?_
                refine lv_iconst (v := iI 1) C₀.1.1 C₀.1.2.1 dX9_steps_206 (by decide) ?_
                refine xi_add C₀.1.1 C₀.1.2.1 dX9_steps_207 ?_
                refine xw_put (ws' := [mO a₀ q₀ th₀ un₀ mf₀ ty₀ f₀ (f₀ + 1) 5 fa₀ (bz hf₀) (bz ho₀) km₀, (q₀ 9, .inl (k₀ 1, 120, .inl (by8 tx₀)))]) (v := .int (iI (f₀ + 1))) C₀ hH₀ 0 rfl rfl tyX9 tyX9_ok nmX9 12 (by decide) iw_X9_steps_X9 (by decide +kernel) rfl rfl rfl (Nat.le_of_ble_eq_true rfl) dX9_steps_208 rfl (fun H₀ locs₀ hH₀ => ?_)
                exact xr_v C₀ hH₀ hlk₀ hr₀ hQ₀ hAe₀ () trivial (by simp (disch := omega) only [mTo, mTk, if_pos, if_neg] <;> simp_all) dX9_steps_211
            · have L136₀ : ∀ (nn₀ : Nat), ∀ (tq₀ : Int), (mRun tx₀ ty₀ 97 122 tq₀ = mRun tx₀ ty₀ 97 122 f₀) → (0 ≤ tq₀ ∧ f₀ ≤ tq₀ ∧ tq₀ ≤ ty₀) → ((ty₀ - tq₀) < (nn₀ : Int)) → ∀ (H₀ : Heap) (locs₀ : List Loc) (ls₀ : Array Slot), Hp D₀ A₀ sT₀.heap [mO a₀ q₀ th₀ un₀ mf₀ ty₀ f₀ tq₀ tk₀ fa₀ (bz hf₀) (bz ho₀) km₀, (q₀ 9, .inl (k₀ 1, 120, .inl (by8 tx₀)))] H₀ locs₀ → lv_has ls₀ 1 [(0, .ref a₀)] → W pP₀ lL₀ eN₀ rmX9_steps sT₀ mI₀ args₀ below₀ meth₀ cD₀ H₀ locs₀ 0 0 QQ₀ (F0 mI₀ 136 ls₀ []) := by
                intro nn₀
                induction nn₀ with
                | zero => intro tq₀ i3₀ i4₀ hm₀; exact absurd hm₀ (by omega)
                | succ nn₀ ih136₀ =>
                  intro tq₀ i3₀ i4₀ hm136₀ H₀ locs₀ ls₀ hH₀ hl₀
                  have rq₀ := mAt_rg (ty := ty₀) htx₀ tq₀
                  have rq2₀ := mAt_lt (ty := ty₀) (tx := tx₀) (x := tq₀)
                  refine lv_aload_n C₀.1.1 C₀.1.2.1 dX9_steps_136 rfl (lv_at hl₀ 0 rfl) ?_
                  refine lv_aload_n C₀.1.1 C₀.1.2.1 dX9_steps_137 rfl (lv_at hl₀ 0 rfl) ?_
                  refine xw_get C₀ hH₀ 0 rfl rfl 12 (by decide) iw_X9_steps_X9 (by decide +kernel) (v := .int (iI tq₀)) rfl dX9_steps_138 ?_
                  refine xc_Vi (wr := []) (ws' := fun _ => [mO a₀ q₀ th₀ un₀ mf₀ ty₀ f₀ tq₀ tk₀ fa₀ (bz hf₀) (bz ho₀) km₀, (q₀ 9, .inl (k₀ 1, 120, .inl (by8 tx₀)))]) (As := [.int (iI tq₀)]) (rest := []) C₀ hH₀ (c_X9_at lL₀ D₀ k₀ H₀.size a₀ q₀ th₀ un₀ mf₀ ty₀ f₀ tq₀ tk₀ fa₀ hf₀ ho₀ km₀ tx₀ tq₀ (by omega) (by omega) (htx₀)) ZT_b (fun _ _ _ => trivial) (cwV 1 C₀.1.2.2.2.2 gX9_steps_X9_at rfl rfl rfl (by decide +kernel) ⟨Nat.le_of_ble_eq_true rfl, Nat.le_of_ble_eq_true rfl⟩) [0, 1] [] [0, 1] rfl rfl (by decide) (by decide) (by decide) (fun _ => rfl) (by decide) (q0 := 0) rfl rfl rfl hl₀.1 rfl (Nat.le_of_ble_eq_true rfl) dX9_steps_141 ⟨Nat.le_of_ble_eq_true rfl, Nat.le_of_ble_eq_true rfl⟩ (fun _ _ H₀ locs₀ hH₀ => ?_)
                  refine lv_bipush (v := iI 97) C₀.1.1 C₀.1.2.1 dX9_steps_144 (by decide) ?_
                  refine lv_bipush (v := iI 122) C₀.1.1 C₀.1.2.1 dX9_steps_146 (by decide) ?_
                  refine xc_Si (wr := [mO a₀ q₀ th₀ un₀ mf₀ ty₀ f₀ tq₀ tk₀ fa₀ (bz hf₀) (bz ho₀) km₀, (q₀ 9, .inl (k₀ 1, 120, .inl (by8 tx₀)))]) (ws' := fun _ => [mO a₀ q₀ th₀ un₀ mf₀ ty₀ f₀ tq₀ tk₀ fa₀ (bz hf₀) (bz ho₀) km₀, (q₀ 9, .inl (k₀ 1, 120, .inl (by8 tx₀)))]) (As := [.int (iI (mAt tx₀ ty₀ tq₀)), .int (iI 97), .int (iI 122)]) (rest := []) C₀ hH₀ (c_X9_in lL₀ D₀ k₀ H₀.size (mAt tx₀ ty₀ tq₀) 97 122 (by omega) (by omega) (by omega)) ZT_b (fun _ _ _ => trivial) (va_cwS 3 C₀.1.2.2.2.2 gX9_steps_X9_in rfl rfl rfl (by decide +kernel) ⟨Nat.le_of_ble_eq_true rfl, Nat.le_of_ble_eq_true rfl⟩) [] [0, 1] [0, 1] rfl rfl (by decide) (by decide) (by decide) (fun _ => rfl) (by decide) rfl hl₀.1 rfl (Nat.le_of_ble_eq_true rfl) dX9_steps_148 ⟨Nat.le_of_ble_eq_true rfl, Nat.le_of_ble_eq_true rfl⟩ (fun _ _ H₀ locs₀ hH₀ => ?_)
                  refine xp_eq (tgt := 167) C₀.1.1 C₀.1.2.1 dX9_steps_151 (by decide) (fun h_6₀ => ?_) (fun h_6₀ => ?_)
                  · have et2₀ : tq₀ = mRun tx₀ ty₀ 97 122 f₀ := by rw [← i3₀, mRun_eq (p := tq₀), if_neg (by omega)]
                    refine lv_aload_n C₀.1.1 C₀.1.2.1 dX9_steps_167 rfl (lv_at hl₀ 0 rfl) ?_
                    refine lv_aload_n C₀.1.1 C₀.1.2.1 dX9_steps_168 rfl (lv_at hl₀ 0 rfl) ?_
                    refine xc_Vi (wr := []) (ws' := fun _ => [mO a₀ q₀ th₀ un₀ mf₀ ty₀ f₀ tq₀ tk₀ fa₀ (bz hf₀) (bz ho₀) km₀, (q₀ 9, .inl (k₀ 1, 120, .inl (by8 tx₀)))]) (As := []) (rest := [.ref a₀]) C₀ hH₀ (c_X9_wordOf lL₀ D₀ k₀ H₀.size a₀ q₀ th₀ un₀ mf₀ ty₀ f₀ tq₀ tk₀ fa₀ hf₀ ho₀ km₀ tx₀ (by omega) (htx₀) (by omega)) ZT_b (fun _ _ _ => trivial) (cwV 0 C₀.1.2.2.2.2 gX9_steps_X9_wordOf rfl rfl rfl (by decide +kernel) ⟨Nat.le_of_ble_eq_true rfl, Nat.le_of_ble_eq_true rfl⟩) [0, 1] [] [0, 1] rfl rfl (by decide) (by decide) (by decide) (fun _ => rfl) (by decide) (q0 := 0) rfl rfl rfl hl₀.1 rfl (Nat.le_of_ble_eq_true rfl) dX9_steps_169 ⟨Nat.le_of_ble_eq_true rfl, Nat.le_of_ble_eq_true rfl⟩ (fun _ _ H₀ locs₀ hH₀ => ?_)
                    refine xw_put (ws' := [mO a₀ q₀ th₀ un₀ mf₀ ty₀ f₀ tq₀ (mWord tx₀ ty₀ f₀ tq₀) fa₀ (bz hf₀) (bz ho₀) km₀, (q₀ 9, .inl (k₀ 1, 120, .inl (by8 tx₀)))]) (v := .int (iI (mWord tx₀ ty₀ f₀ tq₀))) C₀ hH₀ 0 rfl rfl tyX9 tyX9_ok nmX9 13 (by decide) iw_X9_steps_X9 (by decide +kernel) rfl rfl rfl (Nat.le_of_ble_eq_true rfl) dX9_steps_172 rfl (fun H₀ locs₀ hH₀ => ?_)
                    refine lv_goto (tgt := 211) C₀.1.1 C₀.1.2.1 dX9_steps_175 (by decide) ?_
                    exact xr_v C₀ hH₀ hlk₀ hr₀ hQ₀ hAe₀ () trivial (by simp (disch := omega) only [mTo, mTk, if_pos, if_neg] <;> simp_all) dX9_steps_211
                  · refine lv_aload_n C₀.1.1 C₀.1.2.1 dX9_steps_154 rfl (lv_at hl₀ 0 rfl) ?_
                    refine lv_dup C₀.1.1 C₀.1.2.1 dX9_steps_155 rfl ?_
                    refine xw_get C₀ hH₀ 0 rfl rfl 12 (by decide) iw_X9_steps_X9 (by decide +kernel) (v := .int (iI tq₀)) rfl dX9_steps_156 ?_
                    refine lv_iconst (v := iI 1) C₀.1.1 C₀.1.2.1 dX9_steps_159 (by decide) ?_
                    refine xi_add C₀.1.1 C₀.1.2.1 dX9_steps_160 ?_
                    refine xw_put (ws' := [mO a₀ q₀ th₀ un₀ mf₀ ty₀ f₀ (tq₀ + 1) tk₀ fa₀ (bz hf₀) (bz ho₀) km₀, (q₀ 9, .inl (k₀ 1, 120, .inl (by8 tx₀)))]) (v := .int (iI (tq₀ + 1))) C₀ hH₀ 0 rfl rfl tyX9 tyX9_ok nmX9 12 (by decide) iw_X9_steps_X9 (by decide +kernel) rfl rfl rfl (Nat.le_of_ble_eq_true rfl) dX9_steps_161 rfl (fun H₀ locs₀ hH₀ => ?_)
                    refine lv_goto (tgt := 136) C₀.1.1 C₀.1.2.1 dX9_steps_164 (by decide) ?_
                    exact ih136₀ (tq₀ + 1) (by rw [← i3₀, mRun_eq (p := tq₀), if_pos (by omega)]) (by omega) (by omega) _ _ _ hH₀ (lv_sub hl₀ [0] rfl)
              exact L136₀ (((ty₀ - f₀) : Int).toNat + 1) f₀ (rfl) (by omega) (by omega) _ _ _ hH₀ (lv_sub hl₀ [0] rfl)
          · have L79₀ : ∀ (nn₀ : Nat), ∀ (tq₀ : Int), (mRun tx₀ ty₀ 48 57 tq₀ = mRun tx₀ ty₀ 48 57 f₀) → (0 ≤ tq₀ ∧ tq₀ ≤ ty₀) → ((ty₀ - tq₀) < (nn₀ : Int)) → ∀ (H₀ : Heap) (locs₀ : List Loc) (ls₀ : Array Slot), Hp D₀ A₀ sT₀.heap [mO a₀ q₀ th₀ un₀ mf₀ ty₀ f₀ tq₀ tk₀ fa₀ (bz hf₀) (bz ho₀) km₀, (q₀ 9, .inl (k₀ 1, 120, .inl (by8 tx₀)))] H₀ locs₀ → lv_has ls₀ 1 [(0, .ref a₀)] → W pP₀ lL₀ eN₀ rmX9_steps sT₀ mI₀ args₀ below₀ meth₀ cD₀ H₀ locs₀ 0 0 QQ₀ (F0 mI₀ 79 ls₀ []) := by
              intro nn₀
              induction nn₀ with
              | zero => intro tq₀ i3₀ i4₀ hm₀; exact absurd hm₀ (by omega)
              | succ nn₀ ih79₀ =>
                intro tq₀ i3₀ i4₀ hm79₀ H₀ locs₀ ls₀ hH₀ hl₀
                have rq₀ := mAt_rg (ty := ty₀) htx₀ tq₀
                have rq2₀ := mAt_lt (ty := ty₀) (tx := tx₀) (x := tq₀)
                refine lv_aload_n C₀.1.1 C₀.1.2.1 dX9_steps_79 rfl (lv_at hl₀ 0 rfl) ?_
                refine lv_aload_n C₀.1.1 C₀.1.2.1 dX9_steps_80 rfl (lv_at hl₀ 0 rfl) ?_
                refine xw_get C₀ hH₀ 0 rfl rfl 12 (by decide) iw_X9_steps_X9 (by decide +kernel) (v := .int (iI tq₀)) rfl dX9_steps_81 ?_
                refine xc_Vi (wr := []) (ws' := fun _ => [mO a₀ q₀ th₀ un₀ mf₀ ty₀ f₀ tq₀ tk₀ fa₀ (bz hf₀) (bz ho₀) km₀, (q₀ 9, .inl (k₀ 1, 120, .inl (by8 tx₀)))]) (As := [.int (iI tq₀)]) (rest := []) C₀ hH₀ (c_X9_at lL₀ D₀ k₀ H₀.size a₀ q₀ th₀ un₀ mf₀ ty₀ f₀ tq₀ tk₀ fa₀ hf₀ ho₀ km₀ tx₀ tq₀ (by omega) (by omega) (htx₀)) ZT_b (fun _ _ _ => trivial) (cwV 1 C₀.1.2.2.2.2 gX9_steps_X9_at rfl rfl rfl (by decide +kernel) ⟨Nat.le_of_ble_eq_true rfl, Nat.le_of_ble_eq_true rfl⟩) [0, 1] [] [0, 1] rfl rfl (by decide) (by decide) (by decide) (fun _ => rfl) (by decide) (q0 := 0) rfl rfl rfl hl₀.1 rfl (Nat.le_of_ble_eq_true rfl) dX9_steps_84 ⟨Nat.le_of_ble_eq_true rfl, Nat.le_of_ble_eq_true rfl⟩ (fun _ _ H₀ locs₀ hH₀ => ?_)
                refine lv_bipush (v := iI 48) C₀.1.1 C₀.1.2.1 dX9_steps_87 (by decide) ?_
                refine lv_bipush (v := iI 57) C₀.1.1 C₀.1.2.1 dX9_steps_89 (by decide) ?_
                refine xc_Si (wr := [mO a₀ q₀ th₀ un₀ mf₀ ty₀ f₀ tq₀ tk₀ fa₀ (bz hf₀) (bz ho₀) km₀, (q₀ 9, .inl (k₀ 1, 120, .inl (by8 tx₀)))]) (ws' := fun _ => [mO a₀ q₀ th₀ un₀ mf₀ ty₀ f₀ tq₀ tk₀ fa₀ (bz hf₀) (bz ho₀) km₀, (q₀ 9, .inl (k₀ 1, 120, .inl (by8 tx₀)))]) (As := [.int (iI (mAt tx₀ ty₀ tq₀)), .int (iI 48), .int (iI 57)]) (rest := []) C₀ hH₀ (c_X9_in lL₀ D₀ k₀ H₀.size (mAt tx₀ ty₀ tq₀) 48 57 (by omega) (by omega) (by omega)) ZT_b (fun _ _ _ => trivial) (va_cwS 3 C₀.1.2.2.2.2 gX9_steps_X9_in rfl rfl rfl (by decide +kernel) ⟨Nat.le_of_ble_eq_true rfl, Nat.le_of_ble_eq_true rfl⟩) [] [0, 1] [0, 1] rfl rfl (by decide) (by decide) (by decide) (fun _ => rfl) (by decide) rfl hl₀.1 rfl (Nat.le_of_ble_eq_true rfl) dX9_steps_91 ⟨Nat.le_of_ble_eq_true rfl, Nat.le_of_ble_eq_true rfl⟩ (fun _ _ H₀ locs₀ hH₀ => ?_)
                refine xp_eq (tgt := 110) C₀.1.1 C₀.1.2.1 dX9_steps_94 (by decide) (fun h_7₀ => ?_) (fun h_7₀ => ?_)
                · have et2₀ : tq₀ = mRun tx₀ ty₀ 48 57 f₀ := by rw [← i3₀, mRun_eq (p := tq₀), if_neg (by omega)]
                  refine lv_aload_n C₀.1.1 C₀.1.2.1 dX9_steps_110 rfl (lv_at hl₀ 0 rfl) ?_
                  refine lv_iconst (v := iI 4) C₀.1.1 C₀.1.2.1 dX9_steps_111 (by decide) ?_
                  refine xw_put (ws' := [mO a₀ q₀ th₀ un₀ mf₀ ty₀ f₀ tq₀ 4 fa₀ (bz hf₀) (bz ho₀) km₀, (q₀ 9, .inl (k₀ 1, 120, .inl (by8 tx₀)))]) (v := .int (iI 4)) C₀ hH₀ 0 rfl rfl tyX9 tyX9_ok nmX9 13 (by decide) iw_X9_steps_X9 (by decide +kernel) rfl rfl rfl (Nat.le_of_ble_eq_true rfl) dX9_steps_112 rfl (fun H₀ locs₀ hH₀ => ?_)
                  refine lv_goto (tgt := 211) C₀.1.1 C₀.1.2.1 dX9_steps_115 (by decide) ?_
                  exact xr_v C₀ hH₀ hlk₀ hr₀ hQ₀ hAe₀ () trivial (by simp (disch := omega) only [mTo, mTk, if_pos, if_neg] <;> simp_all) dX9_steps_211
                · refine lv_aload_n C₀.1.1 C₀.1.2.1 dX9_steps_97 rfl (lv_at hl₀ 0 rfl) ?_
                  refine lv_dup C₀.1.1 C₀.1.2.1 dX9_steps_98 rfl ?_
                  refine xw_get C₀ hH₀ 0 rfl rfl 12 (by decide) iw_X9_steps_X9 (by decide +kernel) (v := .int (iI tq₀)) rfl dX9_steps_99 ?_
                  refine lv_iconst (v := iI 1) C₀.1.1 C₀.1.2.1 dX9_steps_102 (by decide) ?_
                  refine xi_add C₀.1.1 C₀.1.2.1 dX9_steps_103 ?_
                  refine xw_put (ws' := [mO a₀ q₀ th₀ un₀ mf₀ ty₀ f₀ (tq₀ + 1) tk₀ fa₀ (bz hf₀) (bz ho₀) km₀, (q₀ 9, .inl (k₀ 1, 120, .inl (by8 tx₀)))]) (v := .int (iI (tq₀ + 1))) C₀ hH₀ 0 rfl rfl tyX9 tyX9_ok nmX9 12 (by decide) iw_X9_steps_X9 (by decide +kernel) rfl rfl rfl (Nat.le_of_ble_eq_true rfl) dX9_steps_104 rfl (fun H₀ locs₀ hH₀ => ?_)
                  refine lv_goto (tgt := 79) C₀.1.1 C₀.1.2.1 dX9_steps_107 (by decide) ?_
                  exact ih79₀ (tq₀ + 1) (by rw [← i3₀, mRun_eq (p := tq₀), if_pos (by omega)]) (by omega) (by omega) _ _ _ hH₀ (lv_sub hl₀ [0] rfl)
            exact L79₀ (((ty₀ - f₀) : Int).toNat + 1) f₀ (rfl) (by omega) (by omega) _ _ _ hH₀ (lv_sub hl₀ [0] rfl)
        · refine lv_aload_n C₀.1.1 C₀.1.2.1 dX9_steps_53 rfl (lv_at hl₀ 0 rfl) ?_
          refine lv_iconst (v := iI 0) C₀.1.1 C₀.1.2.1 dX9_steps_54 (by decide) ?_
          refine xw_put (ws' := [mO a₀ q₀ th₀ un₀ mf₀ ty₀ f₀ f₀ 0 fa₀ (bz hf₀) (bz ho₀) km₀, (q₀ 9, .inl (k₀ 1, 120, .inl (by8 tx₀)))]) (v := .int (iI 0)) C₀ hH₀ 0 rfl rfl tyX9 tyX9_ok nmX9 13 (by decide) iw_X9_steps_X9 (by decide +kernel) rfl rfl rfl (Nat.le_of_ble_eq_true rfl) dX9_steps_55 rfl (fun H₀ locs₀ hH₀ => ?_)
          refine lv_goto (tgt := 211) C₀.1.1 C₀.1.2.1 dX9_steps_58 (by decide) ?_
          exact xr_v C₀ hH₀ hlk₀ hr₀ hQ₀ hAe₀ () trivial (by simp (disch := omega) only [mTo, mTk, if_pos, if_neg] <;> simp_all) dX9_steps_211
      · refine lv_aload_n C₀.1.1 C₀.1.2.1 dX9_steps_21 rfl (lv_at hl₀ 0 rfl) ?_
        refine lv_dup C₀.1.1 C₀.1.2.1 dX9_steps_22 rfl ?_
        refine xw_get C₀ hH₀ 0 rfl rfl 11 (by decide) iw_X9_steps_X9 (by decide +kernel) (v := .int (iI fq₀)) rfl dX9_steps_23 ?_
        refine lv_iconst (v := iI 1) C₀.1.1 C₀.1.2.1 dX9_steps_26 (by decide) ?_
        refine xi_add C₀.1.1 C₀.1.2.1 dX9_steps_27 ?_
        refine xw_put (ws' := [mO a₀ q₀ th₀ un₀ mf₀ ty₀ (fq₀ + 1) tt₀ tk₀ fa₀ (bz hf₀) (bz ho₀) km₀, (q₀ 9, .inl (k₀ 1, 120, .inl (by8 tx₀)))]) (v := .int (iI (fq₀ + 1))) C₀ hH₀ 0 rfl rfl tyX9 tyX9_ok nmX9 11 (by decide) iw_X9_steps_X9 (by decide +kernel) rfl rfl rfl (Nat.le_of_ble_eq_true rfl) dX9_steps_28 rfl (fun H₀ locs₀ hH₀ => ?_)
        refine lv_goto (tgt := 8) C₀.1.1 C₀.1.2.1 dX9_steps_31 (by decide) ?_
        exact ih8₀ (fq₀ + 1) (by rw [← i1₀, mSkip_eq (p := fq₀), if_pos (by omega)]) (by omega) (by omega) _ _ _ hH₀ (lv_sub hl₀ [0] rfl)
  exact L8₀ (((ty₀ - tt₀) : Int).toNat + 1) tt₀ (ef₀.symm) (by omega) (by omega) _ _ _ hH₀ (lv_sub hl₀ [0] rfl)
