abbrev wgX0_become : List Cond := .code yX0_become cX0_become 2 none :: WG
abbrev rmX0_become : Room := { frames := 0, cells := 0, slots := 0, locals := 0 }
set_option maxHeartbeats 4000000 in
set_option maxRecDepth 100000 in
/-- become -/
theorem c_X0_become (lL₀ : Launch) (D₀ : va_G) (k₀ : Nat → ClassId) (sz₀ : Nat) (g₀ : Nat) (w₀ : Int) (h₀ : Int) (ht₀ : Int64) (fx₀ : Int64) (be₀ : Int) (o₀ : Nat) (w2₀ : Int) (h2₀ : Int) (ht2₀ : Int64) (fx2₀ : Int64) (be2₀ : Int)  : Met lL₀ yX0_become wgX0_become rmX0_become (gPc ZT D₀ (tyk k₀) [.ref g₀, .ref o₀] sz₀ [gO g₀ w₀ h₀ ht₀ fx₀ be₀, gO o₀ w2₀ h2₀ ht2₀ fx2₀ be2₀]) (gQv D₀ (tyk k₀) [gO g₀ w₀ h₀ ht₀ fx₀ be₀, gO o₀ w2₀ h2₀ ht2₀ fx2₀ be2₀] sz₀ (fun (_ : Unit) => True) (fun (_ : Unit) => [gO g₀ w2₀ h2₀ ht2₀ fx2₀ be2₀, gO o₀ w2₀ h2₀ ht2₀ fx2₀ be2₀])) 0 0 (va_A [gO g₀ w₀ h₀ ht₀ fx₀ be₀, gO o₀ w2₀ h2₀ ht2₀ fx2₀ be2₀] sz₀) := by
  refine xs_met (cc := cX0_become) (maxL := 2) (ret := none) (by decide) rfl (Nat.le_of_ble_eq_true rfl) ?_
  intro pP₀ eN₀ sT₀ mI₀ below₀ meth₀ cD₀ hsz₀ args₀ QQ₀ C₀ hr₀ hlk₀ hnm₀ hQ₀ ls₀ H₀ locs₀ hl₀ hH₀
  subst hsz₀
  have hl₀ : lv_has ls₀ 2 [(0, .ref g₀), (1, .ref o₀)] := hl₀
  generalize hAe₀ : va_A [gO g₀ w₀ h₀ ht₀ fx₀ be₀, gO o₀ w2₀ h2₀ ht2₀ fx2₀ be2₀] sT₀.heap.size = A₀ at C₀ hH₀ hQ₀
  refine lv_aload_n C₀.1.1 C₀.1.2.1 dX0_become_0 rfl (lv_at hl₀ 0 rfl) ?_
  refine lv_aload_n C₀.1.1 C₀.1.2.1 dX0_become_1 rfl (lv_at hl₀ 1 rfl) ?_
  refine xw_get C₀ hH₀ 1 rfl rfl 0 (by decide) (fun w₀ h₀ => List.mem_cons_of_mem _ (iwg_X0 w₀ h₀)) (List.mem_cons_of_mem _ (WG_mem 94 (by decide +kernel) (by decide +kernel))) (v := .int (iI w2₀)) rfl dX0_become_2 ?_
  refine xw_put (ws' := [gO g₀ w2₀ h₀ ht₀ fx₀ be₀, gO o₀ w2₀ h2₀ ht2₀ fx2₀ be2₀]) (v := .int (iI w2₀)) C₀ hH₀ 0 rfl rfl tyX0 tyX0_ok nmX0 0 (by decide) (fun w₀ h₀ => List.mem_cons_of_mem _ (iwg_X0 w₀ h₀)) (List.mem_cons_of_mem _ (WG_mem 94 (by decide +kernel) (by decide +kernel))) rfl rfl rfl (Nat.le_of_ble_eq_true rfl) dX0_become_5 rfl (fun H₀ locs₀ hH₀ => ?_)
  refine lv_aload_n C₀.1.1 C₀.1.2.1 dX0_become_8 rfl (lv_at hl₀ 0 rfl) ?_
  refine lv_aload_n C₀.1.1 C₀.1.2.1 dX0_become_9 rfl (lv_at hl₀ 1 rfl) ?_
  refine xw_get C₀ hH₀ 1 rfl rfl 1 (by decide) (fun w₀ h₀ => List.mem_cons_of_mem _ (iwg_X0 w₀ h₀)) (List.mem_cons_of_mem _ (WG_mem 100 (by decide +kernel) (by decide +kernel))) (v := .int (iI h2₀)) rfl dX0_become_10 ?_
  refine xw_put (ws' := [gO g₀ w2₀ h2₀ ht₀ fx₀ be₀, gO o₀ w2₀ h2₀ ht2₀ fx2₀ be2₀]) (v := .int (iI h2₀)) C₀ hH₀ 0 rfl rfl tyX0 tyX0_ok nmX0 1 (by decide) (fun w₀ h₀ => List.mem_cons_of_mem _ (iwg_X0 w₀ h₀)) (List.mem_cons_of_mem _ (WG_mem 100 (by decide +kernel) (by decide +kernel))) rfl rfl rfl (Nat.le_of_ble_eq_true rfl) dX0_become_13 rfl (fun H₀ locs₀ hH₀ => ?_)
  refine lv_aload_n C₀.1.1 C₀.1.2.1 dX0_become_16 rfl (lv_at hl₀ 0 rfl) ?_
  refine lv_aload_n C₀.1.1 C₀.1.2.1 dX0_become_17 rfl (lv_at hl₀ 1 rfl) ?_
  refine xw_get C₀ hH₀ 1 rfl rfl 2 (by decide) (fun w₀ h₀ => List.mem_cons_of_mem _ (iwg_X0 w₀ h₀)) (List.mem_cons_of_mem _ (WG_mem 106 (by decide +kernel) (by decide +kernel))) (v := .long ht2₀) rfl dX0_become_18 ?_
  refine xw_put (ws' := [gO g₀ w2₀ h2₀ ht2₀ fx₀ be₀, gO o₀ w2₀ h2₀ ht2₀ fx2₀ be2₀]) (v := .long ht2₀) C₀ hH₀ 0 rfl rfl tyX0 tyX0_ok nmX0 2 (by decide) (fun w₀ h₀ => List.mem_cons_of_mem _ (iwg_X0 w₀ h₀)) (List.mem_cons_of_mem _ (WG_mem 106 (by decide +kernel) (by decide +kernel))) rfl rfl rfl (Nat.le_of_ble_eq_true rfl) dX0_become_21 rfl (fun H₀ locs₀ hH₀ => ?_)
  refine lv_aload_n C₀.1.1 C₀.1.2.1 dX0_become_24 rfl (lv_at hl₀ 0 rfl) ?_
  refine lv_aload_n C₀.1.1 C₀.1.2.1 dX0_become_25 rfl (lv_at hl₀ 1 rfl) ?_
  refine xw_get C₀ hH₀ 1 rfl rfl 3 (by decide) (fun w₀ h₀ => List.mem_cons_of_mem _ (iwg_X0 w₀ h₀)) (List.mem_cons_of_mem _ (WG_mem 109 (by decide +kernel) (by decide +kernel))) (v := .long fx2₀) rfl dX0_become_26 ?_
  refine xw_put (ws' := [gO g₀ w2₀ h2₀ ht2₀ fx2₀ be₀, gO o₀ w2₀ h2₀ ht2₀ fx2₀ be2₀]) (v := .long fx2₀) C₀ hH₀ 0 rfl rfl tyX0 tyX0_ok nmX0 3 (by decide) (fun w₀ h₀ => List.mem_cons_of_mem _ (iwg_X0 w₀ h₀)) (List.mem_cons_of_mem _ (WG_mem 109 (by decide +kernel) (by decide +kernel))) rfl rfl rfl (Nat.le_of_ble_eq_true rfl) dX0_become_29 rfl (fun H₀ locs₀ hH₀ => ?_)
  refine lv_aload_n C₀.1.1 C₀.1.2.1 dX0_become_32 rfl (lv_at hl₀ 0 rfl) ?_
  refine lv_aload_n C₀.1.1 C₀.1.2.1 dX0_become_33 rfl (lv_at hl₀ 1 rfl) ?_
  refine xw_get C₀ hH₀ 1 rfl rfl 4 (by decide) (fun w₀ h₀ => List.mem_cons_of_mem _ (iwg_X0 w₀ h₀)) (List.mem_cons_of_mem _ (WG_mem 111 (by decide +kernel) (by decide +kernel))) (v := .int (iI be2₀)) rfl dX0_become_34 ?_
  refine xw_put (ws' := [gO g₀ w2₀ h2₀ ht2₀ fx2₀ be2₀, gO o₀ w2₀ h2₀ ht2₀ fx2₀ be2₀]) (v := .int (iI be2₀)) C₀ hH₀ 0 rfl rfl tyX0 tyX0_ok nmX0 4 (by decide) (fun w₀ h₀ => List.mem_cons_of_mem _ (iwg_X0 w₀ h₀)) (List.mem_cons_of_mem _ (WG_mem 111 (by decide +kernel) (by decide +kernel))) rfl rfl rfl (Nat.le_of_ble_eq_true rfl) dX0_become_37 rfl (fun H₀ locs₀ hH₀ => ?_)
  exact xr_v C₀ hH₀ hlk₀ hr₀ hQ₀ hAe₀ () trivial rfl dX0_become_40
abbrev wgX0_cells : List Cond := .code yX0_cells cX0_cells 1 (some .int) :: WG
abbrev rmX0_cells : Room := { frames := 0, cells := 0, slots := 0, locals := 0 }
set_option maxHeartbeats 4000000 in
set_option maxRecDepth 100000 in
/-- cells -/
theorem c_X0_cells (lL₀ : Launch) (D₀ : va_G) (k₀ : Nat → ClassId) (sz₀ : Nat) (g₀ : Nat) (w₀ : Int) (h₀ : Int) (ht₀ : Int64) (fx₀ : Int64) (be₀ : Int) (s₀ : Int → Int) (hg₀ : gR s₀ w₀ h₀ ht₀ fx₀ be₀) : Met lL₀ yX0_cells wgX0_cells rmX0_cells (gPc ZT D₀ (tyk k₀) [.ref g₀] sz₀ [gO g₀ w₀ h₀ ht₀ fx₀ be₀]) (gQi D₀ (tyk k₀) [gO g₀ w₀ h₀ ht₀ fx₀ be₀] sz₀ (fun (_ : Unit) => True) (fun (_ : Unit) => (iI (s₀ 0 * s₀ 1))) (fun (_ : Unit) => [gO g₀ w₀ h₀ ht₀ fx₀ be₀])) 0 0 (va_A [gO g₀ w₀ h₀ ht₀ fx₀ be₀] sz₀) := by
  refine xs_met (cc := cX0_cells) (maxL := 1) (ret := some .int) (by decide) rfl (Nat.le_of_ble_eq_true rfl) ?_
  intro pP₀ eN₀ sT₀ mI₀ below₀ meth₀ cD₀ hsz₀ args₀ QQ₀ C₀ hr₀ hlk₀ hnm₀ hQ₀ ls₀ H₀ locs₀ hl₀ hH₀
  subst hsz₀
  have hl₀ : lv_has ls₀ 1 [(0, .ref g₀)] := hl₀
  generalize hAe₀ : va_A [gO g₀ w₀ h₀ ht₀ fx₀ be₀] sT₀.heap.size = A₀ at C₀ hH₀ hQ₀
  obtain ⟨rfl, rfl, rfl, rfl, rfl⟩ := hg₀
  refine lv_aload_n C₀.1.1 C₀.1.2.1 dX0_cells_0 rfl (lv_at hl₀ 0 rfl) ?_
  refine xw_get C₀ hH₀ 0 rfl rfl 0 (by decide) (fun w₀ h₀ => List.mem_cons_of_mem _ (iwg_X0 w₀ h₀)) (List.mem_cons_of_mem _ (WG_mem 94 (by decide +kernel) (by decide +kernel))) (v := .int (iI (s₀ 0))) rfl dX0_cells_1 ?_
  refine lv_aload_n C₀.1.1 C₀.1.2.1 dX0_cells_4 rfl (lv_at hl₀ 0 rfl) ?_
  refine xw_get C₀ hH₀ 0 rfl rfl 1 (by decide) (fun w₀ h₀ => List.mem_cons_of_mem _ (iwg_X0 w₀ h₀)) (List.mem_cons_of_mem _ (WG_mem 100 (by decide +kernel) (by decide +kernel))) (v := .int (iI (s₀ 1))) rfl dX0_cells_5 ?_
  refine xi_mul C₀.1.1 C₀.1.2.1 dX0_cells_8 ?_
  exact xr_i C₀ hH₀ hlk₀ hr₀ hQ₀ rfl hAe₀ () trivial rfl rfl dX0_cells_9
abbrev wgX0_has : List Cond := .code yX0_has cX0_has 3 (some .boolean) :: WG
abbrev rmX0_has : Room := { frames := 0, cells := 0, slots := 0, locals := 0 }
set_option maxHeartbeats 4000000 in
set_option maxRecDepth 100000 in
/-- has -/
theorem c_X0_has (lL₀ : Launch) (D₀ : va_G) (k₀ : Nat → ClassId) (sz₀ : Nat) (g₀ : Nat) (w₀ : Int) (h₀ : Int) (ht₀ : Int64) (fx₀ : Int64) (be₀ : Int) (x : Int) (y₀ : Int) (s₀ : Int → Int) (hg₀ : gR s₀ w₀ h₀ ht₀ fx₀ be₀) (hs0₀ : 1 ≤ s₀ 0 ∧ s₀ 0 ≤ 4) (hs1₀ : 1 ≤ s₀ 1 ∧ s₀ 1 ≤ 6) (hx₀ : -2147483648 ≤ x ∧ x < 2147483648) (hy₀ : -2147483648 ≤ y₀ ∧ y₀ < 2147483648) : Met lL₀ yX0_has wgX0_has rmX0_has (gPc ZT D₀ (tyk k₀) [.ref g₀, .int (iI x), .int (iI y₀)] sz₀ [gO g₀ w₀ h₀ ht₀ fx₀ be₀]) (gQi D₀ (tyk k₀) [gO g₀ w₀ h₀ ht₀ fx₀ be₀] sz₀ (fun (_ : Unit) => True) (fun (_ : Unit) => (iI (bz (decide (0 ≤ x ∧ x < s₀ 0 ∧ 0 ≤ y₀ ∧ y₀ < s₀ 1))))) (fun (_ : Unit) => [gO g₀ w₀ h₀ ht₀ fx₀ be₀])) 0 0 (va_A [gO g₀ w₀ h₀ ht₀ fx₀ be₀] sz₀) := by
  refine xs_met (cc := cX0_has) (maxL := 3) (ret := some .boolean) (by decide) rfl (Nat.le_of_ble_eq_true rfl) ?_
  intro pP₀ eN₀ sT₀ mI₀ below₀ meth₀ cD₀ hsz₀ args₀ QQ₀ C₀ hr₀ hlk₀ hnm₀ hQ₀ ls₀ H₀ locs₀ hl₀ hH₀
  subst hsz₀
  have hl₀ : lv_has ls₀ 3 [(0, .ref g₀), (1, .int (iI x)), (2, .int (iI y₀))] := hl₀
  generalize hAe₀ : va_A [gO g₀ w₀ h₀ ht₀ fx₀ be₀] sT₀.heap.size = A₀ at C₀ hH₀ hQ₀
  obtain ⟨rfl, rfl, rfl, rfl, rfl⟩ := hg₀
  refine lv_iload_n C₀.1.1 C₀.1.2.1 dX0_has_0 rfl (lv_at hl₀ 1 rfl) ?_
  refine xi_zlt (tgt := 28) C₀.1.1 C₀.1.2.1 dX0_has_1 (by decide) (by omega) (fun h_1₀ => ?_) (fun h_1₀ => ?_)
  · refine lv_iconst (v := iI 0) C₀.1.1 C₀.1.2.1 dX0_has_28 (by decide) ?_
    exact xr_i C₀ hH₀ hlk₀ hr₀ hQ₀ rfl hAe₀ () trivial (bF (by omega)) rfl dX0_has_29
  · refine lv_iload_n C₀.1.1 C₀.1.2.1 dX0_has_4 rfl (lv_at hl₀ 1 rfl) ?_
    refine lv_aload_n C₀.1.1 C₀.1.2.1 dX0_has_5 rfl (lv_at hl₀ 0 rfl) ?_
    refine xw_get C₀ hH₀ 0 rfl rfl 0 (by decide) (fun w₀ h₀ => List.mem_cons_of_mem _ (iwg_X0 w₀ h₀)) (List.mem_cons_of_mem _ (WG_mem 94 (by decide +kernel) (by decide +kernel))) (v := .int (iI (s₀ 0))) rfl dX0_has_6 ?_
    refine xi_cge (tgt := 28) C₀.1.1 C₀.1.2.1 dX0_has_9 (by decide) (by omega) (by omega) (fun h_2₀ => ?_) (fun h_2₀ => ?_)
    · refine lv_iconst (v := iI 0) C₀.1.1 C₀.1.2.1 dX0_has_28 (by decide) ?_
      exact xr_i C₀ hH₀ hlk₀ hr₀ hQ₀ rfl hAe₀ () trivial (bF (by omega)) rfl dX0_has_29
    · refine lv_iload_n C₀.1.1 C₀.1.2.1 dX0_has_12 rfl (lv_at hl₀ 2 rfl) ?_
      refine xi_zlt (tgt := 28) C₀.1.1 C₀.1.2.1 dX0_has_13 (by decide) (by omega) (fun h_3₀ => ?_) (fun h_3₀ => ?_)
      · refine lv_iconst (v := iI 0) C₀.1.1 C₀.1.2.1 dX0_has_28 (by decide) ?_
        exact xr_i C₀ hH₀ hlk₀ hr₀ hQ₀ rfl hAe₀ () trivial (bF (by omega)) rfl dX0_has_29
      · refine lv_iload_n C₀.1.1 C₀.1.2.1 dX0_has_16 rfl (lv_at hl₀ 2 rfl) ?_
        refine lv_aload_n C₀.1.1 C₀.1.2.1 dX0_has_17 rfl (lv_at hl₀ 0 rfl) ?_
        refine xw_get C₀ hH₀ 0 rfl rfl 1 (by decide) (fun w₀ h₀ => List.mem_cons_of_mem _ (iwg_X0 w₀ h₀)) (List.mem_cons_of_mem _ (WG_mem 100 (by decide +kernel) (by decide +kernel))) (v := .int (iI (s₀ 1))) rfl dX0_has_18 ?_
        refine xi_cge (tgt := 28) C₀.1.1 C₀.1.2.1 dX0_has_21 (by decide) (by omega) (by omega) (fun h_4₀ => ?_) (fun h_4₀ => ?_)
        · refine lv_iconst (v := iI 0) C₀.1.1 C₀.1.2.1 dX0_has_28 (by decide) ?_
          exact xr_i C₀ hH₀ hlk₀ hr₀ hQ₀ rfl hAe₀ () trivial (bF (by omega)) rfl dX0_has_29
        · refine lv_iconst (v := iI 1) C₀.1.1 C₀.1.2.1 dX0_has_24 (by decide) ?_
          refine lv_goto (tgt := 29) C₀.1.1 C₀.1.2.1 dX0_has_25 (by decide) ?_
          exact xr_i C₀ hH₀ hlk₀ hr₀ hQ₀ rfl hAe₀ () trivial (bT (by omega)) rfl dX0_has_29
abbrev wgX0_numberOf : List Cond := .code yX0_numberOf cX0_numberOf 3 (some .int) :: WG
abbrev rmX0_numberOf : Room := { frames := 0, cells := 0, slots := 0, locals := 0 }
set_option maxHeartbeats 4000000 in
set_option maxRecDepth 100000 in
/-- numberOf -/
theorem c_X0_numberOf (lL₀ : Launch) (D₀ : va_G) (k₀ : Nat → ClassId) (sz₀ : Nat) (g₀ : Nat) (w₀ : Int) (h₀ : Int) (ht₀ : Int64) (fx₀ : Int64) (be₀ : Int) (x : Int) (y₀ : Int) (s₀ : Int → Int) (hg₀ : gR s₀ w₀ h₀ ht₀ fx₀ be₀) : Met lL₀ yX0_numberOf wgX0_numberOf rmX0_numberOf (gPc ZT D₀ (tyk k₀) [.ref g₀, .int (iI x), .int (iI y₀)] sz₀ [gO g₀ w₀ h₀ ht₀ fx₀ be₀]) (gQi D₀ (tyk k₀) [gO g₀ w₀ h₀ ht₀ fx₀ be₀] sz₀ (fun (_ : Unit) => True) (fun (_ : Unit) => (iI (s₀ 0 * y₀ + x))) (fun (_ : Unit) => [gO g₀ w₀ h₀ ht₀ fx₀ be₀])) 0 0 (va_A [gO g₀ w₀ h₀ ht₀ fx₀ be₀] sz₀) := by
  refine xs_met (cc := cX0_numberOf) (maxL := 3) (ret := some .int) (by decide) rfl (Nat.le_of_ble_eq_true rfl) ?_
  intro pP₀ eN₀ sT₀ mI₀ below₀ meth₀ cD₀ hsz₀ args₀ QQ₀ C₀ hr₀ hlk₀ hnm₀ hQ₀ ls₀ H₀ locs₀ hl₀ hH₀
  subst hsz₀
  have hl₀ : lv_has ls₀ 3 [(0, .ref g₀), (1, .int (iI x)), (2, .int (iI y₀))] := hl₀
  generalize hAe₀ : va_A [gO g₀ w₀ h₀ ht₀ fx₀ be₀] sT₀.heap.size = A₀ at C₀ hH₀ hQ₀
  obtain ⟨rfl, rfl, rfl, rfl, rfl⟩ := hg₀
  refine lv_aload_n C₀.1.1 C₀.1.2.1 dX0_numberOf_0 rfl (lv_at hl₀ 0 rfl) ?_
  refine xw_get C₀ hH₀ 0 rfl rfl 0 (by decide) (fun w₀ h₀ => List.mem_cons_of_mem _ (iwg_X0 w₀ h₀)) (List.mem_cons_of_mem _ (WG_mem 94 (by decide +kernel) (by decide +kernel))) (v := .int (iI (s₀ 0))) rfl dX0_numberOf_1 ?_
  refine lv_iload_n C₀.1.1 C₀.1.2.1 dX0_numberOf_4 rfl (lv_at hl₀ 2 rfl) ?_
  refine xi_mul C₀.1.1 C₀.1.2.1 dX0_numberOf_5 ?_
  refine lv_iload_n C₀.1.1 C₀.1.2.1 dX0_numberOf_6 rfl (lv_at hl₀ 1 rfl) ?_
  refine xi_add C₀.1.1 C₀.1.2.1 dX0_numberOf_7 ?_
  exact xr_i C₀ hH₀ hlk₀ hr₀ hQ₀ rfl hAe₀ () trivial rfl rfl dX0_numberOf_8
abbrev wgX0_heightOf : List Cond := .code yX0_heightOf cX0_heightOf 2 (some .int) :: WG
abbrev rmX0_heightOf : Room := { frames := 0, cells := 0, slots := 0, locals := 0 }
set_option maxHeartbeats 4000000 in
set_option maxRecDepth 100000 in
/-- heightOf -/
theorem c_X0_heightOf (lL₀ : Launch) (D₀ : va_G) (k₀ : Nat → ClassId) (sz₀ : Nat) (g₀ : Nat) (w₀ : Int) (h₀ : Int) (ht₀ : Int64) (fx₀ : Int64) (be₀ : Int) (c₀ : Int) (s₀ : Int → Int) (hg₀ : gR s₀ w₀ h₀ ht₀ fx₀ be₀) (hS₀ : mS s₀) (hc₀ : 0 ≤ c₀ ∧ c₀ < 24) : Met lL₀ yX0_heightOf wgX0_heightOf rmX0_heightOf (gPc ZT D₀ (tyk k₀) [.ref g₀, .int (iI c₀)] sz₀ [gO g₀ w₀ h₀ ht₀ fx₀ be₀]) (gQi D₀ (tyk k₀) [gO g₀ w₀ h₀ ht₀ fx₀ be₀] sz₀ (fun (_ : Unit) => True) (fun (_ : Unit) => (iI (s₀ (3 + c₀)))) (fun (_ : Unit) => [gO g₀ w₀ h₀ ht₀ fx₀ be₀])) 0 0 (va_A [gO g₀ w₀ h₀ ht₀ fx₀ be₀] sz₀) := by
  refine xs_met (cc := cX0_heightOf) (maxL := 2) (ret := some .int) (by decide) rfl (Nat.le_of_ble_eq_true rfl) ?_
  intro pP₀ eN₀ sT₀ mI₀ below₀ meth₀ cD₀ hsz₀ args₀ QQ₀ C₀ hr₀ hlk₀ hnm₀ hQ₀ ls₀ H₀ locs₀ hl₀ hH₀
  subst hsz₀
  have hl₀ : lv_has ls₀ 2 [(0, .ref g₀), (1, .int (iI c₀))] := hl₀
  generalize hAe₀ : va_A [gO g₀ w₀ h₀ ht₀ fx₀ be₀] sT₀.heap.size = A₀ at C₀ hH₀ hQ₀
  obtain ⟨rfl, rfl, rfl, rfl, rfl⟩ := hg₀
  refine lv_aload_n C₀.1.1 C₀.1.2.1 dX0_heightOf_0 rfl (lv_at hl₀ 0 rfl) ?_
  refine xw_get C₀ hH₀ 0 rfl rfl 2 (by decide) (fun w₀ h₀ => List.mem_cons_of_mem _ (iwg_X0 w₀ h₀)) (List.mem_cons_of_mem _ (WG_mem 106 (by decide +kernel) (by decide +kernel))) (v := .long (pk s₀ 3)) rfl dX0_heightOf_1 ?_
  refine lv_iconst (v := iI 2) C₀.1.1 C₀.1.2.1 dX0_heightOf_4 (by decide) ?_
  refine lv_bipush (v := iI 23) C₀.1.1 C₀.1.2.1 dX0_heightOf_5 (by decide) ?_
  refine lv_iload_n C₀.1.1 C₀.1.2.1 dX0_heightOf_7 rfl (lv_at hl₀ 1 rfl) ?_
  refine xi_sub C₀.1.1 C₀.1.2.1 dX0_heightOf_8 ?_
  refine xi_mul C₀.1.1 C₀.1.2.1 dX0_heightOf_9 ?_
  refine lv_lushr (v := ((pk s₀ 3).toUInt64 >>> ((iI (2 * (23 - c₀))).toInt64.toUInt64 &&& Int64.toUInt64 63)).toInt64) C₀.1.1 C₀.1.2.1 dX0_heightOf_10 rfl ?_
  refine lv_l2i (v := (((pk s₀ 3).toUInt64 >>> ((iI (2 * (23 - c₀))).toInt64.toUInt64 &&& Int64.toUInt64 63)).toInt64).toInt32) C₀.1.1 C₀.1.2.1 dX0_heightOf_11 rfl ?_
  refine lv_iconst (v := iI 3) C₀.1.1 C₀.1.2.1 dX0_heightOf_12 (by decide) ?_
  refine lv_iand C₀.1.1 C₀.1.2.1 dX0_heightOf_13 ?_
  exact xr_i C₀ hH₀ hlk₀ hr₀ hQ₀ rfl hAe₀ () trivial (pk_get (mS_h hS₀) hc₀) rfl dX0_heightOf_14
abbrev wgX0_placeOf : List Cond := .code yX0_placeOf cX0_placeOf 1 (some .int) :: WG
abbrev rmX0_placeOf : Room := { frames := 0, cells := 0, slots := 0, locals := 0 }
set_option maxHeartbeats 4000000 in
set_option maxRecDepth 100000 in
/-- placeOf -/
theorem c_X0_placeOf (lL₀ : Launch) (D₀ : va_G) (k₀ : Nat → ClassId) (sz₀ : Nat) (c₀ : Int)  : Met lL₀ yX0_placeOf wgX0_placeOf rmX0_placeOf (gPc ZT D₀ (tyk k₀) [.int (iI c₀)] sz₀ []) (gQi D₀ (tyk k₀) [] sz₀ (fun (_ : Unit) => True) (fun (_ : Unit) => (iI (2 * (23 - c₀)))) (fun (_ : Unit) => [])) 0 0 (va_A [] sz₀) := by
  refine xs_met (cc := cX0_placeOf) (maxL := 1) (ret := some .int) (by decide) rfl (Nat.le_of_ble_eq_true rfl) ?_
  intro pP₀ eN₀ sT₀ mI₀ below₀ meth₀ cD₀ hsz₀ args₀ QQ₀ C₀ hr₀ hlk₀ hnm₀ hQ₀ ls₀ H₀ locs₀ hl₀ hH₀
  subst hsz₀
  have hl₀ : lv_has ls₀ 1 [(0, .int (iI c₀))] := hl₀
  generalize hAe₀ : va_A [] sT₀.heap.size = A₀ at C₀ hH₀ hQ₀
  refine lv_iconst (v := iI 2) C₀.1.1 C₀.1.2.1 dX0_placeOf_0 (by decide) ?_
  refine lv_bipush (v := iI 23) C₀.1.1 C₀.1.2.1 dX0_placeOf_1 (by decide) ?_
  refine lv_iload_n C₀.1.1 C₀.1.2.1 dX0_placeOf_3 rfl (lv_at hl₀ 0 rfl) ?_
  refine xi_sub C₀.1.1 C₀.1.2.1 dX0_placeOf_4 ?_
  refine xi_mul C₀.1.1 C₀.1.2.1 dX0_placeOf_5 ?_
  exact xr_i C₀ hH₀ hlk₀ hr₀ hQ₀ rfl hAe₀ () trivial rfl rfl dX0_placeOf_6
abbrev wgX0_setHeight : List Cond := .code yX0_setHeight cX0_setHeight 4 none :: WG
abbrev rmX0_setHeight : Room := { frames := 1, cells := 0, slots := 0, locals := 20 }
set_option maxHeartbeats 4000000 in
set_option maxRecDepth 100000 in
/-- setHeight -/
theorem c_X0_setHeight (lL₀ : Launch) (D₀ : va_G) (k₀ : Nat → ClassId) (sz₀ : Nat) (g₀ : Nat) (w₀ : Int) (h₀ : Int) (ht₀ : Int64) (fx₀ : Int64) (be₀ : Int) (c₀ : Int) (v₀ : Int) (s₀ : Int → Int) (hg₀ : gR s₀ w₀ h₀ ht₀ fx₀ be₀) (hS₀ : mS s₀) (hc₀ : 0 ≤ c₀ ∧ c₀ < 24) (hv₀ : 0 ≤ v₀ ∧ v₀ ≤ 3) : Met lL₀ yX0_setHeight wgX0_setHeight rmX0_setHeight (gPc ZT D₀ (tyk k₀) [.ref g₀, .int (iI c₀), .int (iI v₀)] sz₀ [gO g₀ w₀ h₀ ht₀ fx₀ be₀]) (gQv D₀ (tyk k₀) [gO g₀ w₀ h₀ ht₀ fx₀ be₀] sz₀ (fun (_ : Unit) => True) (fun (_ : Unit) => [gO g₀ ((uz s₀ (3 + c₀) v₀) 0) ((uz s₀ (3 + c₀) v₀) 1) (pk (uz s₀ (3 + c₀) v₀) 3) (pk (uz s₀ (3 + c₀) v₀) 27) ((uz s₀ (3 + c₀) v₀) 2)])) 0 0 (va_A [gO g₀ w₀ h₀ ht₀ fx₀ be₀] sz₀) := by
  refine xs_met (cc := cX0_setHeight) (maxL := 4) (ret := none) (by decide) rfl (Nat.le_of_ble_eq_true rfl) ?_
  intro pP₀ eN₀ sT₀ mI₀ below₀ meth₀ cD₀ hsz₀ args₀ QQ₀ C₀ hr₀ hlk₀ hnm₀ hQ₀ ls₀ H₀ locs₀ hl₀ hH₀
  subst hsz₀
  have hl₀ : lv_has ls₀ 4 [(0, .ref g₀), (1, .int (iI c₀)), (2, .int (iI v₀))] := hl₀
  generalize hAe₀ : va_A [gO g₀ w₀ h₀ ht₀ fx₀ be₀] sT₀.heap.size = A₀ at C₀ hH₀ hQ₀
  obtain ⟨rfl, rfl, rfl, rfl, rfl⟩ := hg₀
  refine lv_iload_n C₀.1.1 C₀.1.2.1 dX0_setHeight_0 rfl (lv_at hl₀ 1 rfl) ?_
  refine xc_Si (wr := [gO g₀ (s₀ 0) (s₀ 1) (pk s₀ 3) (pk s₀ 27) (s₀ 2)]) (ws' := fun _ => [gO g₀ (s₀ 0) (s₀ 1) (pk s₀ 3) (pk s₀ 27) (s₀ 2)]) (As := [.int (iI c₀)]) (rest := []) C₀ hH₀ (c_X0_placeOf lL₀ D₀ k₀ H₀.size c₀ ) ZT_b (fun _ _ _ => trivial) (va_cwS 1 C₀.1.2.2.2.2 (WG_S WG_c (WG_mem 430 (by decide +kernel) (by decide +kernel)) (WG_mem 431 (by decide +kernel) (by decide +kernel)) (WG_mem 64 (by decide +kernel) (by decide +kernel)) (WG_k (WG_mem 432 (by decide +kernel) (by decide +kernel)))) rfl rfl rfl (by decide +kernel) ⟨Nat.le_of_ble_eq_true rfl, Nat.le_of_ble_eq_true rfl⟩) [] [0] [0] rfl rfl (by decide) (by decide) (by decide) (fun _ => rfl) (by decide) rfl hl₀.1 rfl (Nat.le_of_ble_eq_true rfl) dX0_setHeight_1 ⟨Nat.le_of_ble_eq_true rfl, Nat.le_of_ble_eq_true rfl⟩ (fun _ _ H₀ locs₀ hH₀ => ?_)
  refine lv_istore_n (lv' := [(3, .int (iI (2 * (23 - c₀)))), (0, .ref g₀), (1, .int (iI c₀)), (2, .int (iI v₀))]) C₀.1.1 C₀.1.2.1 dX0_setHeight_4 rfl hl₀ (by decide) rfl (fun ls₀ hl₀ => ?_)
  refine lv_aload_n C₀.1.1 C₀.1.2.1 dX0_setHeight_5 rfl (lv_at hl₀ 1 rfl) ?_
  refine lv_aload_n C₀.1.1 C₀.1.2.1 dX0_setHeight_6 rfl (lv_at hl₀ 1 rfl) ?_
  refine xw_get C₀ hH₀ 0 rfl rfl 2 (by decide) (fun w₀ h₀ => List.mem_cons_of_mem _ (iwg_X0 w₀ h₀)) (List.mem_cons_of_mem _ (WG_mem 106 (by decide +kernel) (by decide +kernel))) (v := .long (pk s₀ 3)) rfl dX0_setHeight_7 ?_
  refine lv_ldc2 (v := 3) C₀.1.1 C₀.1.2.1 C₀.1.2.2.2.1 (C₀.1.2.2.2.2 (.constantLong RX0 32 (3)) (List.mem_cons_of_mem _ (WG_mem 433 (by decide +kernel) (by decide +kernel)))) dX0_setHeight_10 ?_
  refine lv_iload_n C₀.1.1 C₀.1.2.1 dX0_setHeight_13 rfl (lv_at hl₀ 0 rfl) ?_
  refine lv_lshl (v := (3) <<< ((iI (2 * (23 - c₀))).toInt64 &&& 63)) C₀.1.1 C₀.1.2.1 dX0_setHeight_14 rfl ?_
  refine lv_ldc2 (v := (-1)) C₀.1.1 C₀.1.2.1 C₀.1.2.2.2.1 (C₀.1.2.2.2.2 (.constantLong RX0 34 (-1)) (List.mem_cons_of_mem _ (WG_mem 434 (by decide +kernel) (by decide +kernel)))) dX0_setHeight_15 ?_
  refine lv_lxor C₀.1.1 C₀.1.2.1 dX0_setHeight_18 ?_
  refine lv_land C₀.1.1 C₀.1.2.1 dX0_setHeight_19 ?_
  refine lv_iload_n C₀.1.1 C₀.1.2.1 dX0_setHeight_20 rfl (lv_at hl₀ 3 rfl) ?_
  refine lv_i2l (v := (iI v₀).toInt64) C₀.1.1 C₀.1.2.1 dX0_setHeight_21 rfl ?_
  refine lv_iload_n C₀.1.1 C₀.1.2.1 dX0_setHeight_22 rfl (lv_at hl₀ 0 rfl) ?_
  refine lv_lshl (v := ((iI v₀).toInt64) <<< ((iI (2 * (23 - c₀))).toInt64 &&& 63)) C₀.1.1 C₀.1.2.1 dX0_setHeight_23 rfl ?_
  refine lv_lor C₀.1.1 C₀.1.2.1 dX0_setHeight_24 ?_
  refine xt_l (y := (pk (uz s₀ (3 + c₀) v₀) 3)) (pk_set (mS_h hS₀) hc₀ hv₀) ?_
  refine xw_put (ws' := [gO g₀ (s₀ 0) (s₀ 1) (pk (uz s₀ (3 + c₀) v₀) 3) (pk s₀ 27) (s₀ 2)]) (v := .long (pk (uz s₀ (3 + c₀) v₀) 3)) C₀ hH₀ 0 rfl rfl tyX0 tyX0_ok nmX0 2 (by decide) (fun w₀ h₀ => List.mem_cons_of_mem _ (iwg_X0 w₀ h₀)) (List.mem_cons_of_mem _ (WG_mem 106 (by decide +kernel) (by decide +kernel))) rfl rfl rfl (Nat.le_of_ble_eq_true rfl) dX0_setHeight_25 rfl (fun H₀ locs₀ hH₀ => ?_)
  exact xr_v C₀ hH₀ hlk₀ hr₀ hQ₀ hAe₀ () trivial (by obtain ⟨e0₀, e1₀, e2₀, e3₀⟩ := gR_h (s := s₀) (v := v₀) hc₀; rw [e0₀, e1₀, e2₀, e3₀]) dX0_setHeight_28
abbrev wgX0_fixedOf : List Cond := .code yX0_fixedOf cX0_fixedOf 2 (some .int) :: WG
abbrev rmX0_fixedOf : Room := { frames := 1, cells := 0, slots := 0, locals := 20 }
set_option maxHeartbeats 4000000 in
set_option maxRecDepth 100000 in
/-- fixedOf -/
theorem c_X0_fixedOf (lL₀ : Launch) (D₀ : va_G) (k₀ : Nat → ClassId) (sz₀ : Nat) (g₀ : Nat) (w₀ : Int) (h₀ : Int) (ht₀ : Int64) (fx₀ : Int64) (be₀ : Int) (c₀ : Int) (s₀ : Int → Int) (hg₀ : gR s₀ w₀ h₀ ht₀ fx₀ be₀) (hS₀ : mS s₀) (hc₀ : 0 ≤ c₀ ∧ c₀ < 24) : Met lL₀ yX0_fixedOf wgX0_fixedOf rmX0_fixedOf (gPc ZT D₀ (tyk k₀) [.ref g₀, .int (iI c₀)] sz₀ [gO g₀ w₀ h₀ ht₀ fx₀ be₀]) (gQi D₀ (tyk k₀) [gO g₀ w₀ h₀ ht₀ fx₀ be₀] sz₀ (fun (_ : Unit) => True) (fun (_ : Unit) => (iI (s₀ (27 + c₀)))) (fun (_ : Unit) => [gO g₀ w₀ h₀ ht₀ fx₀ be₀])) 0 0 (va_A [gO g₀ w₀ h₀ ht₀ fx₀ be₀] sz₀) := by
  refine xs_met (cc := cX0_fixedOf) (maxL := 2) (ret := some .int) (by decide) rfl (Nat.le_of_ble_eq_true rfl) ?_
  intro pP₀ eN₀ sT₀ mI₀ below₀ meth₀ cD₀ hsz₀ args₀ QQ₀ C₀ hr₀ hlk₀ hnm₀ hQ₀ ls₀ H₀ locs₀ hl₀ hH₀
  subst hsz₀
  have hl₀ : lv_has ls₀ 2 [(0, .ref g₀), (1, .int (iI c₀))] := hl₀
  generalize hAe₀ : va_A [gO g₀ w₀ h₀ ht₀ fx₀ be₀] sT₀.heap.size = A₀ at C₀ hH₀ hQ₀
  obtain ⟨rfl, rfl, rfl, rfl, rfl⟩ := hg₀
  refine lv_aload_n C₀.1.1 C₀.1.2.1 dX0_fixedOf_0 rfl (lv_at hl₀ 0 rfl) ?_
  refine xw_get C₀ hH₀ 0 rfl rfl 3 (by decide) (fun w₀ h₀ => List.mem_cons_of_mem _ (iwg_X0 w₀ h₀)) (List.mem_cons_of_mem _ (WG_mem 109 (by decide +kernel) (by decide +kernel))) (v := .long (pk s₀ 27)) rfl dX0_fixedOf_1 ?_
  refine lv_iload_n C₀.1.1 C₀.1.2.1 dX0_fixedOf_4 rfl (lv_at hl₀ 1 rfl) ?_
  refine xc_Si (wr := [gO g₀ (s₀ 0) (s₀ 1) (pk s₀ 3) (pk s₀ 27) (s₀ 2)]) (ws' := fun _ => [gO g₀ (s₀ 0) (s₀ 1) (pk s₀ 3) (pk s₀ 27) (s₀ 2)]) (As := [.int (iI c₀)]) (rest := [.long (pk s₀ 27)]) C₀ hH₀ (c_X0_placeOf lL₀ D₀ k₀ H₀.size c₀ ) ZT_b (fun _ _ _ => trivial) (va_cwS 1 C₀.1.2.2.2.2 (WG_S WG_c (WG_mem 430 (by decide +kernel) (by decide +kernel)) (WG_mem 431 (by decide +kernel) (by decide +kernel)) (WG_mem 64 (by decide +kernel) (by decide +kernel)) (WG_k (WG_mem 432 (by decide +kernel) (by decide +kernel)))) rfl rfl rfl (by decide +kernel) ⟨Nat.le_of_ble_eq_true rfl, Nat.le_of_ble_eq_true rfl⟩) [] [0] [0] rfl rfl (by decide) (by decide) (by decide) (fun _ => rfl) (by decide) rfl hl₀.1 rfl (Nat.le_of_ble_eq_true rfl) dX0_fixedOf_5 ⟨Nat.le_of_ble_eq_true rfl, Nat.le_of_ble_eq_true rfl⟩ (fun _ _ H₀ locs₀ hH₀ => ?_)
  refine lv_lushr (v := ((pk s₀ 27).toUInt64 >>> ((iI (2 * (23 - c₀))).toInt64.toUInt64 &&& Int64.toUInt64 63)).toInt64) C₀.1.1 C₀.1.2.1 dX0_fixedOf_8 rfl ?_
  refine lv_l2i (v := (((pk s₀ 27).toUInt64 >>> ((iI (2 * (23 - c₀))).toInt64.toUInt64 &&& Int64.toUInt64 63)).toInt64).toInt32) C₀.1.1 C₀.1.2.1 dX0_fixedOf_9 rfl ?_
  refine lv_iconst (v := iI 1) C₀.1.1 C₀.1.2.1 dX0_fixedOf_10 (by decide) ?_
  refine lv_iand C₀.1.1 C₀.1.2.1 dX0_fixedOf_11 ?_
  exact xr_i C₀ hH₀ hlk₀ hr₀ hQ₀ rfl hAe₀ () trivial (pk_get1 (mS_f hS₀) hc₀) rfl dX0_fixedOf_12
abbrev wgX0_setFixed : List Cond := .code yX0_setFixed cX0_setFixed 4 none :: WG
abbrev rmX0_setFixed : Room := { frames := 1, cells := 0, slots := 0, locals := 20 }
set_option maxHeartbeats 4000000 in
set_option maxRecDepth 100000 in
/-- setFixed -/
theorem c_X0_setFixed (lL₀ : Launch) (D₀ : va_G) (k₀ : Nat → ClassId) (sz₀ : Nat) (g₀ : Nat) (w₀ : Int) (h₀ : Int) (ht₀ : Int64) (fx₀ : Int64) (be₀ : Int) (c₀ : Int) (v₀ : Int) (s₀ : Int → Int) (hg₀ : gR s₀ w₀ h₀ ht₀ fx₀ be₀) (hS₀ : mS s₀) (hc₀ : 0 ≤ c₀ ∧ c₀ < 24) (hv₀ : 0 ≤ v₀ ∧ v₀ ≤ 1) : Met lL₀ yX0_setFixed wgX0_setFixed rmX0_setFixed (gPc ZT D₀ (tyk k₀) [.ref g₀, .int (iI c₀), .int (iI v₀)] sz₀ [gO g₀ w₀ h₀ ht₀ fx₀ be₀]) (gQv D₀ (tyk k₀) [gO g₀ w₀ h₀ ht₀ fx₀ be₀] sz₀ (fun (_ : Unit) => True) (fun (_ : Unit) => [gO g₀ ((uz s₀ (27 + c₀) v₀) 0) ((uz s₀ (27 + c₀) v₀) 1) (pk (uz s₀ (27 + c₀) v₀) 3) (pk (uz s₀ (27 + c₀) v₀) 27) ((uz s₀ (27 + c₀) v₀) 2)])) 0 0 (va_A [gO g₀ w₀ h₀ ht₀ fx₀ be₀] sz₀) := by
  refine xs_met (cc := cX0_setFixed) (maxL := 4) (ret := none) (by decide) rfl (Nat.le_of_ble_eq_true rfl) ?_
  intro pP₀ eN₀ sT₀ mI₀ below₀ meth₀ cD₀ hsz₀ args₀ QQ₀ C₀ hr₀ hlk₀ hnm₀ hQ₀ ls₀ H₀ locs₀ hl₀ hH₀
  subst hsz₀
  have hl₀ : lv_has ls₀ 4 [(0, .ref g₀), (1, .int (iI c₀)), (2, .int (iI v₀))] := hl₀
  generalize hAe₀ : va_A [gO g₀ w₀ h₀ ht₀ fx₀ be₀] sT₀.heap.size = A₀ at C₀ hH₀ hQ₀
  obtain ⟨rfl, rfl, rfl, rfl, rfl⟩ := hg₀
  refine lv_iload_n C₀.1.1 C₀.1.2.1 dX0_setFixed_0 rfl (lv_at hl₀ 1 rfl) ?_
  refine xc_Si (wr := [gO g₀ (s₀ 0) (s₀ 1) (pk s₀ 3) (pk s₀ 27) (s₀ 2)]) (ws' := fun _ => [gO g₀ (s₀ 0) (s₀ 1) (pk s₀ 3) (pk s₀ 27) (s₀ 2)]) (As := [.int (iI c₀)]) (rest := []) C₀ hH₀ (c_X0_placeOf lL₀ D₀ k₀ H₀.size c₀ ) ZT_b (fun _ _ _ => trivial) (va_cwS 1 C₀.1.2.2.2.2 (WG_S WG_c (WG_mem 430 (by decide +kernel) (by decide +kernel)) (WG_mem 431 (by decide +kernel) (by decide +kernel)) (WG_mem 64 (by decide +kernel) (by decide +kernel)) (WG_k (WG_mem 432 (by decide +kernel) (by decide +kernel)))) rfl rfl rfl (by decide +kernel) ⟨Nat.le_of_ble_eq_true rfl, Nat.le_of_ble_eq_true rfl⟩) [] [0] [0] rfl rfl (by decide) (by decide) (by decide) (fun _ => rfl) (by decide) rfl hl₀.1 rfl (Nat.le_of_ble_eq_true rfl) dX0_setFixed_1 ⟨Nat.le_of_ble_eq_true rfl, Nat.le_of_ble_eq_true rfl⟩ (fun _ _ H₀ locs₀ hH₀ => ?_)
  refine lv_istore_n (lv' := [(3, .int (iI (2 * (23 - c₀)))), (0, .ref g₀), (1, .int (iI c₀)), (2, .int (iI v₀))]) C₀.1.1 C₀.1.2.1 dX0_setFixed_4 rfl hl₀ (by decide) rfl (fun ls₀ hl₀ => ?_)
  refine lv_aload_n C₀.1.1 C₀.1.2.1 dX0_setFixed_5 rfl (lv_at hl₀ 1 rfl) ?_
  refine lv_aload_n C₀.1.1 C₀.1.2.1 dX0_setFixed_6 rfl (lv_at hl₀ 1 rfl) ?_
  refine xw_get C₀ hH₀ 0 rfl rfl 3 (by decide) (fun w₀ h₀ => List.mem_cons_of_mem _ (iwg_X0 w₀ h₀)) (List.mem_cons_of_mem _ (WG_mem 109 (by decide +kernel) (by decide +kernel))) (v := .long (pk s₀ 27)) rfl dX0_setFixed_7 ?_
  refine lv_lconst (v := 1) C₀.1.1 C₀.1.2.1 dX0_setFixed_10 (by decide) ?_
  refine lv_iload_n C₀.1.1 C₀.1.2.1 dX0_setFixed_11 rfl (lv_at hl₀ 0 rfl) ?_
  refine lv_lshl (v := 1 <<< ((iI (2 * (23 - c₀))).toInt64 &&& 63)) C₀.1.1 C₀.1.2.1 dX0_setFixed_12 rfl ?_
  refine lv_ldc2 (v := (-1)) C₀.1.1 C₀.1.2.1 C₀.1.2.2.2.1 (C₀.1.2.2.2.2 (.constantLong RX0 34 (-1)) (List.mem_cons_of_mem _ (WG_mem 434 (by decide +kernel) (by decide +kernel)))) dX0_setFixed_13 ?_
  refine lv_lxor C₀.1.1 C₀.1.2.1 dX0_setFixed_16 ?_
  refine lv_land C₀.1.1 C₀.1.2.1 dX0_setFixed_17 ?_
  refine lv_iload_n C₀.1.1 C₀.1.2.1 dX0_setFixed_18 rfl (lv_at hl₀ 3 rfl) ?_
  refine lv_i2l (v := (iI v₀).toInt64) C₀.1.1 C₀.1.2.1 dX0_setFixed_19 rfl ?_
  refine lv_iload_n C₀.1.1 C₀.1.2.1 dX0_setFixed_20 rfl (lv_at hl₀ 0 rfl) ?_
  refine lv_lshl (v := ((iI v₀).toInt64) <<< ((iI (2 * (23 - c₀))).toInt64 &&& 63)) C₀.1.1 C₀.1.2.1 dX0_setFixed_21 rfl ?_
  refine lv_lor C₀.1.1 C₀.1.2.1 dX0_setFixed_22 ?_
  refine xt_l (y := (pk (uz s₀ (27 + c₀) v₀) 27)) (pk_set1 (mS_f hS₀) hc₀ hv₀) ?_
  refine xw_put (ws' := [gO g₀ (s₀ 0) (s₀ 1) (pk s₀ 3) (pk (uz s₀ (27 + c₀) v₀) 27) (s₀ 2)]) (v := .long (pk (uz s₀ (27 + c₀) v₀) 27)) C₀ hH₀ 0 rfl rfl tyX0 tyX0_ok nmX0 3 (by decide) (fun w₀ h₀ => List.mem_cons_of_mem _ (iwg_X0 w₀ h₀)) (List.mem_cons_of_mem _ (WG_mem 109 (by decide +kernel) (by decide +kernel))) rfl rfl rfl (Nat.le_of_ble_eq_true rfl) dX0_setFixed_23 rfl (fun H₀ locs₀ hH₀ => ?_)
  exact xr_v C₀ hH₀ hlk₀ hr₀ hQ₀ hAe₀ () trivial (by obtain ⟨e0₀, e1₀, e2₀, e3₀⟩ := gR_f (s := s₀) (v := v₀) hc₀; rw [e0₀, e1₀, e2₀, e3₀]) dX0_setFixed_26
abbrev wgX0_heightsTogether : List Cond := .code yX0_heightsTogether cX0_heightsTogether 3 (some .int) :: WG
abbrev rmX0_heightsTogether : Room := { frames := 1, cells := 0, slots := 0, locals := 21 }
set_option maxHeartbeats 4000000 in
set_option maxRecDepth 100000 in
/-- heightsTogether -/
theorem c_X0_heightsTogether (lL₀ : Launch) (D₀ : va_G) (k₀ : Nat → ClassId) (sz₀ : Nat) (g₀ : Nat) (w₀ : Int) (h₀ : Int) (ht₀ : Int64) (fx₀ : Int64) (be₀ : Int) (s₀ : Int → Int) (hg₀ : gR s₀ w₀ h₀ ht₀ fx₀ be₀) (hS₀ : mS s₀) : Met lL₀ yX0_heightsTogether wgX0_heightsTogether rmX0_heightsTogether (gPc ZT D₀ (tyk k₀) [.ref g₀] sz₀ [gO g₀ w₀ h₀ ht₀ fx₀ be₀]) (gQi D₀ (tyk k₀) [gO g₀ w₀ h₀ ht₀ fx₀ be₀] sz₀ (fun (_ : Unit) => True) (fun (_ : Unit) => (iI (mHeights s₀))) (fun (_ : Unit) => [gO g₀ w₀ h₀ ht₀ fx₀ be₀])) 0 0 (va_A [gO g₀ w₀ h₀ ht₀ fx₀ be₀] sz₀) := by
  refine xs_met (cc := cX0_heightsTogether) (maxL := 3) (ret := some .int) (by decide) rfl (Nat.le_of_ble_eq_true rfl) ?_
  intro pP₀ eN₀ sT₀ mI₀ below₀ meth₀ cD₀ hsz₀ args₀ QQ₀ C₀ hr₀ hlk₀ hnm₀ hQ₀ ls₀ H₀ locs₀ hl₀ hH₀
  subst hsz₀
  have hl₀ : lv_has ls₀ 3 [(0, .ref g₀)] := hl₀
  generalize hAe₀ : va_A [gO g₀ w₀ h₀ ht₀ fx₀ be₀] sT₀.heap.size = A₀ at C₀ hH₀ hQ₀
  obtain ⟨rfl, rfl, rfl, rfl, rfl⟩ := hg₀
  obtain ⟨hs0₀, hs1₀, hs2₀, hsh₀, hsf₀⟩ := id hS₀
  have hcl₀ := cells_rg hs0₀ hs1₀
  refine lv_iconst (v := iI 0) C₀.1.1 C₀.1.2.1 dX0_heightsTogether_0 (by decide) ?_
  refine lv_istore_n (lv' := [(1, .int (iI 0)), (0, .ref g₀)]) C₀.1.1 C₀.1.2.1 dX0_heightsTogether_1 rfl hl₀ (by decide) rfl (fun ls₀ hl₀ => ?_)
  refine lv_iconst (v := iI 0) C₀.1.1 C₀.1.2.1 dX0_heightsTogether_2 (by decide) ?_
  refine lv_istore_n (lv' := [(2, .int (iI 0)), (1, .int (iI 0)), (0, .ref g₀)]) C₀.1.1 C₀.1.2.1 dX0_heightsTogether_3 rfl hl₀ (by decide) rfl (fun ls₀ hl₀ => ?_)
  have L4₀ : ∀ (nn₀ : Nat), ∀ (n₀ : Int) (x : Int), (n₀ = sI (fun c₀ => s₀ (3 + c₀)) x) → (0 ≤ x ∧ x ≤ s₀ 0 * s₀ 1) → ((s₀ 0 * s₀ 1 - x) < (nn₀ : Int)) → ∀ (H₀ : Heap) (locs₀ : List Loc) (ls₀ : Array Slot), Hp D₀ A₀ sT₀.heap [gO g₀ (s₀ 0) (s₀ 1) (pk s₀ 3) (pk s₀ 27) (s₀ 2)] H₀ locs₀ → lv_has ls₀ 3 [(0, .ref g₀), (1, .int (iI n₀)), (2, .int (iI x))] → W pP₀ lL₀ eN₀ rmX0_heightsTogether sT₀ mI₀ args₀ below₀ meth₀ cD₀ H₀ locs₀ 0 0 QQ₀ (F0 mI₀ 4 ls₀ []) := by
    intro nn₀
    induction nn₀ with
    | zero => intro n₀ x i1₀ i2₀ hm₀; exact absurd hm₀ (by omega)
    | succ nn₀ ih4₀ =>
      intro n₀ x i1₀ i2₀ hm4₀ H₀ locs₀ ls₀ hH₀ hl₀
      refine lv_iload_n C₀.1.1 C₀.1.2.1 dX0_heightsTogether_4 rfl (lv_at hl₀ 2 rfl) ?_
      refine lv_aload_n C₀.1.1 C₀.1.2.1 dX0_heightsTogether_5 rfl (lv_at hl₀ 0 rfl) ?_
      refine xc_Vi (wr := []) (ws' := fun _ => [gO g₀ (s₀ 0) (s₀ 1) (pk s₀ 3) (pk s₀ 27) (s₀ 2)]) (As := []) (rest := [.int (iI x)]) C₀ hH₀ (c_X0_cells lL₀ D₀ k₀ H₀.size g₀ (s₀ 0) (s₀ 1) (pk s₀ 3) (pk s₀ 27) (s₀ 2) s₀ (⟨rfl, rfl, rfl, rfl, rfl⟩)) ZT_b (fun _ _ _ => trivial) (cwV 0 C₀.1.2.2.2.2 (WG_V WG_c (WG_mem 495 (by decide +kernel) (by decide +kernel)) (WG_mem 496 (by decide +kernel) (by decide +kernel)) (WG_mem 497 (by decide +kernel) (by decide +kernel)) (WG_mem 64 (by decide +kernel) (by decide +kernel)) (WG_k (WG_mem 498 (by decide +kernel) (by decide +kernel)))) rfl rfl rfl (by decide +kernel) ⟨Nat.le_of_ble_eq_true rfl, Nat.le_of_ble_eq_true rfl⟩) [0] [] [0] rfl rfl (by decide) (by decide) (by decide) (fun _ => rfl) (by decide) (q0 := 0) rfl rfl rfl hl₀.1 rfl (Nat.le_of_ble_eq_true rfl) dX0_heightsTogether_6 ⟨Nat.le_of_ble_eq_true rfl, Nat.le_of_ble_eq_true rfl⟩ (fun _ _ H₀ locs₀ hH₀ => ?_)
      refine xi_cge (tgt := 26) C₀.1.1 C₀.1.2.1 dX0_heightsTogether_9 (by decide) (by omega) (by omega) (fun h_1₀ => ?_) (fun h_1₀ => ?_)
      · refine lv_iload_n C₀.1.1 C₀.1.2.1 dX0_heightsTogether_26 rfl (lv_at hl₀ 1 rfl) ?_
        exact xr_i C₀ hH₀ hlk₀ hr₀ hQ₀ rfl hAe₀ () trivial (by unfold mHeights; rw [i1₀, show x = s₀ 0 * s₀ 1 by omega]) rfl dX0_heightsTogether_27
      · refine lv_iload_n C₀.1.1 C₀.1.2.1 dX0_heightsTogether_12 rfl (lv_at hl₀ 1 rfl) ?_
        refine lv_aload_n C₀.1.1 C₀.1.2.1 dX0_heightsTogether_13 rfl (lv_at hl₀ 0 rfl) ?_
        refine lv_iload_n C₀.1.1 C₀.1.2.1 dX0_heightsTogether_14 rfl (lv_at hl₀ 2 rfl) ?_
        refine xc_Vi (wr := []) (ws' := fun _ => [gO g₀ (s₀ 0) (s₀ 1) (pk s₀ 3) (pk s₀ 27) (s₀ 2)]) (As := [.int (iI x)]) (rest := [.int (iI n₀)]) C₀ hH₀ (c_X0_heightOf lL₀ D₀ k₀ H₀.size g₀ (s₀ 0) (s₀ 1) (pk s₀ 3) (pk s₀ 27) (s₀ 2) x s₀ (⟨rfl, rfl, rfl, rfl, rfl⟩) (hS₀) (by omega)) ZT_b (fun _ _ _ => trivial) (cwV 1 C₀.1.2.2.2.2 (WG_V WG_c (WG_mem 499 (by decide +kernel) (by decide +kernel)) (WG_mem 483 (by decide +kernel) (by decide +kernel)) (WG_mem 484 (by decide +kernel) (by decide +kernel)) (WG_mem 64 (by decide +kernel) (by decide +kernel)) (WG_k (WG_mem 485 (by decide +kernel) (by decide +kernel)))) rfl rfl rfl (by decide +kernel) ⟨Nat.le_of_ble_eq_true rfl, Nat.le_of_ble_eq_true rfl⟩) [0] [] [0] rfl rfl (by decide) (by decide) (by decide) (fun _ => rfl) (by decide) (q0 := 0) rfl rfl rfl hl₀.1 rfl (Nat.le_of_ble_eq_true rfl) dX0_heightsTogether_15 ⟨Nat.le_of_ble_eq_true rfl, Nat.le_of_ble_eq_true rfl⟩ (fun _ _ H₀ locs₀ hH₀ => ?_)
        refine xi_add C₀.1.1 C₀.1.2.1 dX0_heightsTogether_18 ?_
        refine lv_istore_n (lv' := [(1, .int (iI (n₀ + (s₀ (3 + x))))), (0, .ref g₀), (2, .int (iI x))]) C₀.1.1 C₀.1.2.1 dX0_heightsTogether_19 rfl hl₀ (by decide) rfl (fun ls₀ hl₀ => ?_)
        refine lv_iinc (v := iI (x + 1)) (lv' := [(2, .int (iI (x + 1))), (1, .int (iI (n₀ + (s₀ (3 + x))))), (0, .ref g₀)]) C₀.1.1 C₀.1.2.1 dX0_heightsTogether_20 hl₀ (k := 2) rfl (iI_add _ (1)) (by decide) rfl (fun ls₀ hl₀ => ?_)
        refine lv_goto (tgt := 4) C₀.1.1 C₀.1.2.1 dX0_heightsTogether_23 (by decide) ?_
        exact ih4₀ (n₀ + (s₀ (3 + x))) (x + 1) (by rw [sI_s i2₀.1, ← i1₀]) (by omega) (by omega) _ _ _ hH₀ (lv_sub hl₀ [2, 1, 0] rfl)
  exact L4₀ (((s₀ 0 * s₀ 1 - 0) : Int).toNat + 1) 0 0 (rfl) (by omega) (by omega) _ _ _ hH₀ (lv_sub hl₀ [2, 1, 0] rfl)
abbrev wgX0_placeOfRow : List Cond := .code yX0_placeOfRow cX0_placeOfRow 2 (some .int) :: WG
abbrev rmX0_placeOfRow : Room := { frames := 1, cells := 0, slots := 0, locals := 20 }
set_option maxHeartbeats 4000000 in
set_option maxRecDepth 100000 in
/-- placeOfRow -/
theorem c_X0_placeOfRow (lL₀ : Launch) (D₀ : va_G) (k₀ : Nat → ClassId) (sz₀ : Nat) (g₀ : Nat) (w₀ : Int) (h₀ : Int) (ht₀ : Int64) (fx₀ : Int64) (be₀ : Int) (y₀ : Int) (s₀ : Int → Int) (hg₀ : gR s₀ w₀ h₀ ht₀ fx₀ be₀) : Met lL₀ yX0_placeOfRow wgX0_placeOfRow rmX0_placeOfRow (gPc ZT D₀ (tyk k₀) [.ref g₀, .int (iI y₀)] sz₀ [gO g₀ w₀ h₀ ht₀ fx₀ be₀]) (gQi D₀ (tyk k₀) [gO g₀ w₀ h₀ ht₀ fx₀ be₀] sz₀ (fun (_ : Unit) => True) (fun (_ : Unit) => (iI (2 * (23 - (s₀ 0 * (y₀ + 1) - 1))))) (fun (_ : Unit) => [gO g₀ w₀ h₀ ht₀ fx₀ be₀])) 0 0 (va_A [gO g₀ w₀ h₀ ht₀ fx₀ be₀] sz₀) := by
  refine xs_met (cc := cX0_placeOfRow) (maxL := 2) (ret := some .int) (by decide) rfl (Nat.le_of_ble_eq_true rfl) ?_
  intro pP₀ eN₀ sT₀ mI₀ below₀ meth₀ cD₀ hsz₀ args₀ QQ₀ C₀ hr₀ hlk₀ hnm₀ hQ₀ ls₀ H₀ locs₀ hl₀ hH₀
  subst hsz₀
  have hl₀ : lv_has ls₀ 2 [(0, .ref g₀), (1, .int (iI y₀))] := hl₀
  generalize hAe₀ : va_A [gO g₀ w₀ h₀ ht₀ fx₀ be₀] sT₀.heap.size = A₀ at C₀ hH₀ hQ₀
  obtain ⟨rfl, rfl, rfl, rfl, rfl⟩ := hg₀
  refine lv_aload_n C₀.1.1 C₀.1.2.1 dX0_placeOfRow_0 rfl (lv_at hl₀ 0 rfl) ?_
  refine xw_get C₀ hH₀ 0 rfl rfl 0 (by decide) (fun w₀ h₀ => List.mem_cons_of_mem _ (iwg_X0 w₀ h₀)) (List.mem_cons_of_mem _ (WG_mem 94 (by decide +kernel) (by decide +kernel))) (v := .int (iI (s₀ 0))) rfl dX0_placeOfRow_1 ?_
  refine lv_iload_n C₀.1.1 C₀.1.2.1 dX0_placeOfRow_4 rfl (lv_at hl₀ 1 rfl) ?_
  refine lv_iconst (v := iI 1) C₀.1.1 C₀.1.2.1 dX0_placeOfRow_5 (by decide) ?_
  refine xi_add C₀.1.1 C₀.1.2.1 dX0_placeOfRow_6 ?_
  refine xi_mul C₀.1.1 C₀.1.2.1 dX0_placeOfRow_7 ?_
  refine lv_iconst (v := iI 1) C₀.1.1 C₀.1.2.1 dX0_placeOfRow_8 (by decide) ?_
  refine xi_sub C₀.1.1 C₀.1.2.1 dX0_placeOfRow_9 ?_
  refine xc_Si (wr := [gO g₀ (s₀ 0) (s₀ 1) (pk s₀ 3) (pk s₀ 27) (s₀ 2)]) (ws' := fun _ => [gO g₀ (s₀ 0) (s₀ 1) (pk s₀ 3) (pk s₀ 27) (s₀ 2)]) (As := [.int (iI ((s₀ 0) * (y₀ + 1) - 1))]) (rest := []) C₀ hH₀ (c_X0_placeOf lL₀ D₀ k₀ H₀.size ((s₀ 0) * (y₀ + 1) - 1) ) ZT_b (fun _ _ _ => trivial) (va_cwS 1 C₀.1.2.2.2.2 (WG_S WG_c (WG_mem 430 (by decide +kernel) (by decide +kernel)) (WG_mem 431 (by decide +kernel) (by decide +kernel)) (WG_mem 64 (by decide +kernel) (by decide +kernel)) (WG_k (WG_mem 432 (by decide +kernel) (by decide +kernel)))) rfl rfl rfl (by decide +kernel) ⟨Nat.le_of_ble_eq_true rfl, Nat.le_of_ble_eq_true rfl⟩) [] [0] [0] rfl rfl (by decide) (by decide) (by decide) (fun _ => rfl) (by decide) rfl hl₀.1 rfl (Nat.le_of_ble_eq_true rfl) dX0_placeOfRow_10 ⟨Nat.le_of_ble_eq_true rfl, Nat.le_of_ble_eq_true rfl⟩ (fun _ _ H₀ locs₀ hH₀ => ?_)
  exact xr_i C₀ hH₀ hlk₀ hr₀ hQ₀ rfl hAe₀ () trivial rfl rfl dX0_placeOfRow_13
abbrev wgX0_rowBits : List Cond := .code yX0_rowBits cX0_rowBits 1 (some .int) :: WG
abbrev rmX0_rowBits : Room := { frames := 0, cells := 0, slots := 0, locals := 0 }
set_option maxHeartbeats 4000000 in
set_option maxRecDepth 100000 in
/-- rowBits -/
theorem c_X0_rowBits (lL₀ : Launch) (D₀ : va_G) (k₀ : Nat → ClassId) (sz₀ : Nat) (g₀ : Nat) (w₀ : Int) (h₀ : Int) (ht₀ : Int64) (fx₀ : Int64) (be₀ : Int) (s₀ : Int → Int) (hg₀ : gR s₀ w₀ h₀ ht₀ fx₀ be₀) (hs0₀ : 1 ≤ s₀ 0 ∧ s₀ 0 ≤ 4) : Met lL₀ yX0_rowBits wgX0_rowBits rmX0_rowBits (gPc ZT D₀ (tyk k₀) [.ref g₀] sz₀ [gO g₀ w₀ h₀ ht₀ fx₀ be₀]) (gQi D₀ (tyk k₀) [gO g₀ w₀ h₀ ht₀ fx₀ be₀] sz₀ (fun (_ : Unit) => True) (fun (_ : Unit) => (iI (mPow (s₀ 0) - 1))) (fun (_ : Unit) => [gO g₀ w₀ h₀ ht₀ fx₀ be₀])) 0 0 (va_A [gO g₀ w₀ h₀ ht₀ fx₀ be₀] sz₀) := by
  refine xs_met (cc := cX0_rowBits) (maxL := 1) (ret := some .int) (by decide) rfl (Nat.le_of_ble_eq_true rfl) ?_
  intro pP₀ eN₀ sT₀ mI₀ below₀ meth₀ cD₀ hsz₀ args₀ QQ₀ C₀ hr₀ hlk₀ hnm₀ hQ₀ ls₀ H₀ locs₀ hl₀ hH₀
  subst hsz₀
  have hl₀ : lv_has ls₀ 1 [(0, .ref g₀)] := hl₀
  generalize hAe₀ : va_A [gO g₀ w₀ h₀ ht₀ fx₀ be₀] sT₀.heap.size = A₀ at C₀ hH₀ hQ₀
  obtain ⟨rfl, rfl, rfl, rfl, rfl⟩ := hg₀
  refine lv_iconst (v := iI 1) C₀.1.1 C₀.1.2.1 dX0_rowBits_0 (by decide) ?_
  refine lv_iconst (v := iI 2) C₀.1.1 C₀.1.2.1 dX0_rowBits_1 (by decide) ?_
  refine lv_aload_n C₀.1.1 C₀.1.2.1 dX0_rowBits_2 rfl (lv_at hl₀ 0 rfl) ?_
  refine xw_get C₀ hH₀ 0 rfl rfl 0 (by decide) (fun w₀ h₀ => List.mem_cons_of_mem _ (iwg_X0 w₀ h₀)) (List.mem_cons_of_mem _ (WG_mem 94 (by decide +kernel) (by decide +kernel))) (v := .int (iI (s₀ 0))) rfl dX0_rowBits_3 ?_
  refine xi_mul C₀.1.1 C₀.1.2.1 dX0_rowBits_6 ?_
  refine lv_ishl C₀.1.1 C₀.1.2.1 dX0_rowBits_7 ?_
  refine xt_i (y := (iI (mPow (s₀ 0)))) (mPow_eq hs0₀) ?_
  refine lv_iconst (v := iI 1) C₀.1.1 C₀.1.2.1 dX0_rowBits_8 (by decide) ?_
  refine xi_sub C₀.1.1 C₀.1.2.1 dX0_rowBits_9 ?_
  exact xr_i C₀ hH₀ hlk₀ hr₀ hQ₀ rfl hAe₀ () trivial rfl rfl dX0_rowBits_10
abbrev wgX0_heightAt : List Cond := .code yX0_heightAt cX0_heightAt 5 (some .int) :: WG
abbrev rmX0_heightAt : Room := { frames := 1, cells := 0, slots := 0, locals := 22 }
set_option maxHeartbeats 4000000 in
set_option maxRecDepth 100000 in
/-- heightAt -/
theorem c_X0_heightAt (lL₀ : Launch) (D₀ : va_G) (k₀ : Nat → ClassId) (sz₀ : Nat) (g₀ : Nat) (w₀ : Int) (h₀ : Int) (ht₀ : Int64) (fx₀ : Int64) (be₀ : Int) (x : Int) (y₀ : Int) (s₀ : Int → Int) (hg₀ : gR s₀ w₀ h₀ ht₀ fx₀ be₀) (hS₀ : mS s₀) (hx₀ : -2147483648 ≤ x ∧ x < 2147483648) (hy₀ : -2147483648 ≤ y₀ ∧ y₀ < 2147483648) : Met lL₀ yX0_heightAt wgX0_heightAt rmX0_heightAt (gPc ZT D₀ (tyk k₀) [.ref g₀, .int (iI x), .int (iI y₀)] sz₀ [gO g₀ w₀ h₀ ht₀ fx₀ be₀]) (gQi D₀ (tyk k₀) [gO g₀ w₀ h₀ ht₀ fx₀ be₀] sz₀ (fun (_ : Unit) => True) (fun (_ : Unit) => (iI (mHAt s₀ x y₀))) (fun (_ : Unit) => [gO g₀ w₀ h₀ ht₀ fx₀ be₀])) 0 0 (va_A [gO g₀ w₀ h₀ ht₀ fx₀ be₀] sz₀) := by
  refine xs_met (cc := cX0_heightAt) (maxL := 5) (ret := some .int) (by decide) rfl (Nat.le_of_ble_eq_true rfl) ?_
  intro pP₀ eN₀ sT₀ mI₀ below₀ meth₀ cD₀ hsz₀ args₀ QQ₀ C₀ hr₀ hlk₀ hnm₀ hQ₀ ls₀ H₀ locs₀ hl₀ hH₀
  subst hsz₀
  have hl₀ : lv_has ls₀ 5 [(0, .ref g₀), (1, .int (iI x)), (2, .int (iI y₀))] := hl₀
  generalize hAe₀ : va_A [gO g₀ w₀ h₀ ht₀ fx₀ be₀] sT₀.heap.size = A₀ at C₀ hH₀ hQ₀
  obtain ⟨rfl, rfl, rfl, rfl, rfl⟩ := hg₀
  obtain ⟨hs0₀, hs1₀, hs2₀, hsh₀, hsf₀⟩ := id hS₀
  have hcl₀ := cells_rg hs0₀ hs1₀
  refine lv_aload_n C₀.1.1 C₀.1.2.1 dX0_heightAt_0 rfl (lv_at hl₀ 0 rfl) ?_
  refine lv_iload_n C₀.1.1 C₀.1.2.1 dX0_heightAt_1 rfl (lv_at hl₀ 1 rfl) ?_
  refine lv_iload_n C₀.1.1 C₀.1.2.1 dX0_heightAt_2 rfl (lv_at hl₀ 2 rfl) ?_
  refine xc_Vi (wr := []) (ws' := fun _ => [gO g₀ (s₀ 0) (s₀ 1) (pk s₀ 3) (pk s₀ 27) (s₀ 2)]) (As := [.int (iI x), .int (iI y₀)]) (rest := []) C₀ hH₀ (c_X0_has lL₀ D₀ k₀ H₀.size g₀ (s₀ 0) (s₀ 1) (pk s₀ 3) (pk s₀ 27) (s₀ 2) x y₀ s₀ (⟨rfl, rfl, rfl, rfl, rfl⟩) (by omega) (by omega) (by omega) (by omega)) ZT_b (fun _ _ _ => trivial) (cwV 2 C₀.1.2.2.2.2 (WG_V WG_c (WG_mem 524 (by decide +kernel) (by decide +kernel)) (WG_mem 444 (by decide +kernel) (by decide +kernel)) (WG_mem 445 (by decide +kernel) (by decide +kernel)) (WG_mem 64 (by decide +kernel) (by decide +kernel)) (WG_k (WG_mem 446 (by decide +kernel) (by decide +kernel)))) rfl rfl rfl (by decide +kernel) ⟨Nat.le_of_ble_eq_true rfl, Nat.le_of_ble_eq_true rfl⟩) [0] [] [0] rfl rfl (by decide) (by decide) (by decide) (fun _ => rfl) (by decide) (q0 := 0) rfl rfl rfl hl₀.1 rfl (Nat.le_of_ble_eq_true rfl) dX0_heightAt_3 ⟨Nat.le_of_ble_eq_true rfl, Nat.le_of_ble_eq_true rfl⟩ (fun _ _ H₀ locs₀ hH₀ => ?_)
  refine xp_eq (tgt := 20) C₀.1.1 C₀.1.2.1 dX0_heightAt_6 (by decide) (fun h_1₀ => ?_) (fun h_1₀ => ?_)
  · refine lv_aload_n C₀.1.1 C₀.1.2.1 dX0_heightAt_20 rfl (lv_at hl₀ 0 rfl) ?_
    refine xw_get C₀ hH₀ 0 rfl rfl 4 (by decide) (fun w₀ h₀ => List.mem_cons_of_mem _ (iwg_X0 w₀ h₀)) (List.mem_cons_of_mem _ (WG_mem 111 (by decide +kernel) (by decide +kernel))) (v := .int (iI (s₀ 2))) rfl dX0_heightAt_21 ?_
    refine lv_bipush (v := iI (-9)) C₀.1.1 C₀.1.2.1 dX0_heightAt_24 (by decide) ?_
    refine xi_ceq (tgt := 34) C₀.1.1 C₀.1.2.1 dX0_heightAt_26 (by decide) (by omega) (by omega) (fun h_2₀ => ?_) (fun h_2₀ => ?_)
    · refine lv_iconst (v := iI 0) C₀.1.1 C₀.1.2.1 dX0_heightAt_34 (by decide) ?_
      refine lv_iload_n C₀.1.1 C₀.1.2.1 dX0_heightAt_35 rfl (lv_at hl₀ 1 rfl) ?_
      refine lv_aload_n C₀.1.1 C₀.1.2.1 dX0_heightAt_36 rfl (lv_at hl₀ 0 rfl) ?_
      refine xw_get C₀ hH₀ 0 rfl rfl 0 (by decide) (fun w₀ h₀ => List.mem_cons_of_mem _ (iwg_X0 w₀ h₀)) (List.mem_cons_of_mem _ (WG_mem 94 (by decide +kernel) (by decide +kernel))) (v := .int (iI (s₀ 0))) rfl dX0_heightAt_37 ?_
      refine lv_iconst (v := iI 1) C₀.1.1 C₀.1.2.1 dX0_heightAt_40 (by decide) ?_
      refine xi_sub C₀.1.1 C₀.1.2.1 dX0_heightAt_41 ?_
      refine va_mmin C₀.1.1 C₀.1.2.1 (by rw [C₀.1.2.2.1]; exact hl₀.1.symm) C₀.1.2.2.2.1 (C₀.1.2.2.2.2 (.methodLink RX0 63 Lib.Math.min.name) (List.mem_cons_of_mem _ (WG_mem 663 (by decide +kernel) (by decide +kernel)))) (C₀.1.2.2.2.2 (.static Lib.Math.min.name) (List.mem_cons_of_mem _ (WG_mem 596 (by decide +kernel) (by decide +kernel)))) (C₀.1.2.2.2.2 (.initialized "java/lang/Math") (List.mem_cons_of_mem _ (WG_mem 68 (by decide +kernel) (by decide +kernel)))) (C₀.1.2.2.2.2 (.code Lib.Math.min.name Lib.Math.min.code 2 (some .int)) (List.mem_cons_of_mem _ (WG_mem 597 (by decide +kernel) (by decide +kernel)))) (Nat.le_of_ble_eq_true rfl) (Nat.le_of_ble_eq_true rfl) (Nat.zero_le _) (Nat.zero_le _) dX0_heightAt_42 ?_
      refine xt_i (y := iI (min x (s₀ 0 - 1))) (iI_min (by omega) (by omega)) ?_
      refine va_mmax C₀.1.1 C₀.1.2.1 (by rw [C₀.1.2.2.1]; exact hl₀.1.symm) C₀.1.2.2.2.1 (C₀.1.2.2.2.2 (.methodLink RX0 68 Lib.Math.max.name) (List.mem_cons_of_mem _ (WG_mem 664 (by decide +kernel) (by decide +kernel)))) (C₀.1.2.2.2.2 (.static Lib.Math.max.name) (List.mem_cons_of_mem _ (WG_mem 183 (by decide +kernel) (by decide +kernel)))) (C₀.1.2.2.2.2 (.initialized "java/lang/Math") (List.mem_cons_of_mem _ (WG_mem 68 (by decide +kernel) (by decide +kernel)))) (C₀.1.2.2.2.2 (.code Lib.Math.max.name Lib.Math.max.code 2 (some .int)) (List.mem_cons_of_mem _ (WG_mem 184 (by decide +kernel) (by decide +kernel)))) (Nat.le_of_ble_eq_true rfl) (Nat.le_of_ble_eq_true rfl) (Nat.zero_le _) (Nat.zero_le _) dX0_heightAt_45 ?_
      refine xt_i (y := iI (max 0 (min x (s₀ 0 - 1)))) (iI_max (by omega) (by omega)) ?_
      refine lv_istore_n (lv' := [(3, .int (iI (max 0 (min x (s₀ 0 - 1))))), (0, .ref g₀), (1, .int (iI x)), (2, .int (iI y₀))]) C₀.1.1 C₀.1.2.1 dX0_heightAt_48 rfl hl₀ (by decide) rfl (fun ls₀ hl₀ => ?_)
      refine lv_iconst (v := iI 0) C₀.1.1 C₀.1.2.1 dX0_heightAt_49 (by decide) ?_
      refine lv_iload_n C₀.1.1 C₀.1.2.1 dX0_heightAt_50 rfl (lv_at hl₀ 3 rfl) ?_
      refine lv_aload_n C₀.1.1 C₀.1.2.1 dX0_heightAt_51 rfl (lv_at hl₀ 1 rfl) ?_
      refine xw_get C₀ hH₀ 0 rfl rfl 1 (by decide) (fun w₀ h₀ => List.mem_cons_of_mem _ (iwg_X0 w₀ h₀)) (List.mem_cons_of_mem _ (WG_mem 100 (by decide +kernel) (by decide +kernel))) (v := .int (iI (s₀ 1))) rfl dX0_heightAt_52 ?_
      refine lv_iconst (v := iI 1) C₀.1.1 C₀.1.2.1 dX0_heightAt_55 (by decide) ?_
      refine xi_sub C₀.1.1 C₀.1.2.1 dX0_heightAt_56 ?_
      refine va_mmin C₀.1.1 C₀.1.2.1 (by rw [C₀.1.2.2.1]; exact hl₀.1.symm) C₀.1.2.2.2.1 (C₀.1.2.2.2.2 (.methodLink RX0 63 Lib.Math.min.name) (List.mem_cons_of_mem _ (WG_mem 663 (by decide +kernel) (by decide +kernel)))) (C₀.1.2.2.2.2 (.static Lib.Math.min.name) (List.mem_cons_of_mem _ (WG_mem 596 (by decide +kernel) (by decide +kernel)))) (C₀.1.2.2.2.2 (.initialized "java/lang/Math") (List.mem_cons_of_mem _ (WG_mem 68 (by decide +kernel) (by decide +kernel)))) (C₀.1.2.2.2.2 (.code Lib.Math.min.name Lib.Math.min.code 2 (some .int)) (List.mem_cons_of_mem _ (WG_mem 597 (by decide +kernel) (by decide +kernel)))) (Nat.le_of_ble_eq_true rfl) (Nat.le_of_ble_eq_true rfl) (Nat.zero_le _) (Nat.zero_le _) dX0_heightAt_57 ?_
      refine xt_i (y := iI (min y₀ (s₀ 1 - 1))) (iI_min (by omega) (by omega)) ?_
      refine va_mmax C₀.1.1 C₀.1.2.1 (by rw [C₀.1.2.2.1]; exact hl₀.1.symm) C₀.1.2.2.2.1 (C₀.1.2.2.2.2 (.methodLink RX0 68 Lib.Math.max.name) (List.mem_cons_of_mem _ (WG_mem 664 (by decide +kernel) (by decide +kernel)))) (C₀.1.2.2.2.2 (.static Lib.Math.max.name) (List.mem_cons_of_mem _ (WG_mem 183 (by decide +kernel) (by decide +kernel)))) (C₀.1.2.2.2.2 (.initialized "java/lang/Math") (List.mem_cons_of_mem _ (WG_mem 68 (by decide +kernel) (by decide +kernel)))) (C₀.1.2.2.2.2 (.code Lib.Math.max.name Lib.Math.max.code 2 (some .int)) (List.mem_cons_of_mem _ (WG_mem 184 (by decide +kernel) (by decide +kernel)))) (Nat.le_of_ble_eq_true rfl) (Nat.le_of_ble_eq_true rfl) (Nat.zero_le _) (Nat.zero_le _) dX0_heightAt_60 ?_
      refine xt_i (y := iI (max 0 (min y₀ (s₀ 1 - 1)))) (iI_max (by omega) (by omega)) ?_
      refine lv_istore (lv' := [(4, .int (iI (max 0 (min y₀ (s₀ 1 - 1))))), (3, .int (iI (max 0 (min x (s₀ 0 - 1))))), (0, .ref g₀), (1, .int (iI x)), (2, .int (iI y₀))]) C₀.1.1 C₀.1.2.1 dX0_heightAt_63 hl₀ (by decide) rfl (fun ls₀ hl₀ => ?_)
      have hmx₀ : 0 ≤ max 0 (min x (s₀ 0 - 1)) ∧ max 0 (min x (s₀ 0 - 1)) < s₀ 0 := by omega
      have hmy₀ : 0 ≤ max 0 (min y₀ (s₀ 1 - 1)) ∧ max 0 (min y₀ (s₀ 1 - 1)) < s₀ 1 := by omega
      have hc1₀ := cell_rg hs0₀ hmx₀ hmy₀
      refine lv_aload_n C₀.1.1 C₀.1.2.1 dX0_heightAt_65 rfl (lv_at hl₀ 2 rfl) ?_
      refine lv_aload_n C₀.1.1 C₀.1.2.1 dX0_heightAt_66 rfl (lv_at hl₀ 2 rfl) ?_
      refine lv_iload_n C₀.1.1 C₀.1.2.1 dX0_heightAt_67 rfl (lv_at hl₀ 1 rfl) ?_
      refine lv_iload C₀.1.1 C₀.1.2.1 dX0_heightAt_68 (lv_at hl₀ 0 rfl) ?_
      refine xc_Vi (wr := []) (ws' := fun _ => [gO g₀ (s₀ 0) (s₀ 1) (pk s₀ 3) (pk s₀ 27) (s₀ 2)]) (As := [.int (iI (max 0 (min x (s₀ 0 - 1)))), .int (iI (max 0 (min y₀ (s₀ 1 - 1))))]) (rest := [.ref g₀]) C₀ hH₀ (c_X0_numberOf lL₀ D₀ k₀ H₀.size g₀ (s₀ 0) (s₀ 1) (pk s₀ 3) (pk s₀ 27) (s₀ 2) (max 0 (min x (s₀ 0 - 1))) (max 0 (min y₀ (s₀ 1 - 1))) s₀ (⟨rfl, rfl, rfl, rfl, rfl⟩)) ZT_b (fun _ _ _ => trivial) (cwV 2 C₀.1.2.2.2.2 (WG_V WG_c (WG_mem 519 (by decide +kernel) (by decide +kernel)) (WG_mem 423 (by decide +kernel) (by decide +kernel)) (WG_mem 424 (by decide +kernel) (by decide +kernel)) (WG_mem 64 (by decide +kernel) (by decide +kernel)) (WG_k (WG_mem 425 (by decide +kernel) (by decide +kernel)))) rfl rfl rfl (by decide +kernel) ⟨Nat.le_of_ble_eq_true rfl, Nat.le_of_ble_eq_true rfl⟩) [0] [] [0] rfl rfl (by decide) (by decide) (by decide) (fun _ => rfl) (by decide) (q0 := 0) rfl rfl rfl hl₀.1 rfl (Nat.le_of_ble_eq_true rfl) dX0_heightAt_70 ⟨Nat.le_of_ble_eq_true rfl, Nat.le_of_ble_eq_true rfl⟩ (fun _ _ H₀ locs₀ hH₀ => ?_)
      refine xc_Vi (wr := []) (ws' := fun _ => [gO g₀ (s₀ 0) (s₀ 1) (pk s₀ 3) (pk s₀ 27) (s₀ 2)]) (As := [.int (iI (s₀ 0 * (max 0 (min y₀ (s₀ 1 - 1))) + (max 0 (min x (s₀ 0 - 1)))))]) (rest := []) C₀ hH₀ (c_X0_heightOf lL₀ D₀ k₀ H₀.size g₀ (s₀ 0) (s₀ 1) (pk s₀ 3) (pk s₀ 27) (s₀ 2) (s₀ 0 * (max 0 (min y₀ (s₀ 1 - 1))) + (max 0 (min x (s₀ 0 - 1)))) s₀ (⟨rfl, rfl, rfl, rfl, rfl⟩) (hS₀) (by omega)) ZT_b (fun _ _ _ => trivial) (cwV 1 C₀.1.2.2.2.2 (WG_V WG_c (WG_mem 499 (by decide +kernel) (by decide +kernel)) (WG_mem 483 (by decide +kernel) (by decide +kernel)) (WG_mem 484 (by decide +kernel) (by decide +kernel)) (WG_mem 64 (by decide +kernel) (by decide +kernel)) (WG_k (WG_mem 485 (by decide +kernel) (by decide +kernel)))) rfl rfl rfl (by decide +kernel) ⟨Nat.le_of_ble_eq_true rfl, Nat.le_of_ble_eq_true rfl⟩) [0] [] [0] rfl rfl (by decide) (by decide) (by decide) (fun _ => rfl) (by decide) (q0 := 0) rfl rfl rfl hl₀.1 rfl (Nat.le_of_ble_eq_true rfl) dX0_heightAt_73 ⟨Nat.le_of_ble_eq_true rfl, Nat.le_of_ble_eq_true rfl⟩ (fun _ _ H₀ locs₀ hH₀ => ?_)
      exact xr_i C₀ hH₀ hlk₀ hr₀ hQ₀ rfl hAe₀ () trivial (by unfold mHAt; rw [if_neg (by omega), if_pos (by omega), show (if y₀ < 0 then 0 else if s₀ 1 ≤ y₀ then s₀ 1 - 1 else y₀) = max 0 (min y₀ (s₀ 1 - 1)) by (split <;> (try split) <;> omega), show (if x < 0 then 0 else if s₀ 0 ≤ x then s₀ 0 - 1 else x) = max 0 (min x (s₀ 0 - 1)) by (split <;> (try split) <;> omega)]; congr 2; omega) rfl dX0_heightAt_76
    · refine lv_aload_n C₀.1.1 C₀.1.2.1 dX0_heightAt_29 rfl (lv_at hl₀ 0 rfl) ?_
      refine xw_get C₀ hH₀ 0 rfl rfl 4 (by decide) (fun w₀ h₀ => List.mem_cons_of_mem _ (iwg_X0 w₀ h₀)) (List.mem_cons_of_mem _ (WG_mem 111 (by decide +kernel) (by decide +kernel))) (v := .int (iI (s₀ 2))) rfl dX0_heightAt_30 ?_
      exact xr_i C₀ hH₀ hlk₀ hr₀ hQ₀ rfl hAe₀ () trivial (by unfold mHAt; rw [if_neg (by omega), if_neg (by omega)]) rfl dX0_heightAt_33
  · have hc1₀ := cell_rg hs0₀ (show 0 ≤ x ∧ x < s₀ 0 by omega) (show 0 ≤ y₀ ∧ y₀ < s₀ 1 by omega)
    refine lv_aload_n C₀.1.1 C₀.1.2.1 dX0_heightAt_9 rfl (lv_at hl₀ 0 rfl) ?_
    refine lv_aload_n C₀.1.1 C₀.1.2.1 dX0_heightAt_10 rfl (lv_at hl₀ 0 rfl) ?_
    refine lv_iload_n C₀.1.1 C₀.1.2.1 dX0_heightAt_11 rfl (lv_at hl₀ 1 rfl) ?_
    refine lv_iload_n C₀.1.1 C₀.1.2.1 dX0_heightAt_12 rfl (lv_at hl₀ 2 rfl) ?_
    refine xc_Vi (wr := []) (ws' := fun _ => [gO g₀ (s₀ 0) (s₀ 1) (pk s₀ 3) (pk s₀ 27) (s₀ 2)]) (As := [.int (iI x), .int (iI y₀)]) (rest := [.ref g₀]) C₀ hH₀ (c_X0_numberOf lL₀ D₀ k₀ H₀.size g₀ (s₀ 0) (s₀ 1) (pk s₀ 3) (pk s₀ 27) (s₀ 2) x y₀ s₀ (⟨rfl, rfl, rfl, rfl, rfl⟩)) ZT_b (fun _ _ _ => trivial) (cwV 2 C₀.1.2.2.2.2 (WG_V WG_c (WG_mem 519 (by decide +kernel) (by decide +kernel)) (WG_mem 423 (by decide +kernel) (by decide +kernel)) (WG_mem 424 (by decide +kernel) (by decide +kernel)) (WG_mem 64 (by decide +kernel) (by decide +kernel)) (WG_k (WG_mem 425 (by decide +kernel) (by decide +kernel)))) rfl rfl rfl (by decide +kernel) ⟨Nat.le_of_ble_eq_true rfl, Nat.le_of_ble_eq_true rfl⟩) [0] [] [0] rfl rfl (by decide) (by decide) (by decide) (fun _ => rfl) (by decide) (q0 := 0) rfl rfl rfl hl₀.1 rfl (Nat.le_of_ble_eq_true rfl) dX0_heightAt_13 ⟨Nat.le_of_ble_eq_true rfl, Nat.le_of_ble_eq_true rfl⟩ (fun _ _ H₀ locs₀ hH₀ => ?_)
    refine xc_Vi (wr := []) (ws' := fun _ => [gO g₀ (s₀ 0) (s₀ 1) (pk s₀ 3) (pk s₀ 27) (s₀ 2)]) (As := [.int (iI (s₀ 0 * y₀ + x))]) (rest := []) C₀ hH₀ (c_X0_heightOf lL₀ D₀ k₀ H₀.size g₀ (s₀ 0) (s₀ 1) (pk s₀ 3) (pk s₀ 27) (s₀ 2) (s₀ 0 * y₀ + x) s₀ (⟨rfl, rfl, rfl, rfl, rfl⟩) (hS₀) (by omega)) ZT_b (fun _ _ _ => trivial) (cwV 1 C₀.1.2.2.2.2 (WG_V WG_c (WG_mem 499 (by decide +kernel) (by decide +kernel)) (WG_mem 483 (by decide +kernel) (by decide +kernel)) (WG_mem 484 (by decide +kernel) (by decide +kernel)) (WG_mem 64 (by decide +kernel) (by decide +kernel)) (WG_k (WG_mem 485 (by decide +kernel) (by decide +kernel)))) rfl rfl rfl (by decide +kernel) ⟨Nat.le_of_ble_eq_true rfl, Nat.le_of_ble_eq_true rfl⟩) [0] [] [0] rfl rfl (by decide) (by decide) (by decide) (fun _ => rfl) (by decide) (q0 := 0) rfl rfl rfl hl₀.1 rfl (Nat.le_of_ble_eq_true rfl) dX0_heightAt_16 ⟨Nat.le_of_ble_eq_true rfl, Nat.le_of_ble_eq_true rfl⟩ (fun _ _ H₀ locs₀ hH₀ => ?_)
    exact xr_i C₀ hH₀ hlk₀ hr₀ hQ₀ rfl hAe₀ () trivial (by unfold mHAt; rw [if_pos (by omega)]; congr 2; omega) rfl dX0_heightAt_19
