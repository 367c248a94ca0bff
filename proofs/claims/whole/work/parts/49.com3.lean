abbrev wgX2_numberOf : List Cond := .code yX2_numberOf cX2_numberOf 3 (some .int) :: WG
abbrev rmX2_numberOf : Room := { frames := 0, cells := 0, slots := 0, locals := 0 }
set_option maxHeartbeats 4000000 in
set_option maxRecDepth 100000 in
/-- Kinds.numberOf -/
theorem c_X2_numberOf (lL₀ : Launch) (D₀ : va_G) (k₀ : Nat → ClassId) (sz₀ : Nat) (a₀ : Nat) (qr₀ : Nat) (qc₀ : Nat) (kn₀ : Int) (ro₀ : Int → Int) (row₀ : Int) (hk₀ : 0 ≤ kn₀ ∧ kn₀ ≤ 24) (hro₀ : ∀ j₀, 0 ≤ j₀ → j₀ < kn₀ → 0 ≤ ro₀ j₀ ∧ ro₀ j₀ < 262144) (hrw₀ : 0 ≤ row₀ ∧ row₀ < 262144) : Met lL₀ yX2_numberOf wgX2_numberOf rmX2_numberOf (gPc ZT D₀ (tyk k₀) [.ref a₀, .int (iI row₀)] sz₀ [kO a₀ qr₀ qc₀ kn₀, (qr₀, .inl (k₀ 0, 24, .inl (ia ro₀)))]) (gQi D₀ (tyk k₀) [kO a₀ qr₀ qc₀ kn₀, (qr₀, .inl (k₀ 0, 24, .inl (ia ro₀)))] sz₀ (fun (_ : Unit) => True) (fun (_ : Unit) => (iI (fdI (fun j₀ => decide (ro₀ j₀ = row₀)) kn₀ 0))) (fun (_ : Unit) => [kO a₀ qr₀ qc₀ kn₀, (qr₀, .inl (k₀ 0, 24, .inl (ia ro₀)))])) 0 0 (va_A [kO a₀ qr₀ qc₀ kn₀, (qr₀, .inl (k₀ 0, 24, .inl (ia ro₀)))] sz₀) := by
  refine xs_met (cc := cX2_numberOf) (maxL := 3) (ret := some .int) (by decide) rfl (Nat.le_of_ble_eq_true rfl) ?_
  intro pP₀ eN₀ sT₀ mI₀ below₀ meth₀ cD₀ hsz₀ args₀ QQ₀ C₀ hr₀ hlk₀ hnm₀ hQ₀ ls₀ H₀ locs₀ hl₀ hH₀
  subst hsz₀
  have hl₀ : lv_has ls₀ 3 [(0, .ref a₀), (1, .int (iI row₀))] := hl₀
  generalize hAe₀ : va_A [kO a₀ qr₀ qc₀ kn₀, (qr₀, .inl (k₀ 0, 24, .inl (ia ro₀)))] sT₀.heap.size = A₀ at C₀ hH₀ hQ₀
  refine lv_iconst (v := iI 0) C₀.1.1 C₀.1.2.1 dX2_numberOf_0 (by decide) ?_
  refine lv_istore_n (lv' := [(2, .int (iI 0)), (0, .ref a₀), (1, .int (iI row₀))]) C₀.1.1 C₀.1.2.1 dX2_numberOf_1 rfl hl₀ (by decide) rfl (fun ls₀ hl₀ => ?_)
  have L2₀ : ∀ (nn₀ : Nat), ∀ (z₀ : Int), (fdI (fun j₀ => decide (ro₀ j₀ = row₀)) kn₀ z₀ = fdI (fun j₀ => decide (ro₀ j₀ = row₀)) kn₀ 0) → (0 ≤ z₀ ∧ z₀ ≤ kn₀) → ((kn₀ - z₀) < (nn₀ : Int)) → ∀ (H₀ : Heap) (locs₀ : List Loc) (ls₀ : Array Slot), Hp D₀ A₀ sT₀.heap [kO a₀ qr₀ qc₀ kn₀, (qr₀, .inl (k₀ 0, 24, .inl (ia ro₀)))] H₀ locs₀ → lv_has ls₀ 3 [(0, .ref a₀), (1, .int (iI row₀)), (2, .int (iI z₀))] → W pP₀ lL₀ eN₀ rmX2_numberOf sT₀ mI₀ args₀ below₀ meth₀ cD₀ H₀ locs₀ 0 0 QQ₀ (F0 mI₀ 2 ls₀ []) := by
    intro nn₀
    induction nn₀ with
    | zero => intro z₀ i1₀ i2₀ hm₀; exact absurd hm₀ (by omega)
    | succ nn₀ ih2₀ =>
      intro z₀ i1₀ i2₀ hm2₀ H₀ locs₀ ls₀ hH₀ hl₀
      have L35₀ : (z₀ = fdI (fun j₀ => decide (ro₀ j₀ = row₀)) kn₀ 0) → ∀ (H₀ : Heap) (locs₀ : List Loc) (ls₀ : Array Slot), Hp D₀ A₀ sT₀.heap [kO a₀ qr₀ qc₀ kn₀, (qr₀, .inl (k₀ 0, 24, .inl (ia ro₀)))] H₀ locs₀ → lv_has ls₀ 3 [(0, .ref a₀), (1, .int (iI row₀)), (2, .int (iI z₀))] → W pP₀ lL₀ eN₀ rmX2_numberOf sT₀ mI₀ args₀ below₀ meth₀ cD₀ H₀ locs₀ 0 0 QQ₀ (F0 mI₀ 35 ls₀ []) := by
        intro  je₀ H₀ locs₀ ls₀ hH₀ hl₀
        refine lv_iload_n C₀.1.1 C₀.1.2.1 dX2_numberOf_35 rfl (lv_at hl₀ 2 rfl) ?_
        exact xr_i C₀ hH₀ hlk₀ hr₀ hQ₀ rfl hAe₀ () trivial (by rw [← je₀]) rfl dX2_numberOf_36
      refine lv_iload_n C₀.1.1 C₀.1.2.1 dX2_numberOf_2 rfl (lv_at hl₀ 2 rfl) ?_
      refine lv_aload_n C₀.1.1 C₀.1.2.1 dX2_numberOf_3 rfl (lv_at hl₀ 0 rfl) ?_
      refine xw_get C₀ hH₀ 0 rfl rfl 2 (by decide) (fun w₀ h₀ => List.mem_cons_of_mem _ (iwg_X2 w₀ h₀)) (List.mem_cons_of_mem _ (WG_mem 223 (by decide +kernel) (by decide +kernel))) (v := .int (iI kn₀)) rfl dX2_numberOf_4 ?_
      refine xi_cge (tgt := 35) C₀.1.1 C₀.1.2.1 dX2_numberOf_7 (by decide) (by omega) (by omega) (fun h_1₀ => ?_) (fun h_1₀ => ?_)
      · exact L35₀  (by rw [← i1₀, fdI_eq (j := z₀), if_neg (by rintro ⟨q1₀, q2₀⟩; first | omega | (simp only [decide_eq_true_eq] at q2₀; omega))]) _ _ _ hH₀ (lv_sub hl₀ [0, 1, 2] rfl)
      · refine lv_iload_n C₀.1.1 C₀.1.2.1 dX2_numberOf_10 rfl (lv_at hl₀ 2 rfl) ?_
        refine lv_aload_n C₀.1.1 C₀.1.2.1 dX2_numberOf_11 rfl (lv_at hl₀ 0 rfl) ?_
        refine xw_get C₀ hH₀ 0 rfl rfl 0 (by decide) (fun w₀ h₀ => List.mem_cons_of_mem _ (iwg_X2 w₀ h₀)) (List.mem_cons_of_mem _ (WG_mem 221 (by decide +kernel) (by decide +kernel))) (v := .ref qr₀) rfl dX2_numberOf_12 ?_
        refine xw_len C₀ hH₀ 1 0 rfl rfl (z := 24) rfl dX2_numberOf_15 ?_
        refine xi_cge (tgt := 35) C₀.1.1 C₀.1.2.1 dX2_numberOf_16 (by decide) (by omega) (by omega) (fun h_2₀ => ?_) (fun h_2₀ => ?_)
        · exact L35₀  (by rw [← i1₀, fdI_eq (j := z₀), if_neg (by rintro ⟨q1₀, q2₀⟩; first | omega | (simp only [decide_eq_true_eq] at q2₀; omega))]) _ _ _ hH₀ (lv_sub hl₀ [0, 1, 2] rfl)
        · have hrz₀ := hro₀ z₀ (by omega) (by omega)
          refine lv_aload_n C₀.1.1 C₀.1.2.1 dX2_numberOf_19 rfl (lv_at hl₀ 0 rfl) ?_
          refine xw_get C₀ hH₀ 0 rfl rfl 0 (by decide) (fun w₀ h₀ => List.mem_cons_of_mem _ (iwg_X2 w₀ h₀)) (List.mem_cons_of_mem _ (WG_mem 221 (by decide +kernel) (by decide +kernel))) (v := .ref qr₀) rfl dX2_numberOf_20 ?_
          refine lv_iload_n C₀.1.1 C₀.1.2.1 dX2_numberOf_23 rfl (lv_at hl₀ 2 rfl) ?_
          refine xw_ild C₀ hH₀ 1 0 rfl rfl (z := z₀) (by omega) (by omega) (by decide) dX2_numberOf_24 ?_
          refine lv_iload_n C₀.1.1 C₀.1.2.1 dX2_numberOf_25 rfl (lv_at hl₀ 1 rfl) ?_
          refine xi_ceq (tgt := 35) C₀.1.1 C₀.1.2.1 dX2_numberOf_26 (by decide) (by omega) (by omega) (fun h_3₀ => ?_) (fun h_3₀ => ?_)
          · exact L35₀  (by rw [← i1₀, fdI_eq (j := z₀), if_neg (by rintro ⟨q1₀, q2₀⟩; first | omega | (simp only [decide_eq_true_eq] at q2₀; omega))]) _ _ _ hH₀ (lv_sub hl₀ [0, 1, 2] rfl)
          · refine lv_iinc (v := iI (z₀ + 1)) (lv' := [(2, .int (iI (z₀ + 1))), (0, .ref a₀), (1, .int (iI row₀))]) C₀.1.1 C₀.1.2.1 dX2_numberOf_29 hl₀ (k := 2) rfl (iI_add _ (1)) (by decide) rfl (fun ls₀ hl₀ => ?_)
            refine lv_goto (tgt := 2) C₀.1.1 C₀.1.2.1 dX2_numberOf_32 (by decide) ?_
            exact ih2₀ (z₀ + 1) (by rw [← i1₀, fdI_eq (j := z₀), if_pos ⟨by omega, by simp only [decide_eq_true_eq]; omega⟩]) (by omega) (by omega) _ _ _ hH₀ (lv_sub hl₀ [1, 2, 0] rfl)
  exact L2₀ (((kn₀ - 0) : Int).toNat + 1) 0 (rfl) (by omega) (by omega) _ _ _ hH₀ (lv_sub hl₀ [1, 2, 0] rfl)
abbrev wgX2_cellsOf : List Cond := .code yX2_cellsOf cX2_cellsOf 2 (some .int) :: WG
abbrev rmX2_cellsOf : Room := { frames := 0, cells := 0, slots := 0, locals := 0 }
set_option maxHeartbeats 4000000 in
set_option maxRecDepth 100000 in
/-- cellsOf -/
theorem c_X2_cellsOf (lL₀ : Launch) (D₀ : va_G) (k₀ : Nat → ClassId) (sz₀ : Nat) (a₀ : Nat) (qr₀ : Nat) (qc₀ : Nat) (kn₀ : Int) (ce₀ : Int → Int) (z₀ : Int) (hz₀ : -2147483648 ≤ z₀ ∧ z₀ < 2147483648) : Met lL₀ yX2_cellsOf wgX2_cellsOf rmX2_cellsOf (gPc ZT D₀ (tyk k₀) [.ref a₀, .int (iI z₀)] sz₀ [kO a₀ qr₀ qc₀ kn₀, (qc₀, .inl (k₀ 0, 24, .inl (ia ce₀)))]) (gQi D₀ (tyk k₀) [kO a₀ qr₀ qc₀ kn₀, (qc₀, .inl (k₀ 0, 24, .inl (ia ce₀)))] sz₀ (fun (_ : Unit) => True) (fun (_ : Unit) => (iI (if 0 ≤ z₀ ∧ z₀ < 24 then ce₀ z₀ else 0))) (fun (_ : Unit) => [kO a₀ qr₀ qc₀ kn₀, (qc₀, .inl (k₀ 0, 24, .inl (ia ce₀)))])) 0 0 (va_A [kO a₀ qr₀ qc₀ kn₀, (qc₀, .inl (k₀ 0, 24, .inl (ia ce₀)))] sz₀) := by
  refine xs_met (cc := cX2_cellsOf) (maxL := 2) (ret := some .int) (by decide) rfl (Nat.le_of_ble_eq_true rfl) ?_
  intro pP₀ eN₀ sT₀ mI₀ below₀ meth₀ cD₀ hsz₀ args₀ QQ₀ C₀ hr₀ hlk₀ hnm₀ hQ₀ ls₀ H₀ locs₀ hl₀ hH₀
  subst hsz₀
  have hl₀ : lv_has ls₀ 2 [(0, .ref a₀), (1, .int (iI z₀))] := hl₀
  generalize hAe₀ : va_A [kO a₀ qr₀ qc₀ kn₀, (qc₀, .inl (k₀ 0, 24, .inl (ia ce₀)))] sT₀.heap.size = A₀ at C₀ hH₀ hQ₀
  refine lv_iload_n C₀.1.1 C₀.1.2.1 dX2_cellsOf_0 rfl (lv_at hl₀ 1 rfl) ?_
  refine xi_zlt (tgt := 22) C₀.1.1 C₀.1.2.1 dX2_cellsOf_1 (by decide) (by omega) (fun h_1₀ => ?_) (fun h_1₀ => ?_)
  · refine lv_iconst (v := iI 0) C₀.1.1 C₀.1.2.1 dX2_cellsOf_22 (by decide) ?_
    exact xr_i C₀ hH₀ hlk₀ hr₀ hQ₀ rfl hAe₀ () trivial (by simp (disch := omega) only [if_pos, if_neg]) rfl dX2_cellsOf_23
  · refine lv_iload_n C₀.1.1 C₀.1.2.1 dX2_cellsOf_4 rfl (lv_at hl₀ 1 rfl) ?_
    refine lv_aload_n C₀.1.1 C₀.1.2.1 dX2_cellsOf_5 rfl (lv_at hl₀ 0 rfl) ?_
    refine xw_get C₀ hH₀ 0 rfl rfl 1 (by decide) (fun w₀ h₀ => List.mem_cons_of_mem _ (iwg_X2 w₀ h₀)) (List.mem_cons_of_mem _ (WG_mem 222 (by decide +kernel) (by decide +kernel))) (v := .ref qc₀) rfl dX2_cellsOf_6 ?_
    refine xw_len C₀ hH₀ 1 0 rfl rfl (z := 24) rfl dX2_cellsOf_9 ?_
    refine xi_cge (tgt := 22) C₀.1.1 C₀.1.2.1 dX2_cellsOf_10 (by decide) (by omega) (by omega) (fun h_2₀ => ?_) (fun h_2₀ => ?_)
    · refine lv_iconst (v := iI 0) C₀.1.1 C₀.1.2.1 dX2_cellsOf_22 (by decide) ?_
      exact xr_i C₀ hH₀ hlk₀ hr₀ hQ₀ rfl hAe₀ () trivial (by simp (disch := omega) only [if_pos, if_neg]) rfl dX2_cellsOf_23
    · refine lv_aload_n C₀.1.1 C₀.1.2.1 dX2_cellsOf_13 rfl (lv_at hl₀ 0 rfl) ?_
      refine xw_get C₀ hH₀ 0 rfl rfl 1 (by decide) (fun w₀ h₀ => List.mem_cons_of_mem _ (iwg_X2 w₀ h₀)) (List.mem_cons_of_mem _ (WG_mem 222 (by decide +kernel) (by decide +kernel))) (v := .ref qc₀) rfl dX2_cellsOf_14 ?_
      refine lv_iload_n C₀.1.1 C₀.1.2.1 dX2_cellsOf_17 rfl (lv_at hl₀ 1 rfl) ?_
      refine xw_ild C₀ hH₀ 1 0 rfl rfl (z := z₀) (by omega) (by omega) (by decide) dX2_cellsOf_18 ?_
      refine lv_goto (tgt := 23) C₀.1.1 C₀.1.2.1 dX2_cellsOf_19 (by decide) ?_
      exact xr_i C₀ hH₀ hlk₀ hr₀ hQ₀ rfl hAe₀ () trivial (by simp (disch := omega) only [if_pos, if_neg]) rfl dX2_cellsOf_23
abbrev wgX2_squareOf : List Cond := .code yX2_squareOf cX2_squareOf 3 (some .int) :: WG
abbrev rmX2_squareOf : Room := { frames := 0, cells := 0, slots := 0, locals := 0 }
set_option maxHeartbeats 4000000 in
set_option maxRecDepth 100000 in
/-- Kinds.squareOf -/
theorem c_X2_squareOf (lL₀ : Launch) (D₀ : va_G) (k₀ : Nat → ClassId) (sz₀ : Nat) (a₀ : Nat) (qr₀ : Nat) (qc₀ : Nat) (kn₀ : Int) (ro₀ : Int → Int) (z₀ : Int) (la₀ : Int) (hz₀ : -2147483648 ≤ z₀ ∧ z₀ < 2147483648) (hla₀ : 1 ≤ la₀ ∧ la₀ ≤ 3) (hro₀ : 0 ≤ z₀ → z₀ < 24 → 0 ≤ ro₀ z₀ ∧ ro₀ z₀ < 262144) : Met lL₀ yX2_squareOf wgX2_squareOf rmX2_squareOf (gPc ZT D₀ (tyk k₀) [.ref a₀, .int (iI z₀), .int (iI la₀)] sz₀ [kO a₀ qr₀ qc₀ kn₀, (qr₀, .inl (k₀ 0, 24, .inl (ia ro₀)))]) (gQi D₀ (tyk k₀) [kO a₀ qr₀ qc₀ kn₀, (qr₀, .inl (k₀ 0, 24, .inl (ia ro₀)))] sz₀ (fun (_ : Unit) => True) (fun (_ : Unit) => (iI (if 0 ≤ z₀ ∧ z₀ < 24 then ro₀ z₀ / (64 : Int) ^ (la₀ - 1).toNat % 64 else 47))) (fun (_ : Unit) => [kO a₀ qr₀ qc₀ kn₀, (qr₀, .inl (k₀ 0, 24, .inl (ia ro₀)))])) 0 0 (va_A [kO a₀ qr₀ qc₀ kn₀, (qr₀, .inl (k₀ 0, 24, .inl (ia ro₀)))] sz₀) := by
  refine xs_met (cc := cX2_squareOf) (maxL := 3) (ret := some .int) (by decide) rfl (Nat.le_of_ble_eq_true rfl) ?_
  intro pP₀ eN₀ sT₀ mI₀ below₀ meth₀ cD₀ hsz₀ args₀ QQ₀ C₀ hr₀ hlk₀ hnm₀ hQ₀ ls₀ H₀ locs₀ hl₀ hH₀
  subst hsz₀
  have hl₀ : lv_has ls₀ 3 [(0, .ref a₀), (1, .int (iI z₀)), (2, .int (iI la₀))] := hl₀
  generalize hAe₀ : va_A [kO a₀ qr₀ qc₀ kn₀, (qr₀, .inl (k₀ 0, 24, .inl (ia ro₀)))] sT₀.heap.size = A₀ at C₀ hH₀ hQ₀
  refine lv_iload_n C₀.1.1 C₀.1.2.1 dX2_squareOf_0 rfl (lv_at hl₀ 1 rfl) ?_
  refine xi_zlt (tgt := 32) C₀.1.1 C₀.1.2.1 dX2_squareOf_1 (by decide) (by omega) (fun h_1₀ => ?_) (fun h_1₀ => ?_)
  · refine lv_bipush (v := iI 47) C₀.1.1 C₀.1.2.1 dX2_squareOf_32 (by decide) ?_
    exact xr_i C₀ hH₀ hlk₀ hr₀ hQ₀ rfl hAe₀ () trivial (by rw [if_neg (by omega)]) rfl dX2_squareOf_34
  · refine lv_iload_n C₀.1.1 C₀.1.2.1 dX2_squareOf_4 rfl (lv_at hl₀ 1 rfl) ?_
    refine lv_aload_n C₀.1.1 C₀.1.2.1 dX2_squareOf_5 rfl (lv_at hl₀ 0 rfl) ?_
    refine xw_get C₀ hH₀ 0 rfl rfl 0 (by decide) (fun w₀ h₀ => List.mem_cons_of_mem _ (iwg_X2 w₀ h₀)) (List.mem_cons_of_mem _ (WG_mem 221 (by decide +kernel) (by decide +kernel))) (v := .ref qr₀) rfl dX2_squareOf_6 ?_
    refine xw_len C₀ hH₀ 1 0 rfl rfl (z := 24) rfl dX2_squareOf_9 ?_
    refine xi_cge (tgt := 32) C₀.1.1 C₀.1.2.1 dX2_squareOf_10 (by decide) (by omega) (by omega) (fun h_2₀ => ?_) (fun h_2₀ => ?_)
    · refine lv_bipush (v := iI 47) C₀.1.1 C₀.1.2.1 dX2_squareOf_32 (by decide) ?_
      exact xr_i C₀ hH₀ hlk₀ hr₀ hQ₀ rfl hAe₀ () trivial (by rw [if_neg (by omega)]) rfl dX2_squareOf_34
    · refine lv_aload_n C₀.1.1 C₀.1.2.1 dX2_squareOf_13 rfl (lv_at hl₀ 0 rfl) ?_
      refine xw_get C₀ hH₀ 0 rfl rfl 0 (by decide) (fun w₀ h₀ => List.mem_cons_of_mem _ (iwg_X2 w₀ h₀)) (List.mem_cons_of_mem _ (WG_mem 221 (by decide +kernel) (by decide +kernel))) (v := .ref qr₀) rfl dX2_squareOf_14 ?_
      refine lv_iload_n C₀.1.1 C₀.1.2.1 dX2_squareOf_17 rfl (lv_at hl₀ 1 rfl) ?_
      refine xw_ild C₀ hH₀ 1 0 rfl rfl (z := z₀) (by omega) (by omega) (by decide) dX2_squareOf_18 ?_
      refine lv_bipush (v := iI 6) C₀.1.1 C₀.1.2.1 dX2_squareOf_19 (by decide) ?_
      refine lv_iload_n C₀.1.1 C₀.1.2.1 dX2_squareOf_21 rfl (lv_at hl₀ 2 rfl) ?_
      refine lv_iconst (v := iI 1) C₀.1.1 C₀.1.2.1 dX2_squareOf_22 (by decide) ?_
      refine xi_sub C₀.1.1 C₀.1.2.1 dX2_squareOf_23 ?_
      refine xi_mul C₀.1.1 C₀.1.2.1 dX2_squareOf_24 ?_
      refine lv_ishr C₀.1.1 C₀.1.2.1 dX2_squareOf_25 ?_
      refine lv_bipush (v := iI 63) C₀.1.1 C₀.1.2.1 dX2_squareOf_26 (by decide) ?_
      refine lv_iand C₀.1.1 C₀.1.2.1 dX2_squareOf_28 ?_
      refine lv_goto (tgt := 34) C₀.1.1 C₀.1.2.1 dX2_squareOf_29 (by decide) ?_
      exact xr_i C₀ hH₀ hlk₀ hr₀ hQ₀ rfl hAe₀ () trivial (by rw [if_pos (by omega)]; exact row_sh (hro₀ (by omega) (by omega)) hla₀) rfl dX2_squareOf_34
abbrev wgX2_add : List Cond := .code yX2_add cX2_add 3 none :: WG
abbrev rmX2_add : Room := { frames := 1, cells := 0, slots := 0, locals := 22 }
set_option maxHeartbeats 4000000 in
set_option maxRecDepth 100000 in
/-- Kinds.add -/
theorem c_X2_add (lL₀ : Launch) (D₀ : va_G) (k₀ : Nat → ClassId) (sz₀ : Nat) (a₀ : Nat) (qr₀ : Nat) (qc₀ : Nat) (kn₀ : Int) (ro₀ : Int → Int) (ce₀ : Int → Int) (row₀ : Int) (hk₀ : 0 ≤ kn₀ ∧ kn₀ ≤ 23) (hro₀ : ∀ j₀, 0 ≤ j₀ → j₀ < kn₀ → 0 ≤ ro₀ j₀ ∧ ro₀ j₀ < 262144) (hrw₀ : 0 ≤ row₀ ∧ row₀ < 262144) : Met lL₀ yX2_add wgX2_add rmX2_add (gPc ZT D₀ (tyk k₀) [.ref a₀, .int (iI row₀)] sz₀ [kO a₀ qr₀ qc₀ kn₀, (qr₀, .inl (k₀ 0, 24, .inl (ia ro₀))), (qc₀, .inl (k₀ 0, 24, .inl (ia ce₀)))]) (gQv D₀ (tyk k₀) [kO a₀ qr₀ qc₀ kn₀, (qr₀, .inl (k₀ 0, 24, .inl (ia ro₀))), (qc₀, .inl (k₀ 0, 24, .inl (ia ce₀)))] sz₀ (fun (_ : Unit) => True) (fun (_ : Unit) => [kO a₀ qr₀ qc₀ ((gKdS row₀ (kn₀, ro₀, ce₀)).1), (qr₀, .inl (k₀ 0, 24, .inl (ia ((gKdS row₀ (kn₀, ro₀, ce₀)).2.1)))), (qc₀, .inl (k₀ 0, 24, .inl (ia ((gKdS row₀ (kn₀, ro₀, ce₀)).2.2))))])) 0 0 (va_A [kO a₀ qr₀ qc₀ kn₀, (qr₀, .inl (k₀ 0, 24, .inl (ia ro₀))), (qc₀, .inl (k₀ 0, 24, .inl (ia ce₀)))] sz₀) := by
  refine xs_met (cc := cX2_add) (maxL := 3) (ret := none) (by decide) rfl (Nat.le_of_ble_eq_true rfl) ?_
  intro pP₀ eN₀ sT₀ mI₀ below₀ meth₀ cD₀ hsz₀ args₀ QQ₀ C₀ hr₀ hlk₀ hnm₀ hQ₀ ls₀ H₀ locs₀ hl₀ hH₀
  subst hsz₀
  have hl₀ : lv_has ls₀ 3 [(0, .ref a₀), (1, .int (iI row₀))] := hl₀
  generalize hAe₀ : va_A [kO a₀ qr₀ qc₀ kn₀, (qr₀, .inl (k₀ 0, 24, .inl (ia ro₀))), (qc₀, .inl (k₀ 0, 24, .inl (ia ce₀)))] sT₀.heap.size = A₀ at C₀ hH₀ hQ₀
  refine lv_aload_n C₀.1.1 C₀.1.2.1 dX2_add_0 rfl (lv_at hl₀ 0 rfl) ?_
  refine lv_iload_n C₀.1.1 C₀.1.2.1 dX2_add_1 rfl (lv_at hl₀ 1 rfl) ?_
  refine xc_Vi (wr := [(qc₀, .inl (k₀ 0, 24, .inl (ia ce₀)))]) (ws' := fun _ => [kO a₀ qr₀ qc₀ kn₀, (qr₀, .inl (k₀ 0, 24, .inl (ia ro₀))), (qc₀, .inl (k₀ 0, 24, .inl (ia ce₀)))]) (As := [.int (iI row₀)]) (rest := []) C₀ hH₀ (c_X2_numberOf lL₀ D₀ k₀ H₀.size a₀ qr₀ qc₀ kn₀ ro₀ row₀ (by omega) (hro₀) (hrw₀)) ZT_b (fun _ _ _ => trivial) (cwV 1 C₀.1.2.2.2.2 (WG_V WG_c (WG_mem 675 (by decide +kernel) (by decide +kernel)) (WG_mem 676 (by decide +kernel) (by decide +kernel)) (WG_mem 677 (by decide +kernel) (by decide +kernel)) (WG_mem 70 (by decide +kernel) (by decide +kernel)) (WG_k (WG_mem 678 (by decide +kernel) (by decide +kernel)))) rfl rfl rfl (by decide +kernel) ⟨Nat.le_of_ble_eq_true rfl, Nat.le_of_ble_eq_true rfl⟩) [0, 1] [2] [1, 2, 0] rfl rfl (by decide) (by decide) (by decide) (fun _ => rfl) (by decide) (q0 := 0) rfl rfl rfl hl₀.1 rfl (Nat.le_of_ble_eq_true rfl) dX2_add_2 ⟨Nat.le_of_ble_eq_true rfl, Nat.le_of_ble_eq_true rfl⟩ (fun _ _ H₀ locs₀ hH₀ => ?_)
  obtain ⟨z₀, ez₀⟩ : ∃ z₀ : Int, z₀ = fdI (fun j₀ => decide (ro₀ j₀ = row₀)) kn₀ 0 := ⟨_, rfl⟩
  refine xt_i (y := iI z₀) (by rw [ez₀]) ?_
  refine lv_istore_n (lv' := [(2, .int (iI z₀)), (0, .ref a₀), (1, .int (iI row₀))]) C₀.1.1 C₀.1.2.1 dX2_add_5 rfl hl₀ (by decide) rfl (fun ls₀ hl₀ => ?_)
  obtain ⟨f1₀, f2₀, f3₀, f4₀⟩ := fdI_spec (p := fun j₀ => decide (ro₀ j₀ = row₀)) (n := kn₀) _ 0 rfl (by omega)
  rw [← ez₀] at f1₀ f2₀
  refine lv_iload_n C₀.1.1 C₀.1.2.1 dX2_add_6 rfl (lv_at hl₀ 0 rfl) ?_
  refine lv_aload_n C₀.1.1 C₀.1.2.1 dX2_add_7 rfl (lv_at hl₀ 1 rfl) ?_
  refine xw_get C₀ hH₀ 0 rfl rfl 0 (by decide) (fun w₀ h₀ => List.mem_cons_of_mem _ (iwg_X2 w₀ h₀)) (List.mem_cons_of_mem _ (WG_mem 221 (by decide +kernel) (by decide +kernel))) (v := .ref qr₀) rfl dX2_add_8 ?_
  refine xw_len C₀ hH₀ 1 0 rfl rfl (z := 24) rfl dX2_add_11 ?_
  refine xi_cge (tgt := 24) C₀.1.1 C₀.1.2.1 dX2_add_12 (by decide) (by omega) (by omega) (fun h_1₀ => ?_) (fun h_1₀ => ?_)
  · exfalso; omega
  · refine lv_iload_n C₀.1.1 C₀.1.2.1 dX2_add_15 rfl (lv_at hl₀ 0 rfl) ?_
    refine lv_aload_n C₀.1.1 C₀.1.2.1 dX2_add_16 rfl (lv_at hl₀ 1 rfl) ?_
    refine xw_get C₀ hH₀ 0 rfl rfl 1 (by decide) (fun w₀ h₀ => List.mem_cons_of_mem _ (iwg_X2 w₀ h₀)) (List.mem_cons_of_mem _ (WG_mem 222 (by decide +kernel) (by decide +kernel))) (v := .ref qc₀) rfl dX2_add_17 ?_
    refine xw_len C₀ hH₀ 2 0 rfl rfl (z := 24) rfl dX2_add_20 ?_
    refine xi_clt (tgt := 25) C₀.1.1 C₀.1.2.1 dX2_add_21 (by decide) (by omega) (by omega) (fun h_2₀ => ?_) (fun h_2₀ => ?_)
    · refine lv_iload_n C₀.1.1 C₀.1.2.1 dX2_add_25 rfl (lv_at hl₀ 0 rfl) ?_
      refine lv_aload_n C₀.1.1 C₀.1.2.1 dX2_add_26 rfl (lv_at hl₀ 1 rfl) ?_
      refine xw_get C₀ hH₀ 0 rfl rfl 2 (by decide) (fun w₀ h₀ => List.mem_cons_of_mem _ (iwg_X2 w₀ h₀)) (List.mem_cons_of_mem _ (WG_mem 223 (by decide +kernel) (by decide +kernel))) (v := .int (iI kn₀)) rfl dX2_add_27 ?_
      refine xi_cne (tgt := 57) C₀.1.1 C₀.1.2.1 dX2_add_30 (by decide) (by omega) (by omega) (fun h_3₀ => ?_) (fun h_3₀ => ?_)
      · refine lv_aload_n C₀.1.1 C₀.1.2.1 dX2_add_57 rfl (lv_at hl₀ 1 rfl) ?_
        refine xw_get C₀ hH₀ 0 rfl rfl 1 (by decide) (fun w₀ h₀ => List.mem_cons_of_mem _ (iwg_X2 w₀ h₀)) (List.mem_cons_of_mem _ (WG_mem 222 (by decide +kernel) (by decide +kernel))) (v := .ref qc₀) rfl dX2_add_58 ?_
        refine lv_iload_n C₀.1.1 C₀.1.2.1 dX2_add_61 rfl (lv_at hl₀ 0 rfl) ?_
        refine lv_dup2_11 C₀.1.1 C₀.1.2.1 dX2_add_62 rfl rfl ?_
        refine xw_ild C₀ hH₀ 2 0 rfl rfl (z := z₀) (by omega) (by omega) (by decide) dX2_add_63 ?_
        refine lv_iconst (v := iI 1) C₀.1.1 C₀.1.2.1 dX2_add_64 (by decide) ?_
        refine xi_add C₀.1.1 C₀.1.2.1 dX2_add_65 ?_
        refine xw_ist (ws' := [kO a₀ qr₀ qc₀ kn₀, (qr₀, .inl (k₀ 0, 24, .inl (ia ro₀))), (qc₀, .inl (k₀ 0, 24, .inl (ia (uz ce₀ z₀ (ce₀ z₀ + 1)))))]) C₀ hH₀ 2 0 rfl rfl (z := z₀) (v := ce₀ z₀ + 1) (by omega) (by omega) (by decide) dX2_add_66 rfl (fun H₀ locs₀ hH₀ => ?_)
        exact xr_v C₀ hH₀ hlk₀ hr₀ hQ₀ hAe₀ () trivial (by unfold gKdS; dsimp only; rw [← ez₀, if_neg (by omega)]) dX2_add_67
      · refine lv_aload_n C₀.1.1 C₀.1.2.1 dX2_add_33 rfl (lv_at hl₀ 1 rfl) ?_
        refine xw_get C₀ hH₀ 0 rfl rfl 0 (by decide) (fun w₀ h₀ => List.mem_cons_of_mem _ (iwg_X2 w₀ h₀)) (List.mem_cons_of_mem _ (WG_mem 221 (by decide +kernel) (by decide +kernel))) (v := .ref qr₀) rfl dX2_add_34 ?_
        refine lv_iload_n C₀.1.1 C₀.1.2.1 dX2_add_37 rfl (lv_at hl₀ 0 rfl) ?_
        refine lv_iload_n C₀.1.1 C₀.1.2.1 dX2_add_38 rfl (lv_at hl₀ 2 rfl) ?_
        refine xw_ist (ws' := [kO a₀ qr₀ qc₀ kn₀, (qr₀, .inl (k₀ 0, 24, .inl (ia (uz ro₀ z₀ row₀)))), (qc₀, .inl (k₀ 0, 24, .inl (ia ce₀)))]) C₀ hH₀ 1 0 rfl rfl (z := z₀) (v := row₀) (by omega) (by omega) (by decide) dX2_add_39 rfl (fun H₀ locs₀ hH₀ => ?_)
        refine lv_aload_n C₀.1.1 C₀.1.2.1 dX2_add_40 rfl (lv_at hl₀ 1 rfl) ?_
        refine xw_get C₀ hH₀ 0 rfl rfl 1 (by decide) (fun w₀ h₀ => List.mem_cons_of_mem _ (iwg_X2 w₀ h₀)) (List.mem_cons_of_mem _ (WG_mem 222 (by decide +kernel) (by decide +kernel))) (v := .ref qc₀) rfl dX2_add_41 ?_
        refine lv_iload_n C₀.1.1 C₀.1.2.1 dX2_add_44 rfl (lv_at hl₀ 0 rfl) ?_
        refine lv_iconst (v := iI 0) C₀.1.1 C₀.1.2.1 dX2_add_45 (by decide) ?_
        refine xw_ist (ws' := [kO a₀ qr₀ qc₀ kn₀, (qr₀, .inl (k₀ 0, 24, .inl (ia (uz ro₀ z₀ row₀)))), (qc₀, .inl (k₀ 0, 24, .inl (ia (uz ce₀ z₀ 0))))]) C₀ hH₀ 2 0 rfl rfl (z := z₀) (v := 0) (by omega) (by omega) (by decide) dX2_add_46 rfl (fun H₀ locs₀ hH₀ => ?_)
        refine lv_aload_n C₀.1.1 C₀.1.2.1 dX2_add_47 rfl (lv_at hl₀ 1 rfl) ?_
        refine lv_dup C₀.1.1 C₀.1.2.1 dX2_add_48 rfl ?_
        refine xw_get C₀ hH₀ 0 rfl rfl 2 (by decide) (fun w₀ h₀ => List.mem_cons_of_mem _ (iwg_X2 w₀ h₀)) (List.mem_cons_of_mem _ (WG_mem 223 (by decide +kernel) (by decide +kernel))) (v := .int (iI kn₀)) rfl dX2_add_49 ?_
        refine lv_iconst (v := iI 1) C₀.1.1 C₀.1.2.1 dX2_add_52 (by decide) ?_
        refine xi_add C₀.1.1 C₀.1.2.1 dX2_add_53 ?_
        refine xw_put (ws' := [kO a₀ qr₀ qc₀ (kn₀ + 1), (qr₀, .inl (k₀ 0, 24, .inl (ia (uz ro₀ z₀ row₀)))), (qc₀, .inl (k₀ 0, 24, .inl (ia (uz ce₀ z₀ 0))))]) (v := .int (iI (kn₀ + 1))) C₀ hH₀ 0 rfl rfl tyX2 tyX2_ok nmX2 2 (by decide) (fun w₀ h₀ => List.mem_cons_of_mem _ (iwg_X2 w₀ h₀)) (List.mem_cons_of_mem _ (WG_mem 223 (by decide +kernel) (by decide +kernel))) rfl rfl rfl (Nat.le_of_ble_eq_true rfl) dX2_add_54 rfl (fun H₀ locs₀ hH₀ => ?_)
        refine lv_aload_n C₀.1.1 C₀.1.2.1 dX2_add_57 rfl (lv_at hl₀ 1 rfl) ?_
        refine xw_get C₀ hH₀ 0 rfl rfl 1 (by decide) (fun w₀ h₀ => List.mem_cons_of_mem _ (iwg_X2 w₀ h₀)) (List.mem_cons_of_mem _ (WG_mem 222 (by decide +kernel) (by decide +kernel))) (v := .ref qc₀) rfl dX2_add_58 ?_
        refine lv_iload_n C₀.1.1 C₀.1.2.1 dX2_add_61 rfl (lv_at hl₀ 0 rfl) ?_
        refine lv_dup2_11 C₀.1.1 C₀.1.2.1 dX2_add_62 rfl rfl ?_
        refine xw_ild C₀ hH₀ 2 0 rfl rfl (z := z₀) (by omega) (by omega) (by decide) dX2_add_63 ?_
        refine lv_iconst (v := iI 1) C₀.1.1 C₀.1.2.1 dX2_add_64 (by decide) ?_
        refine xi_add C₀.1.1 C₀.1.2.1 dX2_add_65 ?_
        refine xw_ist (ws' := [kO a₀ qr₀ qc₀ (kn₀ + 1), (qr₀, .inl (k₀ 0, 24, .inl (ia (uz ro₀ z₀ row₀)))), (qc₀, .inl (k₀ 0, 24, .inl (ia (uz (uz ce₀ z₀ 0) z₀ ((uz ce₀ z₀ 0) z₀ + 1)))))]) C₀ hH₀ 2 0 rfl rfl (z := z₀) (v := (uz ce₀ z₀ 0) z₀ + 1) (by omega) (by omega) (by decide) dX2_add_66 rfl (fun H₀ locs₀ hH₀ => ?_)
        exact xr_v C₀ hH₀ hlk₀ hr₀ hQ₀ hAe₀ () trivial (by unfold gKdS; dsimp only; rw [← ez₀, if_pos (by omega), show z₀ = kn₀ by omega]) dX2_add_67
    · exfalso; omega
abbrev wgX2_list : List Cond := .code yX2_list cX2_list 4 none :: WG
abbrev rmX2_list : Room := { frames := 5, cells := 0, slots := 0, locals := 122 }
set_option maxHeartbeats 4000000 in
set_option maxRecDepth 100000 in
/-- Kinds.list -/
theorem c_X2_list (lL₀ : Launch) (D₀ : va_G) (k₀ : Nat → ClassId) (sz₀ : Nat) (a₀ : Nat) (qr₀ : Nat) (qc₀ : Nat) (kn₀ : Int) (ro₀ : Int → Int) (ce₀ : Int → Int) (g₀ : Nat) (w₀ : Int) (h₀ : Int) (ht₀ : Int64) (fx₀ : Int64) (be₀ : Int) (s₀ : Int → Int) (hg₀ : gR s₀ w₀ h₀ ht₀ fx₀ be₀) (hS₀ : mS s₀) : Met lL₀ yX2_list wgX2_list rmX2_list (gPc ZG D₀ (tyk k₀) [.ref a₀, .ref g₀] sz₀ [kO a₀ qr₀ qc₀ kn₀, (qr₀, .inl (k₀ 0, 24, .inl (ia ro₀))), (qc₀, .inl (k₀ 0, 24, .inl (ia ce₀))), gO g₀ w₀ h₀ ht₀ fx₀ be₀]) (gQv D₀ (tyk k₀) [kO a₀ qr₀ qc₀ kn₀, (qr₀, .inl (k₀ 0, 24, .inl (ia ro₀))), (qc₀, .inl (k₀ 0, 24, .inl (ia ce₀))), gO g₀ w₀ h₀ ht₀ fx₀ be₀] sz₀ (fun (_ : Unit) => True) (fun (_ : Unit) => [kO a₀ qr₀ qc₀ ((gKd s₀ ro₀ ce₀ (s₀ 0 * s₀ 1).toNat).1), (qr₀, .inl (k₀ 0, 24, .inl (ia ((gKd s₀ ro₀ ce₀ (s₀ 0 * s₀ 1).toNat).2.1)))), (qc₀, .inl (k₀ 0, 24, .inl (ia ((gKd s₀ ro₀ ce₀ (s₀ 0 * s₀ 1).toNat).2.2)))), gO g₀ w₀ h₀ ht₀ fx₀ be₀])) 0 0 (va_A [kO a₀ qr₀ qc₀ kn₀, (qr₀, .inl (k₀ 0, 24, .inl (ia ro₀))), (qc₀, .inl (k₀ 0, 24, .inl (ia ce₀))), gO g₀ w₀ h₀ ht₀ fx₀ be₀] sz₀) := by
  refine xs_met (cc := cX2_list) (maxL := 4) (ret := none) (by decide) rfl (Nat.le_of_ble_eq_true rfl) ?_
  intro pP₀ eN₀ sT₀ mI₀ below₀ meth₀ cD₀ hsz₀ args₀ QQ₀ C₀ hr₀ hlk₀ hnm₀ hQ₀ ls₀ H₀ locs₀ hl₀ hH₀
  subst hsz₀
  have hl₀ : lv_has ls₀ 4 [(0, .ref a₀), (1, .ref g₀)] := hl₀
  generalize hAe₀ : va_A [kO a₀ qr₀ qc₀ kn₀, (qr₀, .inl (k₀ 0, 24, .inl (ia ro₀))), (qc₀, .inl (k₀ 0, 24, .inl (ia ce₀))), gO g₀ w₀ h₀ ht₀ fx₀ be₀] sT₀.heap.size = A₀ at C₀ hH₀ hQ₀
  obtain ⟨rfl, rfl, rfl, rfl, rfl⟩ := hg₀
  obtain ⟨hs0₀, hs1₀, hs2₀, hsh₀, hsf₀⟩ := id hS₀
  have hcl₀ := cells_rg hs0₀ hs1₀
  refine lv_aload_n C₀.1.1 C₀.1.2.1 dX2_list_0 rfl (lv_at hl₀ 0 rfl) ?_
  refine lv_iconst (v := iI 0) C₀.1.1 C₀.1.2.1 dX2_list_1 (by decide) ?_
  refine xw_put (ws' := [kO a₀ qr₀ qc₀ 0, (qr₀, .inl (k₀ 0, 24, .inl (ia ro₀))), (qc₀, .inl (k₀ 0, 24, .inl (ia ce₀))), gO g₀ (s₀ 0) (s₀ 1) (pk s₀ 3) (pk s₀ 27) (s₀ 2)]) (v := .int (iI 0)) C₀ hH₀ 0 rfl rfl tyX2 tyX2_ok nmX2 2 (by decide) (fun w₀ h₀ => List.mem_cons_of_mem _ (iwg_X2 w₀ h₀)) (List.mem_cons_of_mem _ (WG_mem 223 (by decide +kernel) (by decide +kernel))) rfl rfl rfl (Nat.le_of_ble_eq_true rfl) dX2_list_2 rfl (fun H₀ locs₀ hH₀ => ?_)
  refine lv_iconst (v := iI 0) C₀.1.1 C₀.1.2.1 dX2_list_5 (by decide) ?_
  refine lv_istore_n (lv' := [(2, .int (iI 0)), (0, .ref a₀), (1, .ref g₀)]) C₀.1.1 C₀.1.2.1 dX2_list_6 rfl hl₀ (by decide) rfl (fun ls₀ hl₀ => ?_)
  have L7₀ : ∀ (nn₀ : Nat), ∀ (y₀ : Int) (k1₀ : Int) (r1₀ : Int → Int) (c1₀ : Int → Int), ((k1₀, r1₀, c1₀) = gKd s₀ ro₀ ce₀ (s₀ 0 * y₀).toNat) → (0 ≤ y₀ ∧ y₀ ≤ s₀ 1) → ((s₀ 1 - y₀) < (nn₀ : Int)) → ∀ (H₀ : Heap) (locs₀ : List Loc) (ls₀ : Array Slot), Hp D₀ A₀ sT₀.heap [kO a₀ qr₀ qc₀ k1₀, (qr₀, .inl (k₀ 0, 24, .inl (ia r1₀))), (qc₀, .inl (k₀ 0, 24, .inl (ia c1₀))), gO g₀ (s₀ 0) (s₀ 1) (pk s₀ 3) (pk s₀ 27) (s₀ 2)] H₀ locs₀ → lv_has ls₀ 4 [(0, .ref a₀), (1, .ref g₀), (2, .int (iI y₀))] → W pP₀ lL₀ eN₀ rmX2_list sT₀ mI₀ args₀ below₀ meth₀ cD₀ H₀ locs₀ 0 0 QQ₀ (F0 mI₀ 7 ls₀ []) := by
    intro nn₀
    induction nn₀ with
    | zero => intro y₀ k1₀ r1₀ c1₀ i1₀ i2₀ hm₀; exact absurd hm₀ (by omega)
    | succ nn₀ ih7₀ =>
      intro y₀ k1₀ r1₀ c1₀ i1₀ i2₀ hm7₀ H₀ locs₀ ls₀ hH₀ hl₀
      refine lv_iload_n C₀.1.1 C₀.1.2.1 dX2_list_7 rfl (lv_at hl₀ 2 rfl) ?_
      refine lv_aload_n C₀.1.1 C₀.1.2.1 dX2_list_8 rfl (lv_at hl₀ 1 rfl) ?_
      refine xw_getN (host := "GroundEdges") C₀ hH₀ 3 rfl rfl 1 (by decide) (fun w₀ h₀ => List.mem_cons_of_mem _ (iwg_X0 w₀ h₀)) (C₀.2.2.2.2.2.2.1 ("GroundEdges$Kinds", 22, "GroundEdges$Ground", "rows", "I", "GroundEdges") (by decide +kernel)) (v := .int (iI (s₀ 1))) rfl dX2_list_9 ?_
      refine xi_cge (tgt := 47) C₀.1.1 C₀.1.2.1 dX2_list_12 (by decide) (by omega) (by omega) (fun h_1₀ => ?_) (fun h_1₀ => ?_)
      · exact xr_v C₀ hH₀ hlk₀ hr₀ hQ₀ hAe₀ () trivial (by rw [show s₀ 0 * s₀ 1 = s₀ 0 * y₀ by rw [show y₀ = s₀ 1 by omega], ← i1₀]) dX2_list_47
      · refine lv_iconst (v := iI 0) C₀.1.1 C₀.1.2.1 dX2_list_15 (by decide) ?_
        refine lv_istore_n (lv' := [(3, .int (iI 0)), (0, .ref a₀), (1, .ref g₀), (2, .int (iI y₀))]) C₀.1.1 C₀.1.2.1 dX2_list_16 rfl hl₀ (by decide) rfl (fun ls₀ hl₀ => ?_)
        have L17₀ : ∀ (nn₀ : Nat), ∀ (x : Int) (k2₀ : Int) (r2₀ : Int → Int) (c2₀ : Int → Int), ((k2₀, r2₀, c2₀) = gKd s₀ ro₀ ce₀ (s₀ 0 * y₀ + x).toNat) → (0 ≤ x ∧ x ≤ s₀ 0) → ((s₀ 0 - x) < (nn₀ : Int)) → ∀ (H₀ : Heap) (locs₀ : List Loc) (ls₀ : Array Slot), Hp D₀ A₀ sT₀.heap [kO a₀ qr₀ qc₀ k2₀, (qr₀, .inl (k₀ 0, 24, .inl (ia r2₀))), (qc₀, .inl (k₀ 0, 24, .inl (ia c2₀))), gO g₀ (s₀ 0) (s₀ 1) (pk s₀ 3) (pk s₀ 27) (s₀ 2)] H₀ locs₀ → lv_has ls₀ 4 [(0, .ref a₀), (1, .ref g₀), (2, .int (iI y₀)), (3, .int (iI x))] → W pP₀ lL₀ eN₀ rmX2_list sT₀ mI₀ args₀ below₀ meth₀ cD₀ H₀ locs₀ 0 0 QQ₀ (F0 mI₀ 17 ls₀ []) := by
          intro nn₀
          induction nn₀ with
          | zero => intro x k2₀ r2₀ c2₀ j1₀ j2₀ hm₀; exact absurd hm₀ (by omega)
          | succ nn₀ ih17₀ =>
            intro x k2₀ r2₀ c2₀ j1₀ j2₀ hm17₀ H₀ locs₀ ls₀ hH₀ hl₀
            refine lv_iload_n C₀.1.1 C₀.1.2.1 dX2_list_17 rfl (lv_at hl₀ 3 rfl) ?_
            refine lv_aload_n C₀.1.1 C₀.1.2.1 dX2_list_18 rfl (lv_at hl₀ 1 rfl) ?_
            refine xw_getN (host := "GroundEdges") C₀ hH₀ 3 rfl rfl 0 (by decide) (fun w₀ h₀ => List.mem_cons_of_mem _ (iwg_X0 w₀ h₀)) (C₀.2.2.2.2.2.2.1 ("GroundEdges$Kinds", 26, "GroundEdges$Ground", "columns", "I", "GroundEdges") (by decide +kernel)) (v := .int (iI (s₀ 0))) rfl dX2_list_19 ?_
            refine xi_cge (tgt := 41) C₀.1.1 C₀.1.2.1 dX2_list_22 (by decide) (by omega) (by omega) (fun h_2₀ => ?_) (fun h_2₀ => ?_)
            · refine lv_iinc (v := iI (y₀ + 1)) (lv' := [(2, .int (iI (y₀ + 1))), (0, .ref a₀), (1, .ref g₀), (3, .int (iI x))]) C₀.1.1 C₀.1.2.1 dX2_list_41 hl₀ (k := 2) rfl (iI_add _ (1)) (by decide) rfl (fun ls₀ hl₀ => ?_)
              refine lv_goto (tgt := 7) C₀.1.1 C₀.1.2.1 dX2_list_44 (by decide) ?_
              exact ih7₀ (y₀ + 1) k2₀ r2₀ c2₀ (by rw [j1₀, show x = s₀ 0 by omega, Int.mul_add, Int.mul_one]) (by omega) (by omega) _ _ _ hH₀ (lv_sub hl₀ [1, 2, 0] rfl)
            · have hc1₀ := cell_rg hs0₀ (show 0 ≤ x ∧ x < s₀ 0 by omega) (show 0 ≤ y₀ ∧ y₀ < s₀ 1 by omega)
              have hgk₀ := gKd_rg s₀ ro₀ ce₀ (s₀ 0 * y₀ + x).toNat
              rw [← j1₀] at hgk₀
              have hgk1₀ := hgk₀.1
              dsimp only at hgk1₀
              refine lv_aload_n C₀.1.1 C₀.1.2.1 dX2_list_25 rfl (lv_at hl₀ 0 rfl) ?_
              refine lv_aload_n C₀.1.1 C₀.1.2.1 dX2_list_26 rfl (lv_at hl₀ 1 rfl) ?_
              refine lv_iload_n C₀.1.1 C₀.1.2.1 dX2_list_27 rfl (lv_at hl₀ 3 rfl) ?_
              refine lv_iload_n C₀.1.1 C₀.1.2.1 dX2_list_28 rfl (lv_at hl₀ 2 rfl) ?_
              refine xc_Vi (wr := [kO a₀ qr₀ qc₀ k2₀, (qr₀, .inl (k₀ 0, 24, .inl (ia r2₀))), (qc₀, .inl (k₀ 0, 24, .inl (ia c2₀)))]) (ws' := fun _ => [kO a₀ qr₀ qc₀ k2₀, (qr₀, .inl (k₀ 0, 24, .inl (ia r2₀))), (qc₀, .inl (k₀ 0, 24, .inl (ia c2₀))), gO g₀ (s₀ 0) (s₀ 1) (pk s₀ 3) (pk s₀ 27) (s₀ 2)]) (As := [.int (iI x), .int (iI y₀)]) (rest := [.ref a₀]) C₀ hH₀ (c_X0_rowOfSquares lL₀ D₀ k₀ H₀.size g₀ (s₀ 0) (s₀ 1) (pk s₀ 3) (pk s₀ 27) (s₀ 2) x y₀ s₀ (⟨rfl, rfl, rfl, rfl, rfl⟩) (hS₀) (by omega) (by omega)) ZG_b (ZG_pass C₀ hH₀ [3] rfl) (cwV 2 C₀.1.2.2.2.2 (WG_V WG_c (WG_mem 651 (by decide +kernel) (by decide +kernel)) (WG_mem 652 (by decide +kernel) (by decide +kernel)) (WG_mem 653 (by decide +kernel) (by decide +kernel)) (WG_mem 64 (by decide +kernel) (by decide +kernel)) (WG_k (WG_mem 654 (by decide +kernel) (by decide +kernel)))) rfl rfl rfl (by decide +kernel) ⟨Nat.le_of_ble_eq_true rfl, Nat.le_of_ble_eq_true rfl⟩) [3] [0, 1, 2] [0, 1, 2, 3] rfl rfl (by decide) (by decide) (by decide) (fun _ => rfl) (by decide) (q0 := 0) rfl rfl rfl hl₀.1 rfl (Nat.le_of_ble_eq_true rfl) dX2_list_29 ⟨Nat.le_of_ble_eq_true rfl, Nat.le_of_ble_eq_true rfl⟩ (fun _ _ H₀ locs₀ hH₀ => ?_)
              refine xc_Vv (wr := [gO g₀ (s₀ 0) (s₀ 1) (pk s₀ 3) (pk s₀ 27) (s₀ 2)]) (ws' := fun _ => [kO a₀ qr₀ qc₀ ((gKdS (gRow s₀ x y₀) (k2₀, r2₀, c2₀)).1), (qr₀, .inl (k₀ 0, 24, .inl (ia ((gKdS (gRow s₀ x y₀) (k2₀, r2₀, c2₀)).2.1)))), (qc₀, .inl (k₀ 0, 24, .inl (ia ((gKdS (gRow s₀ x y₀) (k2₀, r2₀, c2₀)).2.2)))), gO g₀ (s₀ 0) (s₀ 1) (pk s₀ 3) (pk s₀ 27) (s₀ 2)]) (As := [.int (iI (gRow s₀ x y₀))]) (rest := []) C₀ hH₀ (c_X2_add lL₀ D₀ k₀ H₀.size a₀ qr₀ qc₀ k2₀ r2₀ c2₀ (gRow s₀ x y₀) (by omega) (hgk₀.2) (gRow_rg _ _ _)) ZT_b (fun _ _ _ => trivial) (cwV 1 C₀.1.2.2.2.2 (WG_V WG_c (WG_mem 671 (by decide +kernel) (by decide +kernel)) (WG_mem 673 (by decide +kernel) (by decide +kernel)) (WG_mem 27 (by decide +kernel) (by decide +kernel)) (WG_mem 70 (by decide +kernel) (by decide +kernel)) (WG_k (WG_mem 674 (by decide +kernel) (by decide +kernel)))) rfl rfl rfl (by decide +kernel) ⟨Nat.le_of_ble_eq_true rfl, Nat.le_of_ble_eq_true rfl⟩) [0, 1, 2] [3] [1, 2, 3, 0] rfl rfl (by decide) (by decide) (by decide) (fun _ => rfl) (by decide) (q0 := 0) rfl rfl rfl hl₀.1 rfl (Nat.le_of_ble_eq_true rfl) dX2_list_32 ⟨Nat.le_of_ble_eq_true rfl, Nat.le_of_ble_eq_true rfl⟩ (fun _ _ H₀ locs₀ hH₀ => ?_)
              refine lv_iinc (v := iI (x + 1)) (lv' := [(3, .int (iI (x + 1))), (0, .ref a₀), (1, .ref g₀), (2, .int (iI y₀))]) C₀.1.1 C₀.1.2.1 dX2_list_35 hl₀ (k := 3) rfl (iI_add _ (1)) (by decide) rfl (fun ls₀ hl₀ => ?_)
              refine lv_goto (tgt := 17) C₀.1.1 C₀.1.2.1 dX2_list_38 (by decide) ?_
              exact ih17₀ (x + 1) ((gKdS (gRow s₀ x y₀) (k2₀, r2₀, c2₀)).1) ((gKdS (gRow s₀ x y₀) (k2₀, r2₀, c2₀)).2.1) ((gKdS (gRow s₀ x y₀) (k2₀, r2₀, c2₀)).2.2) (by rw [gKd_s hs0₀ (by omega) (by omega), ← j1₀]) (by omega) (by omega) _ _ _ hH₀ (lv_sub hl₀ [1, 2, 3, 0] rfl)
        exact L17₀ (((s₀ 0 - 0) : Int).toNat + 1) 0 k1₀ r1₀ c1₀ (by rw [Int.add_zero]; exact i1₀) (by omega) (by omega) _ _ _ hH₀ (lv_sub hl₀ [1, 2, 3, 0] rfl)
  exact L7₀ (((s₀ 1 - 0) : Int).toNat + 1) 0 0 ro₀ ce₀ (by rw [Int.mul_zero]; rfl) (by omega) (by omega) _ _ _ hH₀ (lv_sub hl₀ [1, 2, 0] rfl)
abbrev wgX5_add : List Cond := .code yX5_add cX5_add 3 (some .boolean) :: WG
abbrev rmX5_add : Room := { frames := 0, cells := 0, slots := 0, locals := 0 }
set_option maxHeartbeats 4000000 in
set_option maxRecDepth 100000 in
/-- Seen.add -/
theorem c_X5_add (lL₀ : Launch) (D₀ : va_G) (k₀ : Nat → ClassId) (sz₀ : Nat) (a₀ : Nat) (ql₀ : Nat) (qs₀ : Nat) (qa₀ : Nat) (kn₀ : Int) (la₀ : Int → Int) (sq₀ : Int → Int) (x : Int) (y₀ : Int) (hk₀ : 0 ≤ kn₀ ∧ kn₀ ≤ 6) : Met lL₀ yX5_add wgX5_add rmX5_add (gPc ZT D₀ (tyk k₀) [.ref a₀, .int (iI x), .int (iI y₀)] sz₀ [eO a₀ ql₀ qs₀ qa₀ kn₀, (ql₀, .inl (k₀ 0, 6, .inl (ia la₀))), (qs₀, .inl (k₀ 0, 6, .inl (ia sq₀)))]) (gQi D₀ (tyk k₀) [eO a₀ ql₀ qs₀ qa₀ kn₀, (ql₀, .inl (k₀ 0, 6, .inl (ia la₀))), (qs₀, .inl (k₀ 0, 6, .inl (ia sq₀)))] sz₀ (fun (_ : Unit) => True) (fun (_ : Unit) => (iI (bz (decide (kn₀ < 6))))) (fun (_ : Unit) => [eO a₀ ql₀ qs₀ qa₀ (if kn₀ < 6 then kn₀ + 1 else kn₀), (ql₀, .inl (k₀ 0, 6, .inl (ia (if kn₀ < 6 then uz la₀ kn₀ x else la₀)))), (qs₀, .inl (k₀ 0, 6, .inl (ia (if kn₀ < 6 then uz sq₀ kn₀ y₀ else sq₀))))])) 0 0 (va_A [eO a₀ ql₀ qs₀ qa₀ kn₀, (ql₀, .inl (k₀ 0, 6, .inl (ia la₀))), (qs₀, .inl (k₀ 0, 6, .inl (ia sq₀)))] sz₀) := by
  refine xs_met (cc := cX5_add) (maxL := 3) (ret := some .boolean) (by decide) rfl (Nat.le_of_ble_eq_true rfl) ?_
  intro pP₀ eN₀ sT₀ mI₀ below₀ meth₀ cD₀ hsz₀ args₀ QQ₀ C₀ hr₀ hlk₀ hnm₀ hQ₀ ls₀ H₀ locs₀ hl₀ hH₀
  subst hsz₀
  have hl₀ : lv_has ls₀ 3 [(0, .ref a₀), (1, .int (iI x)), (2, .int (iI y₀))] := hl₀
  generalize hAe₀ : va_A [eO a₀ ql₀ qs₀ qa₀ kn₀, (ql₀, .inl (k₀ 0, 6, .inl (ia la₀))), (qs₀, .inl (k₀ 0, 6, .inl (ia sq₀)))] sT₀.heap.size = A₀ at C₀ hH₀ hQ₀
  refine lv_aload_n C₀.1.1 C₀.1.2.1 dX5_add_0 rfl (lv_at hl₀ 0 rfl) ?_
  refine xw_get C₀ hH₀ 0 rfl rfl 3 (by decide) (fun w₀ h₀ => List.mem_cons_of_mem _ (iwg_X5 w₀ h₀)) (List.mem_cons_of_mem _ (WG_mem 277 (by decide +kernel) (by decide +kernel))) (v := .int (iI kn₀)) rfl dX5_add_1 ?_
  refine xi_zlt (tgt := 16) C₀.1.1 C₀.1.2.1 dX5_add_4 (by decide) (by omega) (fun h_1₀ => ?_) (fun h_1₀ => ?_)
  · refine lv_iconst (v := iI 0) C₀.1.1 C₀.1.2.1 dX5_add_16 (by decide) ?_
    exact xr_i C₀ hH₀ hlk₀ hr₀ hQ₀ rfl hAe₀ () trivial (bF (by omega)) (by first | (exfalso; omega) | simp (disch := omega) only [if_pos, if_neg]) dX5_add_17
  · refine lv_aload_n C₀.1.1 C₀.1.2.1 dX5_add_7 rfl (lv_at hl₀ 0 rfl) ?_
    refine xw_get C₀ hH₀ 0 rfl rfl 3 (by decide) (fun w₀ h₀ => List.mem_cons_of_mem _ (iwg_X5 w₀ h₀)) (List.mem_cons_of_mem _ (WG_mem 277 (by decide +kernel) (by decide +kernel))) (v := .int (iI kn₀)) rfl dX5_add_8 ?_
    refine lv_bipush (v := iI 6) C₀.1.1 C₀.1.2.1 dX5_add_11 (by decide) ?_
    refine xi_clt (tgt := 18) C₀.1.1 C₀.1.2.1 dX5_add_13 (by decide) (by omega) (by omega) (fun h_2₀ => ?_) (fun h_2₀ => ?_)
    · refine lv_aload_n C₀.1.1 C₀.1.2.1 dX5_add_18 rfl (lv_at hl₀ 0 rfl) ?_
      refine xw_get C₀ hH₀ 0 rfl rfl 0 (by decide) (fun w₀ h₀ => List.mem_cons_of_mem _ (iwg_X5 w₀ h₀)) (List.mem_cons_of_mem _ (WG_mem 274 (by decide +kernel) (by decide +kernel))) (v := .ref ql₀) rfl dX5_add_19 ?_
      refine lv_aload_n C₀.1.1 C₀.1.2.1 dX5_add_22 rfl (lv_at hl₀ 0 rfl) ?_
      refine xw_get C₀ hH₀ 0 rfl rfl 3 (by decide) (fun w₀ h₀ => List.mem_cons_of_mem _ (iwg_X5 w₀ h₀)) (List.mem_cons_of_mem _ (WG_mem 277 (by decide +kernel) (by decide +kernel))) (v := .int (iI kn₀)) rfl dX5_add_23 ?_
      refine lv_iload_n C₀.1.1 C₀.1.2.1 dX5_add_26 rfl (lv_at hl₀ 1 rfl) ?_
      refine xw_ist (ws' := [eO a₀ ql₀ qs₀ qa₀ kn₀, (ql₀, .inl (k₀ 0, 6, .inl (ia (uz la₀ kn₀ x)))), (qs₀, .inl (k₀ 0, 6, .inl (ia sq₀)))]) C₀ hH₀ 1 0 rfl rfl (z := kn₀) (v := x) (by omega) (by omega) (by decide) dX5_add_27 rfl (fun H₀ locs₀ hH₀ => ?_)
      refine lv_aload_n C₀.1.1 C₀.1.2.1 dX5_add_28 rfl (lv_at hl₀ 0 rfl) ?_
      refine xw_get C₀ hH₀ 0 rfl rfl 1 (by decide) (fun w₀ h₀ => List.mem_cons_of_mem _ (iwg_X5 w₀ h₀)) (List.mem_cons_of_mem _ (WG_mem 275 (by decide +kernel) (by decide +kernel))) (v := .ref qs₀) rfl dX5_add_29 ?_
      refine lv_aload_n C₀.1.1 C₀.1.2.1 dX5_add_32 rfl (lv_at hl₀ 0 rfl) ?_
      refine xw_get C₀ hH₀ 0 rfl rfl 3 (by decide) (fun w₀ h₀ => List.mem_cons_of_mem _ (iwg_X5 w₀ h₀)) (List.mem_cons_of_mem _ (WG_mem 277 (by decide +kernel) (by decide +kernel))) (v := .int (iI kn₀)) rfl dX5_add_33 ?_
      refine lv_iload_n C₀.1.1 C₀.1.2.1 dX5_add_36 rfl (lv_at hl₀ 2 rfl) ?_
      refine xw_ist (ws' := [eO a₀ ql₀ qs₀ qa₀ kn₀, (ql₀, .inl (k₀ 0, 6, .inl (ia (uz la₀ kn₀ x)))), (qs₀, .inl (k₀ 0, 6, .inl (ia (uz sq₀ kn₀ y₀))))]) C₀ hH₀ 2 0 rfl rfl (z := kn₀) (v := y₀) (by omega) (by omega) (by decide) dX5_add_37 rfl (fun H₀ locs₀ hH₀ => ?_)
      refine lv_aload_n C₀.1.1 C₀.1.2.1 dX5_add_38 rfl (lv_at hl₀ 0 rfl) ?_
      refine lv_dup C₀.1.1 C₀.1.2.1 dX5_add_39 rfl ?_
      refine xw_get C₀ hH₀ 0 rfl rfl 3 (by decide) (fun w₀ h₀ => List.mem_cons_of_mem _ (iwg_X5 w₀ h₀)) (List.mem_cons_of_mem _ (WG_mem 277 (by decide +kernel) (by decide +kernel))) (v := .int (iI kn₀)) rfl dX5_add_40 ?_
      refine lv_iconst (v := iI 1) C₀.1.1 C₀.1.2.1 dX5_add_43 (by decide) ?_
      refine xi_add C₀.1.1 C₀.1.2.1 dX5_add_44 ?_
      refine xw_put (ws' := [eO a₀ ql₀ qs₀ qa₀ (kn₀ + 1), (ql₀, .inl (k₀ 0, 6, .inl (ia (uz la₀ kn₀ x)))), (qs₀, .inl (k₀ 0, 6, .inl (ia (uz sq₀ kn₀ y₀))))]) (v := .int (iI (kn₀ + 1))) C₀ hH₀ 0 rfl rfl tyX5 tyX5_ok nmX5 3 (by decide) (fun w₀ h₀ => List.mem_cons_of_mem _ (iwg_X5 w₀ h₀)) (List.mem_cons_of_mem _ (WG_mem 277 (by decide +kernel) (by decide +kernel))) rfl rfl rfl (Nat.le_of_ble_eq_true rfl) dX5_add_45 rfl (fun H₀ locs₀ hH₀ => ?_)
      refine lv_iconst (v := iI 1) C₀.1.1 C₀.1.2.1 dX5_add_48 (by decide) ?_
      exact xr_i C₀ hH₀ hlk₀ hr₀ hQ₀ rfl hAe₀ () trivial (bT (by omega)) (by first | (exfalso; omega) | simp (disch := omega) only [if_pos, if_neg]) dX5_add_49
    · refine lv_iconst (v := iI 0) C₀.1.1 C₀.1.2.1 dX5_add_16 (by decide) ?_
      exact xr_i C₀ hH₀ hlk₀ hr₀ hQ₀ rfl hAe₀ () trivial (bF (by omega)) (by first | (exfalso; omega) | simp (disch := omega) only [if_pos, if_neg]) dX5_add_17
abbrev wgX5_fits : List Cond := .code yX5_fits cX5_fits 5 (some .boolean) :: WG
abbrev rmX5_fits : Room := { frames := 4, cells := 0, slots := 0, locals := 98 }
set_option maxHeartbeats 4000000 in
set_option maxRecDepth 100000 in
/-- fits -/
theorem c_X5_fits (lL₀ : Launch) (D₀ : va_G) (k₀ : Nat → ClassId) (sz₀ : Nat) (a₀ : Nat) (ql₀ : Nat) (qs₀ : Nat) (qa₀ : Nat) (kn₀ : Int) (la₀ : Int → Int) (sq₀ : Int → Int) (g₀ : Nat) (w₀ : Int) (h₀ : Int) (ht₀ : Int64) (fx₀ : Int64) (be₀ : Int) (x : Int) (y₀ : Int) (s₀ : Int → Int) (hg₀ : gR s₀ w₀ h₀ ht₀ fx₀ be₀) (hS₀ : mS s₀) (hx₀ : 0 ≤ x ∧ x < s₀ 0) (hy₀ : 0 ≤ y₀ ∧ y₀ < s₀ 1) (hk₀ : 0 ≤ kn₀ ∧ kn₀ ≤ 6) (hla₀ : ∀ j₀, 0 ≤ j₀ → j₀ < kn₀ → (1 ≤ la₀ j₀ ∧ la₀ j₀ ≤ 3) ∧ 0 ≤ sq₀ j₀ ∧ sq₀ j₀ ≤ 47) : Met lL₀ yX5_fits wgX5_fits rmX5_fits (gPc ZG D₀ (tyk k₀) [.ref a₀, .ref g₀, .int (iI x), .int (iI y₀)] sz₀ [eO a₀ ql₀ qs₀ qa₀ kn₀, (ql₀, .inl (k₀ 0, 6, .inl (ia la₀))), (qs₀, .inl (k₀ 0, 6, .inl (ia sq₀))), gO g₀ w₀ h₀ ht₀ fx₀ be₀]) (gQi D₀ (tyk k₀) [eO a₀ ql₀ qs₀ qa₀ kn₀, (ql₀, .inl (k₀ 0, 6, .inl (ia la₀))), (qs₀, .inl (k₀ 0, 6, .inl (ia sq₀))), gO g₀ w₀ h₀ ht₀ fx₀ be₀] sz₀ (fun (_ : Unit) => True) (fun (_ : Unit) => (iI (bz (gFit s₀ la₀ sq₀ kn₀ x y₀)))) (fun (_ : Unit) => [eO a₀ ql₀ qs₀ qa₀ kn₀, (ql₀, .inl (k₀ 0, 6, .inl (ia la₀))), (qs₀, .inl (k₀ 0, 6, .inl (ia sq₀))), gO g₀ w₀ h₀ ht₀ fx₀ be₀])) 0 0 (va_A [eO a₀ ql₀ qs₀ qa₀ kn₀, (ql₀, .inl (k₀ 0, 6, .inl (ia la₀))), (qs₀, .inl (k₀ 0, 6, .inl (ia sq₀))), gO g₀ w₀ h₀ ht₀ fx₀ be₀] sz₀) := by
  refine xs_met (cc := cX5_fits) (maxL := 5) (ret := some .boolean) (by decide) rfl (Nat.le_of_ble_eq_true rfl) ?_
  intro pP₀ eN₀ sT₀ mI₀ below₀ meth₀ cD₀ hsz₀ args₀ QQ₀ C₀ hr₀ hlk₀ hnm₀ hQ₀ ls₀ H₀ locs₀ hl₀ hH₀
  subst hsz₀
  have hl₀ : lv_has ls₀ 5 [(0, .ref a₀), (1, .ref g₀), (2, .int (iI x)), (3, .int (iI y₀))] := hl₀
  generalize hAe₀ : va_A [eO a₀ ql₀ qs₀ qa₀ kn₀, (ql₀, .inl (k₀ 0, 6, .inl (ia la₀))), (qs₀, .inl (k₀ 0, 6, .inl (ia sq₀))), gO g₀ w₀ h₀ ht₀ fx₀ be₀] sT₀.heap.size = A₀ at C₀ hH₀ hQ₀
  obtain ⟨rfl, rfl, rfl, rfl, rfl⟩ := hg₀
  refine lv_iconst (v := iI 0) C₀.1.1 C₀.1.2.1 dX5_fits_0 (by decide) ?_
  refine lv_istore (lv' := [(4, .int (iI 0)), (0, .ref a₀), (1, .ref g₀), (2, .int (iI x)), (3, .int (iI y₀))]) C₀.1.1 C₀.1.2.1 dX5_fits_1 hl₀ (by decide) rfl (fun ls₀ hl₀ => ?_)
  have L3₀ : ∀ (nn₀ : Nat), ∀ (z₀ : Int), (alI (fun i₀ => decide (gSq s₀ x y₀ (la₀ i₀) = sq₀ i₀)) z₀ = true) → (0 ≤ z₀ ∧ z₀ ≤ kn₀) → ((kn₀ - z₀) < (nn₀ : Int)) → ∀ (H₀ : Heap) (locs₀ : List Loc) (ls₀ : Array Slot), Hp D₀ A₀ sT₀.heap [eO a₀ ql₀ qs₀ qa₀ kn₀, (ql₀, .inl (k₀ 0, 6, .inl (ia la₀))), (qs₀, .inl (k₀ 0, 6, .inl (ia sq₀))), gO g₀ (s₀ 0) (s₀ 1) (pk s₀ 3) (pk s₀ 27) (s₀ 2)] H₀ locs₀ → lv_has ls₀ 5 [(0, .ref a₀), (1, .ref g₀), (2, .int (iI x)), (3, .int (iI y₀)), (4, .int (iI z₀))] → W pP₀ lL₀ eN₀ rmX5_fits sT₀ mI₀ args₀ below₀ meth₀ cD₀ H₀ locs₀ 0 0 QQ₀ (F0 mI₀ 3 ls₀ []) := by
    intro nn₀
    induction nn₀ with
    | zero => intro z₀ i1₀ i2₀ hm₀; exact absurd hm₀ (by omega)
    | succ nn₀ ih3₀ =>
      intro z₀ i1₀ i2₀ hm3₀ H₀ locs₀ ls₀ hH₀ hl₀
      refine lv_iload C₀.1.1 C₀.1.2.1 dX5_fits_3 (lv_at hl₀ 4 rfl) ?_
      refine lv_aload_n C₀.1.1 C₀.1.2.1 dX5_fits_5 rfl (lv_at hl₀ 0 rfl) ?_
      refine xw_get C₀ hH₀ 0 rfl rfl 3 (by decide) (fun w₀ h₀ => List.mem_cons_of_mem _ (iwg_X5 w₀ h₀)) (List.mem_cons_of_mem _ (WG_mem 277 (by decide +kernel) (by decide +kernel))) (v := .int (iI kn₀)) rfl dX5_fits_6 ?_
      refine xi_cge (tgt := 50) C₀.1.1 C₀.1.2.1 dX5_fits_9 (by decide) (by omega) (by omega) (fun h_1₀ => ?_) (fun h_1₀ => ?_)
      · refine lv_iconst (v := iI 1) C₀.1.1 C₀.1.2.1 dX5_fits_50 (by decide) ?_
        exact xr_i C₀ hH₀ hlk₀ hr₀ hQ₀ rfl hAe₀ () trivial (by unfold gFit; rw [show kn₀ = z₀ by omega, i1₀]; rfl) rfl dX5_fits_51
      · refine lv_iload C₀.1.1 C₀.1.2.1 dX5_fits_12 (lv_at hl₀ 4 rfl) ?_
        refine lv_bipush (v := iI 6) C₀.1.1 C₀.1.2.1 dX5_fits_14 (by decide) ?_
        refine xi_cge (tgt := 50) C₀.1.1 C₀.1.2.1 dX5_fits_16 (by decide) (by omega) (by omega) (fun h_2₀ => ?_) (fun h_2₀ => ?_)
        · refine lv_iconst (v := iI 1) C₀.1.1 C₀.1.2.1 dX5_fits_50 (by decide) ?_
          exact xr_i C₀ hH₀ hlk₀ hr₀ hQ₀ rfl hAe₀ () trivial (by unfold gFit; rw [show kn₀ = z₀ by omega, i1₀]; rfl) rfl dX5_fits_51
        · have hlz₀ := hla₀ z₀ (by omega) (by omega)
          have hgr₀ := gSq_rg s₀ x y₀ (la₀ z₀)
          refine lv_aload_n C₀.1.1 C₀.1.2.1 dX5_fits_19 rfl (lv_at hl₀ 1 rfl) ?_
          refine lv_iload_n C₀.1.1 C₀.1.2.1 dX5_fits_20 rfl (lv_at hl₀ 2 rfl) ?_
          refine lv_iload_n C₀.1.1 C₀.1.2.1 dX5_fits_21 rfl (lv_at hl₀ 3 rfl) ?_
          refine lv_aload_n C₀.1.1 C₀.1.2.1 dX5_fits_22 rfl (lv_at hl₀ 0 rfl) ?_
          refine xw_get C₀ hH₀ 0 rfl rfl 0 (by decide) (fun w₀ h₀ => List.mem_cons_of_mem _ (iwg_X5 w₀ h₀)) (List.mem_cons_of_mem _ (WG_mem 274 (by decide +kernel) (by decide +kernel))) (v := .ref ql₀) rfl dX5_fits_23 ?_
          refine lv_iload C₀.1.1 C₀.1.2.1 dX5_fits_26 (lv_at hl₀ 4 rfl) ?_
          refine xw_ild C₀ hH₀ 1 0 rfl rfl (z := z₀) (by omega) (by omega) (by decide) dX5_fits_28 ?_
          refine xc_Vi (wr := [eO a₀ ql₀ qs₀ qa₀ kn₀, (ql₀, .inl (k₀ 0, 6, .inl (ia la₀))), (qs₀, .inl (k₀ 0, 6, .inl (ia sq₀)))]) (ws' := fun _ => [eO a₀ ql₀ qs₀ qa₀ kn₀, (ql₀, .inl (k₀ 0, 6, .inl (ia la₀))), (qs₀, .inl (k₀ 0, 6, .inl (ia sq₀))), gO g₀ (s₀ 0) (s₀ 1) (pk s₀ 3) (pk s₀ 27) (s₀ 2)]) (As := [.int (iI x), .int (iI y₀), .int (iI (la₀ z₀))]) (rest := []) C₀ hH₀ (c_X0_squareOf lL₀ D₀ k₀ H₀.size g₀ (s₀ 0) (s₀ 1) (pk s₀ 3) (pk s₀ 27) (s₀ 2) x y₀ (la₀ z₀) s₀ (⟨rfl, rfl, rfl, rfl, rfl⟩) (hS₀) (by omega) (by omega) (by omega)) ZG_b (ZG_pass C₀ hH₀ [3] rfl) (cwV 3 C₀.1.2.2.2.2 (WG_V WG_c (WG_mem 742 (by decide +kernel) (by decide +kernel)) (WG_mem 656 (by decide +kernel) (by decide +kernel)) (WG_mem 657 (by decide +kernel) (by decide +kernel)) (WG_mem 64 (by decide +kernel) (by decide +kernel)) (WG_k (WG_mem 658 (by decide +kernel) (by decide +kernel)))) rfl rfl rfl (by decide +kernel) ⟨Nat.le_of_ble_eq_true rfl, Nat.le_of_ble_eq_true rfl⟩) [3] [0, 1, 2] [0, 1, 2, 3] rfl rfl (by decide) (by decide) (by decide) (fun _ => rfl) (by decide) (q0 := 0) rfl rfl rfl hl₀.1 rfl (Nat.le_of_ble_eq_true rfl) dX5_fits_29 ⟨Nat.le_of_ble_eq_true rfl, Nat.le_of_ble_eq_true rfl⟩ (fun _ _ H₀ locs₀ hH₀ => ?_)
          refine lv_aload_n C₀.1.1 C₀.1.2.1 dX5_fits_32 rfl (lv_at hl₀ 0 rfl) ?_
          refine xw_get C₀ hH₀ 0 rfl rfl 1 (by decide) (fun w₀ h₀ => List.mem_cons_of_mem _ (iwg_X5 w₀ h₀)) (List.mem_cons_of_mem _ (WG_mem 275 (by decide +kernel) (by decide +kernel))) (v := .ref qs₀) rfl dX5_fits_33 ?_
          refine lv_iload C₀.1.1 C₀.1.2.1 dX5_fits_36 (lv_at hl₀ 4 rfl) ?_
          refine xw_ild C₀ hH₀ 2 0 rfl rfl (z := z₀) (by omega) (by omega) (by decide) dX5_fits_38 ?_
          refine xi_ceq (tgt := 44) C₀.1.1 C₀.1.2.1 dX5_fits_39 (by decide) (by omega) (by omega) (fun h_3₀ => ?_) (fun h_3₀ => ?_)
          · refine lv_iinc (v := iI (z₀ + 1)) (lv' := [(4, .int (iI (z₀ + 1))), (0, .ref a₀), (1, .ref g₀), (2, .int (iI x)), (3, .int (iI y₀))]) C₀.1.1 C₀.1.2.1 dX5_fits_44 hl₀ (k := 4) rfl (iI_add _ (1)) (by decide) rfl (fun ls₀ hl₀ => ?_)
            refine lv_goto (tgt := 3) C₀.1.1 C₀.1.2.1 dX5_fits_47 (by decide) ?_
            exact ih3₀ (z₀ + 1) (by rw [alI_s i2₀.1, i1₀, Bool.true_and, decide_eq_true_eq]; assumption) (by omega) (by omega) _ _ _ hH₀ (lv_sub hl₀ [1, 2, 3, 4, 0] rfl)
          · refine lv_iconst (v := iI 0) C₀.1.1 C₀.1.2.1 dX5_fits_42 (by decide) ?_
            exact xr_i C₀ hH₀ hlk₀ hr₀ hQ₀ rfl hAe₀ () trivial (by unfold gFit; rw [show alI (fun i₀ => decide (gSq s₀ x y₀ (la₀ i₀) = sq₀ i₀)) kn₀ = false from by (cases hq₀ : alI (fun i₀ => decide (gSq s₀ x y₀ (la₀ i₀) = sq₀ i₀)) kn₀ with | false => rfl | true => (exfalso; have := alI_iff.mp hq₀ z₀ (by omega) (by omega); rw [decide_eq_true_eq] at this; omega))]; rfl) rfl dX5_fits_43
  exact L3₀ (((kn₀ - 0) : Int).toNat + 1) 0 (rfl) (by omega) (by omega) _ _ _ hH₀ (lv_sub hl₀ [1, 2, 3, 4, 0] rfl)
abbrev wgX5_cellsThatFit : List Cond := .code yX5_cellsThatFit cX5_cellsThatFit 5 (some .int) :: WG
abbrev rmX5_cellsThatFit : Room := { frames := 5, cells := 0, slots := 0, locals := 122 }
set_option maxHeartbeats 4000000 in
set_option maxRecDepth 100000 in
/-- cellsThatFit -/
theorem c_X5_cellsThatFit (lL₀ : Launch) (D₀ : va_G) (k₀ : Nat → ClassId) (sz₀ : Nat) (a₀ : Nat) (ql₀ : Nat) (qs₀ : Nat) (qa₀ : Nat) (kn₀ : Int) (la₀ : Int → Int) (sq₀ : Int → Int) (g₀ : Nat) (w₀ : Int) (h₀ : Int) (ht₀ : Int64) (fx₀ : Int64) (be₀ : Int) (s₀ : Int → Int) (hg₀ : gR s₀ w₀ h₀ ht₀ fx₀ be₀) (hS₀ : mS s₀) (hk₀ : 0 ≤ kn₀ ∧ kn₀ ≤ 6) (hla₀ : ∀ j₀, 0 ≤ j₀ → j₀ < kn₀ → (1 ≤ la₀ j₀ ∧ la₀ j₀ ≤ 3) ∧ 0 ≤ sq₀ j₀ ∧ sq₀ j₀ ≤ 47) : Met lL₀ yX5_cellsThatFit wgX5_cellsThatFit rmX5_cellsThatFit (gPc ZG D₀ (tyk k₀) [.ref a₀, .ref g₀] sz₀ [eO a₀ ql₀ qs₀ qa₀ kn₀, (ql₀, .inl (k₀ 0, 6, .inl (ia la₀))), (qs₀, .inl (k₀ 0, 6, .inl (ia sq₀))), gO g₀ w₀ h₀ ht₀ fx₀ be₀]) (gQi D₀ (tyk k₀) [eO a₀ ql₀ qs₀ qa₀ kn₀, (ql₀, .inl (k₀ 0, 6, .inl (ia la₀))), (qs₀, .inl (k₀ 0, 6, .inl (ia sq₀))), gO g₀ w₀ h₀ ht₀ fx₀ be₀] sz₀ (fun (_ : Unit) => True) (fun (_ : Unit) => (iI (gBits (gFitN s₀ la₀ sq₀ kn₀) (s₀ 0 * s₀ 1).toNat))) (fun (_ : Unit) => [eO a₀ ql₀ qs₀ qa₀ kn₀, (ql₀, .inl (k₀ 0, 6, .inl (ia la₀))), (qs₀, .inl (k₀ 0, 6, .inl (ia sq₀))), gO g₀ w₀ h₀ ht₀ fx₀ be₀])) 0 0 (va_A [eO a₀ ql₀ qs₀ qa₀ kn₀, (ql₀, .inl (k₀ 0, 6, .inl (ia la₀))), (qs₀, .inl (k₀ 0, 6, .inl (ia sq₀))), gO g₀ w₀ h₀ ht₀ fx₀ be₀] sz₀) := by
  refine xs_met (cc := cX5_cellsThatFit) (maxL := 5) (ret := some .int) (by decide) rfl (Nat.le_of_ble_eq_true rfl) ?_
  intro pP₀ eN₀ sT₀ mI₀ below₀ meth₀ cD₀ hsz₀ args₀ QQ₀ C₀ hr₀ hlk₀ hnm₀ hQ₀ ls₀ H₀ locs₀ hl₀ hH₀
  subst hsz₀
  have hl₀ : lv_has ls₀ 5 [(0, .ref a₀), (1, .ref g₀)] := hl₀
  generalize hAe₀ : va_A [eO a₀ ql₀ qs₀ qa₀ kn₀, (ql₀, .inl (k₀ 0, 6, .inl (ia la₀))), (qs₀, .inl (k₀ 0, 6, .inl (ia sq₀))), gO g₀ w₀ h₀ ht₀ fx₀ be₀] sT₀.heap.size = A₀ at C₀ hH₀ hQ₀
  obtain ⟨rfl, rfl, rfl, rfl, rfl⟩ := hg₀
  obtain ⟨hs0₀, hs1₀, hs2₀, hsh₀, hsf₀⟩ := id hS₀
  have hcl₀ := cells_rg hs0₀ hs1₀
  refine lv_iconst (v := iI 0) C₀.1.1 C₀.1.2.1 dX5_cellsThatFit_0 (by decide) ?_
  refine lv_istore_n (lv' := [(2, .int (iI 0)), (0, .ref a₀), (1, .ref g₀)]) C₀.1.1 C₀.1.2.1 dX5_cellsThatFit_1 rfl hl₀ (by decide) rfl (fun ls₀ hl₀ => ?_)
  refine lv_iconst (v := iI 0) C₀.1.1 C₀.1.2.1 dX5_cellsThatFit_2 (by decide) ?_
  refine lv_istore_n (lv' := [(3, .int (iI 0)), (2, .int (iI 0)), (0, .ref a₀), (1, .ref g₀)]) C₀.1.1 C₀.1.2.1 dX5_cellsThatFit_3 rfl hl₀ (by decide) rfl (fun ls₀ hl₀ => ?_)
  have L4₀ : ∀ (nn₀ : Nat), ∀ (n₀ : Int) (y₀ : Int), (n₀ = gBits (gFitN s₀ la₀ sq₀ kn₀) (s₀ 0 * y₀).toNat) → (0 ≤ y₀ ∧ y₀ ≤ s₀ 1) → ((s₀ 1 - y₀) < (nn₀ : Int)) → ∀ (H₀ : Heap) (locs₀ : List Loc) (ls₀ : Array Slot), Hp D₀ A₀ sT₀.heap [eO a₀ ql₀ qs₀ qa₀ kn₀, (ql₀, .inl (k₀ 0, 6, .inl (ia la₀))), (qs₀, .inl (k₀ 0, 6, .inl (ia sq₀))), gO g₀ (s₀ 0) (s₀ 1) (pk s₀ 3) (pk s₀ 27) (s₀ 2)] H₀ locs₀ → lv_has ls₀ 5 [(0, .ref a₀), (1, .ref g₀), (2, .int (iI n₀)), (3, .int (iI y₀))] → W pP₀ lL₀ eN₀ rmX5_cellsThatFit sT₀ mI₀ args₀ below₀ meth₀ cD₀ H₀ locs₀ 0 0 QQ₀ (F0 mI₀ 4 ls₀ []) := by
    intro nn₀
    induction nn₀ with
    | zero => intro n₀ y₀ i1₀ i2₀ hm₀; exact absurd hm₀ (by omega)
    | succ nn₀ ih4₀ =>
      intro n₀ y₀ i1₀ i2₀ hm4₀ H₀ locs₀ ls₀ hH₀ hl₀
      refine lv_iload_n C₀.1.1 C₀.1.2.1 dX5_cellsThatFit_4 rfl (lv_at hl₀ 3 rfl) ?_
      refine lv_aload_n C₀.1.1 C₀.1.2.1 dX5_cellsThatFit_5 rfl (lv_at hl₀ 1 rfl) ?_
      refine xw_getN (host := "GroundEdges") C₀ hH₀ 3 rfl rfl 1 (by decide) (fun w₀ h₀ => List.mem_cons_of_mem _ (iwg_X0 w₀ h₀)) (C₀.2.2.2.2.2.2.1 ("GroundEdges$Seen", 25, "GroundEdges$Ground", "rows", "I", "GroundEdges") (by decide +kernel)) (v := .int (iI (s₀ 1))) rfl dX5_cellsThatFit_6 ?_
      refine xi_cge (tgt := 59) C₀.1.1 C₀.1.2.1 dX5_cellsThatFit_9 (by decide) (by omega) (by omega) (fun h_1₀ => ?_) (fun h_1₀ => ?_)
      · refine lv_iload_n C₀.1.1 C₀.1.2.1 dX5_cellsThatFit_59 rfl (lv_at hl₀ 2 rfl) ?_
        exact xr_i C₀ hH₀ hlk₀ hr₀ hQ₀ rfl hAe₀ () trivial (by rw [i1₀, show y₀ = s₀ 1 by omega]) rfl dX5_cellsThatFit_60
      · refine lv_iconst (v := iI 0) C₀.1.1 C₀.1.2.1 dX5_cellsThatFit_12 (by decide) ?_
        refine lv_istore (lv' := [(4, .int (iI 0)), (0, .ref a₀), (1, .ref g₀), (2, .int (iI n₀)), (3, .int (iI y₀))]) C₀.1.1 C₀.1.2.1 dX5_cellsThatFit_13 hl₀ (by decide) rfl (fun ls₀ hl₀ => ?_)
        have L15₀ : ∀ (nn₀ : Nat), ∀ (n2₀ : Int) (x : Int), (n2₀ = gBits (gFitN s₀ la₀ sq₀ kn₀) (s₀ 0 * y₀ + x).toNat) → (0 ≤ x ∧ x ≤ s₀ 0) → ((s₀ 0 - x) < (nn₀ : Int)) → ∀ (H₀ : Heap) (locs₀ : List Loc) (ls₀ : Array Slot), Hp D₀ A₀ sT₀.heap [eO a₀ ql₀ qs₀ qa₀ kn₀, (ql₀, .inl (k₀ 0, 6, .inl (ia la₀))), (qs₀, .inl (k₀ 0, 6, .inl (ia sq₀))), gO g₀ (s₀ 0) (s₀ 1) (pk s₀ 3) (pk s₀ 27) (s₀ 2)] H₀ locs₀ → lv_has ls₀ 5 [(0, .ref a₀), (1, .ref g₀), (2, .int (iI n2₀)), (3, .int (iI y₀)), (4, .int (iI x))] → W pP₀ lL₀ eN₀ rmX5_cellsThatFit sT₀ mI₀ args₀ below₀ meth₀ cD₀ H₀ locs₀ 0 0 QQ₀ (F0 mI₀ 15 ls₀ []) := by
          intro nn₀
          induction nn₀ with
          | zero => intro n2₀ x j1₀ j2₀ hm₀; exact absurd hm₀ (by omega)
          | succ nn₀ ih15₀ =>
            intro n2₀ x j1₀ j2₀ hm15₀ H₀ locs₀ ls₀ hH₀ hl₀
            refine lv_iload C₀.1.1 C₀.1.2.1 dX5_cellsThatFit_15 (lv_at hl₀ 4 rfl) ?_
            refine lv_aload_n C₀.1.1 C₀.1.2.1 dX5_cellsThatFit_17 rfl (lv_at hl₀ 1 rfl) ?_
            refine xw_getN (host := "GroundEdges") C₀ hH₀ 3 rfl rfl 0 (by decide) (fun w₀ h₀ => List.mem_cons_of_mem _ (iwg_X0 w₀ h₀)) (C₀.2.2.2.2.2.2.1 ("GroundEdges$Seen", 30, "GroundEdges$Ground", "columns", "I", "GroundEdges") (by decide +kernel)) (v := .int (iI (s₀ 0))) rfl dX5_cellsThatFit_18 ?_
            refine xi_cge (tgt := 53) C₀.1.1 C₀.1.2.1 dX5_cellsThatFit_21 (by decide) (by omega) (by omega) (fun h_2₀ => ?_) (fun h_2₀ => ?_)
            · refine lv_iinc (v := iI (y₀ + 1)) (lv' := [(3, .int (iI (y₀ + 1))), (0, .ref a₀), (1, .ref g₀), (2, .int (iI n2₀)), (4, .int (iI x))]) C₀.1.1 C₀.1.2.1 dX5_cellsThatFit_53 hl₀ (k := 3) rfl (iI_add _ (1)) (by decide) rfl (fun ls₀ hl₀ => ?_)
              refine lv_goto (tgt := 4) C₀.1.1 C₀.1.2.1 dX5_cellsThatFit_56 (by decide) ?_
              exact ih4₀ n2₀ (y₀ + 1) (by rw [j1₀, show x = s₀ 0 by omega, Int.mul_add, Int.mul_one]) (by omega) (by omega) _ _ _ hH₀ (lv_sub hl₀ [1, 2, 3, 0] rfl)
            · have hc1₀ := cell_rg hs0₀ (show 0 ≤ x ∧ x < s₀ 0 by omega) (show 0 ≤ y₀ ∧ y₀ < s₀ 1 by omega)
              have hbr₀ := gBits_rg (gFitN s₀ la₀ sq₀ kn₀) (s₀ 0 * y₀ + x).toNat
              rw [← j1₀] at hbr₀
              refine lv_aload_n C₀.1.1 C₀.1.2.1 dX5_cellsThatFit_24 rfl (lv_at hl₀ 0 rfl) ?_
              refine lv_aload_n C₀.1.1 C₀.1.2.1 dX5_cellsThatFit_25 rfl (lv_at hl₀ 1 rfl) ?_
              refine lv_iload C₀.1.1 C₀.1.2.1 dX5_cellsThatFit_26 (lv_at hl₀ 4 rfl) ?_
              refine lv_iload_n C₀.1.1 C₀.1.2.1 dX5_cellsThatFit_28 rfl (lv_at hl₀ 3 rfl) ?_
              refine xc_Vi (wr := []) (ws' := fun _ => [eO a₀ ql₀ qs₀ qa₀ kn₀, (ql₀, .inl (k₀ 0, 6, .inl (ia la₀))), (qs₀, .inl (k₀ 0, 6, .inl (ia sq₀))), gO g₀ (s₀ 0) (s₀ 1) (pk s₀ 3) (pk s₀ 27) (s₀ 2)]) (As := [.ref g₀, .int (iI x), .int (iI y₀)]) (rest := []) C₀ hH₀ (c_X5_fits lL₀ D₀ k₀ H₀.size a₀ ql₀ qs₀ qa₀ kn₀ la₀ sq₀ g₀ (s₀ 0) (s₀ 1) (pk s₀ 3) (pk s₀ 27) (s₀ 2) x y₀ s₀ (⟨rfl, rfl, rfl, rfl, rfl⟩) (hS₀) (by omega) (by omega) (by omega) (hla₀)) ZG_b (ZG_pass C₀ hH₀ [0, 1, 2, 3] rfl) (cwV 3 C₀.1.2.2.2.2 (WG_V WG_c (WG_mem 738 (by decide +kernel) (by decide +kernel)) (WG_mem 740 (by decide +kernel) (by decide +kernel)) (WG_mem 28 (by decide +kernel) (by decide +kernel)) (WG_mem 72 (by decide +kernel) (by decide +kernel)) (WG_k (WG_mem 741 (by decide +kernel) (by decide +kernel)))) rfl rfl rfl (by decide +kernel) ⟨Nat.le_of_ble_eq_true rfl, Nat.le_of_ble_eq_true rfl⟩) [0, 1, 2, 3] [] [0, 1, 2, 3] rfl rfl (by decide) (by decide) (by decide) (fun _ => rfl) (by decide) (q0 := 0) rfl rfl rfl hl₀.1 rfl (Nat.le_of_ble_eq_true rfl) dX5_cellsThatFit_29 ⟨Nat.le_of_ble_eq_true rfl, Nat.le_of_ble_eq_true rfl⟩ (fun _ _ H₀ locs₀ hH₀ => ?_)
              refine xb_eq (tgt := 47) C₀.1.1 C₀.1.2.1 dX5_cellsThatFit_32 (by decide) (fun h_3₀ => ?_) (fun h_3₀ => ?_)
              · refine lv_iinc (v := iI (x + 1)) (lv' := [(4, .int (iI (x + 1))), (0, .ref a₀), (1, .ref g₀), (2, .int (iI n2₀)), (3, .int (iI y₀))]) C₀.1.1 C₀.1.2.1 dX5_cellsThatFit_47 hl₀ (k := 4) rfl (iI_add _ (1)) (by decide) rfl (fun ls₀ hl₀ => ?_)
                refine lv_goto (tgt := 15) C₀.1.1 C₀.1.2.1 dX5_cellsThatFit_50 (by decide) ?_
                exact ih15₀ n2₀ (x + 1) (by rw [show (s₀ 0 * y₀ + (x + 1)).toNat = (s₀ 0 * y₀ + x).toNat + 1 by omega]; show _ = gBits (gFitN s₀ la₀ sq₀ kn₀) (s₀ 0 * y₀ + x).toNat + (if gFitN s₀ la₀ sq₀ kn₀ ((s₀ 0 * y₀ + x).toNat : Int) = true then (2 : Int) ^ (s₀ 0 * y₀ + x).toNat else 0); rw [Int.toNat_of_nonneg (by omega), ← j1₀]; unfold gFitN; rw [(dm_eq hs0₀ (by omega)).1, (dm_eq hs0₀ (by omega)).2, if_neg (by rw [h_3₀]; decide), Int.add_zero]) (by omega) (by omega) _ _ _ hH₀ (lv_sub hl₀ [1, 2, 3, 4, 0] rfl)
              · refine lv_iload_n C₀.1.1 C₀.1.2.1 dX5_cellsThatFit_35 rfl (lv_at hl₀ 2 rfl) ?_
                refine lv_iconst (v := iI 1) C₀.1.1 C₀.1.2.1 dX5_cellsThatFit_36 (by decide) ?_
                refine lv_aload_n C₀.1.1 C₀.1.2.1 dX5_cellsThatFit_37 rfl (lv_at hl₀ 1 rfl) ?_
                refine lv_iload C₀.1.1 C₀.1.2.1 dX5_cellsThatFit_38 (lv_at hl₀ 4 rfl) ?_
                refine lv_iload_n C₀.1.1 C₀.1.2.1 dX5_cellsThatFit_40 rfl (lv_at hl₀ 3 rfl) ?_
                refine xc_Vi (wr := [eO a₀ ql₀ qs₀ qa₀ kn₀, (ql₀, .inl (k₀ 0, 6, .inl (ia la₀))), (qs₀, .inl (k₀ 0, 6, .inl (ia sq₀)))]) (ws' := fun _ => [eO a₀ ql₀ qs₀ qa₀ kn₀, (ql₀, .inl (k₀ 0, 6, .inl (ia la₀))), (qs₀, .inl (k₀ 0, 6, .inl (ia sq₀))), gO g₀ (s₀ 0) (s₀ 1) (pk s₀ 3) (pk s₀ 27) (s₀ 2)]) (As := [.int (iI x), .int (iI y₀)]) (rest := [.int (iI 1), .int (iI n2₀)]) C₀ hH₀ (c_X0_numberOf lL₀ D₀ k₀ H₀.size g₀ (s₀ 0) (s₀ 1) (pk s₀ 3) (pk s₀ 27) (s₀ 2) x y₀ s₀ (⟨rfl, rfl, rfl, rfl, rfl⟩)) ZT_b (fun _ _ _ => trivial) (cwV 2 C₀.1.2.2.2.2 (WG_V WG_c (WG_mem 743 (by decide +kernel) (by decide +kernel)) (WG_mem 423 (by decide +kernel) (by decide +kernel)) (WG_mem 424 (by decide +kernel) (by decide +kernel)) (WG_mem 64 (by decide +kernel) (by decide +kernel)) (WG_k (WG_mem 425 (by decide +kernel) (by decide +kernel)))) rfl rfl rfl (by decide +kernel) ⟨Nat.le_of_ble_eq_true rfl, Nat.le_of_ble_eq_true rfl⟩) [3] [0, 1, 2] [0, 1, 2, 3] rfl rfl (by decide) (by decide) (by decide) (fun _ => rfl) (by decide) (q0 := 0) rfl rfl rfl hl₀.1 rfl (Nat.le_of_ble_eq_true rfl) dX5_cellsThatFit_41 ⟨Nat.le_of_ble_eq_true rfl, Nat.le_of_ble_eq_true rfl⟩ (fun _ _ H₀ locs₀ hH₀ => ?_)
                refine lv_ishl C₀.1.1 C₀.1.2.1 dX5_cellsThatFit_44 ?_
                refine lv_ior C₀.1.1 C₀.1.2.1 dX5_cellsThatFit_45 ?_
                refine xt_i (y := (iI (n2₀ + (2 : Int) ^ (s₀ 0 * y₀ + x).toNat))) (gBits_or (by omega) hbr₀) ?_
                refine lv_istore_n (lv' := [(2, .int (iI (n2₀ + (2 : Int) ^ (s₀ 0 * y₀ + x).toNat))), (0, .ref a₀), (1, .ref g₀), (3, .int (iI y₀)), (4, .int (iI x))]) C₀.1.1 C₀.1.2.1 dX5_cellsThatFit_46 rfl hl₀ (by decide) rfl (fun ls₀ hl₀ => ?_)
                refine lv_iinc (v := iI (x + 1)) (lv' := [(4, .int (iI (x + 1))), (2, .int (iI (n2₀ + (2 : Int) ^ (s₀ 0 * y₀ + x).toNat))), (0, .ref a₀), (1, .ref g₀), (3, .int (iI y₀))]) C₀.1.1 C₀.1.2.1 dX5_cellsThatFit_47 hl₀ (k := 4) rfl (iI_add _ (1)) (by decide) rfl (fun ls₀ hl₀ => ?_)
                refine lv_goto (tgt := 15) C₀.1.1 C₀.1.2.1 dX5_cellsThatFit_50 (by decide) ?_
                exact ih15₀ (n2₀ + (2 : Int) ^ (s₀ 0 * y₀ + x).toNat) (x + 1) (by rw [show (s₀ 0 * y₀ + (x + 1)).toNat = (s₀ 0 * y₀ + x).toNat + 1 by omega]; show _ = gBits (gFitN s₀ la₀ sq₀ kn₀) (s₀ 0 * y₀ + x).toNat + (if gFitN s₀ la₀ sq₀ kn₀ ((s₀ 0 * y₀ + x).toNat : Int) = true then (2 : Int) ^ (s₀ 0 * y₀ + x).toNat else 0); rw [Int.toNat_of_nonneg (by omega), ← j1₀]; unfold gFitN; rw [(dm_eq hs0₀ (by omega)).1, (dm_eq hs0₀ (by omega)).2, if_pos h_3₀]) (by omega) (by omega) _ _ _ hH₀ (lv_sub hl₀ [2, 3, 1, 4, 0] rfl)
        exact L15₀ (((s₀ 0 - 0) : Int).toNat + 1) n₀ 0 (by rw [Int.add_zero]; exact i1₀) (by omega) (by omega) _ _ _ hH₀ (lv_sub hl₀ [1, 2, 3, 4, 0] rfl)
  exact L4₀ (((s₀ 1 - 0) : Int).toNat + 1) 0 0 (by rw [Int.mul_zero]; rfl) (by omega) (by omega) _ _ _ hH₀ (lv_sub hl₀ [2, 3, 1, 0] rfl)
