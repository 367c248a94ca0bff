abbrev wgX3_isAsked : List Cond := .code yX3_isAsked cX3_isAsked 2 (some .boolean) :: WG
abbrev rmX3_isAsked : Room := { frames := 0, cells := 0, slots := 0, locals := 0 }
set_option maxHeartbeats 4000000 in
set_option maxRecDepth 100000 in
/-- isAsked -/
theorem c_X3_isAsked (lL₀ : Launch) (D₀ : va_G) (k₀ : Nat → ClassId) (sz₀ : Nat) (a₀ : Nat) (qa₀ : Nat) (qr₀ : Nat) (qs₀ : Nat) (qn₀ : Nat) (qf₀ : Nat) (li₀ : Int) (ch₀ : Int) (hh₀ : Int64) (wa₀ : Int) (ha₀ : Int) (hta₀ : Int64) (fxa₀ : Int64) (ba₀ : Int) (g₀ : Nat) (w₀ : Int) (h₀ : Int) (ht₀ : Int64) (fx₀ : Int64) (be₀ : Int) (hw₀ : -2147483648 ≤ w₀ ∧ w₀ < 2147483648) (hw2₀ : -2147483648 ≤ wa₀ ∧ wa₀ < 2147483648) (hhr₀ : -2147483648 ≤ h₀ ∧ h₀ < 2147483648) (hhr2₀ : -2147483648 ≤ ha₀ ∧ ha₀ < 2147483648) : Met lL₀ yX3_isAsked wgX3_isAsked rmX3_isAsked (gPc ZG D₀ (tyk k₀) [.ref a₀, .ref g₀] sz₀ [lO a₀ qa₀ qr₀ qs₀ qn₀ qf₀ li₀ ch₀ hh₀, gO qa₀ wa₀ ha₀ hta₀ fxa₀ ba₀, gO g₀ w₀ h₀ ht₀ fx₀ be₀]) (gQi D₀ (tyk k₀) [lO a₀ qa₀ qr₀ qs₀ qn₀ qf₀ li₀ ch₀ hh₀, gO qa₀ wa₀ ha₀ hta₀ fxa₀ ba₀, gO g₀ w₀ h₀ ht₀ fx₀ be₀] sz₀ (fun (_ : Unit) => True) (fun (_ : Unit) => (iI (bz (decide ((wa₀ = w₀ ∧ ha₀ = h₀) ∧ hta₀ = ht₀ ∧ fxa₀ = fx₀))))) (fun (_ : Unit) => [lO a₀ qa₀ qr₀ qs₀ qn₀ qf₀ li₀ ch₀ hh₀, gO qa₀ wa₀ ha₀ hta₀ fxa₀ ba₀, gO g₀ w₀ h₀ ht₀ fx₀ be₀])) 0 0 (va_A [lO a₀ qa₀ qr₀ qs₀ qn₀ qf₀ li₀ ch₀ hh₀, gO qa₀ wa₀ ha₀ hta₀ fxa₀ ba₀, gO g₀ w₀ h₀ ht₀ fx₀ be₀] sz₀) := by
  refine xs_met (cc := cX3_isAsked) (maxL := 2) (ret := some .boolean) (by decide) rfl (Nat.le_of_ble_eq_true rfl) ?_
  intro pP₀ eN₀ sT₀ mI₀ below₀ meth₀ cD₀ hsz₀ args₀ QQ₀ C₀ hr₀ hlk₀ hnm₀ hQ₀ ls₀ H₀ locs₀ hl₀ hH₀
  subst hsz₀
  have hl₀ : lv_has ls₀ 2 [(0, .ref a₀), (1, .ref g₀)] := hl₀
  generalize hAe₀ : va_A [lO a₀ qa₀ qr₀ qs₀ qn₀ qf₀ li₀ ch₀ hh₀, gO qa₀ wa₀ ha₀ hta₀ fxa₀ ba₀, gO g₀ w₀ h₀ ht₀ fx₀ be₀] sT₀.heap.size = A₀ at C₀ hH₀ hQ₀
  have L62₀ : (¬ ((wa₀ = w₀ ∧ ha₀ = h₀) ∧ hta₀ = ht₀ ∧ fxa₀ = fx₀)) → ∀ (H₀ : Heap) (locs₀ : List Loc) (ls₀ : Array Slot), Hp D₀ A₀ sT₀.heap [lO a₀ qa₀ qr₀ qs₀ qn₀ qf₀ li₀ ch₀ hh₀, gO qa₀ wa₀ ha₀ hta₀ fxa₀ ba₀, gO g₀ w₀ h₀ ht₀ fx₀ be₀] H₀ locs₀ → lv_has ls₀ 2 [(0, .ref a₀), (1, .ref g₀)] → W pP₀ lL₀ eN₀ rmX3_isAsked sT₀ mI₀ args₀ below₀ meth₀ cD₀ H₀ locs₀ 0 0 QQ₀ (F0 mI₀ 62 ls₀ []) := by
    intro  hbad₀ H₀ locs₀ ls₀ hH₀ hl₀
    refine lv_iconst (v := iI 0) C₀.1.1 C₀.1.2.1 dX3_isAsked_62 (by decide) ?_
    exact xr_i C₀ hH₀ hlk₀ hr₀ hQ₀ rfl hAe₀ () trivial (by rw [decide_eq_false hbad₀]; rfl) rfl dX3_isAsked_63
  refine lv_aload_n C₀.1.1 C₀.1.2.1 dX3_isAsked_0 rfl (lv_at hl₀ 0 rfl) ?_
  refine xw_get C₀ hH₀ 0 rfl rfl 0 (by decide) (fun w₀ h₀ => List.mem_cons_of_mem _ (iwg_X3 w₀ h₀)) (List.mem_cons_of_mem _ (WG_mem 241 (by decide +kernel) (by decide +kernel))) (v := .ref qa₀) rfl dX3_isAsked_1 ?_
  refine xw_getN (host := "GroundEdges") C₀ hH₀ 1 rfl rfl 0 (by decide) (fun w₀ h₀ => List.mem_cons_of_mem _ (iwg_X0 w₀ h₀)) (C₀.2.2.2.2.2.2.1 ("GroundEdges$LeastChange", 67, "GroundEdges$Ground", "columns", "I", "GroundEdges") (by decide +kernel)) (v := .int (iI wa₀)) rfl dX3_isAsked_4 ?_
  refine lv_aload_n C₀.1.1 C₀.1.2.1 dX3_isAsked_7 rfl (lv_at hl₀ 1 rfl) ?_
  refine xw_getN (host := "GroundEdges") C₀ hH₀ 2 rfl rfl 0 (by decide) (fun w₀ h₀ => List.mem_cons_of_mem _ (iwg_X0 w₀ h₀)) (C₀.2.2.2.2.2.2.1 ("GroundEdges$LeastChange", 67, "GroundEdges$Ground", "columns", "I", "GroundEdges") (by decide +kernel)) (v := .int (iI w₀)) rfl dX3_isAsked_8 ?_
  refine xi_cne (tgt := 62) C₀.1.1 C₀.1.2.1 dX3_isAsked_11 (by decide) (by omega) (by omega) (fun h_1₀ => ?_) (fun h_1₀ => ?_)
  · exact L62₀  ((by rintro ⟨⟨q1₀, q2₀⟩, q3₀, q4₀⟩; exact absurd q1₀ h_1₀)) _ _ _ hH₀ (lv_sub hl₀ [0, 1] rfl)
  · refine lv_aload_n C₀.1.1 C₀.1.2.1 dX3_isAsked_14 rfl (lv_at hl₀ 0 rfl) ?_
    refine xw_get C₀ hH₀ 0 rfl rfl 0 (by decide) (fun w₀ h₀ => List.mem_cons_of_mem _ (iwg_X3 w₀ h₀)) (List.mem_cons_of_mem _ (WG_mem 241 (by decide +kernel) (by decide +kernel))) (v := .ref qa₀) rfl dX3_isAsked_15 ?_
    refine xw_getN (host := "GroundEdges") C₀ hH₀ 1 rfl rfl 1 (by decide) (fun w₀ h₀ => List.mem_cons_of_mem _ (iwg_X0 w₀ h₀)) (C₀.2.2.2.2.2.2.1 ("GroundEdges$LeastChange", 50, "GroundEdges$Ground", "rows", "I", "GroundEdges") (by decide +kernel)) (v := .int (iI ha₀)) rfl dX3_isAsked_18 ?_
    refine lv_aload_n C₀.1.1 C₀.1.2.1 dX3_isAsked_21 rfl (lv_at hl₀ 1 rfl) ?_
    refine xw_getN (host := "GroundEdges") C₀ hH₀ 2 rfl rfl 1 (by decide) (fun w₀ h₀ => List.mem_cons_of_mem _ (iwg_X0 w₀ h₀)) (C₀.2.2.2.2.2.2.1 ("GroundEdges$LeastChange", 50, "GroundEdges$Ground", "rows", "I", "GroundEdges") (by decide +kernel)) (v := .int (iI h₀)) rfl dX3_isAsked_22 ?_
    refine xi_cne (tgt := 62) C₀.1.1 C₀.1.2.1 dX3_isAsked_25 (by decide) (by omega) (by omega) (fun h_2₀ => ?_) (fun h_2₀ => ?_)
    · exact L62₀  ((by rintro ⟨⟨q1₀, q2₀⟩, q3₀, q4₀⟩; exact absurd q2₀ h_2₀)) _ _ _ hH₀ (lv_sub hl₀ [0, 1] rfl)
    · refine lv_aload_n C₀.1.1 C₀.1.2.1 dX3_isAsked_28 rfl (lv_at hl₀ 0 rfl) ?_
      refine xw_get C₀ hH₀ 0 rfl rfl 0 (by decide) (fun w₀ h₀ => List.mem_cons_of_mem _ (iwg_X3 w₀ h₀)) (List.mem_cons_of_mem _ (WG_mem 241 (by decide +kernel) (by decide +kernel))) (v := .ref qa₀) rfl dX3_isAsked_29 ?_
      refine xw_getN (host := "GroundEdges") C₀ hH₀ 1 rfl rfl 2 (by decide) (fun w₀ h₀ => List.mem_cons_of_mem _ (iwg_X0 w₀ h₀)) (C₀.2.2.2.2.2.2.1 ("GroundEdges$LeastChange", 70, "GroundEdges$Ground", "heights", "J", "GroundEdges") (by decide +kernel)) (v := .long hta₀) rfl dX3_isAsked_32 ?_
      refine lv_aload_n C₀.1.1 C₀.1.2.1 dX3_isAsked_35 rfl (lv_at hl₀ 1 rfl) ?_
      refine xw_getN (host := "GroundEdges") C₀ hH₀ 2 rfl rfl 2 (by decide) (fun w₀ h₀ => List.mem_cons_of_mem _ (iwg_X0 w₀ h₀)) (C₀.2.2.2.2.2.2.1 ("GroundEdges$LeastChange", 70, "GroundEdges$Ground", "heights", "J", "GroundEdges") (by decide +kernel)) (v := .long ht₀) rfl dX3_isAsked_36 ?_
      refine W.lcmp C₀.1.1 C₀.1.2.1 dX3_isAsked_39 ?_
      refine lv_if_ne (tgt := 62) C₀.1.1 C₀.1.2.1 dX3_isAsked_40 (by decide) (fun h_3₀ => ?_) (fun h_3₀ => ?_)
      · exact L62₀  ((by rintro ⟨⟨q1₀, q2₀⟩, q3₀, q4₀⟩; exact h_3₀ ((lg_cmp_eq _ _).mpr q3₀))) _ _ _ hH₀ (lv_sub hl₀ [0, 1] rfl)
      · refine lv_aload_n C₀.1.1 C₀.1.2.1 dX3_isAsked_43 rfl (lv_at hl₀ 0 rfl) ?_
        refine xw_get C₀ hH₀ 0 rfl rfl 0 (by decide) (fun w₀ h₀ => List.mem_cons_of_mem _ (iwg_X3 w₀ h₀)) (List.mem_cons_of_mem _ (WG_mem 241 (by decide +kernel) (by decide +kernel))) (v := .ref qa₀) rfl dX3_isAsked_44 ?_
        refine xw_getN (host := "GroundEdges") C₀ hH₀ 1 rfl rfl 3 (by decide) (fun w₀ h₀ => List.mem_cons_of_mem _ (iwg_X0 w₀ h₀)) (C₀.2.2.2.2.2.2.1 ("GroundEdges$LeastChange", 71, "GroundEdges$Ground", "fixed", "J", "GroundEdges") (by decide +kernel)) (v := .long fxa₀) rfl dX3_isAsked_47 ?_
        refine lv_aload_n C₀.1.1 C₀.1.2.1 dX3_isAsked_50 rfl (lv_at hl₀ 1 rfl) ?_
        refine xw_getN (host := "GroundEdges") C₀ hH₀ 2 rfl rfl 3 (by decide) (fun w₀ h₀ => List.mem_cons_of_mem _ (iwg_X0 w₀ h₀)) (C₀.2.2.2.2.2.2.1 ("GroundEdges$LeastChange", 71, "GroundEdges$Ground", "fixed", "J", "GroundEdges") (by decide +kernel)) (v := .long fx₀) rfl dX3_isAsked_51 ?_
        refine W.lcmp C₀.1.1 C₀.1.2.1 dX3_isAsked_54 ?_
        refine lv_if_ne (tgt := 62) C₀.1.1 C₀.1.2.1 dX3_isAsked_55 (by decide) (fun h_4₀ => ?_) (fun h_4₀ => ?_)
        · exact L62₀  ((by rintro ⟨⟨q1₀, q2₀⟩, q3₀, q4₀⟩; exact h_4₀ ((lg_cmp_eq _ _).mpr q4₀))) _ _ _ hH₀ (lv_sub hl₀ [0, 1] rfl)
        · refine lv_iconst (v := iI 1) C₀.1.1 C₀.1.2.1 dX3_isAsked_58 (by decide) ?_
          refine lv_goto (tgt := 63) C₀.1.1 C₀.1.2.1 dX3_isAsked_59 (by decide) ?_
          exact xr_i C₀ hH₀ hlk₀ hr₀ hQ₀ rfl hAe₀ () trivial (by rw [decide_eq_true ⟨⟨by assumption, by assumption⟩, (lg_cmp_eq _ _).mp h_3₀, (lg_cmp_eq _ _).mp h_4₀⟩]; rfl) rfl dX3_isAsked_63
abbrev wgX3_standingOf : List Cond := .code yX3_standingOf cX3_standingOf 4 (some .int) :: WG
abbrev rmX3_standingOf : Room := { frames := 0, cells := 0, slots := 0, locals := 0 }
set_option maxHeartbeats 4000000 in
set_option maxRecDepth 100000 in
/-- standingOf -/
theorem c_X3_standingOf (lL₀ : Launch) (D₀ : va_G) (k₀ : Nat → ClassId) (sz₀ : Nat) (a₀ : Nat) (qa₀ : Nat) (qr₀ : Nat) (qs₀ : Nat) (qn₀ : Nat) (qf₀ : Nat) (li₀ : Int) (ch₀ : Int) (hh₀ : Int64) (wa₀ : Int) (ha₀ : Int) (hta₀ : Int64) (fxa₀ : Int64) (ba₀ : Int) (row₀ : Int) (s₀ : Int → Int) (hg₀ : gR s₀ wa₀ ha₀ hta₀ fxa₀ ba₀) (hs0₀ : 1 ≤ s₀ 0 ∧ s₀ 0 ≤ 4) (hrw₀ : 0 ≤ row₀ ∧ row₀ < 256) : Met lL₀ yX3_standingOf wgX3_standingOf rmX3_standingOf (gPc ZG D₀ (tyk k₀) [.ref a₀, .int (iI row₀)] sz₀ [lO a₀ qa₀ qr₀ qs₀ qn₀ qf₀ li₀ ch₀ hh₀, gO qa₀ wa₀ ha₀ hta₀ fxa₀ ba₀]) (gQi D₀ (tyk k₀) [lO a₀ qa₀ qr₀ qs₀ qn₀ qf₀ li₀ ch₀ hh₀, gO qa₀ wa₀ ha₀ hta₀ fxa₀ ba₀] sz₀ (fun (_ : Unit) => True) (fun (_ : Unit) => (iI (gSd (s₀ 0) row₀))) (fun (_ : Unit) => [lO a₀ qa₀ qr₀ qs₀ qn₀ qf₀ li₀ ch₀ hh₀, gO qa₀ wa₀ ha₀ hta₀ fxa₀ ba₀])) 0 0 (va_A [lO a₀ qa₀ qr₀ qs₀ qn₀ qf₀ li₀ ch₀ hh₀, gO qa₀ wa₀ ha₀ hta₀ fxa₀ ba₀] sz₀) := by
  refine xs_met (cc := cX3_standingOf) (maxL := 4) (ret := some .int) (by decide) rfl (Nat.le_of_ble_eq_true rfl) ?_
  intro pP₀ eN₀ sT₀ mI₀ below₀ meth₀ cD₀ hsz₀ args₀ QQ₀ C₀ hr₀ hlk₀ hnm₀ hQ₀ ls₀ H₀ locs₀ hl₀ hH₀
  subst hsz₀
  have hl₀ : lv_has ls₀ 4 [(0, .ref a₀), (1, .int (iI row₀))] := hl₀
  generalize hAe₀ : va_A [lO a₀ qa₀ qr₀ qs₀ qn₀ qf₀ li₀ ch₀ hh₀, gO qa₀ wa₀ ha₀ hta₀ fxa₀ ba₀] sT₀.heap.size = A₀ at C₀ hH₀ hQ₀
  obtain ⟨rfl, rfl, rfl, rfl, rfl⟩ := hg₀
  refine lv_iconst (v := iI 0) C₀.1.1 C₀.1.2.1 dX3_standingOf_0 (by decide) ?_
  refine lv_istore_n (lv' := [(2, .int (iI 0)), (0, .ref a₀), (1, .int (iI row₀))]) C₀.1.1 C₀.1.2.1 dX3_standingOf_1 rfl hl₀ (by decide) rfl (fun ls₀ hl₀ => ?_)
  refine lv_iconst (v := iI 0) C₀.1.1 C₀.1.2.1 dX3_standingOf_2 (by decide) ?_
  refine lv_istore_n (lv' := [(3, .int (iI 0)), (2, .int (iI 0)), (0, .ref a₀), (1, .int (iI row₀))]) C₀.1.1 C₀.1.2.1 dX3_standingOf_3 rfl hl₀ (by decide) rfl (fun ls₀ hl₀ => ?_)
  have L4₀ : ∀ (nn₀ : Nat), ∀ (n₀ : Int) (z₀ : Int), (n₀ = gSd z₀ row₀) → (0 ≤ z₀ ∧ z₀ ≤ s₀ 0) → ((s₀ 0 - z₀) < (nn₀ : Int)) → ∀ (H₀ : Heap) (locs₀ : List Loc) (ls₀ : Array Slot), Hp D₀ A₀ sT₀.heap [lO a₀ qa₀ qr₀ qs₀ qn₀ qf₀ li₀ ch₀ hh₀, gO qa₀ (s₀ 0) (s₀ 1) (pk s₀ 3) (pk s₀ 27) (s₀ 2)] H₀ locs₀ → lv_has ls₀ 4 [(0, .ref a₀), (1, .int (iI row₀)), (2, .int (iI n₀)), (3, .int (iI z₀))] → W pP₀ lL₀ eN₀ rmX3_standingOf sT₀ mI₀ args₀ below₀ meth₀ cD₀ H₀ locs₀ 0 0 QQ₀ (F0 mI₀ 4 ls₀ []) := by
    intro nn₀
    induction nn₀ with
    | zero => intro n₀ z₀ i1₀ i2₀ hm₀; exact absurd hm₀ (by omega)
    | succ nn₀ ih4₀ =>
      intro n₀ z₀ i1₀ i2₀ hm4₀ H₀ locs₀ ls₀ hH₀ hl₀
      refine lv_iload_n C₀.1.1 C₀.1.2.1 dX3_standingOf_4 rfl (lv_at hl₀ 3 rfl) ?_
      refine lv_aload_n C₀.1.1 C₀.1.2.1 dX3_standingOf_5 rfl (lv_at hl₀ 0 rfl) ?_
      refine xw_get C₀ hH₀ 0 rfl rfl 0 (by decide) (fun w₀ h₀ => List.mem_cons_of_mem _ (iwg_X3 w₀ h₀)) (List.mem_cons_of_mem _ (WG_mem 241 (by decide +kernel) (by decide +kernel))) (v := .ref qa₀) rfl dX3_standingOf_6 ?_
      refine xw_getN (host := "GroundEdges") C₀ hH₀ 1 rfl rfl 0 (by decide) (fun w₀ h₀ => List.mem_cons_of_mem _ (iwg_X0 w₀ h₀)) (C₀.2.2.2.2.2.2.1 ("GroundEdges$LeastChange", 67, "GroundEdges$Ground", "columns", "I", "GroundEdges") (by decide +kernel)) (v := .int (iI (s₀ 0))) rfl dX3_standingOf_9 ?_
      refine xi_cge (tgt := 37) C₀.1.1 C₀.1.2.1 dX3_standingOf_12 (by decide) (by omega) (by omega) (fun h_1₀ => ?_) (fun h_1₀ => ?_)
      · refine lv_iload_n C₀.1.1 C₀.1.2.1 dX3_standingOf_37 rfl (lv_at hl₀ 2 rfl) ?_
        exact xr_i C₀ hH₀ hlk₀ hr₀ hQ₀ rfl hAe₀ () trivial (by rw [i1₀, show z₀ = s₀ 0 by omega]) rfl dX3_standingOf_38
      · refine lv_iload_n C₀.1.1 C₀.1.2.1 dX3_standingOf_15 rfl (lv_at hl₀ 2 rfl) ?_
        refine lv_iconst (v := iI 1) C₀.1.1 C₀.1.2.1 dX3_standingOf_16 (by decide) ?_
        refine lv_iconst (v := iI 4) C₀.1.1 C₀.1.2.1 dX3_standingOf_17 (by decide) ?_
        refine lv_iload_n C₀.1.1 C₀.1.2.1 dX3_standingOf_18 rfl (lv_at hl₀ 3 rfl) ?_
        refine xi_mul C₀.1.1 C₀.1.2.1 dX3_standingOf_19 ?_
        refine lv_iload_n C₀.1.1 C₀.1.2.1 dX3_standingOf_20 rfl (lv_at hl₀ 1 rfl) ?_
        refine lv_iconst (v := iI 2) C₀.1.1 C₀.1.2.1 dX3_standingOf_21 (by decide) ?_
        refine lv_iload_n C₀.1.1 C₀.1.2.1 dX3_standingOf_22 rfl (lv_at hl₀ 3 rfl) ?_
        refine xi_mul C₀.1.1 C₀.1.2.1 dX3_standingOf_23 ?_
        refine lv_ishr C₀.1.1 C₀.1.2.1 dX3_standingOf_24 ?_
        refine lv_iconst (v := iI 3) C₀.1.1 C₀.1.2.1 dX3_standingOf_25 (by decide) ?_
        refine lv_iand C₀.1.1 C₀.1.2.1 dX3_standingOf_26 ?_
        refine xt_i (y := (iI (gDg row₀ z₀))) (gDg_sh (by omega) (by omega)) ?_
        refine xi_add C₀.1.1 C₀.1.2.1 dX3_standingOf_27 ?_
        refine lv_ishl C₀.1.1 C₀.1.2.1 dX3_standingOf_28 ?_
        refine lv_ior C₀.1.1 C₀.1.2.1 dX3_standingOf_29 ?_
        refine xt_i (y := (iI (gSd (z₀ + 1) row₀))) (by rw [i1₀, ← iI_add]; exact gSd_s (by omega) hrw₀) ?_
        refine lv_istore_n (lv' := [(2, .int (iI (gSd (z₀ + 1) row₀))), (0, .ref a₀), (1, .int (iI row₀)), (3, .int (iI z₀))]) C₀.1.1 C₀.1.2.1 dX3_standingOf_30 rfl hl₀ (by decide) rfl (fun ls₀ hl₀ => ?_)
        refine lv_iinc (v := iI (z₀ + 1)) (lv' := [(3, .int (iI (z₀ + 1))), (2, .int (iI (gSd (z₀ + 1) row₀))), (0, .ref a₀), (1, .int (iI row₀))]) C₀.1.1 C₀.1.2.1 dX3_standingOf_31 hl₀ (k := 3) rfl (iI_add _ (1)) (by decide) rfl (fun ls₀ hl₀ => ?_)
        refine lv_goto (tgt := 4) C₀.1.1 C₀.1.2.1 dX3_standingOf_34 (by decide) ?_
        exact ih4₀ (gSd (z₀ + 1) row₀) (z₀ + 1) (rfl) (by omega) (by omega) _ _ _ hH₀ (lv_sub hl₀ [2, 3, 1, 0] rfl)
  exact L4₀ (((s₀ 0 - 0) : Int).toNat + 1) 0 0 ((gSd_0 row₀).symm) (by omega) (by omega) _ _ _ hH₀ (lv_sub hl₀ [2, 3, 1, 0] rfl)
abbrev wgX3_nearOf : List Cond := .code yX3_nearOf cX3_nearOf 5 (some .int) :: WG
abbrev rmX3_nearOf : Room := { frames := 0, cells := 0, slots := 0, locals := 0 }
set_option maxHeartbeats 4000000 in
set_option maxRecDepth 100000 in
/-- nearOf -/
theorem c_X3_nearOf (lL₀ : Launch) (D₀ : va_G) (k₀ : Nat → ClassId) (sz₀ : Nat) (a₀ : Nat) (qa₀ : Nat) (qr₀ : Nat) (qs₀ : Nat) (qn₀ : Nat) (qf₀ : Nat) (li₀ : Int) (ch₀ : Int) (hh₀ : Int64) (wa₀ : Int) (ha₀ : Int) (hta₀ : Int64) (fxa₀ : Int64) (ba₀ : Int) (row₀ : Int) (s₀ : Int → Int) (hg₀ : gR s₀ wa₀ ha₀ hta₀ fxa₀ ba₀) (hs0₀ : 1 ≤ s₀ 0 ∧ s₀ 0 ≤ 4) (hrw₀ : 0 ≤ row₀ ∧ row₀ < 256) : Met lL₀ yX3_nearOf wgX3_nearOf rmX3_nearOf (gPc ZG D₀ (tyk k₀) [.ref a₀, .int (iI row₀)] sz₀ [lO a₀ qa₀ qr₀ qs₀ qn₀ qf₀ li₀ ch₀ hh₀, gO qa₀ wa₀ ha₀ hta₀ fxa₀ ba₀]) (gQi D₀ (tyk k₀) [lO a₀ qa₀ qr₀ qs₀ qn₀ qf₀ li₀ ch₀ hh₀, gO qa₀ wa₀ ha₀ hta₀ fxa₀ ba₀] sz₀ (fun (_ : Unit) => True) (fun (_ : Unit) => (iI (gNe (s₀ 0) row₀))) (fun (_ : Unit) => [lO a₀ qa₀ qr₀ qs₀ qn₀ qf₀ li₀ ch₀ hh₀, gO qa₀ wa₀ ha₀ hta₀ fxa₀ ba₀])) 0 0 (va_A [lO a₀ qa₀ qr₀ qs₀ qn₀ qf₀ li₀ ch₀ hh₀, gO qa₀ wa₀ ha₀ hta₀ fxa₀ ba₀] sz₀) := by
  refine xs_met (cc := cX3_nearOf) (maxL := 5) (ret := some .int) (by decide) rfl (Nat.le_of_ble_eq_true rfl) ?_
  intro pP₀ eN₀ sT₀ mI₀ below₀ meth₀ cD₀ hsz₀ args₀ QQ₀ C₀ hr₀ hlk₀ hnm₀ hQ₀ ls₀ H₀ locs₀ hl₀ hH₀
  subst hsz₀
  have hl₀ : lv_has ls₀ 5 [(0, .ref a₀), (1, .int (iI row₀))] := hl₀
  generalize hAe₀ : va_A [lO a₀ qa₀ qr₀ qs₀ qn₀ qf₀ li₀ ch₀ hh₀, gO qa₀ wa₀ ha₀ hta₀ fxa₀ ba₀] sT₀.heap.size = A₀ at C₀ hH₀ hQ₀
  obtain ⟨rfl, rfl, rfl, rfl, rfl⟩ := hg₀
  obtain ⟨⟨t1₀, z1₀, y1₀⟩, ⟨t2₀, z2₀, y2₀⟩, ⟨t3₀, z3₀, y3₀⟩, ⟨t4₀, z4₀, y4₀⟩, hnw₀⟩ := id C₀.2.2
  refine lv_iconst (v := iI 0) C₀.1.1 C₀.1.2.1 dX3_nearOf_0 (by decide) ?_
  refine lv_istore_n (lv' := [(2, .int (iI 0)), (0, .ref a₀), (1, .int (iI row₀))]) C₀.1.1 C₀.1.2.1 dX3_nearOf_1 rfl hl₀ (by decide) rfl (fun ls₀ hl₀ => ?_)
  refine lv_iconst (v := iI 0) C₀.1.1 C₀.1.2.1 dX3_nearOf_2 (by decide) ?_
  refine lv_istore_n (lv' := [(3, .int (iI 0)), (2, .int (iI 0)), (0, .ref a₀), (1, .int (iI row₀))]) C₀.1.1 C₀.1.2.1 dX3_nearOf_3 rfl hl₀ (by decide) rfl (fun ls₀ hl₀ => ?_)
  have L4₀ : ∀ (nn₀ : Nat), ∀ (n₀ : Int) (z₀ : Int), (n₀ = gNb z₀ row₀) → (0 ≤ z₀ ∧ z₀ ≤ s₀ 0) → ((s₀ 0 - z₀) < (nn₀ : Int)) → ∀ (H₀ : Heap) (locs₀ : List Loc) (ls₀ : Array Slot), Hp D₀ A₀ sT₀.heap [lO a₀ qa₀ qr₀ qs₀ qn₀ qf₀ li₀ ch₀ hh₀, gO qa₀ (s₀ 0) (s₀ 1) (pk s₀ 3) (pk s₀ 27) (s₀ 2)] H₀ locs₀ → lv_has ls₀ 5 [(0, .ref a₀), (1, .int (iI row₀)), (2, .int (iI n₀)), (3, .int (iI z₀))] → W pP₀ lL₀ eN₀ rmX3_nearOf sT₀ mI₀ args₀ below₀ meth₀ cD₀ H₀ locs₀ 0 0 QQ₀ (F0 mI₀ 4 ls₀ []) := by
    intro nn₀
    induction nn₀ with
    | zero => intro n₀ z₀ i1₀ i2₀ hm₀; exact absurd hm₀ (by omega)
    | succ nn₀ ih4₀ =>
      intro n₀ z₀ i1₀ i2₀ hm4₀ H₀ locs₀ ls₀ hH₀ hl₀
      refine lv_iload_n C₀.1.1 C₀.1.2.1 dX3_nearOf_4 rfl (lv_at hl₀ 3 rfl) ?_
      refine lv_aload_n C₀.1.1 C₀.1.2.1 dX3_nearOf_5 rfl (lv_at hl₀ 0 rfl) ?_
      refine xw_get C₀ hH₀ 0 rfl rfl 0 (by decide) (fun w₀ h₀ => List.mem_cons_of_mem _ (iwg_X3 w₀ h₀)) (List.mem_cons_of_mem _ (WG_mem 241 (by decide +kernel) (by decide +kernel))) (v := .ref qa₀) rfl dX3_nearOf_6 ?_
      refine xw_getN (host := "GroundEdges") C₀ hH₀ 1 rfl rfl 0 (by decide) (fun w₀ h₀ => List.mem_cons_of_mem _ (iwg_X0 w₀ h₀)) (C₀.2.2.2.2.2.2.1 ("GroundEdges$LeastChange", 67, "GroundEdges$Ground", "columns", "I", "GroundEdges") (by decide +kernel)) (v := .int (iI (s₀ 0))) rfl dX3_nearOf_9 ?_
      refine xi_cge (tgt := 39) C₀.1.1 C₀.1.2.1 dX3_nearOf_12 (by decide) (by omega) (by omega) (fun h_1₀ => ?_) (fun h_1₀ => ?_)
      · have ez₀ : z₀ = s₀ 0 := by omega
        subst ez₀
        refine lv_iload_n C₀.1.1 C₀.1.2.1 dX3_nearOf_39 rfl (lv_at hl₀ 2 rfl) ?_
        refine lv_iconst (v := iI 4) C₀.1.1 C₀.1.2.1 dX3_nearOf_40 (by decide) ?_
        refine lv_ishl C₀.1.1 C₀.1.2.1 dX3_nearOf_41 ?_
        refine lv_bipush (v := iI 15) C₀.1.1 C₀.1.2.1 dX3_nearOf_42 (by decide) ?_
        refine lv_ior C₀.1.1 C₀.1.2.1 dX3_nearOf_44 ?_
        refine lv_istore_n (lv' := [(3, .int (((iI n₀) <<< ((iI 4) &&& 31)) ||| (iI 15))), (0, .ref a₀), (1, .int (iI row₀)), (2, .int (iI n₀))]) C₀.1.1 C₀.1.2.1 dX3_nearOf_45 rfl hl₀ (by decide) rfl (fun ls₀ hl₀ => ?_)
        refine lv_iload_n C₀.1.1 C₀.1.2.1 dX3_nearOf_46 rfl (lv_at hl₀ 3 rfl) ?_
        refine lv_iconst (v := iI 4) C₀.1.1 C₀.1.2.1 dX3_nearOf_47 (by decide) ?_
        refine lv_ishr C₀.1.1 C₀.1.2.1 dX3_nearOf_48 ?_
        refine lv_bipush (v := iI 15) C₀.1.1 C₀.1.2.1 dX3_nearOf_49 (by decide) ?_
        refine lv_iconst (v := iI 4) C₀.1.1 C₀.1.2.1 dX3_nearOf_51 (by decide) ?_
        refine lv_aload_n C₀.1.1 C₀.1.2.1 dX3_nearOf_52 rfl (lv_at hl₀ 1 rfl) ?_
        refine xw_get C₀ hH₀ 0 rfl rfl 0 (by decide) (fun w₀ h₀ => List.mem_cons_of_mem _ (iwg_X3 w₀ h₀)) (List.mem_cons_of_mem _ (WG_mem 241 (by decide +kernel) (by decide +kernel))) (v := .ref qa₀) rfl dX3_nearOf_53 ?_
        refine xw_getN (host := "GroundEdges") C₀ hH₀ 1 rfl rfl 0 (by decide) (fun w₀ h₀ => List.mem_cons_of_mem _ (iwg_X0 w₀ h₀)) (C₀.2.2.2.2.2.2.1 ("GroundEdges$LeastChange", 67, "GroundEdges$Ground", "columns", "I", "GroundEdges") (by decide +kernel)) (v := .int (iI (s₀ 0))) rfl dX3_nearOf_56 ?_
        refine lv_iconst (v := iI 1) C₀.1.1 C₀.1.2.1 dX3_nearOf_59 (by decide) ?_
        refine xi_sub C₀.1.1 C₀.1.2.1 dX3_nearOf_60 ?_
        refine xi_mul C₀.1.1 C₀.1.2.1 dX3_nearOf_61 ?_
        refine lv_ishl C₀.1.1 C₀.1.2.1 dX3_nearOf_62 ?_
        refine lv_ior C₀.1.1 C₀.1.2.1 dX3_nearOf_63 ?_
        refine lv_istore (lv' := [(4, .int (((iI n₀) >>> ((iI 4) &&& 31)) ||| ((iI 15) <<< ((iI (4 * (s₀ 0 - 1))) &&& 31)))), (3, .int (((iI n₀) <<< ((iI 4) &&& 31)) ||| (iI 15))), (0, .ref a₀), (1, .int (iI row₀)), (2, .int (iI n₀))]) C₀.1.1 C₀.1.2.1 dX3_nearOf_64 hl₀ (by decide) rfl (fun ls₀ hl₀ => ?_)
        refine lv_iload_n C₀.1.1 C₀.1.2.1 dX3_nearOf_66 rfl (lv_at hl₀ 4 rfl) ?_
        refine lv_iload_n C₀.1.1 C₀.1.2.1 dX3_nearOf_67 rfl (lv_at hl₀ 1 rfl) ?_
        refine lv_iand C₀.1.1 C₀.1.2.1 dX3_nearOf_68 ?_
        refine lv_iload C₀.1.1 C₀.1.2.1 dX3_nearOf_69 (lv_at hl₀ 0 rfl) ?_
        refine lv_iand C₀.1.1 C₀.1.2.1 dX3_nearOf_71 ?_
        exact xr_i C₀ hH₀ hlk₀ hr₀ hQ₀ rfl hAe₀ () trivial (by rw [i1₀]; exact gNe_e hs0₀ hrw₀) rfl dX3_nearOf_72
      · have hdg₀ := gDg_rg row₀ z₀
        refine lv_iload_n C₀.1.1 C₀.1.2.1 dX3_nearOf_15 rfl (lv_at hl₀ 2 rfl) ?_
        refine xw_gets C₀ hH₀ z4₀ (List.mem_cons_of_mem _ (WG_mem 549 (by decide +kernel) (by decide +kernel))) dX3_nearOf_16 ?_
        refine lv_iload_n C₀.1.1 C₀.1.2.1 dX3_nearOf_19 rfl (lv_at hl₀ 1 rfl) ?_
        refine lv_iconst (v := iI 2) C₀.1.1 C₀.1.2.1 dX3_nearOf_20 (by decide) ?_
        refine lv_iload_n C₀.1.1 C₀.1.2.1 dX3_nearOf_21 rfl (lv_at hl₀ 3 rfl) ?_
        refine xi_mul C₀.1.1 C₀.1.2.1 dX3_nearOf_22 ?_
        refine lv_ishr C₀.1.1 C₀.1.2.1 dX3_nearOf_23 ?_
        refine lv_iconst (v := iI 3) C₀.1.1 C₀.1.2.1 dX3_nearOf_24 (by decide) ?_
        refine lv_iand C₀.1.1 C₀.1.2.1 dX3_nearOf_25 ?_
        refine xt_i (y := (iI (gDg row₀ z₀))) (gDg_sh (by omega) (by omega)) ?_
        refine xw_tld C₀ hH₀ y4₀ (z := gDg row₀ z₀) (by omega) (by omega) (by decide) dX3_nearOf_26 ?_
        refine lv_iconst (v := iI 4) C₀.1.1 C₀.1.2.1 dX3_nearOf_27 (by decide) ?_
        refine lv_iload_n C₀.1.1 C₀.1.2.1 dX3_nearOf_28 rfl (lv_at hl₀ 3 rfl) ?_
        refine xi_mul C₀.1.1 C₀.1.2.1 dX3_nearOf_29 ?_
        refine lv_ishl C₀.1.1 C₀.1.2.1 dX3_nearOf_30 ?_
        refine lv_ior C₀.1.1 C₀.1.2.1 dX3_nearOf_31 ?_
        refine xt_i (y := (iI (gNb (z₀ + 1) row₀))) (by rw [i1₀]; exact gNb_s (by omega) hrw₀) ?_
        refine lv_istore_n (lv' := [(2, .int (iI (gNb (z₀ + 1) row₀))), (0, .ref a₀), (1, .int (iI row₀)), (3, .int (iI z₀))]) C₀.1.1 C₀.1.2.1 dX3_nearOf_32 rfl hl₀ (by decide) rfl (fun ls₀ hl₀ => ?_)
        refine lv_iinc (v := iI (z₀ + 1)) (lv' := [(3, .int (iI (z₀ + 1))), (2, .int (iI (gNb (z₀ + 1) row₀))), (0, .ref a₀), (1, .int (iI row₀))]) C₀.1.1 C₀.1.2.1 dX3_nearOf_33 hl₀ (k := 3) rfl (iI_add _ (1)) (by decide) rfl (fun ls₀ hl₀ => ?_)
        refine lv_goto (tgt := 4) C₀.1.1 C₀.1.2.1 dX3_nearOf_36 (by decide) ?_
        exact ih4₀ (gNb (z₀ + 1) row₀) (z₀ + 1) (rfl) (by omega) (by omega) _ _ _ hH₀ (lv_sub hl₀ [2, 3, 1, 0] rfl)
  exact L4₀ (((s₀ 0 - 0) : Int).toNat + 1) 0 0 ((gNb_0 row₀).symm) (by omega) (by omega) _ _ _ hH₀ (lv_sub hl₀ [2, 3, 1, 0] rfl)
abbrev wgX3_changesTo : List Cond := .code yX3_changesTo cX3_changesTo 5 (some .int) :: WG
abbrev rmX3_changesTo : Room := { frames := 3, cells := 0, slots := 0, locals := 62 }
set_option maxHeartbeats 4000000 in
set_option maxRecDepth 100000 in
/-- changesTo -/
theorem c_X3_changesTo (lL₀ : Launch) (D₀ : va_G) (k₀ : Nat → ClassId) (sz₀ : Nat) (a₀ : Nat) (qa₀ : Nat) (qr₀ : Nat) (qs₀ : Nat) (qn₀ : Nat) (qf₀ : Nat) (li₀ : Int) (ch₀ : Int) (hh₀ : Int64) (wa₀ : Int) (ha₀ : Int) (hta₀ : Int64) (fxa₀ : Int64) (ba₀ : Int) (y₀ : Int) (row₀ : Int) (s₀ : Int → Int) (hg₀ : gR s₀ wa₀ ha₀ hta₀ fxa₀ ba₀) (hS₀ : mS s₀) (hy₀ : 0 ≤ y₀ ∧ y₀ < s₀ 1) (hrw₀ : 0 ≤ row₀ ∧ row₀ < mPow (s₀ 0)) : Met lL₀ yX3_changesTo wgX3_changesTo rmX3_changesTo (gPc ZG D₀ (tyk k₀) [.ref a₀, .int (iI y₀), .int (iI row₀)] sz₀ [lO a₀ qa₀ qr₀ qs₀ qn₀ qf₀ li₀ ch₀ hh₀, gO qa₀ wa₀ ha₀ hta₀ fxa₀ ba₀]) (gQi D₀ (tyk k₀) [lO a₀ qa₀ qr₀ qs₀ qn₀ qf₀ li₀ ch₀ hh₀, gO qa₀ wa₀ ha₀ hta₀ fxa₀ ba₀] sz₀ (fun (_ : Unit) => True) (fun (_ : Unit) => (iI (if mFr s₀ y₀ row₀ = true then mChg s₀ y₀ row₀ else 99))) (fun (_ : Unit) => [lO a₀ qa₀ qr₀ qs₀ qn₀ qf₀ li₀ ch₀ hh₀, gO qa₀ wa₀ ha₀ hta₀ fxa₀ ba₀])) 0 0 (va_A [lO a₀ qa₀ qr₀ qs₀ qn₀ qf₀ li₀ ch₀ hh₀, gO qa₀ wa₀ ha₀ hta₀ fxa₀ ba₀] sz₀) := by
  refine xs_met (cc := cX3_changesTo) (maxL := 5) (ret := some .int) (by decide) rfl (Nat.le_of_ble_eq_true rfl) ?_
  intro pP₀ eN₀ sT₀ mI₀ below₀ meth₀ cD₀ hsz₀ args₀ QQ₀ C₀ hr₀ hlk₀ hnm₀ hQ₀ ls₀ H₀ locs₀ hl₀ hH₀
  subst hsz₀
  have hl₀ : lv_has ls₀ 5 [(0, .ref a₀), (1, .int (iI y₀)), (2, .int (iI row₀))] := hl₀
  generalize hAe₀ : va_A [lO a₀ qa₀ qr₀ qs₀ qn₀ qf₀ li₀ ch₀ hh₀, gO qa₀ wa₀ ha₀ hta₀ fxa₀ ba₀] sT₀.heap.size = A₀ at C₀ hH₀ hQ₀
  obtain ⟨rfl, rfl, rfl, rfl, rfl⟩ := hg₀
  obtain ⟨hs0₀, hs1₀, hs2₀, hsh₀, hsf₀⟩ := id hS₀
  have hcl₀ := cells_rg hs0₀ hs1₀
  have hre₀ := row_end hs0₀ hs1₀ hy₀
  have hp4₀ := mPow_rg hs0₀
  have hur₀ := gUn_rg (mS_h hS₀) hs0₀ hre₀ hrw₀
  have hh3₀ := gHr_rg (mS_h hS₀) hre₀
  have hcg₀ := mChg_rg hs0₀ y₀ row₀
  refine lv_iload_n C₀.1.1 C₀.1.2.1 dX3_changesTo_0 rfl (lv_at hl₀ 2 rfl) ?_
  refine lv_aload_n C₀.1.1 C₀.1.2.1 dX3_changesTo_1 rfl (lv_at hl₀ 0 rfl) ?_
  refine xw_get C₀ hH₀ 0 rfl rfl 0 (by decide) (fun w₀ h₀ => List.mem_cons_of_mem _ (iwg_X3 w₀ h₀)) (List.mem_cons_of_mem _ (WG_mem 241 (by decide +kernel) (by decide +kernel))) (v := .ref qa₀) rfl dX3_changesTo_2 ?_
  refine lv_iload_n C₀.1.1 C₀.1.2.1 dX3_changesTo_5 rfl (lv_at hl₀ 1 rfl) ?_
  refine xc_Vi (wr := [lO a₀ qa₀ qr₀ qs₀ qn₀ qf₀ li₀ ch₀ hh₀]) (ws' := fun _ => [lO a₀ qa₀ qr₀ qs₀ qn₀ qf₀ li₀ ch₀ hh₀, gO qa₀ (s₀ 0) (s₀ 1) (pk s₀ 3) (pk s₀ 27) (s₀ 2)]) (As := [.int (iI y₀)]) (rest := [.int (iI row₀)]) C₀ hH₀ (c_X0_heightsOfRow lL₀ D₀ k₀ H₀.size qa₀ (s₀ 0) (s₀ 1) (pk s₀ 3) (pk s₀ 27) (s₀ 2) y₀ s₀ (⟨rfl, rfl, rfl, rfl, rfl⟩) (hS₀) (by omega)) ZT_b (fun _ _ _ => trivial) (cwV 1 C₀.1.2.2.2.2 (WG_V WG_c (WG_mem 566 (by decide +kernel) (by decide +kernel)) (WG_mem 567 (by decide +kernel) (by decide +kernel)) (WG_mem 568 (by decide +kernel) (by decide +kernel)) (WG_mem 64 (by decide +kernel) (by decide +kernel)) (WG_k (WG_mem 569 (by decide +kernel) (by decide +kernel)))) rfl rfl rfl (by decide +kernel) ⟨Nat.le_of_ble_eq_true rfl, Nat.le_of_ble_eq_true rfl⟩) [1] [0] [0, 1] rfl rfl (by decide) (by decide) (by decide) (fun _ => rfl) (by decide) (q0 := 0) rfl rfl rfl hl₀.1 rfl (Nat.le_of_ble_eq_true rfl) dX3_changesTo_6 ⟨Nat.le_of_ble_eq_true rfl, Nat.le_of_ble_eq_true rfl⟩ (fun _ _ H₀ locs₀ hH₀ => ?_)
  refine lv_ixor C₀.1.1 C₀.1.2.1 dX3_changesTo_9 ?_
  refine xt_i (y := (iI (gUn s₀ y₀ row₀))) (gXr_eq hrw₀.1 hh3₀.1) ?_
  refine lv_istore_n (lv' := [(3, .int (iI (gUn s₀ y₀ row₀))), (0, .ref a₀), (1, .int (iI y₀)), (2, .int (iI row₀))]) C₀.1.1 C₀.1.2.1 dX3_changesTo_10 rfl hl₀ (by decide) rfl (fun ls₀ hl₀ => ?_)
  refine lv_iload_n C₀.1.1 C₀.1.2.1 dX3_changesTo_11 rfl (lv_at hl₀ 0 rfl) ?_
  refine lv_iload_n C₀.1.1 C₀.1.2.1 dX3_changesTo_12 rfl (lv_at hl₀ 0 rfl) ?_
  refine lv_iconst (v := iI 1) C₀.1.1 C₀.1.2.1 dX3_changesTo_13 (by decide) ?_
  refine lv_ishr C₀.1.1 C₀.1.2.1 dX3_changesTo_14 ?_
  refine lv_ior C₀.1.1 C₀.1.2.1 dX3_changesTo_15 ?_
  refine lv_bipush (v := iI 85) C₀.1.1 C₀.1.2.1 dX3_changesTo_16 (by decide) ?_
  refine lv_iand C₀.1.1 C₀.1.2.1 dX3_changesTo_18 ?_
  refine xt_i (y := (iI (gU (gUn s₀ y₀ row₀)))) (gU_eq hur₀) ?_
  refine lv_istore (lv' := [(4, .int (iI (gU (gUn s₀ y₀ row₀)))), (3, .int (iI (gUn s₀ y₀ row₀))), (0, .ref a₀), (1, .int (iI y₀)), (2, .int (iI row₀))]) C₀.1.1 C₀.1.2.1 dX3_changesTo_19 hl₀ (by decide) rfl (fun ls₀ hl₀ => ?_)
  have L45₀ : ∀ (v₀ : Int), (v₀ = if mFr s₀ y₀ row₀ = true then mChg s₀ y₀ row₀ else 99) → ∀ (H₀ : Heap) (locs₀ : List Loc) (ls₀ : Array Slot), Hp D₀ A₀ sT₀.heap [lO a₀ qa₀ qr₀ qs₀ qn₀ qf₀ li₀ ch₀ hh₀, gO qa₀ (s₀ 0) (s₀ 1) (pk s₀ 3) (pk s₀ 27) (s₀ 2)] H₀ locs₀ → lv_has ls₀ 5 [(0, .ref a₀), (1, .int (iI y₀)), (2, .int (iI row₀)), (3, .int (iI (gUn s₀ y₀ row₀))), (4, .int (iI (gU (gUn s₀ y₀ row₀))))] → W pP₀ lL₀ eN₀ rmX3_changesTo sT₀ mI₀ args₀ below₀ meth₀ cD₀ H₀ locs₀ 0 0 QQ₀ (F0 mI₀ 45 ls₀ [.int (iI v₀)]) := by
    intro v₀ jv₀ H₀ locs₀ ls₀ hH₀ hl₀
    exact xr_i C₀ hH₀ hlk₀ hr₀ hQ₀ rfl hAe₀ () trivial (by rw [jv₀]) rfl dX3_changesTo_45
  refine lv_iload C₀.1.1 C₀.1.2.1 dX3_changesTo_21 (lv_at hl₀ 0 rfl) ?_
  refine lv_aload_n C₀.1.1 C₀.1.2.1 dX3_changesTo_23 rfl (lv_at hl₀ 2 rfl) ?_
  refine xw_get C₀ hH₀ 0 rfl rfl 0 (by decide) (fun w₀ h₀ => List.mem_cons_of_mem _ (iwg_X3 w₀ h₀)) (List.mem_cons_of_mem _ (WG_mem 241 (by decide +kernel) (by decide +kernel))) (v := .ref qa₀) rfl dX3_changesTo_24 ?_
  refine lv_iload_n C₀.1.1 C₀.1.2.1 dX3_changesTo_27 rfl (lv_at hl₀ 3 rfl) ?_
  refine xc_Vi (wr := [lO a₀ qa₀ qr₀ qs₀ qn₀ qf₀ li₀ ch₀ hh₀]) (ws' := fun _ => [lO a₀ qa₀ qr₀ qs₀ qn₀ qf₀ li₀ ch₀ hh₀, gO qa₀ (s₀ 0) (s₀ 1) (pk s₀ 3) (pk s₀ 27) (s₀ 2)]) (As := [.int (iI y₀)]) (rest := [.int (iI (gU (gUn s₀ y₀ row₀)))]) C₀ hH₀ (c_X0_fixedOfRow lL₀ D₀ k₀ H₀.size qa₀ (s₀ 0) (s₀ 1) (pk s₀ 3) (pk s₀ 27) (s₀ 2) y₀ s₀ (⟨rfl, rfl, rfl, rfl, rfl⟩) (hS₀) (by omega)) ZT_b (fun _ _ _ => trivial) (cwV 1 C₀.1.2.2.2.2 (WG_V WG_c (WG_mem 578 (by decide +kernel) (by decide +kernel)) (WG_mem 579 (by decide +kernel) (by decide +kernel)) (WG_mem 580 (by decide +kernel) (by decide +kernel)) (WG_mem 64 (by decide +kernel) (by decide +kernel)) (WG_k (WG_mem 581 (by decide +kernel) (by decide +kernel)))) rfl rfl rfl (by decide +kernel) ⟨Nat.le_of_ble_eq_true rfl, Nat.le_of_ble_eq_true rfl⟩) [1] [0] [0, 1] rfl rfl (by decide) (by decide) (by decide) (fun _ => rfl) (by decide) (q0 := 0) rfl rfl rfl hl₀.1 rfl (Nat.le_of_ble_eq_true rfl) dX3_changesTo_28 ⟨Nat.le_of_ble_eq_true rfl, Nat.le_of_ble_eq_true rfl⟩ (fun _ _ H₀ locs₀ hH₀ => ?_)
  refine lv_iand C₀.1.1 C₀.1.2.1 dX3_changesTo_31 ?_
  refine lv_if_eq (tgt := 40) C₀.1.1 C₀.1.2.1 dX3_changesTo_32 (by decide) (fun h_1₀ => ?_) (fun h_1₀ => ?_)
  · refine lv_iload C₀.1.1 C₀.1.2.1 dX3_changesTo_40 (lv_at hl₀ 0 rfl) ?_
    have hm4₀ : 0 ≤ gU (gUn s₀ y₀ row₀) ∧ gU (gUn s₀ y₀ row₀) < 256 := m4_rg _ _ _ _
    refine xc_Si (wr := [lO a₀ qa₀ qr₀ qs₀ qn₀ qf₀ li₀ ch₀ hh₀, gO qa₀ (s₀ 0) (s₀ 1) (pk s₀ 3) (pk s₀ 27) (s₀ 2)]) (ws' := fun _ => [lO a₀ qa₀ qr₀ qs₀ qn₀ qf₀ li₀ ch₀ hh₀, gO qa₀ (s₀ 0) (s₀ 1) (pk s₀ 3) (pk s₀ 27) (s₀ 2)]) (As := [.int (iI (gU (gUn s₀ y₀ row₀)))]) (rest := []) C₀ hH₀ (c_J6_bitCount_0f7a4 lL₀ D₀ k₀ H₀.size (gU (gUn s₀ y₀ row₀)) (by omega)) ZT_b (fun _ _ _ => trivial) (va_cwS 1 C₀.1.2.2.2.2 (WG_S WG_c (WG_mem 582 (by decide +kernel) (by decide +kernel)) (WG_mem 502 (by decide +kernel) (by decide +kernel)) (WG_mem 78 (by decide +kernel) (by decide +kernel)) (WG_k (WG_mem 503 (by decide +kernel) (by decide +kernel)))) rfl rfl rfl (by decide +kernel) ⟨Nat.le_of_ble_eq_true rfl, Nat.le_of_ble_eq_true rfl⟩) [] [0, 1] [0, 1] rfl rfl (by decide) (by decide) (by decide) (fun _ => rfl) (by decide) rfl hl₀.1 rfl (Nat.le_of_ble_eq_true rfl) dX3_changesTo_42 ⟨Nat.le_of_ble_eq_true rfl, Nat.le_of_ble_eq_true rfl⟩ (fun _ _ H₀ locs₀ hH₀ => ?_)
    exact L45₀ ((popN 4 (gU (gUn s₀ y₀ row₀)).toNat : Nat) : Int) ((by rw [if_pos ((gUn_fr (mS_h hS₀) (mS_f hS₀) hs0₀ hre₀ hy₀.1 hrw₀).mp h_1₀)]; exact gUn_chg (mS_h hS₀) hs0₀ hre₀ hy₀.1 hrw₀)) _ _ _ hH₀ (lv_sub hl₀ [2, 3, 4, 1, 0] rfl)
  · refine lv_bipush (v := iI 99) C₀.1.1 C₀.1.2.1 dX3_changesTo_35 (by decide) ?_
    refine lv_goto (tgt := 45) C₀.1.1 C₀.1.2.1 dX3_changesTo_37 (by decide) ?_
    exact L45₀ 99 ((by rw [if_neg (fun q₀ => h_1₀ ((gUn_fr (mS_h hS₀) (mS_f hS₀) hs0₀ hre₀ hy₀.1 hrw₀).mpr q₀))])) _ _ _ hH₀ (lv_sub hl₀ [2, 3, 4, 1, 0] rfl)
abbrev wgX3_fewestOf : List Cond := .code yX3_fewestOf cX3_fewestOf 5 (some .int) :: WG
abbrev rmX3_fewestOf : Room := { frames := 1, cells := 0, slots := 0, locals := 23 }
set_option maxHeartbeats 4000000 in
set_option maxRecDepth 100000 in
/-- fewestOf -/
theorem c_X3_fewestOf (lL₀ : Launch) (D₀ : va_G) (k₀ : Nat → ClassId) (sz₀ : Nat) (a₀ : Nat) (qa₀ : Nat) (qr₀ : Nat) (qs₀ : Nat) (qn₀ : Nat) (qf₀ : Nat) (li₀ : Int) (ch₀ : Int) (hh₀ : Int64) (sd₀ : Int → Int) (fw₀ : Int → Int) (y₀ : Int) (nr₀ : Int) (hli₀ : 0 ≤ li₀ ∧ li₀ ≤ 68) (hfw₀ : fwR fw₀) (hy₀ : 0 ≤ y₀ ∧ y₀ < 6) : Met lL₀ yX3_fewestOf wgX3_fewestOf rmX3_fewestOf (gPc ZT D₀ (tyk k₀) [.ref a₀, .int (iI y₀), .int (iI nr₀)] sz₀ [lO a₀ qa₀ qr₀ qs₀ qn₀ qf₀ li₀ ch₀ hh₀, (qs₀, .inl (k₀ 0, 68, .inl (ia sd₀))), (qf₀, .inl (k₀ 0, 408, .inl (ia fw₀)))]) (gQi D₀ (tyk k₀) [lO a₀ qa₀ qr₀ qs₀ qn₀ qf₀ li₀ ch₀ hh₀, (qs₀, .inl (k₀ 0, 68, .inl (ia sd₀))), (qf₀, .inl (k₀ 0, 408, .inl (ia fw₀)))] sz₀ (fun (_ : Unit) => True) (fun (_ : Unit) => (iI (lmI (fun j₀ => fw₀ (y₀ * 68 + j₀)) (fun j₀ => gMeet (sd₀ j₀) nr₀) li₀))) (fun (_ : Unit) => [lO a₀ qa₀ qr₀ qs₀ qn₀ qf₀ li₀ ch₀ hh₀, (qs₀, .inl (k₀ 0, 68, .inl (ia sd₀))), (qf₀, .inl (k₀ 0, 408, .inl (ia fw₀)))])) 0 0 (va_A [lO a₀ qa₀ qr₀ qs₀ qn₀ qf₀ li₀ ch₀ hh₀, (qs₀, .inl (k₀ 0, 68, .inl (ia sd₀))), (qf₀, .inl (k₀ 0, 408, .inl (ia fw₀)))] sz₀) := by
  refine xs_met (cc := cX3_fewestOf) (maxL := 5) (ret := some .int) (by decide) rfl (Nat.le_of_ble_eq_true rfl) ?_
  intro pP₀ eN₀ sT₀ mI₀ below₀ meth₀ cD₀ hsz₀ args₀ QQ₀ C₀ hr₀ hlk₀ hnm₀ hQ₀ ls₀ H₀ locs₀ hl₀ hH₀
  subst hsz₀
  have hl₀ : lv_has ls₀ 5 [(0, .ref a₀), (1, .int (iI y₀)), (2, .int (iI nr₀))] := hl₀
  generalize hAe₀ : va_A [lO a₀ qa₀ qr₀ qs₀ qn₀ qf₀ li₀ ch₀ hh₀, (qs₀, .inl (k₀ 0, 68, .inl (ia sd₀))), (qf₀, .inl (k₀ 0, 408, .inl (ia fw₀)))] sT₀.heap.size = A₀ at C₀ hH₀ hQ₀
  refine lv_bipush (v := iI 99) C₀.1.1 C₀.1.2.1 dX3_fewestOf_0 (by decide) ?_
  refine lv_istore_n (lv' := [(3, .int (iI 99)), (0, .ref a₀), (1, .int (iI y₀)), (2, .int (iI nr₀))]) C₀.1.1 C₀.1.2.1 dX3_fewestOf_2 rfl hl₀ (by decide) rfl (fun ls₀ hl₀ => ?_)
  refine lv_iconst (v := iI 0) C₀.1.1 C₀.1.2.1 dX3_fewestOf_3 (by decide) ?_
  refine lv_istore (lv' := [(4, .int (iI 0)), (3, .int (iI 99)), (0, .ref a₀), (1, .int (iI y₀)), (2, .int (iI nr₀))]) C₀.1.1 C₀.1.2.1 dX3_fewestOf_4 hl₀ (by decide) rfl (fun ls₀ hl₀ => ?_)
  have L6₀ : ∀ (nn₀ : Nat), ∀ (n₀ : Int) (z₀ : Int), (n₀ = lmI (fun j₀ => fw₀ (y₀ * 68 + j₀)) (fun j₀ => gMeet (sd₀ j₀) nr₀) z₀) → (0 ≤ z₀ ∧ z₀ ≤ li₀) → (0 ≤ n₀ ∧ n₀ ≤ 99) → ((li₀ - z₀) < (nn₀ : Int)) → ∀ (H₀ : Heap) (locs₀ : List Loc) (ls₀ : Array Slot), Hp D₀ A₀ sT₀.heap [lO a₀ qa₀ qr₀ qs₀ qn₀ qf₀ li₀ ch₀ hh₀, (qs₀, .inl (k₀ 0, 68, .inl (ia sd₀))), (qf₀, .inl (k₀ 0, 408, .inl (ia fw₀)))] H₀ locs₀ → lv_has ls₀ 5 [(0, .ref a₀), (1, .int (iI y₀)), (2, .int (iI nr₀)), (3, .int (iI n₀)), (4, .int (iI z₀))] → W pP₀ lL₀ eN₀ rmX3_fewestOf sT₀ mI₀ args₀ below₀ meth₀ cD₀ H₀ locs₀ 0 0 QQ₀ (F0 mI₀ 6 ls₀ []) := by
    intro nn₀
    induction nn₀ with
    | zero => intro n₀ z₀ i1₀ i2₀ i3₀ hm₀; exact absurd hm₀ (by omega)
    | succ nn₀ ih6₀ =>
      intro n₀ z₀ i1₀ i2₀ i3₀ hm6₀ H₀ locs₀ ls₀ hH₀ hl₀
      refine lv_iload C₀.1.1 C₀.1.2.1 dX3_fewestOf_6 (lv_at hl₀ 4 rfl) ?_
      refine lv_aload_n C₀.1.1 C₀.1.2.1 dX3_fewestOf_8 rfl (lv_at hl₀ 0 rfl) ?_
      refine xw_get C₀ hH₀ 0 rfl rfl 5 (by decide) (fun w₀ h₀ => List.mem_cons_of_mem _ (iwg_X3 w₀ h₀)) (List.mem_cons_of_mem _ (WG_mem 246 (by decide +kernel) (by decide +kernel))) (v := .int (iI li₀)) rfl dX3_fewestOf_9 ?_
      refine xi_cge (tgt := 54) C₀.1.1 C₀.1.2.1 dX3_fewestOf_12 (by decide) (by omega) (by omega) (fun h_1₀ => ?_) (fun h_1₀ => ?_)
      · refine lv_iload_n C₀.1.1 C₀.1.2.1 dX3_fewestOf_54 rfl (lv_at hl₀ 3 rfl) ?_
        exact xr_i C₀ hH₀ hlk₀ hr₀ hQ₀ rfl hAe₀ () trivial (by rw [i1₀, show z₀ = li₀ by omega]) rfl dX3_fewestOf_55
      · refine lv_iload C₀.1.1 C₀.1.2.1 dX3_fewestOf_15 (lv_at hl₀ 4 rfl) ?_
        refine lv_bipush (v := iI 68) C₀.1.1 C₀.1.2.1 dX3_fewestOf_17 (by decide) ?_
        refine xi_cge (tgt := 54) C₀.1.1 C₀.1.2.1 dX3_fewestOf_19 (by decide) (by omega) (by omega) (fun h_2₀ => ?_) (fun h_2₀ => ?_)
        · refine lv_iload_n C₀.1.1 C₀.1.2.1 dX3_fewestOf_54 rfl (lv_at hl₀ 3 rfl) ?_
          exact xr_i C₀ hH₀ hlk₀ hr₀ hQ₀ rfl hAe₀ () trivial (by rw [i1₀, show z₀ = li₀ by omega]) rfl dX3_fewestOf_55
        · have L48₀ : ∀ (n3₀ : Int), (n3₀ = if gMeet (sd₀ z₀) nr₀ = true then min n₀ (fw₀ (y₀ * 68 + z₀)) else n₀) → (0 ≤ n3₀ ∧ n3₀ ≤ 99) → ∀ (H₀ : Heap) (locs₀ : List Loc) (ls₀ : Array Slot), Hp D₀ A₀ sT₀.heap [lO a₀ qa₀ qr₀ qs₀ qn₀ qf₀ li₀ ch₀ hh₀, (qs₀, .inl (k₀ 0, 68, .inl (ia sd₀))), (qf₀, .inl (k₀ 0, 408, .inl (ia fw₀)))] H₀ locs₀ → lv_has ls₀ 5 [(0, .ref a₀), (1, .int (iI y₀)), (2, .int (iI nr₀)), (3, .int (iI n3₀)), (4, .int (iI z₀))] → W pP₀ lL₀ eN₀ rmX3_fewestOf sT₀ mI₀ args₀ below₀ meth₀ cD₀ H₀ locs₀ 0 0 QQ₀ (F0 mI₀ 48 ls₀ []) := by
            intro n3₀ je₀ je2₀ H₀ locs₀ ls₀ hH₀ hl₀
            refine lv_iinc (v := iI (z₀ + 1)) (lv' := [(4, .int (iI (z₀ + 1))), (0, .ref a₀), (1, .int (iI y₀)), (2, .int (iI nr₀)), (3, .int (iI n3₀))]) C₀.1.1 C₀.1.2.1 dX3_fewestOf_48 hl₀ (k := 4) rfl (iI_add _ (1)) (by decide) rfl (fun ls₀ hl₀ => ?_)
            refine lv_goto (tgt := 6) C₀.1.1 C₀.1.2.1 dX3_fewestOf_51 (by decide) ?_
            exact ih6₀ n3₀ (z₀ + 1) ((by rw [lmI_s i2₀.1, ← i1₀]; exact je₀)) (by omega) (je2₀) (by omega) _ _ _ hH₀ (lv_sub hl₀ [1, 2, 3, 4, 0] rfl)
          refine lv_aload_n C₀.1.1 C₀.1.2.1 dX3_fewestOf_22 rfl (lv_at hl₀ 0 rfl) ?_
          refine xw_get C₀ hH₀ 0 rfl rfl 2 (by decide) (fun w₀ h₀ => List.mem_cons_of_mem _ (iwg_X3 w₀ h₀)) (List.mem_cons_of_mem _ (WG_mem 243 (by decide +kernel) (by decide +kernel))) (v := .ref qs₀) rfl dX3_fewestOf_23 ?_
          refine lv_iload C₀.1.1 C₀.1.2.1 dX3_fewestOf_26 (lv_at hl₀ 4 rfl) ?_
          refine xw_ild C₀ hH₀ 1 0 rfl rfl (z := z₀) (by omega) (by omega) (by decide) dX3_fewestOf_28 ?_
          refine lv_iload_n C₀.1.1 C₀.1.2.1 dX3_fewestOf_29 rfl (lv_at hl₀ 2 rfl) ?_
          refine xc_Si (wr := [lO a₀ qa₀ qr₀ qs₀ qn₀ qf₀ li₀ ch₀ hh₀, (qs₀, .inl (k₀ 0, 68, .inl (ia sd₀))), (qf₀, .inl (k₀ 0, 408, .inl (ia fw₀)))]) (ws' := fun _ => [lO a₀ qa₀ qr₀ qs₀ qn₀ qf₀ li₀ ch₀ hh₀, (qs₀, .inl (k₀ 0, 68, .inl (ia sd₀))), (qf₀, .inl (k₀ 0, 408, .inl (ia fw₀)))]) (As := [.int (iI (sd₀ z₀)), .int (iI nr₀)]) (rest := []) C₀ hH₀ (c_X3_meets lL₀ D₀ k₀ H₀.size (sd₀ z₀) nr₀ ) ZT_b (fun _ _ _ => trivial) (va_cwS 2 C₀.1.2.2.2.2 (WG_S WG_c (WG_mem 551 (by decide +kernel) (by decide +kernel)) (WG_mem 552 (by decide +kernel) (by decide +kernel)) (WG_mem 71 (by decide +kernel) (by decide +kernel)) (WG_k (WG_mem 553 (by decide +kernel) (by decide +kernel)))) rfl rfl rfl (by decide +kernel) ⟨Nat.le_of_ble_eq_true rfl, Nat.le_of_ble_eq_true rfl⟩) [] [0, 1, 2] [0, 1, 2] rfl rfl (by decide) (by decide) (by decide) (fun _ => rfl) (by decide) rfl hl₀.1 rfl (Nat.le_of_ble_eq_true rfl) dX3_fewestOf_30 ⟨Nat.le_of_ble_eq_true rfl, Nat.le_of_ble_eq_true rfl⟩ (fun _ _ H₀ locs₀ hH₀ => ?_)
          refine xb_eq (tgt := 48) C₀.1.1 C₀.1.2.1 dX3_fewestOf_33 (by decide) (fun h_3₀ => ?_) (fun h_3₀ => ?_)
          · exact L48₀ n₀ ((by rw [h_3₀]; rfl)) (by omega) _ _ _ hH₀ (lv_sub hl₀ [0, 1, 2, 3, 4] rfl)
          · refine lv_iload_n C₀.1.1 C₀.1.2.1 dX3_fewestOf_36 rfl (lv_at hl₀ 3 rfl) ?_
            refine lv_aload_n C₀.1.1 C₀.1.2.1 dX3_fewestOf_37 rfl (lv_at hl₀ 0 rfl) ?_
            refine lv_iload_n C₀.1.1 C₀.1.2.1 dX3_fewestOf_38 rfl (lv_at hl₀ 1 rfl) ?_
            refine lv_iload C₀.1.1 C₀.1.2.1 dX3_fewestOf_39 (lv_at hl₀ 4 rfl) ?_
            refine xc_Vi (wr := [(qs₀, .inl (k₀ 0, 68, .inl (ia sd₀)))]) (ws' := fun _ => [lO a₀ qa₀ qr₀ qs₀ qn₀ qf₀ li₀ ch₀ hh₀, (qs₀, .inl (k₀ 0, 68, .inl (ia sd₀))), (qf₀, .inl (k₀ 0, 408, .inl (ia fw₀)))]) (As := [.int (iI y₀), .int (iI z₀)]) (rest := [.int (iI n₀)]) C₀ hH₀ (c_X3_fewestAt lL₀ D₀ k₀ H₀.size a₀ qa₀ qr₀ qs₀ qn₀ qf₀ li₀ ch₀ hh₀ fw₀ y₀ z₀ (by omega) (by omega)) ZT_b (fun _ _ _ => trivial) (cwV 2 C₀.1.2.2.2.2 (WG_V WG_c (WG_mem 591 (by decide +kernel) (by decide +kernel)) (WG_mem 593 (by decide +kernel) (by decide +kernel)) (WG_mem 22 (by decide +kernel) (by decide +kernel)) (WG_mem 71 (by decide +kernel) (by decide +kernel)) (WG_k (WG_mem 594 (by decide +kernel) (by decide +kernel)))) rfl rfl rfl (by decide +kernel) ⟨Nat.le_of_ble_eq_true rfl, Nat.le_of_ble_eq_true rfl⟩) [0, 2] [1] [1, 0, 2] rfl rfl (by decide) (by decide) (by decide) (fun _ => rfl) (by decide) (q0 := 0) rfl rfl rfl hl₀.1 rfl (Nat.le_of_ble_eq_true rfl) dX3_fewestOf_41 ⟨Nat.le_of_ble_eq_true rfl, Nat.le_of_ble_eq_true rfl⟩ (fun _ _ H₀ locs₀ hH₀ => ?_)
            refine xt_i (y := (iI (fw₀ (y₀ * 68 + z₀)))) (by rw [fw_cell hy₀ (by omega)]) ?_
            have hfz₀ := hfw₀ (y₀ * 68 + z₀) (by omega) (by omega)
            refine va_mmin C₀.1.1 C₀.1.2.1 (by rw [C₀.1.2.2.1]; exact hl₀.1.symm) C₀.1.2.2.2.1 (C₀.1.2.2.2.2 (.methodLink RX3 99 Lib.Math.min.name) (List.mem_cons_of_mem _ (WG_mem 595 (by decide +kernel) (by decide +kernel)))) (C₀.1.2.2.2.2 (.static Lib.Math.min.name) (List.mem_cons_of_mem _ (WG_mem 596 (by decide +kernel) (by decide +kernel)))) (C₀.1.2.2.2.2 (.initialized "java/lang/Math") (List.mem_cons_of_mem _ (WG_mem 68 (by decide +kernel) (by decide +kernel)))) (C₀.1.2.2.2.2 (.code Lib.Math.min.name Lib.Math.min.code 2 (some .int)) (List.mem_cons_of_mem _ (WG_mem 597 (by decide +kernel) (by decide +kernel)))) (Nat.le_of_ble_eq_true rfl) (Nat.le_of_ble_eq_true rfl) (Nat.zero_le _) (Nat.zero_le _) dX3_fewestOf_44 ?_
            refine xt_i (y := iI (min n₀ (fw₀ (y₀ * 68 + z₀)))) (iI_min (by omega) (by omega)) ?_
            refine lv_istore_n (lv' := [(3, .int (iI (min n₀ (fw₀ (y₀ * 68 + z₀))))), (0, .ref a₀), (1, .int (iI y₀)), (2, .int (iI nr₀)), (4, .int (iI z₀))]) C₀.1.1 C₀.1.2.1 dX3_fewestOf_47 rfl hl₀ (by decide) rfl (fun ls₀ hl₀ => ?_)
            exact L48₀ (min n₀ (fw₀ (y₀ * 68 + z₀))) ((by rw [if_pos h_3₀])) (by omega) _ _ _ hH₀ (lv_sub hl₀ [1, 2, 3, 0, 4] rfl)
  exact L6₀ (((li₀ - 0) : Int).toNat + 1) 99 0 (rfl) (by omega) (by omega) (by omega) _ _ _ hH₀ (lv_sub hl₀ [2, 3, 4, 1, 0] rfl)
abbrev wgX3_firstThatLeaves : List Cond := .code yX3_firstThatLeaves cX3_firstThatLeaves 5 (some .int) :: WG
abbrev rmX3_firstThatLeaves : Room := { frames := 1, cells := 0, slots := 0, locals := 23 }
set_option maxHeartbeats 4000000 in
set_option maxRecDepth 100000 in
/-- firstThatLeaves -/
theorem c_X3_firstThatLeaves (lL₀ : Launch) (D₀ : va_G) (k₀ : Nat → ClassId) (sz₀ : Nat) (a₀ : Nat) (qa₀ : Nat) (qr₀ : Nat) (qs₀ : Nat) (qn₀ : Nat) (qf₀ : Nat) (li₀ : Int) (ch₀ : Int) (hh₀ : Int64) (sd₀ : Int → Int) (fw₀ : Int → Int) (y₀ : Int) (nr₀ : Int) (lv₀ : Int) (hli₀ : 0 ≤ li₀ ∧ li₀ ≤ 68) (hfw₀ : fwR fw₀) (hy₀ : 0 ≤ y₀ ∧ y₀ < 6) (hlv₀ : -2147483648 ≤ lv₀ ∧ lv₀ < 2147483648) : Met lL₀ yX3_firstThatLeaves wgX3_firstThatLeaves rmX3_firstThatLeaves (gPc ZT D₀ (tyk k₀) [.ref a₀, .int (iI y₀), .int (iI nr₀), .int (iI lv₀)] sz₀ [lO a₀ qa₀ qr₀ qs₀ qn₀ qf₀ li₀ ch₀ hh₀, (qs₀, .inl (k₀ 0, 68, .inl (ia sd₀))), (qf₀, .inl (k₀ 0, 408, .inl (ia fw₀)))]) (gQi D₀ (tyk k₀) [lO a₀ qa₀ qr₀ qs₀ qn₀ qf₀ li₀ ch₀ hh₀, (qs₀, .inl (k₀ 0, 68, .inl (ia sd₀))), (qf₀, .inl (k₀ 0, 408, .inl (ia fw₀)))] sz₀ (fun (_ : Unit) => True) (fun (_ : Unit) => (iI (fdI (gPkP fw₀ sd₀ y₀ nr₀ lv₀) li₀ 0))) (fun (_ : Unit) => [lO a₀ qa₀ qr₀ qs₀ qn₀ qf₀ li₀ ch₀ hh₀, (qs₀, .inl (k₀ 0, 68, .inl (ia sd₀))), (qf₀, .inl (k₀ 0, 408, .inl (ia fw₀)))])) 0 0 (va_A [lO a₀ qa₀ qr₀ qs₀ qn₀ qf₀ li₀ ch₀ hh₀, (qs₀, .inl (k₀ 0, 68, .inl (ia sd₀))), (qf₀, .inl (k₀ 0, 408, .inl (ia fw₀)))] sz₀) := by
  refine xs_met (cc := cX3_firstThatLeaves) (maxL := 5) (ret := some .int) (by decide) rfl (Nat.le_of_ble_eq_true rfl) ?_
  intro pP₀ eN₀ sT₀ mI₀ below₀ meth₀ cD₀ hsz₀ args₀ QQ₀ C₀ hr₀ hlk₀ hnm₀ hQ₀ ls₀ H₀ locs₀ hl₀ hH₀
  subst hsz₀
  have hl₀ : lv_has ls₀ 5 [(0, .ref a₀), (1, .int (iI y₀)), (2, .int (iI nr₀)), (3, .int (iI lv₀))] := hl₀
  generalize hAe₀ : va_A [lO a₀ qa₀ qr₀ qs₀ qn₀ qf₀ li₀ ch₀ hh₀, (qs₀, .inl (k₀ 0, 68, .inl (ia sd₀))), (qf₀, .inl (k₀ 0, 408, .inl (ia fw₀)))] sT₀.heap.size = A₀ at C₀ hH₀ hQ₀
  refine lv_iconst (v := iI 0) C₀.1.1 C₀.1.2.1 dX3_firstThatLeaves_0 (by decide) ?_
  refine lv_istore (lv' := [(4, .int (iI 0)), (0, .ref a₀), (1, .int (iI y₀)), (2, .int (iI nr₀)), (3, .int (iI lv₀))]) C₀.1.1 C₀.1.2.1 dX3_firstThatLeaves_1 hl₀ (by decide) rfl (fun ls₀ hl₀ => ?_)
  have L3₀ : ∀ (nn₀ : Nat), ∀ (z₀ : Int), (fdI (gPkP fw₀ sd₀ y₀ nr₀ lv₀) li₀ z₀ = fdI (gPkP fw₀ sd₀ y₀ nr₀ lv₀) li₀ 0) → (0 ≤ z₀ ∧ z₀ ≤ li₀) → ((li₀ - z₀) < (nn₀ : Int)) → ∀ (H₀ : Heap) (locs₀ : List Loc) (ls₀ : Array Slot), Hp D₀ A₀ sT₀.heap [lO a₀ qa₀ qr₀ qs₀ qn₀ qf₀ li₀ ch₀ hh₀, (qs₀, .inl (k₀ 0, 68, .inl (ia sd₀))), (qf₀, .inl (k₀ 0, 408, .inl (ia fw₀)))] H₀ locs₀ → lv_has ls₀ 5 [(0, .ref a₀), (1, .int (iI y₀)), (2, .int (iI nr₀)), (3, .int (iI lv₀)), (4, .int (iI z₀))] → W pP₀ lL₀ eN₀ rmX3_firstThatLeaves sT₀ mI₀ args₀ below₀ meth₀ cD₀ H₀ locs₀ 0 0 QQ₀ (F0 mI₀ 3 ls₀ []) := by
    intro nn₀
    induction nn₀ with
    | zero => intro z₀ i1₀ i2₀ hm₀; exact absurd hm₀ (by omega)
    | succ nn₀ ih3₀ =>
      intro z₀ i1₀ i2₀ hm3₀ H₀ locs₀ ls₀ hH₀ hl₀
      have L50₀ : (z₀ = fdI (gPkP fw₀ sd₀ y₀ nr₀ lv₀) li₀ 0) → ∀ (H₀ : Heap) (locs₀ : List Loc) (ls₀ : Array Slot), Hp D₀ A₀ sT₀.heap [lO a₀ qa₀ qr₀ qs₀ qn₀ qf₀ li₀ ch₀ hh₀, (qs₀, .inl (k₀ 0, 68, .inl (ia sd₀))), (qf₀, .inl (k₀ 0, 408, .inl (ia fw₀)))] H₀ locs₀ → lv_has ls₀ 5 [(0, .ref a₀), (1, .int (iI y₀)), (2, .int (iI nr₀)), (3, .int (iI lv₀)), (4, .int (iI z₀))] → W pP₀ lL₀ eN₀ rmX3_firstThatLeaves sT₀ mI₀ args₀ below₀ meth₀ cD₀ H₀ locs₀ 0 0 QQ₀ (F0 mI₀ 50 ls₀ []) := by
        intro  je₀ H₀ locs₀ ls₀ hH₀ hl₀
        refine lv_iload C₀.1.1 C₀.1.2.1 dX3_firstThatLeaves_50 (lv_at hl₀ 4 rfl) ?_
        exact xr_i C₀ hH₀ hlk₀ hr₀ hQ₀ rfl hAe₀ () trivial (by rw [je₀]) rfl dX3_firstThatLeaves_52
      refine lv_iload C₀.1.1 C₀.1.2.1 dX3_firstThatLeaves_3 (lv_at hl₀ 4 rfl) ?_
      refine lv_aload_n C₀.1.1 C₀.1.2.1 dX3_firstThatLeaves_5 rfl (lv_at hl₀ 0 rfl) ?_
      refine xw_get C₀ hH₀ 0 rfl rfl 5 (by decide) (fun w₀ h₀ => List.mem_cons_of_mem _ (iwg_X3 w₀ h₀)) (List.mem_cons_of_mem _ (WG_mem 246 (by decide +kernel) (by decide +kernel))) (v := .int (iI li₀)) rfl dX3_firstThatLeaves_6 ?_
      refine xi_cge (tgt := 50) C₀.1.1 C₀.1.2.1 dX3_firstThatLeaves_9 (by decide) (by omega) (by omega) (fun h_1₀ => ?_) (fun h_1₀ => ?_)
      · exact L50₀  ((by rw [← i1₀, fdI_eq (j := z₀), if_neg (fun q₀ => absurd q₀.1 (by omega))])) _ _ _ hH₀ (lv_sub hl₀ [0, 1, 2, 3, 4] rfl)
      · refine lv_iload C₀.1.1 C₀.1.2.1 dX3_firstThatLeaves_12 (lv_at hl₀ 4 rfl) ?_
        refine lv_bipush (v := iI 68) C₀.1.1 C₀.1.2.1 dX3_firstThatLeaves_14 (by decide) ?_
        refine xi_cge (tgt := 50) C₀.1.1 C₀.1.2.1 dX3_firstThatLeaves_16 (by decide) (by omega) (by omega) (fun h_2₀ => ?_) (fun h_2₀ => ?_)
        · exact L50₀  ((by rw [← i1₀, fdI_eq (j := z₀), if_neg (fun q₀ => absurd q₀.1 (by omega))])) _ _ _ hH₀ (lv_sub hl₀ [0, 1, 2, 3, 4] rfl)
        · have L44₀ : (¬ gPkP fw₀ sd₀ y₀ nr₀ lv₀ z₀ = true) → ∀ (H₀ : Heap) (locs₀ : List Loc) (ls₀ : Array Slot), Hp D₀ A₀ sT₀.heap [lO a₀ qa₀ qr₀ qs₀ qn₀ qf₀ li₀ ch₀ hh₀, (qs₀, .inl (k₀ 0, 68, .inl (ia sd₀))), (qf₀, .inl (k₀ 0, 408, .inl (ia fw₀)))] H₀ locs₀ → lv_has ls₀ 5 [(0, .ref a₀), (1, .int (iI y₀)), (2, .int (iI nr₀)), (3, .int (iI lv₀)), (4, .int (iI z₀))] → W pP₀ lL₀ eN₀ rmX3_firstThatLeaves sT₀ mI₀ args₀ below₀ meth₀ cD₀ H₀ locs₀ 0 0 QQ₀ (F0 mI₀ 44 ls₀ []) := by
            intro  hno₀ H₀ locs₀ ls₀ hH₀ hl₀
            refine lv_iinc (v := iI (z₀ + 1)) (lv' := [(4, .int (iI (z₀ + 1))), (0, .ref a₀), (1, .int (iI y₀)), (2, .int (iI nr₀)), (3, .int (iI lv₀))]) C₀.1.1 C₀.1.2.1 dX3_firstThatLeaves_44 hl₀ (k := 4) rfl (iI_add _ (1)) (by decide) rfl (fun ls₀ hl₀ => ?_)
            refine lv_goto (tgt := 3) C₀.1.1 C₀.1.2.1 dX3_firstThatLeaves_47 (by decide) ?_
            exact ih3₀ (z₀ + 1) ((by rw [← i1₀, fdI_eq (j := z₀), if_pos ⟨by omega, hno₀⟩])) (by omega) (by omega) _ _ _ hH₀ (lv_sub hl₀ [1, 2, 3, 4, 0] rfl)
          refine lv_aload_n C₀.1.1 C₀.1.2.1 dX3_firstThatLeaves_19 rfl (lv_at hl₀ 0 rfl) ?_
          refine xw_get C₀ hH₀ 0 rfl rfl 2 (by decide) (fun w₀ h₀ => List.mem_cons_of_mem _ (iwg_X3 w₀ h₀)) (List.mem_cons_of_mem _ (WG_mem 243 (by decide +kernel) (by decide +kernel))) (v := .ref qs₀) rfl dX3_firstThatLeaves_20 ?_
          refine lv_iload C₀.1.1 C₀.1.2.1 dX3_firstThatLeaves_23 (lv_at hl₀ 4 rfl) ?_
          refine xw_ild C₀ hH₀ 1 0 rfl rfl (z := z₀) (by omega) (by omega) (by decide) dX3_firstThatLeaves_25 ?_
          refine lv_iload_n C₀.1.1 C₀.1.2.1 dX3_firstThatLeaves_26 rfl (lv_at hl₀ 2 rfl) ?_
          refine xc_Si (wr := [lO a₀ qa₀ qr₀ qs₀ qn₀ qf₀ li₀ ch₀ hh₀, (qs₀, .inl (k₀ 0, 68, .inl (ia sd₀))), (qf₀, .inl (k₀ 0, 408, .inl (ia fw₀)))]) (ws' := fun _ => [lO a₀ qa₀ qr₀ qs₀ qn₀ qf₀ li₀ ch₀ hh₀, (qs₀, .inl (k₀ 0, 68, .inl (ia sd₀))), (qf₀, .inl (k₀ 0, 408, .inl (ia fw₀)))]) (As := [.int (iI (sd₀ z₀)), .int (iI nr₀)]) (rest := []) C₀ hH₀ (c_X3_meets lL₀ D₀ k₀ H₀.size (sd₀ z₀) nr₀ ) ZT_b (fun _ _ _ => trivial) (va_cwS 2 C₀.1.2.2.2.2 (WG_S WG_c (WG_mem 551 (by decide +kernel) (by decide +kernel)) (WG_mem 552 (by decide +kernel) (by decide +kernel)) (WG_mem 71 (by decide +kernel) (by decide +kernel)) (WG_k (WG_mem 553 (by decide +kernel) (by decide +kernel)))) rfl rfl rfl (by decide +kernel) ⟨Nat.le_of_ble_eq_true rfl, Nat.le_of_ble_eq_true rfl⟩) [] [0, 1, 2] [0, 1, 2] rfl rfl (by decide) (by decide) (by decide) (fun _ => rfl) (by decide) rfl hl₀.1 rfl (Nat.le_of_ble_eq_true rfl) dX3_firstThatLeaves_27 ⟨Nat.le_of_ble_eq_true rfl, Nat.le_of_ble_eq_true rfl⟩ (fun _ _ H₀ locs₀ hH₀ => ?_)
          refine xb_eq (tgt := 44) C₀.1.1 C₀.1.2.1 dX3_firstThatLeaves_30 (by decide) (fun h_3₀ => ?_) (fun h_3₀ => ?_)
          · exact L44₀  ((by unfold gPkP; rw [h_3₀]; simp)) _ _ _ hH₀ (lv_sub hl₀ [0, 1, 2, 3, 4] rfl)
          · refine lv_aload_n C₀.1.1 C₀.1.2.1 dX3_firstThatLeaves_33 rfl (lv_at hl₀ 0 rfl) ?_
            refine lv_iload_n C₀.1.1 C₀.1.2.1 dX3_firstThatLeaves_34 rfl (lv_at hl₀ 1 rfl) ?_
            refine lv_iload C₀.1.1 C₀.1.2.1 dX3_firstThatLeaves_35 (lv_at hl₀ 4 rfl) ?_
            refine xc_Vi (wr := [(qs₀, .inl (k₀ 0, 68, .inl (ia sd₀)))]) (ws' := fun _ => [lO a₀ qa₀ qr₀ qs₀ qn₀ qf₀ li₀ ch₀ hh₀, (qs₀, .inl (k₀ 0, 68, .inl (ia sd₀))), (qf₀, .inl (k₀ 0, 408, .inl (ia fw₀)))]) (As := [.int (iI y₀), .int (iI z₀)]) (rest := []) C₀ hH₀ (c_X3_fewestAt lL₀ D₀ k₀ H₀.size a₀ qa₀ qr₀ qs₀ qn₀ qf₀ li₀ ch₀ hh₀ fw₀ y₀ z₀ (by omega) (by omega)) ZT_b (fun _ _ _ => trivial) (cwV 2 C₀.1.2.2.2.2 (WG_V WG_c (WG_mem 591 (by decide +kernel) (by decide +kernel)) (WG_mem 593 (by decide +kernel) (by decide +kernel)) (WG_mem 22 (by decide +kernel) (by decide +kernel)) (WG_mem 71 (by decide +kernel) (by decide +kernel)) (WG_k (WG_mem 594 (by decide +kernel) (by decide +kernel)))) rfl rfl rfl (by decide +kernel) ⟨Nat.le_of_ble_eq_true rfl, Nat.le_of_ble_eq_true rfl⟩) [0, 2] [1] [1, 0, 2] rfl rfl (by decide) (by decide) (by decide) (fun _ => rfl) (by decide) (q0 := 0) rfl rfl rfl hl₀.1 rfl (Nat.le_of_ble_eq_true rfl) dX3_firstThatLeaves_37 ⟨Nat.le_of_ble_eq_true rfl, Nat.le_of_ble_eq_true rfl⟩ (fun _ _ H₀ locs₀ hH₀ => ?_)
            refine xt_i (y := (iI (fw₀ (y₀ * 68 + z₀)))) (by rw [fw_cell hy₀ (by omega)]) ?_
            have hfz₀ := hfw₀ (y₀ * 68 + z₀) (by omega) (by omega)
            refine lv_iload_n C₀.1.1 C₀.1.2.1 dX3_firstThatLeaves_40 rfl (lv_at hl₀ 3 rfl) ?_
            refine xi_ceq (tgt := 50) C₀.1.1 C₀.1.2.1 dX3_firstThatLeaves_41 (by decide) (by omega) (by omega) (fun h_4₀ => ?_) (fun h_4₀ => ?_)
            · exact L50₀  ((by rw [← i1₀, fdI_eq (j := z₀), if_neg (fun q₀ => q₀.2 (by unfold gPkP; rw [h_3₀, decide_eq_true h_4₀]; rfl))])) _ _ _ hH₀ (lv_sub hl₀ [0, 1, 2, 3, 4] rfl)
            · exact L44₀  ((by unfold gPkP; rw [Bool.and_eq_true, decide_eq_true_eq]; exact fun q₀ => h_4₀ q₀.2)) _ _ _ hH₀ (lv_sub hl₀ [0, 1, 2, 3, 4] rfl)
  exact L3₀ (((li₀ - 0) : Int).toNat + 1) 0 (rfl) (by omega) (by omega) _ _ _ hH₀ (lv_sub hl₀ [1, 2, 3, 4, 0] rfl)
