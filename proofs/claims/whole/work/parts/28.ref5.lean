theorem iw_X9_areAlike_X9 : ∀ w₀ ∈ u_ws RX9 TX9 24, w₀ ∈ wsX9_areAlike := (fun w₀ h₀ => List.mem_cons_of_mem _ (List.mem_append_right _ h₀))
abbrev rmX9_areAlike : Room := { frames := 0, cells := 0, slots := 0, locals := 0 }
set_option maxHeartbeats 4000000 in
set_option maxRecDepth 100000 in
/-- areAlike -/
theorem c_X9_areAlike (lL₀ : Launch) (D₀ : va_G) (k₀ : Nat → ClassId) (sz₀ : Nat) (a₀ : Nat) (q₀ : Nat → Nat) (th₀ : Int) (un₀ : Int) (mf₀ : Int) (ty₀ : Int) (fr₀ : Int) (tt₀ : Int) (tk₀ : Int) (fa₀ : Int) (hf₀ : Bool) (ho₀ : Bool) (km₀ : Int) (sq₀ : Int → Int) (i₀ : Int) (j₀ : Int) (hi₀ : 0 ≤ i₀ ∧ i₀ < 24) (hj₀ : 0 ≤ j₀ ∧ j₀ < 24) (hr1₀ : ∀ t₀, 0 ≤ t₀ → t₀ < 3 → -9 ≤ sq₀ (3 * i₀ + t₀) ∧ sq₀ (3 * i₀ + t₀) ≤ 46) (hr2₀ : ∀ t₀, 0 ≤ t₀ → t₀ < 3 → -9 ≤ sq₀ (3 * j₀ + t₀) ∧ sq₀ (3 * j₀ + t₀) ≤ 46) : Met lL₀ yX9_areAlike wsX9_areAlike rmX9_areAlike (gPc ZT D₀ (tyk k₀) [.ref a₀, .int (iI i₀), .int (iI j₀)] sz₀ [mO a₀ q₀ th₀ un₀ mf₀ ty₀ fr₀ tt₀ tk₀ fa₀ (bz hf₀) (bz ho₀) km₀, (q₀ 20, .inl (k₀ 0, 72, .inl (ia sq₀)))]) (gQi D₀ (tyk k₀) [mO a₀ q₀ th₀ un₀ mf₀ ty₀ fr₀ tt₀ tk₀ fa₀ (bz hf₀) (bz ho₀) km₀, (q₀ 20, .inl (k₀ 0, 72, .inl (ia sq₀)))] sz₀ (fun (_ : Unit) => True) (fun (_ : Unit) => (iI (bz (mAlq sq₀ i₀ j₀)))) (fun (_ : Unit) => [mO a₀ q₀ th₀ un₀ mf₀ ty₀ fr₀ tt₀ tk₀ fa₀ (bz hf₀) (bz ho₀) km₀, (q₀ 20, .inl (k₀ 0, 72, .inl (ia sq₀)))])) 0 0 (va_A [mO a₀ q₀ th₀ un₀ mf₀ ty₀ fr₀ tt₀ tk₀ fa₀ (bz hf₀) (bz ho₀) km₀, (q₀ 20, .inl (k₀ 0, 72, .inl (ia sq₀)))] sz₀) := by
  refine xs_met (cc := cX9_areAlike) (maxL := 3) (ret := some .boolean) (by decide) rfl (Nat.le_of_ble_eq_true rfl) ?_
  intro pP₀ eN₀ sT₀ mI₀ below₀ meth₀ cD₀ hsz₀ args₀ QQ₀ C₀ hr₀ hlk₀ hnm₀ hQ₀ ls₀ H₀ locs₀ hl₀ hH₀
  subst hsz₀
  have hl₀ : lv_has ls₀ 3 [(0, .ref a₀), (1, .int (iI i₀)), (2, .int (iI j₀))] := hl₀
  generalize hAe₀ : va_A [mO a₀ q₀ th₀ un₀ mf₀ ty₀ fr₀ tt₀ tk₀ fa₀ (bz hf₀) (bz ho₀) km₀, (q₀ 20, .inl (k₀ 0, 72, .inl (ia sq₀)))] sT₀.heap.size = A₀ at C₀ hH₀ hQ₀
  have a0₀ := hr1₀ 0 (by decide) (by decide)
  have a1₀ := hr1₀ 1 (by decide) (by decide)
  have a2₀ := hr1₀ 2 (by decide) (by decide)
  have b0₀ := hr2₀ 0 (by decide) (by decide)
  have b1₀ := hr2₀ 1 (by decide) (by decide)
  have b2₀ := hr2₀ 2 (by decide) (by decide)
  rw [Int.add_zero] at a0₀ b0₀
  refine lv_aload_n C₀.1.1 C₀.1.2.1 dX9_areAlike_0 rfl (lv_at hl₀ 0 rfl) ?_
  refine xw_get C₀ hH₀ 0 rfl rfl 20 (by decide) iw_X9_areAlike_X9 (by decide +kernel) (v := .ref (q₀ 20)) rfl dX9_areAlike_1 ?_
  refine lv_iconst (v := iI 3) C₀.1.1 C₀.1.2.1 dX9_areAlike_4 (by decide) ?_
  refine lv_iload_n C₀.1.1 C₀.1.2.1 dX9_areAlike_5 rfl (lv_at hl₀ 1 rfl) ?_
  refine xi_mul C₀.1.1 C₀.1.2.1 dX9_areAlike_6 ?_
  refine xw_ild C₀ hH₀ 1 0 rfl rfl (z := 3 * i₀) (by omega) (by omega) (by decide) dX9_areAlike_7 ?_
  refine lv_aload_n C₀.1.1 C₀.1.2.1 dX9_areAlike_8 rfl (lv_at hl₀ 0 rfl) ?_
  refine xw_get C₀ hH₀ 0 rfl rfl 20 (by decide) iw_X9_areAlike_X9 (by decide +kernel) (v := .ref (q₀ 20)) rfl dX9_areAlike_9 ?_
  refine lv_iconst (v := iI 3) C₀.1.1 C₀.1.2.1 dX9_areAlike_12 (by decide) ?_
  refine lv_iload_n C₀.1.1 C₀.1.2.1 dX9_areAlike_13 rfl (lv_at hl₀ 2 rfl) ?_
  refine xi_mul C₀.1.1 C₀.1.2.1 dX9_areAlike_14 ?_
  refine xw_ild C₀ hH₀ 1 0 rfl rfl (z := 3 * j₀) (by omega) (by omega) (by decide) dX9_areAlike_15 ?_
  refine xi_cne (tgt := 69) C₀.1.1 C₀.1.2.1 dX9_areAlike_16 (by decide) (by omega) (by omega) (fun h_1₀ => ?_) (fun h_1₀ => ?_)
  · refine lv_iconst (v := iI 0) C₀.1.1 C₀.1.2.1 dX9_areAlike_69 (by decide) ?_
    exact xr_i C₀ hH₀ hlk₀ hr₀ hQ₀ rfl hAe₀ () trivial (by unfold mAlq; exact bF (by omega)) rfl dX9_areAlike_70
  · refine lv_aload_n C₀.1.1 C₀.1.2.1 dX9_areAlike_19 rfl (lv_at hl₀ 0 rfl) ?_
    refine xw_get C₀ hH₀ 0 rfl rfl 20 (by decide) iw_X9_areAlike_X9 (by decide +kernel) (v := .ref (q₀ 20)) rfl dX9_areAlike_20 ?_
    refine lv_iconst (v := iI 3) C₀.1.1 C₀.1.2.1 dX9_areAlike_23 (by decide) ?_
    refine lv_iload_n C₀.1.1 C₀.1.2.1 dX9_areAlike_24 rfl (lv_at hl₀ 1 rfl) ?_
    refine xi_mul C₀.1.1 C₀.1.2.1 dX9_areAlike_25 ?_
    refine lv_iconst (v := iI 1) C₀.1.1 C₀.1.2.1 dX9_areAlike_26 (by decide) ?_
    refine xi_add C₀.1.1 C₀.1.2.1 dX9_areAlike_27 ?_
    refine xw_ild C₀ hH₀ 1 0 rfl rfl (z := 3 * i₀ + 1) (by omega) (by omega) (by decide) dX9_areAlike_28 ?_
    refine lv_aload_n C₀.1.1 C₀.1.2.1 dX9_areAlike_29 rfl (lv_at hl₀ 0 rfl) ?_
    refine xw_get C₀ hH₀ 0 rfl rfl 20 (by decide) iw_X9_areAlike_X9 (by decide +kernel) (v := .ref (q₀ 20)) rfl dX9_areAlike_30 ?_
    refine lv_iconst (v := iI 3) C₀.1.1 C₀.1.2.1 dX9_areAlike_33 (by decide) ?_
    refine lv_iload_n C₀.1.1 C₀.1.2.1 dX9_areAlike_34 rfl (lv_at hl₀ 2 rfl) ?_
    refine xi_mul C₀.1.1 C₀.1.2.1 dX9_areAlike_35 ?_
    refine lv_iconst (v := iI 1) C₀.1.1 C₀.1.2.1 dX9_areAlike_36 (by decide) ?_
    refine xi_add C₀.1.1 C₀.1.2.1 dX9_areAlike_37 ?_
    refine xw_ild C₀ hH₀ 1 0 rfl rfl (z := 3 * j₀ + 1) (by omega) (by omega) (by decide) dX9_areAlike_38 ?_
    refine xi_cne (tgt := 69) C₀.1.1 C₀.1.2.1 dX9_areAlike_39 (by decide) (by omega) (by omega) (fun h_2₀ => ?_) (fun h_2₀ => ?_)
    · refine lv_iconst (v := iI 0) C₀.1.1 C₀.1.2.1 dX9_areAlike_69 (by decide) ?_
      exact xr_i C₀ hH₀ hlk₀ hr₀ hQ₀ rfl hAe₀ () trivial (by unfold mAlq; exact bF (by omega)) rfl dX9_areAlike_70
    · refine lv_aload_n C₀.1.1 C₀.1.2.1 dX9_areAlike_42 rfl (lv_at hl₀ 0 rfl) ?_
      refine xw_get C₀ hH₀ 0 rfl rfl 20 (by decide) iw_X9_areAlike_X9 (by decide +kernel) (v := .ref (q₀ 20)) rfl dX9_areAlike_43 ?_
      refine lv_iconst (v := iI 3) C₀.1.1 C₀.1.2.1 dX9_areAlike_46 (by decide) ?_
      refine lv_iload_n C₀.1.1 C₀.1.2.1 dX9_areAlike_47 rfl (lv_at hl₀ 1 rfl) ?_
      refine xi_mul C₀.1.1 C₀.1.2.1 dX9_areAlike_48 ?_
      refine lv_iconst (v := iI 2) C₀.1.1 C₀.1.2.1 dX9_areAlike_49 (by decide) ?_
      refine xi_add C₀.1.1 C₀.1.2.1 dX9_areAlike_50 ?_
      refine xw_ild C₀ hH₀ 1 0 rfl rfl (z := 3 * i₀ + 2) (by omega) (by omega) (by decide) dX9_areAlike_51 ?_
      refine lv_aload_n C₀.1.1 C₀.1.2.1 dX9_areAlike_52 rfl (lv_at hl₀ 0 rfl) ?_
      refine xw_get C₀ hH₀ 0 rfl rfl 20 (by decide) iw_X9_areAlike_X9 (by decide +kernel) (v := .ref (q₀ 20)) rfl dX9_areAlike_53 ?_
      refine lv_iconst (v := iI 3) C₀.1.1 C₀.1.2.1 dX9_areAlike_56 (by decide) ?_
      refine lv_iload_n C₀.1.1 C₀.1.2.1 dX9_areAlike_57 rfl (lv_at hl₀ 2 rfl) ?_
      refine xi_mul C₀.1.1 C₀.1.2.1 dX9_areAlike_58 ?_
      refine lv_iconst (v := iI 2) C₀.1.1 C₀.1.2.1 dX9_areAlike_59 (by decide) ?_
      refine xi_add C₀.1.1 C₀.1.2.1 dX9_areAlike_60 ?_
      refine xw_ild C₀ hH₀ 1 0 rfl rfl (z := 3 * j₀ + 2) (by omega) (by omega) (by decide) dX9_areAlike_61 ?_
      refine xi_cne (tgt := 69) C₀.1.1 C₀.1.2.1 dX9_areAlike_62 (by decide) (by omega) (by omega) (fun h_3₀ => ?_) (fun h_3₀ => ?_)
      · refine lv_iconst (v := iI 0) C₀.1.1 C₀.1.2.1 dX9_areAlike_69 (by decide) ?_
        exact xr_i C₀ hH₀ hlk₀ hr₀ hQ₀ rfl hAe₀ () trivial (by unfold mAlq; exact bF (by omega)) rfl dX9_areAlike_70
      · refine lv_iconst (v := iI 1) C₀.1.1 C₀.1.2.1 dX9_areAlike_65 (by decide) ?_
        refine lv_goto (tgt := 70) C₀.1.1 C₀.1.2.1 dX9_areAlike_66 (by decide) ?_
        exact xr_i C₀ hH₀ hlk₀ hr₀ hQ₀ rfl hAe₀ () trivial (by unfold mAlq; exact bT (by omega)) rfl dX9_areAlike_70
theorem iw_X9_laysSquares_X9 : ∀ w₀ ∈ u_ws RX9 TX9 24, w₀ ∈ wsX9_laysSquares := (fun w₀ h₀ => List.mem_cons_of_mem _ (List.mem_append_right _ h₀))
abbrev rmX9_laysSquares : Room := { frames := 5, cells := 0, slots := 0, locals := 120 }
set_option maxHeartbeats 4000000 in
set_option maxRecDepth 100000 in
/-- laysSquares -/
theorem c_X9_laysSquares (lL₀ : Launch) (D₀ : va_G) (k₀ : Nat → ClassId) (sz₀ : Nat) (a₀ : Nat) (q₀ : Nat → Nat) (th₀ : Int) (un₀ : Int) (mf₀ : Int) (ty₀ : Int) (fr₀ : Int) (tt₀ : Int) (tk₀ : Int) (fa₀ : Int) (hf₀ : Bool) (ho₀ : Bool) (km₀ : Int) (s₀ : Int → Int) (sq₀ : Int → Int) (hS₀ : mS s₀) : Met lL₀ yX9_laysSquares wsX9_laysSquares rmX9_laysSquares (gPc ZT D₀ (tyk k₀) [.ref a₀] sz₀ [mO a₀ q₀ th₀ un₀ mf₀ ty₀ fr₀ tt₀ tk₀ fa₀ (bz hf₀) (bz ho₀) km₀, (q₀ 1, .inl (k₀ 0, 51, .inl (ia s₀))), (q₀ 20, .inl (k₀ 0, 72, .inl (ia sq₀)))]) (gQv D₀ (tyk k₀) [mO a₀ q₀ th₀ un₀ mf₀ ty₀ fr₀ tt₀ tk₀ fa₀ (bz hf₀) (bz ho₀) km₀, (q₀ 1, .inl (k₀ 0, 51, .inl (ia s₀))), (q₀ 20, .inl (k₀ 0, 72, .inl (ia sq₀)))] sz₀ (fun (sr₀ : Int → Int) => mSqOk s₀ sr₀ (s₀ 0 * s₀ 1)) (fun (sr₀ : Int → Int) => [mO a₀ q₀ th₀ un₀ mf₀ ty₀ fr₀ tt₀ tk₀ fa₀ (bz hf₀) (bz ho₀) km₀, (q₀ 1, .inl (k₀ 0, 51, .inl (ia s₀))), (q₀ 20, .inl (k₀ 0, 72, .inl (ia sr₀)))])) 0 0 (va_A [mO a₀ q₀ th₀ un₀ mf₀ ty₀ fr₀ tt₀ tk₀ fa₀ (bz hf₀) (bz ho₀) km₀, (q₀ 1, .inl (k₀ 0, 51, .inl (ia s₀))), (q₀ 20, .inl (k₀ 0, 72, .inl (ia sq₀)))] sz₀) := by
  refine xs_met (cc := cX9_laysSquares) (maxL := 3) (ret := none) (by decide) rfl (Nat.le_of_ble_eq_true rfl) ?_
  intro pP₀ eN₀ sT₀ mI₀ below₀ meth₀ cD₀ hsz₀ args₀ QQ₀ C₀ hr₀ hlk₀ hnm₀ hQ₀ ls₀ H₀ locs₀ hl₀ hH₀
  subst hsz₀
  have hl₀ : lv_has ls₀ 3 [(0, .ref a₀)] := hl₀
  generalize hAe₀ : va_A [mO a₀ q₀ th₀ un₀ mf₀ ty₀ fr₀ tt₀ tk₀ fa₀ (bz hf₀) (bz ho₀) km₀, (q₀ 1, .inl (k₀ 0, 51, .inl (ia s₀))), (q₀ 20, .inl (k₀ 0, 72, .inl (ia sq₀)))] sT₀.heap.size = A₀ at C₀ hH₀ hQ₀
  obtain ⟨hs0₀, hs1₀, hs2₀, hsh₀, hsf₀⟩ := id hS₀
  have hcl₀ := cells_rg hs0₀ hs1₀
  refine lv_iconst (v := iI 0) C₀.1.1 C₀.1.2.1 dX9_laysSquares_0 (by decide) ?_
  refine lv_istore_n (lv' := [(1, .int (iI 0)), (0, .ref a₀)]) C₀.1.1 C₀.1.2.1 dX9_laysSquares_1 rfl hl₀ (by decide) rfl (fun ls₀ hl₀ => ?_)
  have L2₀ : ∀ (nn₀ : Nat), ∀ (c₀ : Int) (sr1₀ : Int → Int), (mSqOk s₀ sr1₀ c₀) → (0 ≤ c₀ ∧ c₀ ≤ s₀ 0 * s₀ 1) → ((s₀ 0 * s₀ 1 - c₀) < (nn₀ : Int)) → ∀ (H₀ : Heap) (locs₀ : List Loc) (ls₀ : Array Slot), Hp D₀ A₀ sT₀.heap [mO a₀ q₀ th₀ un₀ mf₀ ty₀ fr₀ tt₀ tk₀ fa₀ (bz hf₀) (bz ho₀) km₀, (q₀ 1, .inl (k₀ 0, 51, .inl (ia s₀))), (q₀ 20, .inl (k₀ 0, 72, .inl (ia sr1₀)))] H₀ locs₀ → lv_has ls₀ 3 [(0, .ref a₀), (1, .int (iI c₀))] → W pP₀ lL₀ eN₀ rmX9_laysSquares sT₀ mI₀ args₀ below₀ meth₀ cD₀ H₀ locs₀ 0 0 QQ₀ (F0 mI₀ 2 ls₀ []) := by
    intro nn₀
    induction nn₀ with
    | zero => intro c₀ sr1₀ i1₀ i2₀ hm₀; exact absurd hm₀ (by omega)
    | succ nn₀ ih2₀ =>
      intro c₀ sr1₀ i1₀ i2₀ hm2₀ H₀ locs₀ ls₀ hH₀ hl₀
      refine lv_iload_n C₀.1.1 C₀.1.2.1 dX9_laysSquares_2 rfl (lv_at hl₀ 1 rfl) ?_
      refine lv_aload_n C₀.1.1 C₀.1.2.1 dX9_laysSquares_3 rfl (lv_at hl₀ 0 rfl) ?_
      refine xc_Vi (wr := [(q₀ 20, .inl (k₀ 0, 72, .inl (ia sr1₀)))]) (ws' := fun _ => [mO a₀ q₀ th₀ un₀ mf₀ ty₀ fr₀ tt₀ tk₀ fa₀ (bz hf₀) (bz ho₀) km₀, (q₀ 1, .inl (k₀ 0, 51, .inl (ia s₀))), (q₀ 20, .inl (k₀ 0, 72, .inl (ia sr1₀)))]) (As := []) (rest := [.int (iI c₀)]) C₀ hH₀ (c_X9_cells lL₀ D₀ k₀ H₀.size a₀ q₀ th₀ un₀ mf₀ ty₀ fr₀ tt₀ tk₀ fa₀ hf₀ ho₀ km₀ s₀ ) ZT_b (fun _ _ _ => trivial) (cwV 0 C₀.1.2.2.2.2 gX9_laysSquares_X9_cells rfl rfl rfl (by decide +kernel) ⟨Nat.le_of_ble_eq_true rfl, Nat.le_of_ble_eq_true rfl⟩) [0, 1] [2] [1, 2, 0] rfl rfl (by decide) (by decide) (by decide) (fun _ => rfl) (by decide) (q0 := 0) rfl rfl rfl hl₀.1 rfl (Nat.le_of_ble_eq_true rfl) dX9_laysSquares_4 ⟨Nat.le_of_ble_eq_true rfl, Nat.le_of_ble_eq_true rfl⟩ (fun _ _ H₀ locs₀ hH₀ => ?_)
      refine xi_cge (tgt := 62) C₀.1.1 C₀.1.2.1 dX9_laysSquares_7 (by decide) (by omega) (by omega) (fun h_1₀ => ?_) (fun h_1₀ => ?_)
      · exact xr_v C₀ hH₀ hlk₀ hr₀ hQ₀ hAe₀ (sr1₀) (by rw [show s₀ 0 * s₀ 1 = c₀ by omega]; exact i1₀) rfl dX9_laysSquares_62
      · have hdm₀ := dm_rg hs0₀ (show 0 ≤ c₀ ∧ c₀ < s₀ 0 * s₀ 1 by omega)
        refine lv_iconst (v := iI 1) C₀.1.1 C₀.1.2.1 dX9_laysSquares_10 (by decide) ?_
        refine lv_istore_n (lv' := [(2, .int (iI 1)), (0, .ref a₀), (1, .int (iI c₀))]) C₀.1.1 C₀.1.2.1 dX9_laysSquares_11 rfl hl₀ (by decide) rfl (fun ls₀ hl₀ => ?_)
        have L12₀ : ∀ (nn₀ : Nat), ∀ (la₀ : Int) (sr2₀ : Int → Int), (mSqOk s₀ sr2₀ c₀) → (∀ l₀, 1 ≤ l₀ → l₀ < la₀ → sr2₀ (3 * c₀ + l₀ - 1) = mSq s₀ (c₀ % s₀ 0) (c₀ / s₀ 0) l₀) → (1 ≤ la₀ ∧ la₀ ≤ 4) → ((4 - la₀) < (nn₀ : Int)) → ∀ (H₀ : Heap) (locs₀ : List Loc) (ls₀ : Array Slot), Hp D₀ A₀ sT₀.heap [mO a₀ q₀ th₀ un₀ mf₀ ty₀ fr₀ tt₀ tk₀ fa₀ (bz hf₀) (bz ho₀) km₀, (q₀ 1, .inl (k₀ 0, 51, .inl (ia s₀))), (q₀ 20, .inl (k₀ 0, 72, .inl (ia sr2₀)))] H₀ locs₀ → lv_has ls₀ 3 [(0, .ref a₀), (1, .int (iI c₀)), (2, .int (iI la₀))] → W pP₀ lL₀ eN₀ rmX9_laysSquares sT₀ mI₀ args₀ below₀ meth₀ cD₀ H₀ locs₀ 0 0 QQ₀ (F0 mI₀ 12 ls₀ []) := by
          intro nn₀
          induction nn₀ with
          | zero => intro la₀ sr2₀ j1₀ j2₀ j3₀ hm₀; exact absurd hm₀ (by omega)
          | succ nn₀ ih12₀ =>
            intro la₀ sr2₀ j1₀ j2₀ j3₀ hm12₀ H₀ locs₀ ls₀ hH₀ hl₀
            refine lv_iload_n C₀.1.1 C₀.1.2.1 dX9_laysSquares_12 rfl (lv_at hl₀ 2 rfl) ?_
            refine lv_iconst (v := iI 4) C₀.1.1 C₀.1.2.1 dX9_laysSquares_13 (by decide) ?_
            refine xi_cge (tgt := 56) C₀.1.1 C₀.1.2.1 dX9_laysSquares_14 (by decide) (by omega) (by omega) (fun h_2₀ => ?_) (fun h_2₀ => ?_)
            · refine lv_iinc (v := iI (c₀ + 1)) (lv' := [(1, .int (iI (c₀ + 1))), (0, .ref a₀), (2, .int (iI la₀))]) C₀.1.1 C₀.1.2.1 dX9_laysSquares_56 hl₀ (k := 1) rfl (iI_add _ (1)) (by decide) rfl (fun ls₀ hl₀ => ?_)
              refine lv_goto (tgt := 2) C₀.1.1 C₀.1.2.1 dX9_laysSquares_59 (by decide) ?_
              exact ih2₀ (c₀ + 1) sr2₀ (by intro d₀ l₀ h1₀ h2₀ h3₀ h4₀; by_cases hd₀ : d₀ = c₀; (subst hd₀; exact j2₀ l₀ h3₀ (by omega)); (exact j1₀ d₀ l₀ h1₀ (by omega) h3₀ h4₀)) (by omega) (by omega) _ _ _ hH₀ (lv_sub hl₀ [1, 0] rfl)
            · refine lv_aload_n C₀.1.1 C₀.1.2.1 dX9_laysSquares_17 rfl (lv_at hl₀ 0 rfl) ?_
              refine xw_get C₀ hH₀ 0 rfl rfl 20 (by decide) iw_X9_laysSquares_X9 (by decide +kernel) (v := .ref (q₀ 20)) rfl dX9_laysSquares_18 ?_
              refine lv_iconst (v := iI 3) C₀.1.1 C₀.1.2.1 dX9_laysSquares_21 (by decide) ?_
              refine lv_iload_n C₀.1.1 C₀.1.2.1 dX9_laysSquares_22 rfl (lv_at hl₀ 1 rfl) ?_
              refine xi_mul C₀.1.1 C₀.1.2.1 dX9_laysSquares_23 ?_
              refine lv_iload_n C₀.1.1 C₀.1.2.1 dX9_laysSquares_24 rfl (lv_at hl₀ 2 rfl) ?_
              refine xi_add C₀.1.1 C₀.1.2.1 dX9_laysSquares_25 ?_
              refine lv_iconst (v := iI 1) C₀.1.1 C₀.1.2.1 dX9_laysSquares_26 (by decide) ?_
              refine xi_sub C₀.1.1 C₀.1.2.1 dX9_laysSquares_27 ?_
              refine lv_aload_n C₀.1.1 C₀.1.2.1 dX9_laysSquares_28 rfl (lv_at hl₀ 0 rfl) ?_
              refine lv_iload_n C₀.1.1 C₀.1.2.1 dX9_laysSquares_29 rfl (lv_at hl₀ 1 rfl) ?_
              refine lv_aload_n C₀.1.1 C₀.1.2.1 dX9_laysSquares_30 rfl (lv_at hl₀ 0 rfl) ?_
              refine xw_get C₀ hH₀ 0 rfl rfl 1 (by decide) iw_X9_laysSquares_X9 (by decide +kernel) (v := .ref (q₀ 1)) rfl dX9_laysSquares_31 ?_
              refine lv_iconst (v := iI 0) C₀.1.1 C₀.1.2.1 dX9_laysSquares_34 (by decide) ?_
              refine xw_ild C₀ hH₀ 1 0 rfl rfl (z := 0) (by omega) (by omega) (by decide) dX9_laysSquares_35 ?_
              refine xi_rem C₀.1.1 C₀.1.2.1 dX9_laysSquares_36 (by omega) (by omega) ?_
              refine lv_iload_n C₀.1.1 C₀.1.2.1 dX9_laysSquares_37 rfl (lv_at hl₀ 1 rfl) ?_
              refine lv_aload_n C₀.1.1 C₀.1.2.1 dX9_laysSquares_38 rfl (lv_at hl₀ 0 rfl) ?_
              refine xw_get C₀ hH₀ 0 rfl rfl 1 (by decide) iw_X9_laysSquares_X9 (by decide +kernel) (v := .ref (q₀ 1)) rfl dX9_laysSquares_39 ?_
              refine lv_iconst (v := iI 0) C₀.1.1 C₀.1.2.1 dX9_laysSquares_42 (by decide) ?_
              refine xw_ild C₀ hH₀ 1 0 rfl rfl (z := 0) (by omega) (by omega) (by decide) dX9_laysSquares_43 ?_
              refine xi_div C₀.1.1 C₀.1.2.1 dX9_laysSquares_44 (by omega) (by omega) ?_
              refine lv_iload_n C₀.1.1 C₀.1.2.1 dX9_laysSquares_45 rfl (lv_at hl₀ 2 rfl) ?_
              refine xc_Vi (wr := [(q₀ 20, .inl (k₀ 0, 72, .inl (ia sr2₀)))]) (ws' := fun _ => [mO a₀ q₀ th₀ un₀ mf₀ ty₀ fr₀ tt₀ tk₀ fa₀ (bz hf₀) (bz ho₀) km₀, (q₀ 1, .inl (k₀ 0, 51, .inl (ia s₀))), (q₀ 20, .inl (k₀ 0, 72, .inl (ia sr2₀)))]) (As := [.int (iI (c₀ % (s₀ 0))), .int (iI (c₀ / (s₀ 0))), .int (iI la₀)]) (rest := [.int (iI (3 * c₀ + la₀ - 1)), .ref (q₀ 20)]) C₀ hH₀ (c_X9_squareOf lL₀ D₀ k₀ H₀.size a₀ q₀ th₀ un₀ mf₀ ty₀ fr₀ tt₀ tk₀ fa₀ hf₀ ho₀ km₀ s₀ (c₀ % (s₀ 0)) (c₀ / (s₀ 0)) la₀ (hS₀) (by omega) (by omega) (by omega)) ZT_b (fun _ _ _ => trivial) (cwV 3 C₀.1.2.2.2.2 gX9_laysSquares_X9_squareOf rfl rfl rfl (by decide +kernel) ⟨Nat.le_of_ble_eq_true rfl, Nat.le_of_ble_eq_true rfl⟩) [0, 1] [2] [1, 2, 0] rfl rfl (by decide) (by decide) (by decide) (fun _ => rfl) (by decide) (q0 := 0) rfl rfl rfl hl₀.1 rfl (Nat.le_of_ble_eq_true rfl) dX9_laysSquares_46 ⟨Nat.le_of_ble_eq_true rfl, Nat.le_of_ble_eq_true rfl⟩ (fun _ _ H₀ locs₀ hH₀ => ?_)
              refine xw_ist (ws' := [mO a₀ q₀ th₀ un₀ mf₀ ty₀ fr₀ tt₀ tk₀ fa₀ (bz hf₀) (bz ho₀) km₀, (q₀ 1, .inl (k₀ 0, 51, .inl (ia s₀))), (q₀ 20, .inl (k₀ 0, 72, .inl (ia (uz sr2₀ (3 * c₀ + la₀ - 1) (mSq s₀ (c₀ % (s₀ 0)) (c₀ / (s₀ 0)) la₀)))))]) C₀ hH₀ 2 0 rfl rfl (z := 3 * c₀ + la₀ - 1) (v := mSq s₀ (c₀ % (s₀ 0)) (c₀ / (s₀ 0)) la₀) (by omega) (by omega) (by decide) dX9_laysSquares_49 rfl (fun H₀ locs₀ hH₀ => ?_)
              refine lv_iinc (v := iI (la₀ + 1)) (lv' := [(2, .int (iI (la₀ + 1))), (0, .ref a₀), (1, .int (iI c₀))]) C₀.1.1 C₀.1.2.1 dX9_laysSquares_50 hl₀ (k := 2) rfl (iI_add _ (1)) (by decide) rfl (fun ls₀ hl₀ => ?_)
              refine lv_goto (tgt := 12) C₀.1.1 C₀.1.2.1 dX9_laysSquares_53 (by decide) ?_
              exact ih12₀ (la₀ + 1) (uz sr2₀ (3 * c₀ + la₀ - 1) (mSq s₀ (c₀ % (s₀ 0)) (c₀ / (s₀ 0)) la₀)) (by intro d₀ l₀ h1₀ h2₀ h3₀ h4₀; rw [uz_n (by omega)]; exact j1₀ d₀ l₀ h1₀ h2₀ h3₀ h4₀) (by intro l₀ h1₀ h2₀; by_cases hd₀ : l₀ = la₀; (subst hd₀; rw [uz_s]); (rw [uz_n (by omega)]; exact j2₀ l₀ h1₀ (by omega))) (by omega) (by omega) _ _ _ hH₀ (lv_sub hl₀ [1, 2, 0] rfl)
        exact L12₀ (((4 - 1) : Int).toNat + 1) 1 sr1₀ (i1₀) (fun l₀ a₀ b₀ => absurd b₀ (by omega)) (by omega) (by omega) _ _ _ hH₀ (lv_sub hl₀ [1, 2, 0] rfl)
  exact L2₀ (((s₀ 0 * s₀ 1 - 0) : Int).toNat + 1) 0 sq₀ (fun c₀ l₀ a₀ b₀ => absurd b₀ (by omega)) (by omega) (by omega) _ _ _ hH₀ (lv_sub hl₀ [1, 0] rfl)
theorem iw_X9_laysKinds_X9 : ∀ w₀ ∈ u_ws RX9 TX9 24, w₀ ∈ wsX9_laysKinds := (fun w₀ h₀ => List.mem_cons_of_mem _ (List.mem_append_right _ h₀))
abbrev rmX9_laysKinds : Room := { frames := 6, cells := 0, slots := 0, locals := 142 }
set_option maxHeartbeats 4000000 in
set_option maxRecDepth 100000 in
/-- laysKinds -/
theorem c_X9_laysKinds (lL₀ : Launch) (D₀ : va_G) (k₀ : Nat → ClassId) (sz₀ : Nat) (a₀ : Nat) (q₀ : Nat → Nat) (th₀ : Int) (un₀ : Int) (mf₀ : Int) (ty₀ : Int) (fr₀ : Int) (tt₀ : Int) (tk₀ : Int) (fa₀ : Int) (hf₀ : Bool) (ho₀ : Bool) (km₀ : Int) (s₀ : Int → Int) (sq₀ : Int → Int) (kn₀ : Int → Int) (fi₀ : Int → Int) (hS₀ : mS s₀) : Met lL₀ yX9_laysKinds wsX9_laysKinds rmX9_laysKinds (gPc ZT D₀ (tyk k₀) [.ref a₀] sz₀ [mO a₀ q₀ th₀ un₀ mf₀ ty₀ fr₀ tt₀ tk₀ fa₀ (bz hf₀) (bz ho₀) km₀, (q₀ 1, .inl (k₀ 0, 51, .inl (ia s₀))), (q₀ 20, .inl (k₀ 0, 72, .inl (ia sq₀))), (q₀ 21, .inl (k₀ 0, 24, .inl (ia kn₀))), (q₀ 22, .inl (k₀ 0, 24, .inl (ia fi₀)))]) (gQv D₀ (tyk k₀) [mO a₀ q₀ th₀ un₀ mf₀ ty₀ fr₀ tt₀ tk₀ fa₀ (bz hf₀) (bz ho₀) km₀, (q₀ 1, .inl (k₀ 0, 51, .inl (ia s₀))), (q₀ 20, .inl (k₀ 0, 72, .inl (ia sq₀))), (q₀ 21, .inl (k₀ 0, 24, .inl (ia kn₀))), (q₀ 22, .inl (k₀ 0, 24, .inl (ia fi₀)))] sz₀ (fun (sr₀ : Int → Int) => mSqOk s₀ sr₀ (s₀ 0 * s₀ 1)) (fun (sr₀ : Int → Int) => [mO a₀ q₀ th₀ un₀ mf₀ ty₀ fr₀ tt₀ tk₀ fa₀ (bz hf₀) (bz ho₀) ((mKd sr₀ fi₀ kn₀ (s₀ 0 * s₀ 1).toNat).1), (q₀ 1, .inl (k₀ 0, 51, .inl (ia s₀))), (q₀ 20, .inl (k₀ 0, 72, .inl (ia sr₀))), (q₀ 21, .inl (k₀ 0, 24, .inl (ia ((mKd sr₀ fi₀ kn₀ (s₀ 0 * s₀ 1).toNat).2.2)))), (q₀ 22, .inl (k₀ 0, 24, .inl (ia ((mKd sr₀ fi₀ kn₀ (s₀ 0 * s₀ 1).toNat).2.1))))])) 0 0 (va_A [mO a₀ q₀ th₀ un₀ mf₀ ty₀ fr₀ tt₀ tk₀ fa₀ (bz hf₀) (bz ho₀) km₀, (q₀ 1, .inl (k₀ 0, 51, .inl (ia s₀))), (q₀ 20, .inl (k₀ 0, 72, .inl (ia sq₀))), (q₀ 21, .inl (k₀ 0, 24, .inl (ia kn₀))), (q₀ 22, .inl (k₀ 0, 24, .inl (ia fi₀)))] sz₀) := by
  refine xs_met (cc := cX9_laysKinds) (maxL := 3) (ret := none) (by decide) rfl (Nat.le_of_ble_eq_true rfl) ?_
  intro pP₀ eN₀ sT₀ mI₀ below₀ meth₀ cD₀ hsz₀ args₀ QQ₀ C₀ hr₀ hlk₀ hnm₀ hQ₀ ls₀ H₀ locs₀ hl₀ hH₀
  subst hsz₀
  have hl₀ : lv_has ls₀ 3 [(0, .ref a₀)] := hl₀
  generalize hAe₀ : va_A [mO a₀ q₀ th₀ un₀ mf₀ ty₀ fr₀ tt₀ tk₀ fa₀ (bz hf₀) (bz ho₀) km₀, (q₀ 1, .inl (k₀ 0, 51, .inl (ia s₀))), (q₀ 20, .inl (k₀ 0, 72, .inl (ia sq₀))), (q₀ 21, .inl (k₀ 0, 24, .inl (ia kn₀))), (q₀ 22, .inl (k₀ 0, 24, .inl (ia fi₀)))] sT₀.heap.size = A₀ at C₀ hH₀ hQ₀
  obtain ⟨hs0₀, hs1₀, hs2₀, hsh₀, hsf₀⟩ := id hS₀
  have hcl₀ := cells_rg hs0₀ hs1₀
  refine lv_aload_n C₀.1.1 C₀.1.2.1 dX9_laysKinds_0 rfl (lv_at hl₀ 0 rfl) ?_
  refine xc_Vv (wr := [(q₀ 21, .inl (k₀ 0, 24, .inl (ia kn₀))), (q₀ 22, .inl (k₀ 0, 24, .inl (ia fi₀)))]) (ws' := fun sr_1₀ => [mO a₀ q₀ th₀ un₀ mf₀ ty₀ fr₀ tt₀ tk₀ fa₀ (bz hf₀) (bz ho₀) km₀, (q₀ 1, .inl (k₀ 0, 51, .inl (ia s₀))), (q₀ 20, .inl (k₀ 0, 72, .inl (ia sr_1₀))), (q₀ 21, .inl (k₀ 0, 24, .inl (ia kn₀))), (q₀ 22, .inl (k₀ 0, 24, .inl (ia fi₀)))]) (As := []) (rest := []) C₀ hH₀ (c_X9_laysSquares lL₀ D₀ k₀ H₀.size a₀ q₀ th₀ un₀ mf₀ ty₀ fr₀ tt₀ tk₀ fa₀ hf₀ ho₀ km₀ s₀ sq₀ (hS₀)) ZT_b (fun _ _ _ => trivial) (cwV 0 C₀.1.2.2.2.2 gX9_laysKinds_X9_laysSquares rfl rfl rfl (by decide +kernel) ⟨Nat.le_of_ble_eq_true rfl, Nat.le_of_ble_eq_true rfl⟩) [0, 1, 2] [3, 4] [2, 3, 4, 0, 1] rfl rfl (by decide) (by decide) (by decide) (fun _ => rfl) (by decide) (q0 := 0) rfl rfl rfl hl₀.1 rfl (Nat.le_of_ble_eq_true rfl) dX9_laysKinds_1 ⟨Nat.le_of_ble_eq_true rfl, Nat.le_of_ble_eq_true rfl⟩ (fun sr_1₀ hu₀ H₀ locs₀ hH₀ => ?_)
  refine lv_aload_n C₀.1.1 C₀.1.2.1 dX9_laysKinds_4 rfl (lv_at hl₀ 0 rfl) ?_
  refine lv_iconst (v := iI 0) C₀.1.1 C₀.1.2.1 dX9_laysKinds_5 (by decide) ?_
  refine xw_put (ws' := [mO a₀ q₀ th₀ un₀ mf₀ ty₀ fr₀ tt₀ tk₀ fa₀ (bz hf₀) (bz ho₀) 0, (q₀ 1, .inl (k₀ 0, 51, .inl (ia s₀))), (q₀ 20, .inl (k₀ 0, 72, .inl (ia sr_1₀))), (q₀ 21, .inl (k₀ 0, 24, .inl (ia kn₀))), (q₀ 22, .inl (k₀ 0, 24, .inl (ia fi₀)))]) (v := .int (iI 0)) C₀ hH₀ 0 rfl rfl tyX9 tyX9_ok nmX9 23 (by decide) iw_X9_laysKinds_X9 (by decide +kernel) rfl rfl rfl (Nat.le_of_ble_eq_true rfl) dX9_laysKinds_6 rfl (fun H₀ locs₀ hH₀ => ?_)
  refine lv_iconst (v := iI 0) C₀.1.1 C₀.1.2.1 dX9_laysKinds_9 (by decide) ?_
  refine lv_istore_n (lv' := [(1, .int (iI 0)), (0, .ref a₀)]) C₀.1.1 C₀.1.2.1 dX9_laysKinds_10 rfl hl₀ (by decide) rfl (fun ls₀ hl₀ => ?_)
  have L11₀ : ∀ (nn₀ : Nat), ∀ (c₀ : Int) (m₀ : Int) (f₀ : Int → Int) (g₀ : Int → Int), (mKd sr_1₀ fi₀ kn₀ c₀.toNat = (m₀, f₀, g₀)) → (0 ≤ c₀ ∧ c₀ ≤ s₀ 0 * s₀ 1) → (0 ≤ m₀ ∧ m₀ ≤ c₀) → (∀ j₀, 0 ≤ j₀ → j₀ < m₀ → 0 ≤ f₀ j₀ ∧ f₀ j₀ < c₀) → ((s₀ 0 * s₀ 1 - c₀) < (nn₀ : Int)) → ∀ (H₀ : Heap) (locs₀ : List Loc) (ls₀ : Array Slot), Hp D₀ A₀ sT₀.heap [mO a₀ q₀ th₀ un₀ mf₀ ty₀ fr₀ tt₀ tk₀ fa₀ (bz hf₀) (bz ho₀) m₀, (q₀ 1, .inl (k₀ 0, 51, .inl (ia s₀))), (q₀ 20, .inl (k₀ 0, 72, .inl (ia sr_1₀))), (q₀ 21, .inl (k₀ 0, 24, .inl (ia g₀))), (q₀ 22, .inl (k₀ 0, 24, .inl (ia f₀)))] H₀ locs₀ → lv_has ls₀ 3 [(0, .ref a₀), (1, .int (iI c₀))] → W pP₀ lL₀ eN₀ rmX9_laysKinds sT₀ mI₀ args₀ below₀ meth₀ cD₀ H₀ locs₀ 0 0 QQ₀ (F0 mI₀ 11 ls₀ []) := by
    intro nn₀
    induction nn₀ with
    | zero => intro c₀ m₀ f₀ g₀ i1₀ i2₀ i3₀ i4₀ hm₀; exact absurd hm₀ (by omega)
    | succ nn₀ ih11₀ =>
      intro c₀ m₀ f₀ g₀ i1₀ i2₀ i3₀ i4₀ hm11₀ H₀ locs₀ ls₀ hH₀ hl₀
      have hsr₀ : ∀ d₀ t₀, 0 ≤ d₀ → d₀ < s₀ 0 * s₀ 1 → 0 ≤ t₀ → t₀ < 3 → -9 ≤ sr_1₀ (3 * d₀ + t₀) ∧ sr_1₀ (3 * d₀ + t₀) ≤ 46 := by intro d₀ t₀ h1₀ h2₀ h3₀ h4₀; have e₀ := hu₀ d₀ (t₀ + 1) h1₀ h2₀ (by omega) (by omega); rw [show 3 * d₀ + (t₀ + 1) - 1 = 3 * d₀ + t₀ by omega] at e₀; rw [e₀]; exact mSq_rg _ _ _ _
      refine lv_iload_n C₀.1.1 C₀.1.2.1 dX9_laysKinds_11 rfl (lv_at hl₀ 1 rfl) ?_
      refine lv_aload_n C₀.1.1 C₀.1.2.1 dX9_laysKinds_12 rfl (lv_at hl₀ 0 rfl) ?_
      refine xc_Vi (wr := [(q₀ 20, .inl (k₀ 0, 72, .inl (ia sr_1₀))), (q₀ 21, .inl (k₀ 0, 24, .inl (ia g₀))), (q₀ 22, .inl (k₀ 0, 24, .inl (ia f₀)))]) (ws' := fun _ => [mO a₀ q₀ th₀ un₀ mf₀ ty₀ fr₀ tt₀ tk₀ fa₀ (bz hf₀) (bz ho₀) m₀, (q₀ 1, .inl (k₀ 0, 51, .inl (ia s₀))), (q₀ 20, .inl (k₀ 0, 72, .inl (ia sr_1₀))), (q₀ 21, .inl (k₀ 0, 24, .inl (ia g₀))), (q₀ 22, .inl (k₀ 0, 24, .inl (ia f₀)))]) (As := []) (rest := [.int (iI c₀)]) C₀ hH₀ (c_X9_cells lL₀ D₀ k₀ H₀.size a₀ q₀ th₀ un₀ mf₀ ty₀ fr₀ tt₀ tk₀ fa₀ hf₀ ho₀ m₀ s₀ ) ZT_b (fun _ _ _ => trivial) (cwV 0 C₀.1.2.2.2.2 gX9_laysKinds_X9_cells rfl rfl rfl (by decide +kernel) ⟨Nat.le_of_ble_eq_true rfl, Nat.le_of_ble_eq_true rfl⟩) [0, 1] [2, 3, 4] [3, 4, 0, 1, 2] rfl rfl (by decide) (by decide) (by decide) (fun _ => rfl) (by decide) (q0 := 0) rfl rfl rfl hl₀.1 rfl (Nat.le_of_ble_eq_true rfl) dX9_laysKinds_13 ⟨Nat.le_of_ble_eq_true rfl, Nat.le_of_ble_eq_true rfl⟩ (fun _ _ H₀ locs₀ hH₀ => ?_)
      refine xi_cge (tgt := 87) C₀.1.1 C₀.1.2.1 dX9_laysKinds_16 (by decide) (by omega) (by omega) (fun h_2₀ => ?_) (fun h_2₀ => ?_)
      · exact xr_v C₀ hH₀ hlk₀ hr₀ hQ₀ hAe₀ (sr_1₀) hu₀ (by rw [show (s₀ 0 * s₀ 1).toNat = c₀.toNat by omega, i1₀]) dX9_laysKinds_87
      · refine lv_iconst (v := iI 0) C₀.1.1 C₀.1.2.1 dX9_laysKinds_19 (by decide) ?_
        refine lv_istore_n (lv' := [(2, .int (iI 0)), (0, .ref a₀), (1, .int (iI c₀))]) C₀.1.1 C₀.1.2.1 dX9_laysKinds_20 rfl hl₀ (by decide) rfl (fun ls₀ hl₀ => ?_)
        have L21₀ : ∀ (nn₀ : Nat), ∀ (z₀ : Int), (fdI (fun j₀ => mAlq sr_1₀ (f₀ j₀) c₀) m₀ z₀ = fdI (fun j₀ => mAlq sr_1₀ (f₀ j₀) c₀) m₀ 0) → (0 ≤ z₀ ∧ z₀ ≤ m₀) → ((m₀ - z₀) < (nn₀ : Int)) → ∀ (H₀ : Heap) (locs₀ : List Loc) (ls₀ : Array Slot), Hp D₀ A₀ sT₀.heap [mO a₀ q₀ th₀ un₀ mf₀ ty₀ fr₀ tt₀ tk₀ fa₀ (bz hf₀) (bz ho₀) m₀, (q₀ 1, .inl (k₀ 0, 51, .inl (ia s₀))), (q₀ 20, .inl (k₀ 0, 72, .inl (ia sr_1₀))), (q₀ 21, .inl (k₀ 0, 24, .inl (ia g₀))), (q₀ 22, .inl (k₀ 0, 24, .inl (ia f₀)))] H₀ locs₀ → lv_has ls₀ 3 [(0, .ref a₀), (1, .int (iI c₀)), (2, .int (iI z₀))] → W pP₀ lL₀ eN₀ rmX9_laysKinds sT₀ mI₀ args₀ below₀ meth₀ cD₀ H₀ locs₀ 0 0 QQ₀ (F0 mI₀ 21 ls₀ []) := by
          intro nn₀
          induction nn₀ with
          | zero => intro z₀ k1₀ k2₀ hm₀; exact absurd hm₀ (by omega)
          | succ nn₀ ih21₀ =>
            intro z₀ k1₀ k2₀ hm21₀ H₀ locs₀ ls₀ hH₀ hl₀
            refine lv_iload_n C₀.1.1 C₀.1.2.1 dX9_laysKinds_21 rfl (lv_at hl₀ 2 rfl) ?_
            refine lv_aload_n C₀.1.1 C₀.1.2.1 dX9_laysKinds_22 rfl (lv_at hl₀ 0 rfl) ?_
            refine xw_get C₀ hH₀ 0 rfl rfl 23 (by decide) iw_X9_laysKinds_X9 (by decide +kernel) (v := .int (iI m₀)) rfl dX9_laysKinds_23 ?_
            refine xi_cge (tgt := 49) C₀.1.1 C₀.1.2.1 dX9_laysKinds_26 (by decide) (by omega) (by omega) (fun h_3₀ => ?_) (fun h_3₀ => ?_)
            · have jz₀ : z₀ = fdI (fun j₀ => mAlq sr_1₀ (f₀ j₀) c₀) m₀ 0 := by rw [← k1₀, fdI_eq, if_neg (by rintro ⟨q1₀, q2₀⟩; first | omega | (exact q2₀ (by assumption)))]
              refine lv_iload_n C₀.1.1 C₀.1.2.1 dX9_laysKinds_49 rfl (lv_at hl₀ 2 rfl) ?_
              refine lv_aload_n C₀.1.1 C₀.1.2.1 dX9_laysKinds_50 rfl (lv_at hl₀ 0 rfl) ?_
              refine xw_get C₀ hH₀ 0 rfl rfl 23 (by decide) iw_X9_laysKinds_X9 (by decide +kernel) (v := .int (iI m₀)) rfl dX9_laysKinds_51 ?_
              refine xi_cne (tgt := 74) C₀.1.1 C₀.1.2.1 dX9_laysKinds_54 (by decide) (by omega) (by omega) (fun h_4₀ => ?_) (fun h_4₀ => ?_)
              · refine lv_aload_n C₀.1.1 C₀.1.2.1 dX9_laysKinds_74 rfl (lv_at hl₀ 0 rfl) ?_
                refine xw_get C₀ hH₀ 0 rfl rfl 21 (by decide) iw_X9_laysKinds_X9 (by decide +kernel) (v := .ref (q₀ 21)) rfl dX9_laysKinds_75 ?_
                refine lv_iload_n C₀.1.1 C₀.1.2.1 dX9_laysKinds_78 rfl (lv_at hl₀ 1 rfl) ?_
                refine lv_iload_n C₀.1.1 C₀.1.2.1 dX9_laysKinds_79 rfl (lv_at hl₀ 2 rfl) ?_
                refine xw_ist (ws' := [mO a₀ q₀ th₀ un₀ mf₀ ty₀ fr₀ tt₀ tk₀ fa₀ (bz hf₀) (bz ho₀) m₀, (q₀ 1, .inl (k₀ 0, 51, .inl (ia s₀))), (q₀ 20, .inl (k₀ 0, 72, .inl (ia sr_1₀))), (q₀ 21, .inl (k₀ 0, 24, .inl (ia (uz g₀ c₀ z₀)))), (q₀ 22, .inl (k₀ 0, 24, .inl (ia f₀)))]) C₀ hH₀ 3 0 rfl rfl (z := c₀) (v := z₀) (by omega) (by omega) (by decide) dX9_laysKinds_80 rfl (fun H₀ locs₀ hH₀ => ?_)
                refine lv_iinc (v := iI (c₀ + 1)) (lv' := [(1, .int (iI (c₀ + 1))), (0, .ref a₀), (2, .int (iI z₀))]) C₀.1.1 C₀.1.2.1 dX9_laysKinds_81 hl₀ (k := 1) rfl (iI_add _ (1)) (by decide) rfl (fun ls₀ hl₀ => ?_)
                refine lv_goto (tgt := 11) C₀.1.1 C₀.1.2.1 dX9_laysKinds_84 (by decide) ?_
                exact ih11₀ (c₀ + 1) m₀ f₀ (uz g₀ c₀ z₀) (by first | (exfalso; omega) | (rw [mKd_s _ _ _ _ i2₀.1 _ _ _ i1₀, ← jz₀]; simp (disch := omega) only [if_pos, if_neg])) (by omega) (by omega) ((by intro j₀ a₀ b₀; have := i4₀ j₀ a₀ b₀; omega)) (by omega) _ _ _ hH₀ (lv_sub hl₀ [1, 0] rfl)
              · refine lv_aload_n C₀.1.1 C₀.1.2.1 dX9_laysKinds_57 rfl (lv_at hl₀ 0 rfl) ?_
                refine xw_get C₀ hH₀ 0 rfl rfl 22 (by decide) iw_X9_laysKinds_X9 (by decide +kernel) (v := .ref (q₀ 22)) rfl dX9_laysKinds_58 ?_
                refine lv_iload_n C₀.1.1 C₀.1.2.1 dX9_laysKinds_61 rfl (lv_at hl₀ 2 rfl) ?_
                refine lv_iload_n C₀.1.1 C₀.1.2.1 dX9_laysKinds_62 rfl (lv_at hl₀ 1 rfl) ?_
                refine xw_ist (ws' := [mO a₀ q₀ th₀ un₀ mf₀ ty₀ fr₀ tt₀ tk₀ fa₀ (bz hf₀) (bz ho₀) m₀, (q₀ 1, .inl (k₀ 0, 51, .inl (ia s₀))), (q₀ 20, .inl (k₀ 0, 72, .inl (ia sr_1₀))), (q₀ 21, .inl (k₀ 0, 24, .inl (ia g₀))), (q₀ 22, .inl (k₀ 0, 24, .inl (ia (uz f₀ z₀ c₀))))]) C₀ hH₀ 4 0 rfl rfl (z := z₀) (v := c₀) (by omega) (by omega) (by decide) dX9_laysKinds_63 rfl (fun H₀ locs₀ hH₀ => ?_)
                refine lv_aload_n C₀.1.1 C₀.1.2.1 dX9_laysKinds_64 rfl (lv_at hl₀ 0 rfl) ?_
                refine lv_dup C₀.1.1 C₀.1.2.1 dX9_laysKinds_65 rfl ?_
                refine xw_get C₀ hH₀ 0 rfl rfl 23 (by decide) iw_X9_laysKinds_X9 (by decide +kernel) (v := .int (iI m₀)) rfl dX9_laysKinds_66 ?_
                refine lv_iconst (v := iI 1) C₀.1.1 C₀.1.2.1 dX9_laysKinds_69 (by decide) ?_
                refine xi_add C₀.1.1 C₀.1.2.1 dX9_laysKinds_70 ?_
                refine xw_put (ws' := [mO a₀ q₀ th₀ un₀ mf₀ ty₀ fr₀ tt₀ tk₀ fa₀ (bz hf₀) (bz ho₀) (m₀ + 1), (q₀ 1, .inl (k₀ 0, 51, .inl (ia s₀))), (q₀ 20, .inl (k₀ 0, 72, .inl (ia sr_1₀))), (q₀ 21, .inl (k₀ 0, 24, .inl (ia g₀))), (q₀ 22, .inl (k₀ 0, 24, .inl (ia (uz f₀ z₀ c₀))))]) (v := .int (iI (m₀ + 1))) C₀ hH₀ 0 rfl rfl tyX9 tyX9_ok nmX9 23 (by decide) iw_X9_laysKinds_X9 (by decide +kernel) rfl rfl rfl (Nat.le_of_ble_eq_true rfl) dX9_laysKinds_71 rfl (fun H₀ locs₀ hH₀ => ?_)
                refine lv_aload_n C₀.1.1 C₀.1.2.1 dX9_laysKinds_74 rfl (lv_at hl₀ 0 rfl) ?_
                refine xw_get C₀ hH₀ 0 rfl rfl 21 (by decide) iw_X9_laysKinds_X9 (by decide +kernel) (v := .ref (q₀ 21)) rfl dX9_laysKinds_75 ?_
                refine lv_iload_n C₀.1.1 C₀.1.2.1 dX9_laysKinds_78 rfl (lv_at hl₀ 1 rfl) ?_
                refine lv_iload_n C₀.1.1 C₀.1.2.1 dX9_laysKinds_79 rfl (lv_at hl₀ 2 rfl) ?_
                refine xw_ist (ws' := [mO a₀ q₀ th₀ un₀ mf₀ ty₀ fr₀ tt₀ tk₀ fa₀ (bz hf₀) (bz ho₀) (m₀ + 1), (q₀ 1, .inl (k₀ 0, 51, .inl (ia s₀))), (q₀ 20, .inl (k₀ 0, 72, .inl (ia sr_1₀))), (q₀ 21, .inl (k₀ 0, 24, .inl (ia (uz g₀ c₀ z₀)))), (q₀ 22, .inl (k₀ 0, 24, .inl (ia (uz f₀ z₀ c₀))))]) C₀ hH₀ 3 0 rfl rfl (z := c₀) (v := z₀) (by omega) (by omega) (by decide) dX9_laysKinds_80 rfl (fun H₀ locs₀ hH₀ => ?_)
                refine lv_iinc (v := iI (c₀ + 1)) (lv' := [(1, .int (iI (c₀ + 1))), (0, .ref a₀), (2, .int (iI z₀))]) C₀.1.1 C₀.1.2.1 dX9_laysKinds_81 hl₀ (k := 1) rfl (iI_add _ (1)) (by decide) rfl (fun ls₀ hl₀ => ?_)
                refine lv_goto (tgt := 11) C₀.1.1 C₀.1.2.1 dX9_laysKinds_84 (by decide) ?_
                exact ih11₀ (c₀ + 1) (m₀ + 1) (uz f₀ z₀ c₀) (uz g₀ c₀ z₀) (by rw [mKd_s _ _ _ _ i2₀.1 _ _ _ i1₀, ← jz₀, if_pos (by omega), if_pos (by omega), show z₀ = m₀ by omega]) (by omega) (by omega) ((by intro j₀ a₀ b₀; by_cases hj₀ : j₀ = z₀; (rw [hj₀, uz_s]; omega); (rw [uz_n hj₀]; have := i4₀ j₀ a₀ (by omega); omega))) (by omega) _ _ _ hH₀ (lv_sub hl₀ [1, 0] rfl)
            · have hfz₀ := i4₀ z₀ (by omega) (by omega)
              refine lv_aload_n C₀.1.1 C₀.1.2.1 dX9_laysKinds_29 rfl (lv_at hl₀ 0 rfl) ?_
              refine lv_aload_n C₀.1.1 C₀.1.2.1 dX9_laysKinds_30 rfl (lv_at hl₀ 0 rfl) ?_
              refine xw_get C₀ hH₀ 0 rfl rfl 22 (by decide) iw_X9_laysKinds_X9 (by decide +kernel) (v := .ref (q₀ 22)) rfl dX9_laysKinds_31 ?_
              refine lv_iload_n C₀.1.1 C₀.1.2.1 dX9_laysKinds_34 rfl (lv_at hl₀ 2 rfl) ?_
              refine xw_ild C₀ hH₀ 4 0 rfl rfl (z := z₀) (by omega) (by omega) (by decide) dX9_laysKinds_35 ?_
              refine lv_iload_n C₀.1.1 C₀.1.2.1 dX9_laysKinds_36 rfl (lv_at hl₀ 1 rfl) ?_
              refine xc_Vi (wr := [(q₀ 1, .inl (k₀ 0, 51, .inl (ia s₀))), (q₀ 21, .inl (k₀ 0, 24, .inl (ia g₀))), (q₀ 22, .inl (k₀ 0, 24, .inl (ia f₀)))]) (ws' := fun _ => [mO a₀ q₀ th₀ un₀ mf₀ ty₀ fr₀ tt₀ tk₀ fa₀ (bz hf₀) (bz ho₀) m₀, (q₀ 1, .inl (k₀ 0, 51, .inl (ia s₀))), (q₀ 20, .inl (k₀ 0, 72, .inl (ia sr_1₀))), (q₀ 21, .inl (k₀ 0, 24, .inl (ia g₀))), (q₀ 22, .inl (k₀ 0, 24, .inl (ia f₀)))]) (As := [.int (iI (f₀ z₀)), .int (iI c₀)]) (rest := []) C₀ hH₀ (c_X9_areAlike lL₀ D₀ k₀ H₀.size a₀ q₀ th₀ un₀ mf₀ ty₀ fr₀ tt₀ tk₀ fa₀ hf₀ ho₀ m₀ sr_1₀ (f₀ z₀) c₀ (by omega) (by omega) (fun t₀ a₀ b₀ => hsr₀ _ t₀ (by omega) (by omega) a₀ b₀) (fun t₀ a₀ b₀ => hsr₀ _ t₀ (by omega) (by omega) a₀ b₀)) ZT_b (fun _ _ _ => trivial) (cwV 2 C₀.1.2.2.2.2 gX9_laysKinds_X9_areAlike rfl rfl rfl (by decide +kernel) ⟨Nat.le_of_ble_eq_true rfl, Nat.le_of_ble_eq_true rfl⟩) [0, 2] [1, 3, 4] [3, 0, 4, 1, 2] rfl rfl (by decide) (by decide) (by decide) (fun _ => rfl) (by decide) (q0 := 0) rfl rfl rfl hl₀.1 rfl (Nat.le_of_ble_eq_true rfl) dX9_laysKinds_37 ⟨Nat.le_of_ble_eq_true rfl, Nat.le_of_ble_eq_true rfl⟩ (fun _ _ H₀ locs₀ hH₀ => ?_)
              refine xb_ne (tgt := 49) C₀.1.1 C₀.1.2.1 dX9_laysKinds_40 (by decide) (fun h_5₀ => ?_) (fun h_5₀ => ?_)
              · have jz₀ : z₀ = fdI (fun j₀ => mAlq sr_1₀ (f₀ j₀) c₀) m₀ 0 := by rw [← k1₀, fdI_eq, if_neg (by rintro ⟨q1₀, q2₀⟩; first | omega | (exact q2₀ (by assumption)))]
                refine lv_iload_n C₀.1.1 C₀.1.2.1 dX9_laysKinds_49 rfl (lv_at hl₀ 2 rfl) ?_
                refine lv_aload_n C₀.1.1 C₀.1.2.1 dX9_laysKinds_50 rfl (lv_at hl₀ 0 rfl) ?_
                refine xw_get C₀ hH₀ 0 rfl rfl 23 (by decide) iw_X9_laysKinds_X9 (by decide +kernel) (v := .int (iI m₀)) rfl dX9_laysKinds_51 ?_
                refine xi_cne (tgt := 74) C₀.1.1 C₀.1.2.1 dX9_laysKinds_54 (by decide) (by omega) (by omega) (fun h_6₀ => ?_) (fun h_6₀ => ?_)
                · refine lv_aload_n C₀.1.1 C₀.1.2.1 dX9_laysKinds_74 rfl (lv_at hl₀ 0 rfl) ?_
                  refine xw_get C₀ hH₀ 0 rfl rfl 21 (by decide) iw_X9_laysKinds_X9 (by decide +kernel) (v := .ref (q₀ 21)) rfl dX9_laysKinds_75 ?_
                  refine lv_iload_n C₀.1.1 C₀.1.2.1 dX9_laysKinds_78 rfl (lv_at hl₀ 1 rfl) ?_
                  refine lv_iload_n C₀.1.1 C₀.1.2.1 dX9_laysKinds_79 rfl (lv_at hl₀ 2 rfl) ?_
                  refine xw_ist (ws' := [mO a₀ q₀ th₀ un₀ mf₀ ty₀ fr₀ tt₀ tk₀ fa₀ (bz hf₀) (bz ho₀) m₀, (q₀ 1, .inl (k₀ 0, 51, .inl (ia s₀))), (q₀ 20, .inl (k₀ 0, 72, .inl (ia sr_1₀))), (q₀ 21, .inl (k₀ 0, 24, .inl (ia (uz g₀ c₀ z₀)))), (q₀ 22, .inl (k₀ 0, 24, .inl (ia f₀)))]) C₀ hH₀ 3 0 rfl rfl (z := c₀) (v := z₀) (by omega) (by omega) (by decide) dX9_laysKinds_80 rfl (fun H₀ locs₀ hH₀ => ?_)
                  refine lv_iinc (v := iI (c₀ + 1)) (lv' := [(1, .int (iI (c₀ + 1))), (0, .ref a₀), (2, .int (iI z₀))]) C₀.1.1 C₀.1.2.1 dX9_laysKinds_81 hl₀ (k := 1) rfl (iI_add _ (1)) (by decide) rfl (fun ls₀ hl₀ => ?_)
                  refine lv_goto (tgt := 11) C₀.1.1 C₀.1.2.1 dX9_laysKinds_84 (by decide) ?_
                  exact ih11₀ (c₀ + 1) m₀ f₀ (uz g₀ c₀ z₀) (by first | (exfalso; omega) | (rw [mKd_s _ _ _ _ i2₀.1 _ _ _ i1₀, ← jz₀]; simp (disch := omega) only [if_pos, if_neg])) (by omega) (by omega) ((by intro j₀ a₀ b₀; have := i4₀ j₀ a₀ b₀; omega)) (by omega) _ _ _ hH₀ (lv_sub hl₀ [1, 0] rfl)
                · refine lv_aload_n C₀.1.1 C₀.1.2.1 dX9_laysKinds_57 rfl (lv_at hl₀ 0 rfl) ?_
                  refine xw_get C₀ hH₀ 0 rfl rfl 22 (by decide) iw_X9_laysKinds_X9 (by decide +kernel) (v := .ref (q₀ 22)) rfl dX9_laysKinds_58 ?_
                  refine lv_iload_n C₀.1.1 C₀.1.2.1 dX9_laysKinds_61 rfl (lv_at hl₀ 2 rfl) ?_
                  refine lv_iload_n C₀.1.1 C₀.1.2.1 dX9_laysKinds_62 rfl (lv_at hl₀ 1 rfl) ?_
                  refine xw_ist (ws' := [mO a₀ q₀ th₀ un₀ mf₀ ty₀ fr₀ tt₀ tk₀ fa₀ (bz hf₀) (bz ho₀) m₀, (q₀ 1, .inl (k₀ 0, 51, .inl (ia s₀))), (q₀ 20, .inl (k₀ 0, 72, .inl (ia sr_1₀))), (q₀ 21, .inl (k₀ 0, 24, .inl (ia g₀))), (q₀ 22, .inl (k₀ 0, 24, .inl (ia (uz f₀ z₀ c₀))))]) C₀ hH₀ 4 0 rfl rfl (z := z₀) (v := c₀) (by omega) (by omega) (by decide) dX9_laysKinds_63 rfl (fun H₀ locs₀ hH₀ => ?_)
                  refine lv_aload_n C₀.1.1 C₀.1.2.1 dX9_laysKinds_64 rfl (lv_at hl₀ 0 rfl) ?_
                  refine lv_dup C₀.1.1 C₀.1.2.1 dX9_laysKinds_65 rfl ?_
                  refine xw_get C₀ hH₀ 0 rfl rfl 23 (by decide) iw_X9_laysKinds_X9 (by decide +kernel) (v := .int (iI m₀)) rfl dX9_laysKinds_66 ?_
                  refine lv_iconst (v := iI 1) C₀.1.1 C₀.1.2.1 dX9_laysKinds_69 (by decide) ?_
                  refine xi_add C₀.1.1 C₀.1.2.1 dX9_laysKinds_70 ?_
                  refine xw_put (ws' := [mO a₀ q₀ th₀ un₀ mf₀ ty₀ fr₀ tt₀ tk₀ fa₀ (bz hf₀) (bz ho₀) (m₀ + 1), (q₀ 1, .inl (k₀ 0, 51, .inl (ia s₀))), (q₀ 20, .inl (k₀ 0, 72, .inl (ia sr_1₀))), (q₀ 21, .inl (k₀ 0, 24, .inl (ia g₀))), (q₀ 22, .inl (k₀ 0, 24, .inl (ia (uz f₀ z₀ c₀))))]) (v := .int (iI (m₀ + 1))) C₀ hH₀ 0 rfl rfl tyX9 tyX9_ok nmX9 23 (by decide) iw_X9_laysKinds_X9 (by decide +kernel) rfl rfl rfl (Nat.le_of_ble_eq_true rfl) dX9_laysKinds_71 rfl (fun H₀ locs₀ hH₀ => ?_)
                  refine lv_aload_n C₀.1.1 C₀.1.2.1 dX9_laysKinds_74 rfl (lv_at hl₀ 0 rfl) ?_
                  refine xw_get C₀ hH₀ 0 rfl rfl 21 (by decide) iw_X9_laysKinds_X9 (by decide +kernel) (v := .ref (q₀ 21)) rfl dX9_laysKinds_75 ?_
                  refine lv_iload_n C₀.1.1 C₀.1.2.1 dX9_laysKinds_78 rfl (lv_at hl₀ 1 rfl) ?_
                  refine lv_iload_n C₀.1.1 C₀.1.2.1 dX9_laysKinds_79 rfl (lv_at hl₀ 2 rfl) ?_
                  refine xw_ist (ws' := [mO a₀ q₀ th₀ un₀ mf₀ ty₀ fr₀ tt₀ tk₀ fa₀ (bz hf₀) (bz ho₀) (m₀ + 1), (q₀ 1, .inl (k₀ 0, 51, .inl (ia s₀))), (q₀ 20, .inl (k₀ 0, 72, .inl (ia sr_1₀))), (q₀ 21, .inl (k₀ 0, 24, .inl (ia (uz g₀ c₀ z₀)))), (q₀ 22, .inl (k₀ 0, 24, .inl (ia (uz f₀ z₀ c₀))))]) C₀ hH₀ 3 0 rfl rfl (z := c₀) (v := z₀) (by omega) (by omega) (by decide) dX9_laysKinds_80 rfl (fun H₀ locs₀ hH₀ => ?_)
                  refine lv_iinc (v := iI (c₀ + 1)) (lv' := [(1, .int (iI (c₀ + 1))), (0, .ref a₀), (2, .int (iI z₀))]) C₀.1.1 C₀.1.2.1 dX9_laysKinds_81 hl₀ (k := 1) rfl (iI_add _ (1)) (by decide) rfl (fun ls₀ hl₀ => ?_)
                  refine lv_goto (tgt := 11) C₀.1.1 C₀.1.2.1 dX9_laysKinds_84 (by decide) ?_
                  exact ih11₀ (c₀ + 1) (m₀ + 1) (uz f₀ z₀ c₀) (uz g₀ c₀ z₀) (by rw [mKd_s _ _ _ _ i2₀.1 _ _ _ i1₀, ← jz₀, if_pos (by omega), if_pos (by omega), show z₀ = m₀ by omega]) (by omega) (by omega) ((by intro j₀ a₀ b₀; by_cases hj₀ : j₀ = z₀; (rw [hj₀, uz_s]; omega); (rw [uz_n hj₀]; have := i4₀ j₀ a₀ (by omega); omega))) (by omega) _ _ _ hH₀ (lv_sub hl₀ [1, 0] rfl)
              · refine lv_iinc (v := iI (z₀ + 1)) (lv' := [(2, .int (iI (z₀ + 1))), (0, .ref a₀), (1, .int (iI c₀))]) C₀.1.1 C₀.1.2.1 dX9_laysKinds_43 hl₀ (k := 2) rfl (iI_add _ (1)) (by decide) rfl (fun ls₀ hl₀ => ?_)
                refine lv_goto (tgt := 21) C₀.1.1 C₀.1.2.1 dX9_laysKinds_46 (by decide) ?_
                exact ih21₀ (z₀ + 1) (by rw [← k1₀, fdI_eq (j := z₀), if_pos ⟨by omega, by simp_all⟩]) (by omega) (by omega) _ _ _ hH₀ (lv_sub hl₀ [1, 2, 0] rfl)
        exact L21₀ (((m₀ - 0) : Int).toNat + 1) 0 (rfl) (by omega) (by omega) _ _ _ hH₀ (lv_sub hl₀ [1, 2, 0] rfl)
  exact L11₀ (((s₀ 0 * s₀ 1 - 0) : Int).toNat + 1) 0 0 fi₀ kn₀ (rfl) (by omega) (by omega) (fun j₀ a₀ b₀ => absurd b₀ (by omega)) (by omega) _ _ _ hH₀ (lv_sub hl₀ [1, 0] rfl)
theorem iw_X9_kindOf_X9 : ∀ w₀ ∈ u_ws RX9 TX9 24, w₀ ∈ wsX9_kindOf := (fun w₀ h₀ => List.mem_cons_of_mem _ (List.mem_append_right _ h₀))
abbrev rmX9_kindOf : Room := { frames := 7, cells := 0, slots := 0, locals := 164 }
set_option maxHeartbeats 4000000 in
set_option maxRecDepth 100000 in
/-- kindOf -/
theorem c_X9_kindOf (lL₀ : Launch) (D₀ : va_G) (k₀ : Nat → ClassId) (sz₀ : Nat) (a₀ : Nat) (q₀ : Nat → Nat) (th₀ : Int) (un₀ : Int) (mf₀ : Int) (ty₀ : Int) (fr₀ : Int) (tt₀ : Int) (tk₀ : Int) (fa₀ : Int) (hf₀ : Bool) (ho₀ : Bool) (km₀ : Int) (s₀ : Int → Int) (sq₀ : Int → Int) (kn₀ : Int → Int) (fi₀ : Int → Int) (c₀ : Int) (hS₀ : mS s₀) (hc₀ : 0 ≤ c₀ ∧ c₀ < 24) : Met lL₀ yX9_kindOf wsX9_kindOf rmX9_kindOf (gPc ZT D₀ (tyk k₀) [.ref a₀, .int (iI c₀)] sz₀ [mO a₀ q₀ th₀ un₀ mf₀ ty₀ fr₀ tt₀ tk₀ fa₀ (bz hf₀) (bz ho₀) km₀, (q₀ 1, .inl (k₀ 0, 51, .inl (ia s₀))), (q₀ 20, .inl (k₀ 0, 72, .inl (ia sq₀))), (q₀ 21, .inl (k₀ 0, 24, .inl (ia kn₀))), (q₀ 22, .inl (k₀ 0, 24, .inl (ia fi₀)))]) (gQi D₀ (tyk k₀) [mO a₀ q₀ th₀ un₀ mf₀ ty₀ fr₀ tt₀ tk₀ fa₀ (bz hf₀) (bz ho₀) km₀, (q₀ 1, .inl (k₀ 0, 51, .inl (ia s₀))), (q₀ 20, .inl (k₀ 0, 72, .inl (ia sq₀))), (q₀ 21, .inl (k₀ 0, 24, .inl (ia kn₀))), (q₀ 22, .inl (k₀ 0, 24, .inl (ia fi₀)))] sz₀ (fun (sr₀ : Int → Int) => mSqOk s₀ sr₀ (s₀ 0 * s₀ 1)) (fun (sr₀ : Int → Int) => (iI ((mKd sr₀ fi₀ kn₀ (s₀ 0 * s₀ 1).toNat).2.2 c₀))) (fun (sr₀ : Int → Int) => [mO a₀ q₀ th₀ un₀ mf₀ ty₀ fr₀ tt₀ tk₀ fa₀ (bz hf₀) (bz ho₀) ((mKd sr₀ fi₀ kn₀ (s₀ 0 * s₀ 1).toNat).1), (q₀ 1, .inl (k₀ 0, 51, .inl (ia s₀))), (q₀ 20, .inl (k₀ 0, 72, .inl (ia sr₀))), (q₀ 21, .inl (k₀ 0, 24, .inl (ia ((mKd sr₀ fi₀ kn₀ (s₀ 0 * s₀ 1).toNat).2.2)))), (q₀ 22, .inl (k₀ 0, 24, .inl (ia ((mKd sr₀ fi₀ kn₀ (s₀ 0 * s₀ 1).toNat).2.1))))])) 0 0 (va_A [mO a₀ q₀ th₀ un₀ mf₀ ty₀ fr₀ tt₀ tk₀ fa₀ (bz hf₀) (bz ho₀) km₀, (q₀ 1, .inl (k₀ 0, 51, .inl (ia s₀))), (q₀ 20, .inl (k₀ 0, 72, .inl (ia sq₀))), (q₀ 21, .inl (k₀ 0, 24, .inl (ia kn₀))), (q₀ 22, .inl (k₀ 0, 24, .inl (ia fi₀)))] sz₀) := by
  refine xs_met (cc := cX9_kindOf) (maxL := 2) (ret := some .int) (by decide) rfl (Nat.le_of_ble_eq_true rfl) ?_
  intro pP₀ eN₀ sT₀ mI₀ below₀ meth₀ cD₀ hsz₀ args₀ QQ₀ C₀ hr₀ hlk₀ hnm₀ hQ₀ ls₀ H₀ locs₀ hl₀ hH₀
  subst hsz₀
  have hl₀ : lv_has ls₀ 2 [(0, .ref a₀), (1, .int (iI c₀))] := hl₀
  generalize hAe₀ : va_A [mO a₀ q₀ th₀ un₀ mf₀ ty₀ fr₀ tt₀ tk₀ fa₀ (bz hf₀) (bz ho₀) km₀, (q₀ 1, .inl (k₀ 0, 51, .inl (ia s₀))), (q₀ 20, .inl (k₀ 0, 72, .inl (ia sq₀))), (q₀ 21, .inl (k₀ 0, 24, .inl (ia kn₀))), (q₀ 22, .inl (k₀ 0, 24, .inl (ia fi₀)))] sT₀.heap.size = A₀ at C₀ hH₀ hQ₀
  refine lv_aload_n C₀.1.1 C₀.1.2.1 dX9_kindOf_0 rfl (lv_at hl₀ 0 rfl) ?_
  refine xc_Vv (wr := []) (ws' := fun sr_1₀ => [mO a₀ q₀ th₀ un₀ mf₀ ty₀ fr₀ tt₀ tk₀ fa₀ (bz hf₀) (bz ho₀) ((mKd sr_1₀ fi₀ kn₀ (s₀ 0 * s₀ 1).toNat).1), (q₀ 1, .inl (k₀ 0, 51, .inl (ia s₀))), (q₀ 20, .inl (k₀ 0, 72, .inl (ia sr_1₀))), (q₀ 21, .inl (k₀ 0, 24, .inl (ia ((mKd sr_1₀ fi₀ kn₀ (s₀ 0 * s₀ 1).toNat).2.2)))), (q₀ 22, .inl (k₀ 0, 24, .inl (ia ((mKd sr_1₀ fi₀ kn₀ (s₀ 0 * s₀ 1).toNat).2.1))))]) (As := []) (rest := []) C₀ hH₀ (c_X9_laysKinds lL₀ D₀ k₀ H₀.size a₀ q₀ th₀ un₀ mf₀ ty₀ fr₀ tt₀ tk₀ fa₀ hf₀ ho₀ km₀ s₀ sq₀ kn₀ fi₀ (hS₀)) ZT_b (fun _ _ _ => trivial) (cwV 0 C₀.1.2.2.2.2 gX9_kindOf_X9_laysKinds rfl rfl rfl (by decide +kernel) ⟨Nat.le_of_ble_eq_true rfl, Nat.le_of_ble_eq_true rfl⟩) [0, 1, 2, 3, 4] [] [0, 1, 2, 3, 4] rfl rfl (by decide) (by decide) (by decide) (fun _ => rfl) (by decide) (q0 := 0) rfl rfl rfl hl₀.1 rfl (Nat.le_of_ble_eq_true rfl) dX9_kindOf_1 ⟨Nat.le_of_ble_eq_true rfl, Nat.le_of_ble_eq_true rfl⟩ (fun sr_1₀ hu₀ H₀ locs₀ hH₀ => ?_)
  refine lv_aload_n C₀.1.1 C₀.1.2.1 dX9_kindOf_4 rfl (lv_at hl₀ 0 rfl) ?_
  refine xw_get C₀ hH₀ 0 rfl rfl 21 (by decide) iw_X9_kindOf_X9 (by decide +kernel) (v := .ref (q₀ 21)) rfl dX9_kindOf_5 ?_
  refine lv_iload_n C₀.1.1 C₀.1.2.1 dX9_kindOf_8 rfl (lv_at hl₀ 1 rfl) ?_
  refine xw_ild C₀ hH₀ 3 0 rfl rfl (z := c₀) (by omega) (by omega) (by decide) dX9_kindOf_9 ?_
  exact xr_i C₀ hH₀ hlk₀ hr₀ hQ₀ rfl hAe₀ (sr_1₀) hu₀ rfl rfl dX9_kindOf_10
theorem iw_X9_isSo_X9 : ∀ w₀ ∈ u_ws RX9 TX9 24, w₀ ∈ wsX9_isSo := (fun w₀ h₀ => List.mem_cons_of_mem _ (List.mem_append_right _ h₀))
abbrev rmX9_isSo : Room := { frames := 0, cells := 0, slots := 0, locals := 0 }
set_option maxHeartbeats 4000000 in
set_option maxRecDepth 100000 in
/-- isSo -/
theorem c_X9_isSo (lL₀ : Launch) (D₀ : va_G) (k₀ : Nat → ClassId) (sz₀ : Nat) (a₀ : Nat) (q₀ : Nat → Nat) (th₀ : Int) (un₀ : Int) (mf₀ : Int) (ty₀ : Int) (fr₀ : Int) (tt₀ : Int) (tk₀ : Int) (fa₀ : Int) (hf₀ : Bool) (ho₀ : Bool) (km₀ : Int) (fc₀ : Int → Int) (sq₀ : Int → Int) (c₀ : Int) (hc₀ : 0 ≤ c₀ ∧ c₀ < 24) (hmf₀ : 0 ≤ mf₀ ∧ mf₀ ≤ 6) (hfc₀ : ∀ j₀, 0 ≤ j₀ → j₀ < mf₀ → (1 ≤ fc₀ (2 * j₀) ∧ fc₀ (2 * j₀) ≤ 3) ∧ -9 ≤ fc₀ (2 * j₀ + 1) ∧ fc₀ (2 * j₀ + 1) ≤ 46) (hr1₀ : ∀ t₀, 0 ≤ t₀ → t₀ < 3 → -9 ≤ sq₀ (3 * c₀ + t₀) ∧ sq₀ (3 * c₀ + t₀) ≤ 46) : Met lL₀ yX9_isSo wsX9_isSo rmX9_isSo (gPc ZT D₀ (tyk k₀) [.ref a₀, .int (iI c₀)] sz₀ [mO a₀ q₀ th₀ un₀ mf₀ ty₀ fr₀ tt₀ tk₀ fa₀ (bz hf₀) (bz ho₀) km₀, (q₀ 7, .inl (k₀ 0, 12, .inl (ia fc₀))), (q₀ 20, .inl (k₀ 0, 72, .inl (ia sq₀)))]) (gQi D₀ (tyk k₀) [mO a₀ q₀ th₀ un₀ mf₀ ty₀ fr₀ tt₀ tk₀ fa₀ (bz hf₀) (bz ho₀) km₀, (q₀ 7, .inl (k₀ 0, 12, .inl (ia fc₀))), (q₀ 20, .inl (k₀ 0, 72, .inl (ia sq₀)))] sz₀ (fun (_ : Unit) => True) (fun (_ : Unit) => (iI (bz (mSo sq₀ fc₀ mf₀ c₀)))) (fun (_ : Unit) => [mO a₀ q₀ th₀ un₀ mf₀ ty₀ fr₀ tt₀ tk₀ fa₀ (bz hf₀) (bz ho₀) km₀, (q₀ 7, .inl (k₀ 0, 12, .inl (ia fc₀))), (q₀ 20, .inl (k₀ 0, 72, .inl (ia sq₀)))])) 0 0 (va_A [mO a₀ q₀ th₀ un₀ mf₀ ty₀ fr₀ tt₀ tk₀ fa₀ (bz hf₀) (bz ho₀) km₀, (q₀ 7, .inl (k₀ 0, 12, .inl (ia fc₀))), (q₀ 20, .inl (k₀ 0, 72, .inl (ia sq₀)))] sz₀) := by
  refine xs_met (cc := cX9_isSo) (maxL := 4) (ret := some .boolean) (by decide) rfl (Nat.le_of_ble_eq_true rfl) ?_
  intro pP₀ eN₀ sT₀ mI₀ below₀ meth₀ cD₀ hsz₀ args₀ QQ₀ C₀ hr₀ hlk₀ hnm₀ hQ₀ ls₀ H₀ locs₀ hl₀ hH₀
  subst hsz₀
  have hl₀ : lv_has ls₀ 4 [(0, .ref a₀), (1, .int (iI c₀))] := hl₀
  generalize hAe₀ : va_A [mO a₀ q₀ th₀ un₀ mf₀ ty₀ fr₀ tt₀ tk₀ fa₀ (bz hf₀) (bz ho₀) km₀, (q₀ 7, .inl (k₀ 0, 12, .inl (ia fc₀))), (q₀ 20, .inl (k₀ 0, 72, .inl (ia sq₀)))] sT₀.heap.size = A₀ at C₀ hH₀ hQ₀
  refine lv_iconst (v := iI 1) C₀.1.1 C₀.1.2.1 dX9_isSo_0 (by decide) ?_
  refine lv_istore_n (lv' := [(2, .int (iI 1)), (0, .ref a₀), (1, .int (iI c₀))]) C₀.1.1 C₀.1.2.1 dX9_isSo_1 rfl hl₀ (by decide) rfl (fun ls₀ hl₀ => ?_)
  refine lv_iconst (v := iI 0) C₀.1.1 C₀.1.2.1 dX9_isSo_2 (by decide) ?_
  refine lv_istore_n (lv' := [(3, .int (iI 0)), (2, .int (iI 1)), (0, .ref a₀), (1, .int (iI c₀))]) C₀.1.1 C₀.1.2.1 dX9_isSo_3 rfl hl₀ (by decide) rfl (fun ls₀ hl₀ => ?_)
  have L4₀ : ∀ (nn₀ : Nat), ∀ (t₀ : Bool) (z₀ : Int), (t₀ = alI (fun k₀ => decide (sq₀ (3 * c₀ + fc₀ (2 * k₀) - 1) = fc₀ (2 * k₀ + 1))) z₀) → (0 ≤ z₀ ∧ z₀ ≤ mf₀) → ((mf₀ - z₀) < (nn₀ : Int)) → ∀ (H₀ : Heap) (locs₀ : List Loc) (ls₀ : Array Slot), Hp D₀ A₀ sT₀.heap [mO a₀ q₀ th₀ un₀ mf₀ ty₀ fr₀ tt₀ tk₀ fa₀ (bz hf₀) (bz ho₀) km₀, (q₀ 7, .inl (k₀ 0, 12, .inl (ia fc₀))), (q₀ 20, .inl (k₀ 0, 72, .inl (ia sq₀)))] H₀ locs₀ → lv_has ls₀ 4 [(0, .ref a₀), (1, .int (iI c₀)), (2, .int (iI (bz t₀))), (3, .int (iI z₀))] → W pP₀ lL₀ eN₀ rmX9_isSo sT₀ mI₀ args₀ below₀ meth₀ cD₀ H₀ locs₀ 0 0 QQ₀ (F0 mI₀ 4 ls₀ []) := by
    intro nn₀
    induction nn₀ with
    | zero => intro t₀ z₀ i1₀ i2₀ hm₀; exact absurd hm₀ (by omega)
    | succ nn₀ ih4₀ =>
      intro t₀ z₀ i1₀ i2₀ hm4₀ H₀ locs₀ ls₀ hH₀ hl₀
      refine lv_iload_n C₀.1.1 C₀.1.2.1 dX9_isSo_4 rfl (lv_at hl₀ 3 rfl) ?_
      refine lv_aload_n C₀.1.1 C₀.1.2.1 dX9_isSo_5 rfl (lv_at hl₀ 0 rfl) ?_
      refine xw_get C₀ hH₀ 0 rfl rfl 8 (by decide) iw_X9_isSo_X9 (by decide +kernel) (v := .int (iI mf₀)) rfl dX9_isSo_6 ?_
      refine xi_cge (tgt := 60) C₀.1.1 C₀.1.2.1 dX9_isSo_9 (by decide) (by omega) (by omega) (fun h_1₀ => ?_) (fun h_1₀ => ?_)
      · refine lv_iload_n C₀.1.1 C₀.1.2.1 dX9_isSo_60 rfl (lv_at hl₀ 2 rfl) ?_
        exact xr_i C₀ hH₀ hlk₀ hr₀ hQ₀ (nar_bz _) hAe₀ () trivial (by unfold mSo; rw [i1₀, show z₀ = mf₀ by omega]) rfl dX9_isSo_61
      · have hf1₀ := hfc₀ z₀ (by omega) (by omega)
        have hf2₀ := hr1₀ (fc₀ (2 * z₀) - 1) (by omega) (by omega)
        rw [show 3 * c₀ + (fc₀ (2 * z₀) - 1) = 3 * c₀ + fc₀ (2 * z₀) - 1 by omega] at hf2₀
        have L53₀ : ∀ (d₀ : Bool), (d₀ = (t₀ && decide (sq₀ (3 * c₀ + fc₀ (2 * z₀) - 1) = fc₀ (2 * z₀ + 1)))) → ∀ (H₀ : Heap) (locs₀ : List Loc) (ls₀ : Array Slot), Hp D₀ A₀ sT₀.heap [mO a₀ q₀ th₀ un₀ mf₀ ty₀ fr₀ tt₀ tk₀ fa₀ (bz hf₀) (bz ho₀) km₀, (q₀ 7, .inl (k₀ 0, 12, .inl (ia fc₀))), (q₀ 20, .inl (k₀ 0, 72, .inl (ia sq₀)))] H₀ locs₀ → lv_has ls₀ 4 [(0, .ref a₀), (1, .int (iI c₀)), (2, .int (iI (bz t₀))), (3, .int (iI z₀))] → W pP₀ lL₀ eN₀ rmX9_isSo sT₀ mI₀ args₀ below₀ meth₀ cD₀ H₀ locs₀ 0 0 QQ₀ (F0 mI₀ 53 ls₀ [.int (iI (bz d₀))]) := by
          intro d₀ jd₀ H₀ locs₀ ls₀ hH₀ hl₀
          refine lv_istore_n (lv' := [(2, .int (iI (bz d₀))), (0, .ref a₀), (1, .int (iI c₀)), (3, .int (iI z₀))]) C₀.1.1 C₀.1.2.1 dX9_isSo_53 rfl hl₀ (by decide) rfl (fun ls₀ hl₀ => ?_)
          refine lv_iinc (v := iI (z₀ + 1)) (lv' := [(3, .int (iI (z₀ + 1))), (2, .int (iI (bz d₀))), (0, .ref a₀), (1, .int (iI c₀))]) C₀.1.1 C₀.1.2.1 dX9_isSo_54 hl₀ (k := 3) rfl (iI_add _ (1)) (by decide) rfl (fun ls₀ hl₀ => ?_)
          refine lv_goto (tgt := 4) C₀.1.1 C₀.1.2.1 dX9_isSo_57 (by decide) ?_
          exact ih4₀ d₀ (z₀ + 1) (by rw [alI_s i2₀.1, ← i1₀, jd₀]) (by omega) (by omega) _ _ _ hH₀ (lv_sub hl₀ [2, 3, 1, 0] rfl)
        refine lv_iload_n C₀.1.1 C₀.1.2.1 dX9_isSo_12 rfl (lv_at hl₀ 2 rfl) ?_
        refine xb_eq (tgt := 52) C₀.1.1 C₀.1.2.1 dX9_isSo_13 (by decide) (fun h_2₀ => ?_) (fun h_2₀ => ?_)
        · refine lv_iconst (v := iI 0) C₀.1.1 C₀.1.2.1 dX9_isSo_52 (by decide) ?_
          exact L53₀ false ((by simp_all)) _ _ _ hH₀ (lv_sub hl₀ [0, 1, 2, 3] rfl)
        · refine lv_aload_n C₀.1.1 C₀.1.2.1 dX9_isSo_16 rfl (lv_at hl₀ 0 rfl) ?_
          refine xw_get C₀ hH₀ 0 rfl rfl 20 (by decide) iw_X9_isSo_X9 (by decide +kernel) (v := .ref (q₀ 20)) rfl dX9_isSo_17 ?_
          refine lv_iconst (v := iI 3) C₀.1.1 C₀.1.2.1 dX9_isSo_20 (by decide) ?_
          refine lv_iload_n C₀.1.1 C₀.1.2.1 dX9_isSo_21 rfl (lv_at hl₀ 1 rfl) ?_
          refine xi_mul C₀.1.1 C₀.1.2.1 dX9_isSo_22 ?_
          refine lv_aload_n C₀.1.1 C₀.1.2.1 dX9_isSo_23 rfl (lv_at hl₀ 0 rfl) ?_
          refine xw_get C₀ hH₀ 0 rfl rfl 7 (by decide) iw_X9_isSo_X9 (by decide +kernel) (v := .ref (q₀ 7)) rfl dX9_isSo_24 ?_
          refine lv_iconst (v := iI 2) C₀.1.1 C₀.1.2.1 dX9_isSo_27 (by decide) ?_
          refine lv_iload_n C₀.1.1 C₀.1.2.1 dX9_isSo_28 rfl (lv_at hl₀ 3 rfl) ?_
          refine xi_mul C₀.1.1 C₀.1.2.1 dX9_isSo_29 ?_
          refine xw_ild C₀ hH₀ 1 0 rfl rfl (z := 2 * z₀) (by omega) (by omega) (by decide) dX9_isSo_30 ?_
          refine xi_add C₀.1.1 C₀.1.2.1 dX9_isSo_31 ?_
          refine lv_iconst (v := iI 1) C₀.1.1 C₀.1.2.1 dX9_isSo_32 (by decide) ?_
          refine xi_sub C₀.1.1 C₀.1.2.1 dX9_isSo_33 ?_
          refine xw_ild C₀ hH₀ 2 0 rfl rfl (z := 3 * c₀ + (fc₀ (2 * z₀)) - 1) (by omega) (by omega) (by decide) dX9_isSo_34 ?_
          refine lv_aload_n C₀.1.1 C₀.1.2.1 dX9_isSo_35 rfl (lv_at hl₀ 0 rfl) ?_
          refine xw_get C₀ hH₀ 0 rfl rfl 7 (by decide) iw_X9_isSo_X9 (by decide +kernel) (v := .ref (q₀ 7)) rfl dX9_isSo_36 ?_
          refine lv_iconst (v := iI 2) C₀.1.1 C₀.1.2.1 dX9_isSo_39 (by decide) ?_
          refine lv_iload_n C₀.1.1 C₀.1.2.1 dX9_isSo_40 rfl (lv_at hl₀ 3 rfl) ?_
          refine xi_mul C₀.1.1 C₀.1.2.1 dX9_isSo_41 ?_
          refine lv_iconst (v := iI 1) C₀.1.1 C₀.1.2.1 dX9_isSo_42 (by decide) ?_
          refine xi_add C₀.1.1 C₀.1.2.1 dX9_isSo_43 ?_
          refine xw_ild C₀ hH₀ 1 0 rfl rfl (z := 2 * z₀ + 1) (by omega) (by omega) (by decide) dX9_isSo_44 ?_
          refine xi_cne (tgt := 52) C₀.1.1 C₀.1.2.1 dX9_isSo_45 (by decide) (by omega) (by omega) (fun h_3₀ => ?_) (fun h_3₀ => ?_)
          · refine lv_iconst (v := iI 0) C₀.1.1 C₀.1.2.1 dX9_isSo_52 (by decide) ?_
            exact L53₀ false ((by simp_all)) _ _ _ hH₀ (lv_sub hl₀ [0, 1, 2, 3] rfl)
          · refine lv_iconst (v := iI 1) C₀.1.1 C₀.1.2.1 dX9_isSo_48 (by decide) ?_
            refine lv_goto (tgt := 53) C₀.1.1 C₀.1.2.1 dX9_isSo_49 (by decide) ?_
            exact L53₀ true ((by simp_all)) _ _ _ hH₀ (lv_sub hl₀ [0, 1, 2, 3] rfl)
  exact L4₀ (((mf₀ - 0) : Int).toNat + 1) true 0 (rfl) (by omega) (by omega) _ _ _ hH₀ (lv_sub hl₀ [2, 3, 1, 0] rfl)
theorem iw_X9_cell_X9 : ∀ w₀ ∈ u_ws RX9 TX9 24, w₀ ∈ wsX9_cell := (fun w₀ h₀ => List.mem_cons_of_mem _ (List.mem_append_right _ h₀))
abbrev rmX9_cell : Room := { frames := 8, cells := 0, slots := 0, locals := 185 }
set_option maxHeartbeats 4000000 in
set_option maxRecDepth 100000 in
/-- cell -/
theorem c_X9_cell (lL₀ : Launch) (D₀ : va_G) (k₀ : Nat → ClassId) (sz₀ : Nat) (a₀ : Nat) (q₀ : Nat → Nat) (th₀ : Int) (un₀ : Int) (mf₀ : Int) (ty₀ : Int) (fr₀ : Int) (tt₀ : Int) (tk₀ : Int) (fa₀ : Int) (hf₀ : Bool) (ho₀ : Bool) (km₀ : Int) (s₀ : Int → Int) (sq₀ : Int → Int) (kn₀ : Int → Int) (fi₀ : Int → Int) (x : Int) (y₀ : Int) (i₀ : Int) (hS₀ : mS s₀) (hx₀ : -2147483648 ≤ x ∧ x < 2147483648) (hy₀ : -2147483648 ≤ y₀ ∧ y₀ < 2147483648) (hi₀ : -2147483648 ≤ i₀ ∧ i₀ < 2147483648) : Met lL₀ yX9_cell wsX9_cell rmX9_cell (gPc ZT D₀ (tyk k₀) [.ref a₀, .int (iI x), .int (iI y₀), .int (iI i₀)] sz₀ [mO a₀ q₀ th₀ un₀ mf₀ ty₀ fr₀ tt₀ tk₀ fa₀ (bz hf₀) (bz ho₀) km₀, (q₀ 1, .inl (k₀ 0, 51, .inl (ia s₀))), (q₀ 20, .inl (k₀ 0, 72, .inl (ia sq₀))), (q₀ 21, .inl (k₀ 0, 24, .inl (ia kn₀))), (q₀ 22, .inl (k₀ 0, 24, .inl (ia fi₀)))]) (gQi D₀ (tyk k₀) [mO a₀ q₀ th₀ un₀ mf₀ ty₀ fr₀ tt₀ tk₀ fa₀ (bz hf₀) (bz ho₀) km₀, (q₀ 1, .inl (k₀ 0, 51, .inl (ia s₀))), (q₀ 20, .inl (k₀ 0, 72, .inl (ia sq₀))), (q₀ 21, .inl (k₀ 0, 24, .inl (ia kn₀))), (q₀ 22, .inl (k₀ 0, 24, .inl (ia fi₀)))] sz₀ (fun (u₀ : (Int) × (Int) × (Int → Int) × (Int → Int) × (Int → Int)) => match u₀ with | (r₀, km2₀, sr₀, kn2₀, fi2₀) => (if (0 ≤ x ∧ x < s₀ 0 ∧ 0 ≤ y₀ ∧ y₀ < s₀ 1) ∧ 0 ≤ i₀ ∧ i₀ ≤ 2 then (if i₀ = 0 then r₀ = s₀ (3 + s₀ 0 * y₀ + x) else if i₀ = 1 then r₀ = s₀ (27 + s₀ 0 * y₀ + x) else mSqOk s₀ sr₀ (s₀ 0 * s₀ 1) ∧ r₀ = (mKd sr₀ fi₀ kn₀ (s₀ 0 * s₀ 1).toNat).2.2 (s₀ 0 * y₀ + x)) else r₀ = -1)) (fun (u₀ : (Int) × (Int) × (Int → Int) × (Int → Int) × (Int → Int)) => match u₀ with | (r₀, km2₀, sr₀, kn2₀, fi2₀) => (iI r₀)) (fun (u₀ : (Int) × (Int) × (Int → Int) × (Int → Int) × (Int → Int)) => match u₀ with | (r₀, km2₀, sr₀, kn2₀, fi2₀) => [mO a₀ q₀ 0 un₀ mf₀ ty₀ fr₀ tt₀ tk₀ fa₀ (bz hf₀) (bz ho₀) km2₀, (q₀ 1, .inl (k₀ 0, 51, .inl (ia s₀))), (q₀ 20, .inl (k₀ 0, 72, .inl (ia sr₀))), (q₀ 21, .inl (k₀ 0, 24, .inl (ia kn2₀))), (q₀ 22, .inl (k₀ 0, 24, .inl (ia fi2₀)))])) 0 0 (va_A [mO a₀ q₀ th₀ un₀ mf₀ ty₀ fr₀ tt₀ tk₀ fa₀ (bz hf₀) (bz ho₀) km₀, (q₀ 1, .inl (k₀ 0, 51, .inl (ia s₀))), (q₀ 20, .inl (k₀ 0, 72, .inl (ia sq₀))), (q₀ 21, .inl (k₀ 0, 24, .inl (ia kn₀))), (q₀ 22, .inl (k₀ 0, 24, .inl (ia fi₀)))] sz₀) := by
  refine xs_met (cc := cX9_cell) (maxL := 4) (ret := some .int) (by decide) rfl (Nat.le_of_ble_eq_true rfl) ?_
  intro pP₀ eN₀ sT₀ mI₀ below₀ meth₀ cD₀ hsz₀ args₀ QQ₀ C₀ hr₀ hlk₀ hnm₀ hQ₀ ls₀ H₀ locs₀ hl₀ hH₀
  subst hsz₀
  have hl₀ : lv_has ls₀ 4 [(0, .ref a₀), (1, .int (iI x)), (2, .int (iI y₀)), (3, .int (iI i₀))] := hl₀
  generalize hAe₀ : va_A [mO a₀ q₀ th₀ un₀ mf₀ ty₀ fr₀ tt₀ tk₀ fa₀ (bz hf₀) (bz ho₀) km₀, (q₀ 1, .inl (k₀ 0, 51, .inl (ia s₀))), (q₀ 20, .inl (k₀ 0, 72, .inl (ia sq₀))), (q₀ 21, .inl (k₀ 0, 24, .inl (ia kn₀))), (q₀ 22, .inl (k₀ 0, 24, .inl (ia fi₀)))] sT₀.heap.size = A₀ at C₀ hH₀ hQ₀
  obtain ⟨hs0₀, hs1₀, hs2₀, hsh₀, hsf₀⟩ := id hS₀
  have hcl₀ := cells_rg hs0₀ hs1₀
  refine lv_aload_n C₀.1.1 C₀.1.2.1 dX9_cell_0 rfl (lv_at hl₀ 0 rfl) ?_
  refine lv_iconst (v := iI 0) C₀.1.1 C₀.1.2.1 dX9_cell_1 (by decide) ?_
  refine xw_put (ws' := [mO a₀ q₀ 0 un₀ mf₀ ty₀ fr₀ tt₀ tk₀ fa₀ (bz hf₀) (bz ho₀) km₀, (q₀ 1, .inl (k₀ 0, 51, .inl (ia s₀))), (q₀ 20, .inl (k₀ 0, 72, .inl (ia sq₀))), (q₀ 21, .inl (k₀ 0, 24, .inl (ia kn₀))), (q₀ 22, .inl (k₀ 0, 24, .inl (ia fi₀)))]) (v := .int (iI 0)) C₀ hH₀ 0 rfl rfl tyX9 tyX9_ok nmX9 0 (by decide) iw_X9_cell_X9 (by decide +kernel) rfl rfl rfl (Nat.le_of_ble_eq_true rfl) dX9_cell_2 rfl (fun H₀ locs₀ hH₀ => ?_)
  refine lv_aload_n C₀.1.1 C₀.1.2.1 dX9_cell_5 rfl (lv_at hl₀ 0 rfl) ?_
  refine lv_iload_n C₀.1.1 C₀.1.2.1 dX9_cell_6 rfl (lv_at hl₀ 1 rfl) ?_
  refine lv_iload_n C₀.1.1 C₀.1.2.1 dX9_cell_7 rfl (lv_at hl₀ 2 rfl) ?_
  refine xc_Vi (wr := [(q₀ 20, .inl (k₀ 0, 72, .inl (ia sq₀))), (q₀ 21, .inl (k₀ 0, 24, .inl (ia kn₀))), (q₀ 22, .inl (k₀ 0, 24, .inl (ia fi₀)))]) (ws' := fun _ => [mO a₀ q₀ 0 un₀ mf₀ ty₀ fr₀ tt₀ tk₀ fa₀ (bz hf₀) (bz ho₀) km₀, (q₀ 1, .inl (k₀ 0, 51, .inl (ia s₀))), (q₀ 20, .inl (k₀ 0, 72, .inl (ia sq₀))), (q₀ 21, .inl (k₀ 0, 24, .inl (ia kn₀))), (q₀ 22, .inl (k₀ 0, 24, .inl (ia fi₀)))]) (As := [.int (iI x), .int (iI y₀)]) (rest := []) C₀ hH₀ (c_X9_isCell lL₀ D₀ k₀ H₀.size a₀ q₀ 0 un₀ mf₀ ty₀ fr₀ tt₀ tk₀ fa₀ hf₀ ho₀ km₀ s₀ x y₀ (by omega) (by omega) (by omega) (by omega)) ZT_b (fun _ _ _ => trivial) (cwV 2 C₀.1.2.2.2.2 gX9_cell_X9_isCell rfl rfl rfl (by decide +kernel) ⟨Nat.le_of_ble_eq_true rfl, Nat.le_of_ble_eq_true rfl⟩) [0, 1] [2, 3, 4] [3, 4, 0, 1, 2] rfl rfl (by decide) (by decide) (by decide) (fun _ => rfl) (by decide) (q0 := 0) rfl rfl rfl hl₀.1 rfl (Nat.le_of_ble_eq_true rfl) dX9_cell_8 ⟨Nat.le_of_ble_eq_true rfl, Nat.le_of_ble_eq_true rfl⟩ (fun _ _ H₀ locs₀ hH₀ => ?_)
  refine xp_eq (tgt := 23) C₀.1.1 C₀.1.2.1 dX9_cell_11 (by decide) (fun h_1₀ => ?_) (fun h_1₀ => ?_)
  · refine lv_iconst (v := iI (-1)) C₀.1.1 C₀.1.2.1 dX9_cell_23 (by decide) ?_
    exact xr_i C₀ hH₀ hlk₀ hr₀ hQ₀ rfl hAe₀ ((-1), km₀, sq₀, kn₀, fi₀) (by simp (disch := omega) only [if_pos, if_neg]) rfl rfl dX9_cell_24
  · refine lv_iload_n C₀.1.1 C₀.1.2.1 dX9_cell_14 rfl (lv_at hl₀ 3 rfl) ?_
    refine lv_iconst (v := iI 0) C₀.1.1 C₀.1.2.1 dX9_cell_15 (by decide) ?_
    refine lv_iconst (v := iI 2) C₀.1.1 C₀.1.2.1 dX9_cell_16 (by decide) ?_
    refine xc_Si (wr := [mO a₀ q₀ 0 un₀ mf₀ ty₀ fr₀ tt₀ tk₀ fa₀ (bz hf₀) (bz ho₀) km₀, (q₀ 1, .inl (k₀ 0, 51, .inl (ia s₀))), (q₀ 20, .inl (k₀ 0, 72, .inl (ia sq₀))), (q₀ 21, .inl (k₀ 0, 24, .inl (ia kn₀))), (q₀ 22, .inl (k₀ 0, 24, .inl (ia fi₀)))]) (ws' := fun _ => [mO a₀ q₀ 0 un₀ mf₀ ty₀ fr₀ tt₀ tk₀ fa₀ (bz hf₀) (bz ho₀) km₀, (q₀ 1, .inl (k₀ 0, 51, .inl (ia s₀))), (q₀ 20, .inl (k₀ 0, 72, .inl (ia sq₀))), (q₀ 21, .inl (k₀ 0, 24, .inl (ia kn₀))), (q₀ 22, .inl (k₀ 0, 24, .inl (ia fi₀)))]) (As := [.int (iI i₀), .int (iI 0), .int (iI 2)]) (rest := []) C₀ hH₀ (c_X9_in lL₀ D₀ k₀ H₀.size i₀ 0 2 (by omega) (by omega) (by omega)) ZT_b (fun _ _ _ => trivial) (va_cwS 3 C₀.1.2.2.2.2 gX9_cell_X9_in rfl rfl rfl (by decide +kernel) ⟨Nat.le_of_ble_eq_true rfl, Nat.le_of_ble_eq_true rfl⟩) [] [0, 1, 2, 3, 4] [0, 1, 2, 3, 4] rfl rfl (by decide) (by decide) (by decide) (fun _ => rfl) (by decide) rfl hl₀.1 rfl (Nat.le_of_ble_eq_true rfl) dX9_cell_17 ⟨Nat.le_of_ble_eq_true rfl, Nat.le_of_ble_eq_true rfl⟩ (fun _ _ H₀ locs₀ hH₀ => ?_)
    refine xp_ne (tgt := 25) C₀.1.1 C₀.1.2.1 dX9_cell_20 (by decide) (fun h_2₀ => ?_) (fun h_2₀ => ?_)
    · have hc₀ := cell_rg hs0₀ (show 0 ≤ x ∧ x < s₀ 0 by omega) (show 0 ≤ y₀ ∧ y₀ < s₀ 1 by omega)
      refine lv_iload_n C₀.1.1 C₀.1.2.1 dX9_cell_25 rfl (lv_at hl₀ 3 rfl) ?_
      refine xi_zne (tgt := 38) C₀.1.1 C₀.1.2.1 dX9_cell_26 (by decide) (by omega) (fun h_3₀ => ?_) (fun h_3₀ => ?_)
      · refine lv_iload_n C₀.1.1 C₀.1.2.1 dX9_cell_38 rfl (lv_at hl₀ 3 rfl) ?_
        refine lv_iconst (v := iI 1) C₀.1.1 C₀.1.2.1 dX9_cell_39 (by decide) ?_
        refine xi_cne (tgt := 64) C₀.1.1 C₀.1.2.1 dX9_cell_40 (by decide) (by omega) (by omega) (fun h_4₀ => ?_) (fun h_4₀ => ?_)
        · refine lv_aload_n C₀.1.1 C₀.1.2.1 dX9_cell_64 rfl (lv_at hl₀ 0 rfl) ?_
          refine lv_aload_n C₀.1.1 C₀.1.2.1 dX9_cell_65 rfl (lv_at hl₀ 0 rfl) ?_
          refine xw_get C₀ hH₀ 0 rfl rfl 1 (by decide) iw_X9_cell_X9 (by decide +kernel) (v := .ref (q₀ 1)) rfl dX9_cell_66 ?_
          refine lv_iconst (v := iI 0) C₀.1.1 C₀.1.2.1 dX9_cell_69 (by decide) ?_
          refine xw_ild C₀ hH₀ 1 0 rfl rfl (z := 0) (by omega) (by omega) (by decide) dX9_cell_70 ?_
          refine lv_iload_n C₀.1.1 C₀.1.2.1 dX9_cell_71 rfl (lv_at hl₀ 2 rfl) ?_
          refine xi_mul C₀.1.1 C₀.1.2.1 dX9_cell_72 ?_
          refine lv_iload_n C₀.1.1 C₀.1.2.1 dX9_cell_73 rfl (lv_at hl₀ 1 rfl) ?_
          refine xi_add C₀.1.1 C₀.1.2.1 dX9_cell_74 ?_
          refine xc_Vi (wr := []) (ws' := fun sr_5₀ => [mO a₀ q₀ 0 un₀ mf₀ ty₀ fr₀ tt₀ tk₀ fa₀ (bz hf₀) (bz ho₀) ((mKd sr_5₀ fi₀ kn₀ (s₀ 0 * s₀ 1).toNat).1), (q₀ 1, .inl (k₀ 0, 51, .inl (ia s₀))), (q₀ 20, .inl (k₀ 0, 72, .inl (ia sr_5₀))), (q₀ 21, .inl (k₀ 0, 24, .inl (ia ((mKd sr_5₀ fi₀ kn₀ (s₀ 0 * s₀ 1).toNat).2.2)))), (q₀ 22, .inl (k₀ 0, 24, .inl (ia ((mKd sr_5₀ fi₀ kn₀ (s₀ 0 * s₀ 1).toNat).2.1))))]) (As := [.int (iI ((s₀ 0) * y₀ + x))]) (rest := []) C₀ hH₀ (c_X9_kindOf lL₀ D₀ k₀ H₀.size a₀ q₀ 0 un₀ mf₀ ty₀ fr₀ tt₀ tk₀ fa₀ hf₀ ho₀ km₀ s₀ sq₀ kn₀ fi₀ ((s₀ 0) * y₀ + x) (hS₀) (by omega)) ZT_b (fun _ _ _ => trivial) (cwV 1 C₀.1.2.2.2.2 gX9_cell_X9_kindOf rfl rfl rfl (by decide +kernel) ⟨Nat.le_of_ble_eq_true rfl, Nat.le_of_ble_eq_true rfl⟩) [0, 1, 2, 3, 4] [] [0, 1, 2, 3, 4] rfl rfl (by decide) (by decide) (by decide) (fun _ => rfl) (by decide) (q0 := 0) rfl rfl rfl hl₀.1 rfl (Nat.le_of_ble_eq_true rfl) dX9_cell_75 ⟨Nat.le_of_ble_eq_true rfl, Nat.le_of_ble_eq_true rfl⟩ (fun sr_5₀ hu₀ H₀ locs₀ hH₀ => ?_)
          exact xr_i C₀ hH₀ hlk₀ hr₀ hQ₀ rfl hAe₀ ((mKd sr_5₀ fi₀ kn₀ (s₀ 0 * s₀ 1).toNat).2.2 ((s₀ 0) * y₀ + x), (mKd sr_5₀ fi₀ kn₀ (s₀ 0 * s₀ 1).toNat).1, sr_5₀, (mKd sr_5₀ fi₀ kn₀ (s₀ 0 * s₀ 1).toNat).2.2, (mKd sr_5₀ fi₀ kn₀ (s₀ 0 * s₀ 1).toNat).2.1) (by simp (disch := omega) only [if_pos, if_neg]; first | exact ⟨hu₀, trivial⟩ | exact ⟨hu₀, rfl⟩) rfl rfl dX9_cell_78
        · refine lv_aload_n C₀.1.1 C₀.1.2.1 dX9_cell_43 rfl (lv_at hl₀ 0 rfl) ?_
          refine xw_get C₀ hH₀ 0 rfl rfl 1 (by decide) iw_X9_cell_X9 (by decide +kernel) (v := .ref (q₀ 1)) rfl dX9_cell_44 ?_
          refine lv_bipush (v := iI 27) C₀.1.1 C₀.1.2.1 dX9_cell_47 (by decide) ?_
          refine lv_aload_n C₀.1.1 C₀.1.2.1 dX9_cell_49 rfl (lv_at hl₀ 0 rfl) ?_
          refine xw_get C₀ hH₀ 0 rfl rfl 1 (by decide) iw_X9_cell_X9 (by decide +kernel) (v := .ref (q₀ 1)) rfl dX9_cell_50 ?_
          refine lv_iconst (v := iI 0) C₀.1.1 C₀.1.2.1 dX9_cell_53 (by decide) ?_
          refine xw_ild C₀ hH₀ 1 0 rfl rfl (z := 0) (by omega) (by omega) (by decide) dX9_cell_54 ?_
          refine lv_iload_n C₀.1.1 C₀.1.2.1 dX9_cell_55 rfl (lv_at hl₀ 2 rfl) ?_
          refine xi_mul C₀.1.1 C₀.1.2.1 dX9_cell_56 ?_
          refine xi_add C₀.1.1 C₀.1.2.1 dX9_cell_57 ?_
          refine lv_iload_n C₀.1.1 C₀.1.2.1 dX9_cell_58 rfl (lv_at hl₀ 1 rfl) ?_
          refine xi_add C₀.1.1 C₀.1.2.1 dX9_cell_59 ?_
          refine xw_ild C₀ hH₀ 1 0 rfl rfl (z := 27 + ((s₀ 0) * y₀) + x) (by omega) (by omega) (by decide) dX9_cell_60 ?_
          refine lv_goto (tgt := 78) C₀.1.1 C₀.1.2.1 dX9_cell_61 (by decide) ?_
          exact xr_i C₀ hH₀ hlk₀ hr₀ hQ₀ rfl hAe₀ (s₀ (27 + ((s₀ 0) * y₀) + x), km₀, sq₀, kn₀, fi₀) (by simp (disch := omega) only [if_pos, if_neg]) rfl rfl dX9_cell_78
      · refine lv_aload_n C₀.1.1 C₀.1.2.1 dX9_cell_29 rfl (lv_at hl₀ 0 rfl) ?_
        refine lv_iload_n C₀.1.1 C₀.1.2.1 dX9_cell_30 rfl (lv_at hl₀ 1 rfl) ?_
        refine lv_iload_n C₀.1.1 C₀.1.2.1 dX9_cell_31 rfl (lv_at hl₀ 2 rfl) ?_
        refine xc_Vi (wr := [(q₀ 20, .inl (k₀ 0, 72, .inl (ia sq₀))), (q₀ 21, .inl (k₀ 0, 24, .inl (ia kn₀))), (q₀ 22, .inl (k₀ 0, 24, .inl (ia fi₀)))]) (ws' := fun _ => [mO a₀ q₀ 0 un₀ mf₀ ty₀ fr₀ tt₀ tk₀ fa₀ (bz hf₀) (bz ho₀) km₀, (q₀ 1, .inl (k₀ 0, 51, .inl (ia s₀))), (q₀ 20, .inl (k₀ 0, 72, .inl (ia sq₀))), (q₀ 21, .inl (k₀ 0, 24, .inl (ia kn₀))), (q₀ 22, .inl (k₀ 0, 24, .inl (ia fi₀)))]) (As := [.int (iI x), .int (iI y₀)]) (rest := []) C₀ hH₀ (c_X9_height lL₀ D₀ k₀ H₀.size a₀ q₀ 0 un₀ mf₀ ty₀ fr₀ tt₀ tk₀ fa₀ hf₀ ho₀ km₀ s₀ x y₀ (by omega)) ZT_b (fun _ _ _ => trivial) (cwV 2 C₀.1.2.2.2.2 gX9_cell_X9_height rfl rfl rfl (by decide +kernel) ⟨Nat.le_of_ble_eq_true rfl, Nat.le_of_ble_eq_true rfl⟩) [0, 1] [2, 3, 4] [3, 4, 0, 1, 2] rfl rfl (by decide) (by decide) (by decide) (fun _ => rfl) (by decide) (q0 := 0) rfl rfl rfl hl₀.1 rfl (Nat.le_of_ble_eq_true rfl) dX9_cell_32 ⟨Nat.le_of_ble_eq_true rfl, Nat.le_of_ble_eq_true rfl⟩ (fun _ _ H₀ locs₀ hH₀ => ?_)
        refine lv_goto (tgt := 78) C₀.1.1 C₀.1.2.1 dX9_cell_35 (by decide) ?_
        exact xr_i C₀ hH₀ hlk₀ hr₀ hQ₀ rfl hAe₀ (s₀ (3 + s₀ 0 * y₀ + x), km₀, sq₀, kn₀, fi₀) (by simp (disch := omega) only [if_pos, if_neg]) rfl rfl dX9_cell_78
    · refine lv_iconst (v := iI (-1)) C₀.1.1 C₀.1.2.1 dX9_cell_23 (by decide) ?_
      exact xr_i C₀ hH₀ hlk₀ hr₀ hQ₀ rfl hAe₀ ((-1), km₀, sq₀, kn₀, fi₀) (by simp (disch := omega) only [if_pos, if_neg]) rfl rfl dX9_cell_24
theorem iw_X9_square_X9 : ∀ w₀ ∈ u_ws RX9 TX9 24, w₀ ∈ wsX9_square := (fun w₀ h₀ => List.mem_cons_of_mem _ (List.mem_append_right _ h₀))
abbrev rmX9_square : Room := { frames := 5, cells := 0, slots := 0, locals := 120 }
set_option maxHeartbeats 4000000 in
set_option maxRecDepth 100000 in
/-- square -/
theorem c_X9_square (lL₀ : Launch) (D₀ : va_G) (k₀ : Nat → ClassId) (sz₀ : Nat) (a₀ : Nat) (q₀ : Nat → Nat) (th₀ : Int) (un₀ : Int) (mf₀ : Int) (ty₀ : Int) (fr₀ : Int) (tt₀ : Int) (tk₀ : Int) (fa₀ : Int) (hf₀ : Bool) (ho₀ : Bool) (km₀ : Int) (s₀ : Int → Int) (x : Int) (y₀ : Int) (la₀ : Int) (i₀ : Int) (hS₀ : mS s₀) (hx₀ : -2147483648 ≤ x ∧ x < 2147483648) (hy₀ : -2147483648 ≤ y₀ ∧ y₀ < 2147483648) (hla₀ : -2147483648 ≤ la₀ ∧ la₀ < 2147483648) (hi₀ : -2147483648 ≤ i₀ ∧ i₀ < 2147483648) : Met lL₀ yX9_square wsX9_square rmX9_square (gPc ZT D₀ (tyk k₀) [.ref a₀, .int (iI x), .int (iI y₀), .int (iI la₀), .int (iI i₀)] sz₀ [mO a₀ q₀ th₀ un₀ mf₀ ty₀ fr₀ tt₀ tk₀ fa₀ (bz hf₀) (bz ho₀) km₀, (q₀ 1, .inl (k₀ 0, 51, .inl (ia s₀)))]) (gQi D₀ (tyk k₀) [mO a₀ q₀ th₀ un₀ mf₀ ty₀ fr₀ tt₀ tk₀ fa₀ (bz hf₀) (bz ho₀) km₀, (q₀ 1, .inl (k₀ 0, 51, .inl (ia s₀)))] sz₀ (fun (_ : Unit) => True) (fun (_ : Unit) => (iI (if (0 ≤ x ∧ x < s₀ 0 ∧ 0 ≤ y₀ ∧ y₀ < s₀ 1) ∧ (1 ≤ la₀ ∧ la₀ ≤ 3) ∧ 0 ≤ i₀ ∧ i₀ ≤ 1 then if i₀ = 0 then mMask s₀ x y₀ la₀ else mSq s₀ x y₀ la₀ else -1))) (fun (_ : Unit) => [mO a₀ q₀ 0 un₀ mf₀ ty₀ fr₀ tt₀ tk₀ fa₀ (bz hf₀) (bz ho₀) km₀, (q₀ 1, .inl (k₀ 0, 51, .inl (ia s₀)))])) 0 0 (va_A [mO a₀ q₀ th₀ un₀ mf₀ ty₀ fr₀ tt₀ tk₀ fa₀ (bz hf₀) (bz ho₀) km₀, (q₀ 1, .inl (k₀ 0, 51, .inl (ia s₀)))] sz₀) := by
  refine xs_met (cc := cX9_square) (maxL := 5) (ret := some .int) (by decide) rfl (Nat.le_of_ble_eq_true rfl) ?_
  intro pP₀ eN₀ sT₀ mI₀ below₀ meth₀ cD₀ hsz₀ args₀ QQ₀ C₀ hr₀ hlk₀ hnm₀ hQ₀ ls₀ H₀ locs₀ hl₀ hH₀
  subst hsz₀
  have hl₀ : lv_has ls₀ 5 [(0, .ref a₀), (1, .int (iI x)), (2, .int (iI y₀)), (3, .int (iI la₀)), (4, .int (iI i₀))] := hl₀
  generalize hAe₀ : va_A [mO a₀ q₀ th₀ un₀ mf₀ ty₀ fr₀ tt₀ tk₀ fa₀ (bz hf₀) (bz ho₀) km₀, (q₀ 1, .inl (k₀ 0, 51, .inl (ia s₀)))] sT₀.heap.size = A₀ at C₀ hH₀ hQ₀
  obtain ⟨hs0₀, hs1₀, hs2₀, hsh₀, hsf₀⟩ := id hS₀
  have hcl₀ := cells_rg hs0₀ hs1₀
  refine lv_aload_n C₀.1.1 C₀.1.2.1 dX9_square_0 rfl (lv_at hl₀ 0 rfl) ?_
  refine lv_iconst (v := iI 0) C₀.1.1 C₀.1.2.1 dX9_square_1 (by decide) ?_
  refine xw_put (ws' := [mO a₀ q₀ 0 un₀ mf₀ ty₀ fr₀ tt₀ tk₀ fa₀ (bz hf₀) (bz ho₀) km₀, (q₀ 1, .inl (k₀ 0, 51, .inl (ia s₀)))]) (v := .int (iI 0)) C₀ hH₀ 0 rfl rfl tyX9 tyX9_ok nmX9 0 (by decide) iw_X9_square_X9 (by decide +kernel) rfl rfl rfl (Nat.le_of_ble_eq_true rfl) dX9_square_2 rfl (fun H₀ locs₀ hH₀ => ?_)
  refine lv_aload_n C₀.1.1 C₀.1.2.1 dX9_square_5 rfl (lv_at hl₀ 0 rfl) ?_
  refine lv_iload_n C₀.1.1 C₀.1.2.1 dX9_square_6 rfl (lv_at hl₀ 1 rfl) ?_
  refine lv_iload_n C₀.1.1 C₀.1.2.1 dX9_square_7 rfl (lv_at hl₀ 2 rfl) ?_
  refine xc_Vi (wr := []) (ws' := fun _ => [mO a₀ q₀ 0 un₀ mf₀ ty₀ fr₀ tt₀ tk₀ fa₀ (bz hf₀) (bz ho₀) km₀, (q₀ 1, .inl (k₀ 0, 51, .inl (ia s₀)))]) (As := [.int (iI x), .int (iI y₀)]) (rest := []) C₀ hH₀ (c_X9_isCell lL₀ D₀ k₀ H₀.size a₀ q₀ 0 un₀ mf₀ ty₀ fr₀ tt₀ tk₀ fa₀ hf₀ ho₀ km₀ s₀ x y₀ (by omega) (by omega) (by omega) (by omega)) ZT_b (fun _ _ _ => trivial) (cwV 2 C₀.1.2.2.2.2 gX9_square_X9_isCell rfl rfl rfl (by decide +kernel) ⟨Nat.le_of_ble_eq_true rfl, Nat.le_of_ble_eq_true rfl⟩) [0, 1] [] [0, 1] rfl rfl (by decide) (by decide) (by decide) (fun _ => rfl) (by decide) (q0 := 0) rfl rfl rfl hl₀.1 rfl (Nat.le_of_ble_eq_true rfl) dX9_square_8 ⟨Nat.le_of_ble_eq_true rfl, Nat.le_of_ble_eq_true rfl⟩ (fun _ _ H₀ locs₀ hH₀ => ?_)
  refine xp_eq (tgt := 33) C₀.1.1 C₀.1.2.1 dX9_square_11 (by decide) (fun h_1₀ => ?_) (fun h_1₀ => ?_)
  · refine lv_iconst (v := iI (-1)) C₀.1.1 C₀.1.2.1 dX9_square_33 (by decide) ?_
    exact xr_i C₀ hH₀ hlk₀ hr₀ hQ₀ rfl hAe₀ () trivial (by simp (disch := omega) only [if_pos, if_neg]) rfl dX9_square_34
  · refine lv_iload_n C₀.1.1 C₀.1.2.1 dX9_square_14 rfl (lv_at hl₀ 3 rfl) ?_
    refine lv_iconst (v := iI 1) C₀.1.1 C₀.1.2.1 dX9_square_15 (by decide) ?_
    refine lv_iconst (v := iI 3) C₀.1.1 C₀.1.2.1 dX9_square_16 (by decide) ?_
    refine xc_Si (wr := [mO a₀ q₀ 0 un₀ mf₀ ty₀ fr₀ tt₀ tk₀ fa₀ (bz hf₀) (bz ho₀) km₀, (q₀ 1, .inl (k₀ 0, 51, .inl (ia s₀)))]) (ws' := fun _ => [mO a₀ q₀ 0 un₀ mf₀ ty₀ fr₀ tt₀ tk₀ fa₀ (bz hf₀) (bz ho₀) km₀, (q₀ 1, .inl (k₀ 0, 51, .inl (ia s₀)))]) (As := [.int (iI la₀), .int (iI 1), .int (iI 3)]) (rest := []) C₀ hH₀ (c_X9_in lL₀ D₀ k₀ H₀.size la₀ 1 3 (by omega) (by omega) (by omega)) ZT_b (fun _ _ _ => trivial) (va_cwS 3 C₀.1.2.2.2.2 gX9_square_X9_in rfl rfl rfl (by decide +kernel) ⟨Nat.le_of_ble_eq_true rfl, Nat.le_of_ble_eq_true rfl⟩) [] [0, 1] [0, 1] rfl rfl (by decide) (by decide) (by decide) (fun _ => rfl) (by decide) rfl hl₀.1 rfl (Nat.le_of_ble_eq_true rfl) dX9_square_17 ⟨Nat.le_of_ble_eq_true rfl, Nat.le_of_ble_eq_true rfl⟩ (fun _ _ H₀ locs₀ hH₀ => ?_)
    refine xp_eq (tgt := 33) C₀.1.1 C₀.1.2.1 dX9_square_20 (by decide) (fun h_2₀ => ?_) (fun h_2₀ => ?_)
    · refine lv_iconst (v := iI (-1)) C₀.1.1 C₀.1.2.1 dX9_square_33 (by decide) ?_
      exact xr_i C₀ hH₀ hlk₀ hr₀ hQ₀ rfl hAe₀ () trivial (by simp (disch := omega) only [if_pos, if_neg]) rfl dX9_square_34
    · refine lv_iload C₀.1.1 C₀.1.2.1 dX9_square_23 (lv_at hl₀ 4 rfl) ?_
      refine lv_iconst (v := iI 0) C₀.1.1 C₀.1.2.1 dX9_square_25 (by decide) ?_
      refine lv_iconst (v := iI 1) C₀.1.1 C₀.1.2.1 dX9_square_26 (by decide) ?_
      refine xc_Si (wr := [mO a₀ q₀ 0 un₀ mf₀ ty₀ fr₀ tt₀ tk₀ fa₀ (bz hf₀) (bz ho₀) km₀, (q₀ 1, .inl (k₀ 0, 51, .inl (ia s₀)))]) (ws' := fun _ => [mO a₀ q₀ 0 un₀ mf₀ ty₀ fr₀ tt₀ tk₀ fa₀ (bz hf₀) (bz ho₀) km₀, (q₀ 1, .inl (k₀ 0, 51, .inl (ia s₀)))]) (As := [.int (iI i₀), .int (iI 0), .int (iI 1)]) (rest := []) C₀ hH₀ (c_X9_in lL₀ D₀ k₀ H₀.size i₀ 0 1 (by omega) (by omega) (by omega)) ZT_b (fun _ _ _ => trivial) (va_cwS 3 C₀.1.2.2.2.2 gX9_square_X9_in rfl rfl rfl (by decide +kernel) ⟨Nat.le_of_ble_eq_true rfl, Nat.le_of_ble_eq_true rfl⟩) [] [0, 1] [0, 1] rfl rfl (by decide) (by decide) (by decide) (fun _ => rfl) (by decide) rfl hl₀.1 rfl (Nat.le_of_ble_eq_true rfl) dX9_square_27 ⟨Nat.le_of_ble_eq_true rfl, Nat.le_of_ble_eq_true rfl⟩ (fun _ _ H₀ locs₀ hH₀ => ?_)
      refine xp_ne (tgt := 35) C₀.1.1 C₀.1.2.1 dX9_square_30 (by decide) (fun h_3₀ => ?_) (fun h_3₀ => ?_)
      · refine lv_iload C₀.1.1 C₀.1.2.1 dX9_square_35 (lv_at hl₀ 4 rfl) ?_
        refine xi_zne (tgt := 50) C₀.1.1 C₀.1.2.1 dX9_square_37 (by decide) (by omega) (fun h_4₀ => ?_) (fun h_4₀ => ?_)
        · refine lv_aload_n C₀.1.1 C₀.1.2.1 dX9_square_50 rfl (lv_at hl₀ 0 rfl) ?_
          refine lv_iload_n C₀.1.1 C₀.1.2.1 dX9_square_51 rfl (lv_at hl₀ 1 rfl) ?_
          refine lv_iload_n C₀.1.1 C₀.1.2.1 dX9_square_52 rfl (lv_at hl₀ 2 rfl) ?_
          refine lv_iload_n C₀.1.1 C₀.1.2.1 dX9_square_53 rfl (lv_at hl₀ 3 rfl) ?_
          refine xc_Vi (wr := []) (ws' := fun _ => [mO a₀ q₀ 0 un₀ mf₀ ty₀ fr₀ tt₀ tk₀ fa₀ (bz hf₀) (bz ho₀) km₀, (q₀ 1, .inl (k₀ 0, 51, .inl (ia s₀)))]) (As := [.int (iI x), .int (iI y₀), .int (iI la₀)]) (rest := []) C₀ hH₀ (c_X9_squareOf lL₀ D₀ k₀ H₀.size a₀ q₀ 0 un₀ mf₀ ty₀ fr₀ tt₀ tk₀ fa₀ hf₀ ho₀ km₀ s₀ x y₀ la₀ (hS₀) (by omega) (by omega) (by omega)) ZT_b (fun _ _ _ => trivial) (cwV 3 C₀.1.2.2.2.2 gX9_square_X9_squareOf rfl rfl rfl (by decide +kernel) ⟨Nat.le_of_ble_eq_true rfl, Nat.le_of_ble_eq_true rfl⟩) [0, 1] [] [0, 1] rfl rfl (by decide) (by decide) (by decide) (fun _ => rfl) (by decide) (q0 := 0) rfl rfl rfl hl₀.1 rfl (Nat.le_of_ble_eq_true rfl) dX9_square_54 ⟨Nat.le_of_ble_eq_true rfl, Nat.le_of_ble_eq_true rfl⟩ (fun _ _ H₀ locs₀ hH₀ => ?_)
          exact xr_i C₀ hH₀ hlk₀ hr₀ hQ₀ rfl hAe₀ () trivial (by simp (disch := omega) only [if_pos, if_neg]) rfl dX9_square_57
        · refine lv_aload_n C₀.1.1 C₀.1.2.1 dX9_square_40 rfl (lv_at hl₀ 0 rfl) ?_
          refine lv_iload_n C₀.1.1 C₀.1.2.1 dX9_square_41 rfl (lv_at hl₀ 1 rfl) ?_
          refine lv_iload_n C₀.1.1 C₀.1.2.1 dX9_square_42 rfl (lv_at hl₀ 2 rfl) ?_
          refine lv_iload_n C₀.1.1 C₀.1.2.1 dX9_square_43 rfl (lv_at hl₀ 3 rfl) ?_
          refine xc_Vi (wr := []) (ws' := fun _ => [mO a₀ q₀ 0 un₀ mf₀ ty₀ fr₀ tt₀ tk₀ fa₀ (bz hf₀) (bz ho₀) km₀, (q₀ 1, .inl (k₀ 0, 51, .inl (ia s₀)))]) (As := [.int (iI x), .int (iI y₀), .int (iI la₀)]) (rest := []) C₀ hH₀ (c_X9_maskOf lL₀ D₀ k₀ H₀.size a₀ q₀ 0 un₀ mf₀ ty₀ fr₀ tt₀ tk₀ fa₀ hf₀ ho₀ km₀ s₀ x y₀ la₀ (hS₀) (by omega) (by omega) (by omega)) ZT_b (fun _ _ _ => trivial) (cwV 3 C₀.1.2.2.2.2 gX9_square_X9_maskOf rfl rfl rfl (by decide +kernel) ⟨Nat.le_of_ble_eq_true rfl, Nat.le_of_ble_eq_true rfl⟩) [0, 1] [] [0, 1] rfl rfl (by decide) (by decide) (by decide) (fun _ => rfl) (by decide) (q0 := 0) rfl rfl rfl hl₀.1 rfl (Nat.le_of_ble_eq_true rfl) dX9_square_44 ⟨Nat.le_of_ble_eq_true rfl, Nat.le_of_ble_eq_true rfl⟩ (fun _ _ H₀ locs₀ hH₀ => ?_)
          refine lv_goto (tgt := 57) C₀.1.1 C₀.1.2.1 dX9_square_47 (by decide) ?_
          exact xr_i C₀ hH₀ hlk₀ hr₀ hQ₀ rfl hAe₀ () trivial (by simp (disch := omega) only [if_pos, if_neg]) rfl dX9_square_57
      · refine lv_iconst (v := iI (-1)) C₀.1.1 C₀.1.2.1 dX9_square_33 (by decide) ?_
        exact xr_i C₀ hH₀ hlk₀ hr₀ hQ₀ rfl hAe₀ () trivial (by simp (disch := omega) only [if_pos, if_neg]) rfl dX9_square_34
