theorem iw_X9_takes_X9 : ∀ w₀ ∈ u_ws RX9 TX9 24, w₀ ∈ wsX9_takes := (fun w₀ h₀ => List.mem_cons_of_mem _ (List.mem_append_right _ h₀))
abbrev rmX9_takes : Room := { frames := 3, cells := 0, slots := 0, locals := 66 }
set_option maxHeartbeats 4000000 in
set_option maxRecDepth 100000 in
/-- takes -/
theorem c_X9_takes (lL₀ : Launch) (D₀ : va_G) (k₀ : Nat → ClassId) (sz₀ : Nat) (a₀ : Nat) (q₀ : Nat → Nat) (th₀ : Int) (un₀ : Int) (mf₀ : Int) (ty₀ : Int) (fr₀ : Int) (tt₀ : Int) (tk₀ : Int) (fa₀ : Int) (hf₀ : Bool) (ho₀ : Bool) (km₀ : Int) (tx₀ : Int → Int) (b₀ : Bool) (hty₀ : 0 ≤ ty₀ ∧ ty₀ ≤ 120) (htx₀ : ∀ j₀, 0 ≤ tx₀ j₀ ∧ tx₀ j₀ < 256) (hfr₀ : 0 ≤ fr₀ ∧ fr₀ ≤ ty₀) (htt₀ : tt₀ = mTo tx₀ ty₀ fr₀) (htk₀ : tk₀ = mTk tx₀ ty₀ fr₀) (hfa₀ : fa₀ = -9 ∨ 0 ≤ fa₀ ∧ fa₀ ≤ ty₀) : Met lL₀ yX9_takes wsX9_takes rmX9_takes (gPc ZT D₀ (tyk k₀) [.ref a₀, .int (iI (bz b₀))] sz₀ [mO a₀ q₀ th₀ un₀ mf₀ ty₀ fr₀ tt₀ tk₀ fa₀ (bz hf₀) (bz ho₀) km₀, (q₀ 9, .inl (k₀ 1, 120, .inl (by8 tx₀)))]) (gQv D₀ (tyk k₀) [mO a₀ q₀ th₀ un₀ mf₀ ty₀ fr₀ tt₀ tk₀ fa₀ (bz hf₀) (bz ho₀) km₀, (q₀ 9, .inl (k₀ 1, 120, .inl (by8 tx₀)))] sz₀ (fun (u₀ : (Int) × (Int)) => match u₀ with | (f2₀, a2₀) => (f2₀, a2₀) = pT tx₀ ty₀ (fr₀, fa₀) b₀) (fun (u₀ : (Int) × (Int)) => match u₀ with | (f2₀, a2₀) => [mO a₀ q₀ th₀ un₀ mf₀ ty₀ f2₀ (mTo tx₀ ty₀ f2₀) (mTk tx₀ ty₀ f2₀) a2₀ (bz hf₀) (bz ho₀) km₀, (q₀ 9, .inl (k₀ 1, 120, .inl (by8 tx₀)))])) 0 0 (va_A [mO a₀ q₀ th₀ un₀ mf₀ ty₀ fr₀ tt₀ tk₀ fa₀ (bz hf₀) (bz ho₀) km₀, (q₀ 9, .inl (k₀ 1, 120, .inl (by8 tx₀)))] sz₀) := by
  refine xs_met (cc := cX9_takes) (maxL := 2) (ret := none) (by decide) rfl (Nat.le_of_ble_eq_true rfl) ?_
  intro pP₀ eN₀ sT₀ mI₀ below₀ meth₀ cD₀ hsz₀ args₀ QQ₀ C₀ hr₀ hlk₀ hnm₀ hQ₀ ls₀ H₀ locs₀ hl₀ hH₀
  subst hsz₀
  have hl₀ : lv_has ls₀ 2 [(0, .ref a₀), (1, .int (iI (bz b₀)))] := hl₀
  generalize hAe₀ : va_A [mO a₀ q₀ th₀ un₀ mf₀ ty₀ fr₀ tt₀ tk₀ fa₀ (bz hf₀) (bz ho₀) km₀, (q₀ 9, .inl (k₀ 1, 120, .inl (by8 tx₀)))] sT₀.heap.size = A₀ at C₀ hH₀ hQ₀
  have hmr₀ := mTo_rg (tx := tx₀) (ty := ty₀) (f := fr₀) hfr₀.2
  refine lv_aload_n C₀.1.1 C₀.1.2.1 dX9_takes_0 rfl (lv_at hl₀ 0 rfl) ?_
  refine xw_get C₀ hH₀ 0 rfl rfl 14 (by decide) iw_X9_takes_X9 (by decide +kernel) (v := .int (iI fa₀)) rfl dX9_takes_1 ?_
  refine lv_bipush (v := iI (-9)) C₀.1.1 C₀.1.2.1 dX9_takes_4 (by decide) ?_
  refine xi_cne (tgt := 28) C₀.1.1 C₀.1.2.1 dX9_takes_6 (by decide) (by omega) (by omega) (fun h_1₀ => ?_) (fun h_1₀ => ?_)
  · exact xr_v C₀ hH₀ hlk₀ hr₀ hQ₀ hAe₀ (fr₀, fa₀) (pT_f (z := (fr₀, fa₀)) (by omega)).symm (by first | rfl | rw [htt₀, htk₀]) dX9_takes_28
  · refine lv_iload_n C₀.1.1 C₀.1.2.1 dX9_takes_9 rfl (lv_at hl₀ 1 rfl) ?_
    refine xb_eq (tgt := 20) C₀.1.1 C₀.1.2.1 dX9_takes_10 (by decide) (fun h_2₀ => ?_) (fun h_2₀ => ?_)
    · refine lv_aload_n C₀.1.1 C₀.1.2.1 dX9_takes_20 rfl (lv_at hl₀ 0 rfl) ?_
      refine lv_aload_n C₀.1.1 C₀.1.2.1 dX9_takes_21 rfl (lv_at hl₀ 0 rfl) ?_
      refine xw_get C₀ hH₀ 0 rfl rfl 11 (by decide) iw_X9_takes_X9 (by decide +kernel) (v := .int (iI fr₀)) rfl dX9_takes_22 ?_
      refine xw_put (ws' := [mO a₀ q₀ th₀ un₀ mf₀ ty₀ fr₀ tt₀ tk₀ fr₀ (bz hf₀) (bz ho₀) km₀, (q₀ 9, .inl (k₀ 1, 120, .inl (by8 tx₀)))]) (v := .int (iI fr₀)) C₀ hH₀ 0 rfl rfl tyX9 tyX9_ok nmX9 14 (by decide) iw_X9_takes_X9 (by decide +kernel) rfl rfl rfl (Nat.le_of_ble_eq_true rfl) dX9_takes_25 rfl (fun H₀ locs₀ hH₀ => ?_)
      exact xr_v C₀ hH₀ hlk₀ hr₀ hQ₀ hAe₀ (fr₀, fr₀) (by rw [h_2₀, pT_n (z := (fr₀, fa₀)) (by omega)]) (by first | rfl | rw [htt₀, htk₀]) dX9_takes_28
    · refine lv_aload_n C₀.1.1 C₀.1.2.1 dX9_takes_13 rfl (lv_at hl₀ 0 rfl) ?_
      refine xc_Vv (wr := []) (ws' := fun _ => [mO a₀ q₀ th₀ un₀ mf₀ ty₀ (mSkip tx₀ ty₀ tt₀) (mTo tx₀ ty₀ (mSkip tx₀ ty₀ tt₀)) (mTk tx₀ ty₀ (mSkip tx₀ ty₀ tt₀)) fa₀ (bz hf₀) (bz ho₀) km₀, (q₀ 9, .inl (k₀ 1, 120, .inl (by8 tx₀)))]) (As := []) (rest := []) C₀ hH₀ (c_X9_steps lL₀ D₀ k₀ H₀.size a₀ q₀ th₀ un₀ mf₀ ty₀ fr₀ tt₀ tk₀ fa₀ hf₀ ho₀ km₀ tx₀ (by omega) (htx₀) (by omega)) ZT_b (fun _ _ _ => trivial) (cwV 0 C₀.1.2.2.2.2 gX9_takes_X9_steps rfl rfl rfl (by decide +kernel) ⟨Nat.le_of_ble_eq_true rfl, Nat.le_of_ble_eq_true rfl⟩) [0, 1] [] [0, 1] rfl rfl (by decide) (by decide) (by decide) (fun _ => rfl) (by decide) (q0 := 0) rfl rfl rfl hl₀.1 rfl (Nat.le_of_ble_eq_true rfl) dX9_takes_14 ⟨Nat.le_of_ble_eq_true rfl, Nat.le_of_ble_eq_true rfl⟩ (fun _ _ H₀ locs₀ hH₀ => ?_)
      refine lv_goto (tgt := 28) C₀.1.1 C₀.1.2.1 dX9_takes_17 (by decide) ?_
      exact xr_v C₀ hH₀ hlk₀ hr₀ hQ₀ hAe₀ (mSkip tx₀ ty₀ tt₀, fa₀) (by rw [h_2₀, pT_y (z := (fr₀, fa₀)) (by omega), ← htt₀, show fa₀ = -9 by omega]) (by first | rfl | rw [htt₀, htk₀]) dX9_takes_28
theorem iw_X9_figure_X9 : ∀ w₀ ∈ u_ws RX9 TX9 24, w₀ ∈ wsX9_figure := (fun w₀ h₀ => List.mem_cons_of_mem _ (List.mem_append_right _ h₀))
abbrev rmX9_figure : Room := { frames := 4, cells := 0, slots := 0, locals := 87 }
set_option maxHeartbeats 4000000 in
set_option maxRecDepth 100000 in
/-- figure -/
theorem c_X9_figure (lL₀ : Launch) (D₀ : va_G) (k₀ : Nat → ClassId) (sz₀ : Nat) (a₀ : Nat) (q₀ : Nat → Nat) (th₀ : Int) (un₀ : Int) (mf₀ : Int) (ty₀ : Int) (fr₀ : Int) (tt₀ : Int) (tk₀ : Int) (fa₀ : Int) (hf₀ : Bool) (ho₀ : Bool) (km₀ : Int) (tx₀ : Int → Int) (be₀ : Int) (hty₀ : 0 ≤ ty₀ ∧ ty₀ ≤ 120) (htx₀ : ∀ j₀, 0 ≤ tx₀ j₀ ∧ tx₀ j₀ < 256) (hfr₀ : 0 ≤ fr₀ ∧ fr₀ ≤ ty₀) (htt₀ : tt₀ = mTo tx₀ ty₀ fr₀) (htk₀ : tk₀ = mTk tx₀ ty₀ fr₀) (hfa₀ : fa₀ = -9 ∨ 0 ≤ fa₀ ∧ fa₀ ≤ ty₀) (hbe₀ : -10 ≤ be₀ ∧ be₀ ≤ 10) : Met lL₀ yX9_figure wsX9_figure rmX9_figure (gPc ZT D₀ (tyk k₀) [.ref a₀, .int (iI be₀)] sz₀ [mO a₀ q₀ th₀ un₀ mf₀ ty₀ fr₀ tt₀ tk₀ fa₀ (bz hf₀) (bz ho₀) km₀, (q₀ 9, .inl (k₀ 1, 120, .inl (by8 tx₀)))]) (gQi D₀ (tyk k₀) [mO a₀ q₀ th₀ un₀ mf₀ ty₀ fr₀ tt₀ tk₀ fa₀ (bz hf₀) (bz ho₀) km₀, (q₀ 9, .inl (k₀ 1, 120, .inl (by8 tx₀)))] sz₀ (fun (u₀ : (Int) × (Int)) => match u₀ with | (f2₀, a2₀) => (f2₀, a2₀) = pT tx₀ ty₀ (fr₀, fa₀) (mFg tx₀ ty₀ fr₀ be₀)) (fun (u₀ : (Int) × (Int)) => match u₀ with | (f2₀, a2₀) => (iI (mAt tx₀ ty₀ fr₀ - 48))) (fun (u₀ : (Int) × (Int)) => match u₀ with | (f2₀, a2₀) => [mO a₀ q₀ th₀ un₀ mf₀ ty₀ f2₀ (mTo tx₀ ty₀ f2₀) (mTk tx₀ ty₀ f2₀) a2₀ (bz hf₀) (bz ho₀) km₀, (q₀ 9, .inl (k₀ 1, 120, .inl (by8 tx₀)))])) 0 0 (va_A [mO a₀ q₀ th₀ un₀ mf₀ ty₀ fr₀ tt₀ tk₀ fa₀ (bz hf₀) (bz ho₀) km₀, (q₀ 9, .inl (k₀ 1, 120, .inl (by8 tx₀)))] sz₀) := by
  refine xs_met (cc := cX9_figure) (maxL := 3) (ret := some .int) (by decide) rfl (Nat.le_of_ble_eq_true rfl) ?_
  intro pP₀ eN₀ sT₀ mI₀ below₀ meth₀ cD₀ hsz₀ args₀ QQ₀ C₀ hr₀ hlk₀ hnm₀ hQ₀ ls₀ H₀ locs₀ hl₀ hH₀
  subst hsz₀
  have hl₀ : lv_has ls₀ 3 [(0, .ref a₀), (1, .int (iI be₀))] := hl₀
  generalize hAe₀ : va_A [mO a₀ q₀ th₀ un₀ mf₀ ty₀ fr₀ tt₀ tk₀ fa₀ (bz hf₀) (bz ho₀) km₀, (q₀ 9, .inl (k₀ 1, 120, .inl (by8 tx₀)))] sT₀.heap.size = A₀ at C₀ hH₀ hQ₀
  have hmr₀ := mTo_rg (tx := tx₀) (ty := ty₀) (f := fr₀) hfr₀.2
  have har₀ := mAt_rg (ty := ty₀) htx₀ fr₀
  have hkr₀ := mTk_rg (tx := tx₀) (ty := ty₀) (f := fr₀)
  refine lv_aload_n C₀.1.1 C₀.1.2.1 dX9_figure_0 rfl (lv_at hl₀ 0 rfl) ?_
  refine lv_aload_n C₀.1.1 C₀.1.2.1 dX9_figure_1 rfl (lv_at hl₀ 0 rfl) ?_
  refine xw_get C₀ hH₀ 0 rfl rfl 11 (by decide) iw_X9_figure_X9 (by decide +kernel) (v := .int (iI fr₀)) rfl dX9_figure_2 ?_
  refine xc_Vi (wr := []) (ws' := fun _ => [mO a₀ q₀ th₀ un₀ mf₀ ty₀ fr₀ tt₀ tk₀ fa₀ (bz hf₀) (bz ho₀) km₀, (q₀ 9, .inl (k₀ 1, 120, .inl (by8 tx₀)))]) (As := [.int (iI fr₀)]) (rest := []) C₀ hH₀ (c_X9_at lL₀ D₀ k₀ H₀.size a₀ q₀ th₀ un₀ mf₀ ty₀ fr₀ tt₀ tk₀ fa₀ hf₀ ho₀ km₀ tx₀ fr₀ (by omega) (by omega) (htx₀)) ZT_b (fun _ _ _ => trivial) (cwV 1 C₀.1.2.2.2.2 gX9_figure_X9_at rfl rfl rfl (by decide +kernel) ⟨Nat.le_of_ble_eq_true rfl, Nat.le_of_ble_eq_true rfl⟩) [0, 1] [] [0, 1] rfl rfl (by decide) (by decide) (by decide) (fun _ => rfl) (by decide) (q0 := 0) rfl rfl rfl hl₀.1 rfl (Nat.le_of_ble_eq_true rfl) dX9_figure_5 ⟨Nat.le_of_ble_eq_true rfl, Nat.le_of_ble_eq_true rfl⟩ (fun _ _ H₀ locs₀ hH₀ => ?_)
  refine lv_bipush (v := iI 48) C₀.1.1 C₀.1.2.1 dX9_figure_8 (by decide) ?_
  refine xi_sub C₀.1.1 C₀.1.2.1 dX9_figure_10 ?_
  refine lv_istore_n (lv' := [(2, .int (iI (mAt tx₀ ty₀ fr₀ - 48))), (0, .ref a₀), (1, .int (iI be₀))]) C₀.1.1 C₀.1.2.1 dX9_figure_11 rfl hl₀ (by decide) rfl (fun ls₀ hl₀ => ?_)
  refine lv_aload_n C₀.1.1 C₀.1.2.1 dX9_figure_12 rfl (lv_at hl₀ 1 rfl) ?_
  have L44₀ : ∀ (b₀ : Bool), (b₀ = mFg tx₀ ty₀ fr₀ be₀) → ∀ (H₀ : Heap) (locs₀ : List Loc) (ls₀ : Array Slot), Hp D₀ A₀ sT₀.heap [mO a₀ q₀ th₀ un₀ mf₀ ty₀ fr₀ tt₀ tk₀ fa₀ (bz hf₀) (bz ho₀) km₀, (q₀ 9, .inl (k₀ 1, 120, .inl (by8 tx₀)))] H₀ locs₀ → lv_has ls₀ 3 [(0, .ref a₀), (1, .int (iI be₀)), (2, .int (iI (mAt tx₀ ty₀ fr₀ - 48)))] → W pP₀ lL₀ eN₀ rmX9_figure sT₀ mI₀ args₀ below₀ meth₀ cD₀ H₀ locs₀ 0 0 QQ₀ (F0 mI₀ 44 ls₀ [.int (iI (bz b₀)), .ref a₀]) := by
    intro b₀ jb₀ H₀ locs₀ ls₀ hH₀ hl₀
    refine xc_Vv (wr := []) (ws' := fun ⟨f2_1₀, a2_2₀⟩ => [mO a₀ q₀ th₀ un₀ mf₀ ty₀ f2_1₀ (mTo tx₀ ty₀ f2_1₀) (mTk tx₀ ty₀ f2_1₀) a2_2₀ (bz hf₀) (bz ho₀) km₀, (q₀ 9, .inl (k₀ 1, 120, .inl (by8 tx₀)))]) (As := [.int (iI (bz b₀))]) (rest := []) C₀ hH₀ (c_X9_takes lL₀ D₀ k₀ H₀.size a₀ q₀ th₀ un₀ mf₀ ty₀ fr₀ tt₀ tk₀ fa₀ hf₀ ho₀ km₀ tx₀ b₀ (by omega) (htx₀) (by omega) (by first | rfl | assumption) (by first | rfl | assumption) (by omega)) ZT_b (fun _ _ _ => trivial) (cwV 1 C₀.1.2.2.2.2 gX9_figure_X9_takes rfl rfl rfl (by decide +kernel) ⟨Nat.le_of_ble_eq_true rfl, Nat.le_of_ble_eq_true rfl⟩) [0, 1] [] [0, 1] rfl rfl (by decide) (by decide) (by decide) (fun _ => rfl) (by decide) (q0 := 0) rfl rfl rfl hl₀.1 rfl (Nat.le_of_ble_eq_true rfl) dX9_figure_44 ⟨Nat.le_of_ble_eq_true rfl, Nat.le_of_ble_eq_true rfl⟩ (fun ⟨f2_1₀, a2_2₀⟩ hu₀ H₀ locs₀ hH₀ => ?_)
    refine lv_iload_n C₀.1.1 C₀.1.2.1 dX9_figure_47 rfl (lv_at hl₀ 2 rfl) ?_
    exact xr_i C₀ hH₀ hlk₀ hr₀ hQ₀ rfl hAe₀ (f2_1₀, a2_2₀) (by rw [← jb₀]; exact hu₀) rfl rfl dX9_figure_48
  refine lv_aload_n C₀.1.1 C₀.1.2.1 dX9_figure_13 rfl (lv_at hl₀ 1 rfl) ?_
  refine xw_get C₀ hH₀ 0 rfl rfl 13 (by decide) iw_X9_figure_X9 (by decide +kernel) (v := .int (iI tk₀)) rfl dX9_figure_14 ?_
  refine lv_iconst (v := iI 4) C₀.1.1 C₀.1.2.1 dX9_figure_17 (by decide) ?_
  refine xi_cne (tgt := 43) C₀.1.1 C₀.1.2.1 dX9_figure_18 (by decide) (by omega) (by omega) (fun h_3₀ => ?_) (fun h_3₀ => ?_)
  · refine lv_iconst (v := iI 0) C₀.1.1 C₀.1.2.1 dX9_figure_43 (by decide) ?_
    exact L44₀ false ((by unfold mFg; exact (decide_eq_false (by omega)).symm)) _ _ _ hH₀ (lv_sub hl₀ [1, 2, 0] rfl)
  · refine lv_aload_n C₀.1.1 C₀.1.2.1 dX9_figure_21 rfl (lv_at hl₀ 1 rfl) ?_
    refine xw_get C₀ hH₀ 0 rfl rfl 12 (by decide) iw_X9_figure_X9 (by decide +kernel) (v := .int (iI tt₀)) rfl dX9_figure_22 ?_
    refine lv_aload_n C₀.1.1 C₀.1.2.1 dX9_figure_25 rfl (lv_at hl₀ 1 rfl) ?_
    refine xw_get C₀ hH₀ 0 rfl rfl 11 (by decide) iw_X9_figure_X9 (by decide +kernel) (v := .int (iI fr₀)) rfl dX9_figure_26 ?_
    refine xi_sub C₀.1.1 C₀.1.2.1 dX9_figure_29 ?_
    refine lv_iconst (v := iI 1) C₀.1.1 C₀.1.2.1 dX9_figure_30 (by decide) ?_
    refine xi_cne (tgt := 43) C₀.1.1 C₀.1.2.1 dX9_figure_31 (by decide) (by omega) (by omega) (fun h_4₀ => ?_) (fun h_4₀ => ?_)
    · refine lv_iconst (v := iI 0) C₀.1.1 C₀.1.2.1 dX9_figure_43 (by decide) ?_
      exact L44₀ false ((by unfold mFg; exact (decide_eq_false (by omega)).symm)) _ _ _ hH₀ (lv_sub hl₀ [1, 2, 0] rfl)
    · refine lv_iload_n C₀.1.1 C₀.1.2.1 dX9_figure_34 rfl (lv_at hl₀ 0 rfl) ?_
      refine lv_iload_n C₀.1.1 C₀.1.2.1 dX9_figure_35 rfl (lv_at hl₀ 2 rfl) ?_
      refine xi_cge (tgt := 43) C₀.1.1 C₀.1.2.1 dX9_figure_36 (by decide) (by omega) (by omega) (fun h_5₀ => ?_) (fun h_5₀ => ?_)
      · refine lv_iconst (v := iI 0) C₀.1.1 C₀.1.2.1 dX9_figure_43 (by decide) ?_
        exact L44₀ false ((by unfold mFg; exact (decide_eq_false (by omega)).symm)) _ _ _ hH₀ (lv_sub hl₀ [1, 2, 0] rfl)
      · refine lv_iconst (v := iI 1) C₀.1.1 C₀.1.2.1 dX9_figure_39 (by decide) ?_
        refine lv_goto (tgt := 44) C₀.1.1 C₀.1.2.1 dX9_figure_40 (by decide) ?_
        exact L44₀ true ((by unfold mFg; exact (decide_eq_true (by omega)).symm)) _ _ _ hH₀ (lv_sub hl₀ [1, 2, 0] rfl)
theorem iw_X9_readsOutside_X9 : ∀ w₀ ∈ u_ws RX9 TX9 24, w₀ ∈ wsX9_readsOutside := (fun w₀ h₀ => List.mem_cons_of_mem _ (List.mem_append_right _ h₀))
abbrev rmX9_readsOutside : Room := { frames := 5, cells := 0, slots := 0, locals := 109 }
set_option maxHeartbeats 4000000 in
set_option maxRecDepth 100000 in
/-- readsOutside -/
theorem c_X9_readsOutside (lL₀ : Launch) (D₀ : va_G) (k₀ : Nat → ClassId) (sz₀ : Nat) (a₀ : Nat) (q₀ : Nat → Nat) (th₀ : Int) (un₀ : Int) (mf₀ : Int) (ty₀ : Int) (fr₀ : Int) (tt₀ : Int) (tk₀ : Int) (fa₀ : Int) (hf₀ : Bool) (ho₀ : Bool) (km₀ : Int) (tx₀ : Int → Int) (dr₀ : Int → Int) (hty₀ : 0 ≤ ty₀ ∧ ty₀ ≤ 120) (htx₀ : ∀ j₀, 0 ≤ tx₀ j₀ ∧ tx₀ j₀ < 256) (hfr₀ : 0 ≤ fr₀ ∧ fr₀ ≤ ty₀) (htt₀ : tt₀ = mTo tx₀ ty₀ fr₀) (htk₀ : tk₀ = mTk tx₀ ty₀ fr₀) (hfa₀ : fa₀ = -9 ∨ 0 ≤ fa₀ ∧ fa₀ ≤ ty₀) : Met lL₀ yX9_readsOutside wsX9_readsOutside rmX9_readsOutside (gPc ZT D₀ (tyk k₀) [.ref a₀] sz₀ [mO a₀ q₀ th₀ un₀ mf₀ ty₀ fr₀ tt₀ tk₀ fa₀ (bz hf₀) (bz ho₀) km₀, (q₀ 9, .inl (k₀ 1, 120, .inl (by8 tx₀))), (q₀ 2, .inl (k₀ 0, 51, .inl (ia dr₀)))]) (gQv D₀ (tyk k₀) [mO a₀ q₀ th₀ un₀ mf₀ ty₀ fr₀ tt₀ tk₀ fa₀ (bz hf₀) (bz ho₀) km₀, (q₀ 9, .inl (k₀ 1, 120, .inl (by8 tx₀))), (q₀ 2, .inl (k₀ 0, 51, .inl (ia dr₀)))] sz₀ (fun (u₀ : (Int) × (Int) × (Int → Int)) => match u₀ with | (f2₀, a2₀, d2₀) => (f2₀, a2₀, d2₀) = pOut tx₀ ty₀ fr₀ fa₀ dr₀ ho₀) (fun (u₀ : (Int) × (Int) × (Int → Int)) => match u₀ with | (f2₀, a2₀, d2₀) => [mO a₀ q₀ th₀ un₀ mf₀ ty₀ f2₀ (mTo tx₀ ty₀ f2₀) (mTk tx₀ ty₀ f2₀) a2₀ (bz hf₀) (bz true) km₀, (q₀ 9, .inl (k₀ 1, 120, .inl (by8 tx₀))), (q₀ 2, .inl (k₀ 0, 51, .inl (ia d2₀)))])) 0 0 (va_A [mO a₀ q₀ th₀ un₀ mf₀ ty₀ fr₀ tt₀ tk₀ fa₀ (bz hf₀) (bz ho₀) km₀, (q₀ 9, .inl (k₀ 1, 120, .inl (by8 tx₀))), (q₀ 2, .inl (k₀ 0, 51, .inl (ia dr₀)))] sz₀) := by
  refine xs_met (cc := cX9_readsOutside) (maxL := 2) (ret := none) (by decide) rfl (Nat.le_of_ble_eq_true rfl) ?_
  intro pP₀ eN₀ sT₀ mI₀ below₀ meth₀ cD₀ hsz₀ args₀ QQ₀ C₀ hr₀ hlk₀ hnm₀ hQ₀ ls₀ H₀ locs₀ hl₀ hH₀
  subst hsz₀
  have hl₀ : lv_has ls₀ 2 [(0, .ref a₀)] := hl₀
  generalize hAe₀ : va_A [mO a₀ q₀ th₀ un₀ mf₀ ty₀ fr₀ tt₀ tk₀ fa₀ (bz hf₀) (bz ho₀) km₀, (q₀ 9, .inl (k₀ 1, 120, .inl (by8 tx₀))), (q₀ 2, .inl (k₀ 0, 51, .inl (ia dr₀)))] sT₀.heap.size = A₀ at C₀ hH₀ hQ₀
  refine lv_aload_n C₀.1.1 C₀.1.2.1 dX9_readsOutside_0 rfl (lv_at hl₀ 0 rfl) ?_
  have L13₀ : ∀ (b₀ : Bool), (b₀ = !ho₀) → ∀ (H₀ : Heap) (locs₀ : List Loc) (ls₀ : Array Slot), Hp D₀ A₀ sT₀.heap [mO a₀ q₀ th₀ un₀ mf₀ ty₀ fr₀ tt₀ tk₀ fa₀ (bz hf₀) (bz ho₀) km₀, (q₀ 9, .inl (k₀ 1, 120, .inl (by8 tx₀))), (q₀ 2, .inl (k₀ 0, 51, .inl (ia dr₀)))] H₀ locs₀ → lv_has ls₀ 2 [(0, .ref a₀)] → W pP₀ lL₀ eN₀ rmX9_readsOutside sT₀ mI₀ args₀ below₀ meth₀ cD₀ H₀ locs₀ 0 0 QQ₀ (F0 mI₀ 13 ls₀ [.int (iI (bz b₀)), .ref a₀]) := by
    intro b₀ jb₀ H₀ locs₀ ls₀ hH₀ hl₀
    refine xc_Vv (wr := [(q₀ 2, .inl (k₀ 0, 51, .inl (ia dr₀)))]) (ws' := fun ⟨f2_1₀, a2_2₀⟩ => [mO a₀ q₀ th₀ un₀ mf₀ ty₀ f2_1₀ (mTo tx₀ ty₀ f2_1₀) (mTk tx₀ ty₀ f2_1₀) a2_2₀ (bz hf₀) (bz ho₀) km₀, (q₀ 9, .inl (k₀ 1, 120, .inl (by8 tx₀))), (q₀ 2, .inl (k₀ 0, 51, .inl (ia dr₀)))]) (As := [.int (iI (bz b₀))]) (rest := []) C₀ hH₀ (c_X9_takes lL₀ D₀ k₀ H₀.size a₀ q₀ th₀ un₀ mf₀ ty₀ fr₀ tt₀ tk₀ fa₀ hf₀ ho₀ km₀ tx₀ b₀ (by omega) (htx₀) (by omega) (by first | rfl | assumption) (by first | rfl | assumption) (by omega)) ZT_b (fun _ _ _ => trivial) (cwV 1 C₀.1.2.2.2.2 gX9_readsOutside_X9_takes rfl rfl rfl (by decide +kernel) ⟨Nat.le_of_ble_eq_true rfl, Nat.le_of_ble_eq_true rfl⟩) [0, 1] [2] [1, 2, 0] rfl rfl (by decide) (by decide) (by decide) (fun _ => rfl) (by decide) (q0 := 0) rfl rfl rfl hl₀.1 rfl (Nat.le_of_ble_eq_true rfl) dX9_readsOutside_13 ⟨Nat.le_of_ble_eq_true rfl, Nat.le_of_ble_eq_true rfl⟩ (fun ⟨f2_1₀, a2_2₀⟩ hu1₀ H₀ locs₀ hH₀ => ?_)
    have hp1₀ := pT_ok (tx := tx₀) (ty := ty₀) (z := (fr₀, fa₀)) b₀ ⟨hfr₀, hfa₀⟩
    rw [← hu1₀] at hp1₀
    obtain ⟨hp1a₀, hp1b₀⟩ := hp1₀
    dsimp only at hp1a₀ hp1b₀
    refine lv_aload_n C₀.1.1 C₀.1.2.1 dX9_readsOutside_16 rfl (lv_at hl₀ 0 rfl) ?_
    refine lv_iconst (v := iI 1) C₀.1.1 C₀.1.2.1 dX9_readsOutside_17 (by decide) ?_
    refine xw_put (ws' := [mO a₀ q₀ th₀ un₀ mf₀ ty₀ f2_1₀ (mTo tx₀ ty₀ f2_1₀) (mTk tx₀ ty₀ f2_1₀) a2_2₀ (bz hf₀) 1 km₀, (q₀ 9, .inl (k₀ 1, 120, .inl (by8 tx₀))), (q₀ 2, .inl (k₀ 0, 51, .inl (ia dr₀)))]) (v := .int (iI 1)) C₀ hH₀ 0 rfl rfl tyX9 tyX9_ok nmX9 16 (by decide) iw_X9_readsOutside_X9 (by decide +kernel) rfl rfl rfl (Nat.le_of_ble_eq_true rfl) dX9_readsOutside_18 rfl (fun H₀ locs₀ hH₀ => ?_)
    refine lv_aload_n C₀.1.1 C₀.1.2.1 dX9_readsOutside_21 rfl (lv_at hl₀ 0 rfl) ?_
    refine lv_iconst (v := iI 4) C₀.1.1 C₀.1.2.1 dX9_readsOutside_22 (by decide) ?_
    refine xc_Vi (wr := [(q₀ 2, .inl (k₀ 0, 51, .inl (ia dr₀)))]) (ws' := fun ⟨f2_3₀, a2_4₀⟩ => [mO a₀ q₀ th₀ un₀ mf₀ ty₀ f2_3₀ (mTo tx₀ ty₀ f2_3₀) (mTk tx₀ ty₀ f2_3₀) a2_4₀ (bz hf₀) 1 km₀, (q₀ 9, .inl (k₀ 1, 120, .inl (by8 tx₀))), (q₀ 2, .inl (k₀ 0, 51, .inl (ia dr₀)))]) (As := [.int (iI 4)]) (rest := []) C₀ hH₀ (c_X9_figure lL₀ D₀ k₀ H₀.size a₀ q₀ th₀ un₀ mf₀ ty₀ f2_1₀ (mTo tx₀ ty₀ f2_1₀) (mTk tx₀ ty₀ f2_1₀) a2_2₀ hf₀ true km₀ tx₀ 4 (by omega) (htx₀) (by omega) (by first | rfl | assumption) (by first | rfl | assumption) (by omega) (by omega)) ZT_b (fun _ _ _ => trivial) (cwV 1 C₀.1.2.2.2.2 gX9_readsOutside_X9_figure rfl rfl rfl (by decide +kernel) ⟨Nat.le_of_ble_eq_true rfl, Nat.le_of_ble_eq_true rfl⟩) [0, 1] [2] [1, 2, 0] rfl rfl (by decide) (by decide) (by decide) (fun _ => rfl) (by decide) (q0 := 0) rfl rfl rfl hl₀.1 rfl (Nat.le_of_ble_eq_true rfl) dX9_readsOutside_23 ⟨Nat.le_of_ble_eq_true rfl, Nat.le_of_ble_eq_true rfl⟩ (fun ⟨f2_3₀, a2_4₀⟩ hu2₀ H₀ locs₀ hH₀ => ?_)
    have hp2₀ := hu2₀
    obtain ⟨hp2a₀, hp2b₀⟩ : pOk ty₀ (f2_3₀, a2_4₀) := by rw [hu2₀]; exact pT_ok _ ⟨hp1a₀, hp1b₀⟩
    dsimp only at hp2a₀ hp2b₀
    refine lv_istore_n (lv' := [(1, .int (iI (mAt tx₀ ty₀ f2_1₀ - 48))), (0, .ref a₀)]) C₀.1.1 C₀.1.2.1 dX9_readsOutside_26 rfl hl₀ (by decide) rfl (fun ls₀ hl₀ => ?_)
    refine lv_aload_n C₀.1.1 C₀.1.2.1 dX9_readsOutside_27 rfl (lv_at hl₀ 1 rfl) ?_
    refine xw_get C₀ hH₀ 0 rfl rfl 2 (by decide) iw_X9_readsOutside_X9 (by decide +kernel) (v := .ref (q₀ 2)) rfl dX9_readsOutside_28 ?_
    refine lv_iconst (v := iI 2) C₀.1.1 C₀.1.2.1 dX9_readsOutside_31 (by decide) ?_
    have L47₀ : ∀ (v₀ : Int), (v₀ = if a2_4₀ = -9 then mAt tx₀ ty₀ f2_1₀ - 48 else -9) → ∀ (H₀ : Heap) (locs₀ : List Loc) (ls₀ : Array Slot), Hp D₀ A₀ sT₀.heap [mO a₀ q₀ th₀ un₀ mf₀ ty₀ f2_3₀ (mTo tx₀ ty₀ f2_3₀) (mTk tx₀ ty₀ f2_3₀) a2_4₀ (bz hf₀) 1 km₀, (q₀ 9, .inl (k₀ 1, 120, .inl (by8 tx₀))), (q₀ 2, .inl (k₀ 0, 51, .inl (ia dr₀)))] H₀ locs₀ → lv_has ls₀ 2 [(0, .ref a₀), (1, .int (iI (mAt tx₀ ty₀ f2_1₀ - 48)))] → W pP₀ lL₀ eN₀ rmX9_readsOutside sT₀ mI₀ args₀ below₀ meth₀ cD₀ H₀ locs₀ 0 0 QQ₀ (F0 mI₀ 47 ls₀ [.int (iI v₀), .int (iI 2), .ref (q₀ 2)]) := by
      intro v₀ jv₀ H₀ locs₀ ls₀ hH₀ hl₀
      refine xw_ist (ws' := [mO a₀ q₀ th₀ un₀ mf₀ ty₀ f2_3₀ (mTo tx₀ ty₀ f2_3₀) (mTk tx₀ ty₀ f2_3₀) a2_4₀ (bz hf₀) 1 km₀, (q₀ 9, .inl (k₀ 1, 120, .inl (by8 tx₀))), (q₀ 2, .inl (k₀ 0, 51, .inl (ia (uz dr₀ 2 v₀))))]) C₀ hH₀ 2 0 rfl rfl (z := 2) (v := v₀) (by omega) (by omega) (by decide) dX9_readsOutside_47 rfl (fun H₀ locs₀ hH₀ => ?_)
      exact xr_v C₀ hH₀ hlk₀ hr₀ hQ₀ hAe₀ (f2_3₀, a2_4₀, uz dr₀ 2 v₀) (by unfold pOut; dsimp only; rw [← jb₀, ← hu1₀]; dsimp only; rw [← hu2₀, jv₀]) rfl dX9_readsOutside_48
    refine lv_aload_n C₀.1.1 C₀.1.2.1 dX9_readsOutside_32 rfl (lv_at hl₀ 1 rfl) ?_
    refine xw_get C₀ hH₀ 0 rfl rfl 14 (by decide) iw_X9_readsOutside_X9 (by decide +kernel) (v := .int (iI a2_4₀)) rfl dX9_readsOutside_33 ?_
    refine lv_bipush (v := iI (-9)) C₀.1.1 C₀.1.2.1 dX9_readsOutside_36 (by decide) ?_
    refine xi_cne (tgt := 45) C₀.1.1 C₀.1.2.1 dX9_readsOutside_38 (by decide) (by omega) (by omega) (fun h_5₀ => ?_) (fun h_5₀ => ?_)
    · refine lv_bipush (v := iI (-9)) C₀.1.1 C₀.1.2.1 dX9_readsOutside_45 (by decide) ?_
      exact L47₀ (-9) ((by simp (disch := omega) only [if_pos, if_neg])) _ _ _ hH₀ (lv_sub hl₀ [1, 0] rfl)
    · refine lv_iload_n C₀.1.1 C₀.1.2.1 dX9_readsOutside_41 rfl (lv_at hl₀ 0 rfl) ?_
      refine lv_goto (tgt := 47) C₀.1.1 C₀.1.2.1 dX9_readsOutside_42 (by decide) ?_
      exact L47₀ (mAt tx₀ ty₀ f2_1₀ - 48) ((by simp (disch := omega) only [if_pos, if_neg])) _ _ _ hH₀ (lv_sub hl₀ [1, 0] rfl)
  refine lv_aload_n C₀.1.1 C₀.1.2.1 dX9_readsOutside_1 rfl (lv_at hl₀ 0 rfl) ?_
  refine xw_get C₀ hH₀ 0 rfl rfl 16 (by decide) iw_X9_readsOutside_X9 (by decide +kernel) (v := .int (iI (bz ho₀))) rfl dX9_readsOutside_2 ?_
  refine xb_ne (tgt := 12) C₀.1.1 C₀.1.2.1 dX9_readsOutside_5 (by decide) (fun h_6₀ => ?_) (fun h_6₀ => ?_)
  · refine lv_iconst (v := iI 0) C₀.1.1 C₀.1.2.1 dX9_readsOutside_12 (by decide) ?_
    exact L13₀ false ((by simp_all)) _ _ _ hH₀ (lv_sub hl₀ [0] rfl)
  · refine lv_iconst (v := iI 1) C₀.1.1 C₀.1.2.1 dX9_readsOutside_8 (by decide) ?_
    refine lv_goto (tgt := 13) C₀.1.1 C₀.1.2.1 dX9_readsOutside_9 (by decide) ?_
    exact L13₀ true ((by simp_all)) _ _ _ hH₀ (lv_sub hl₀ [0] rfl)
theorem iw_X9_readsFix_X9 : ∀ w₀ ∈ u_ws RX9 TX9 24, w₀ ∈ wsX9_readsFix := (fun w₀ h₀ => List.mem_cons_of_mem _ (List.mem_append_right _ h₀))
abbrev rmX9_readsFix : Room := { frames := 5, cells := 0, slots := 0, locals := 109 }
set_option maxHeartbeats 4000000 in
set_option maxRecDepth 100000 in
/-- readsFix -/
theorem c_X9_readsFix (lL₀ : Launch) (D₀ : va_G) (k₀ : Nat → ClassId) (sz₀ : Nat) (a₀ : Nat) (q₀ : Nat → Nat) (th₀ : Int) (un₀ : Int) (mf₀ : Int) (ty₀ : Int) (fr₀ : Int) (tt₀ : Int) (tk₀ : Int) (fa₀ : Int) (hf₀ : Bool) (ho₀ : Bool) (km₀ : Int) (tx₀ : Int → Int) (dr₀ : Int → Int) (hty₀ : 0 ≤ ty₀ ∧ ty₀ ≤ 120) (htx₀ : ∀ j₀, 0 ≤ tx₀ j₀ ∧ tx₀ j₀ < 256) (hfr₀ : 0 ≤ fr₀ ∧ fr₀ ≤ ty₀) (htt₀ : tt₀ = mTo tx₀ ty₀ fr₀) (htk₀ : tk₀ = mTk tx₀ ty₀ fr₀) (hfa₀ : fa₀ = -9 ∨ 0 ≤ fa₀ ∧ fa₀ ≤ ty₀) (hd0₀ : 0 ≤ dr₀ 0 ∧ dr₀ 0 ≤ 4) (hd1₀ : 0 ≤ dr₀ 1 ∧ dr₀ 1 ≤ 6) : Met lL₀ yX9_readsFix wsX9_readsFix rmX9_readsFix (gPc ZT D₀ (tyk k₀) [.ref a₀] sz₀ [mO a₀ q₀ th₀ un₀ mf₀ ty₀ fr₀ tt₀ tk₀ fa₀ (bz hf₀) (bz ho₀) km₀, (q₀ 9, .inl (k₀ 1, 120, .inl (by8 tx₀))), (q₀ 2, .inl (k₀ 0, 51, .inl (ia dr₀)))]) (gQv D₀ (tyk k₀) [mO a₀ q₀ th₀ un₀ mf₀ ty₀ fr₀ tt₀ tk₀ fa₀ (bz hf₀) (bz ho₀) km₀, (q₀ 9, .inl (k₀ 1, 120, .inl (by8 tx₀))), (q₀ 2, .inl (k₀ 0, 51, .inl (ia dr₀)))] sz₀ (fun (u₀ : (Int) × (Int) × (Int → Int)) => match u₀ with | (f2₀, a2₀, d2₀) => (f2₀, a2₀, d2₀) = pFix tx₀ ty₀ fr₀ fa₀ dr₀) (fun (u₀ : (Int) × (Int) × (Int → Int)) => match u₀ with | (f2₀, a2₀, d2₀) => [mO a₀ q₀ th₀ un₀ mf₀ ty₀ f2₀ (mTo tx₀ ty₀ f2₀) (mTk tx₀ ty₀ f2₀) a2₀ (bz true) (bz ho₀) km₀, (q₀ 9, .inl (k₀ 1, 120, .inl (by8 tx₀))), (q₀ 2, .inl (k₀ 0, 51, .inl (ia d2₀)))])) 0 0 (va_A [mO a₀ q₀ th₀ un₀ mf₀ ty₀ fr₀ tt₀ tk₀ fa₀ (bz hf₀) (bz ho₀) km₀, (q₀ 9, .inl (k₀ 1, 120, .inl (by8 tx₀))), (q₀ 2, .inl (k₀ 0, 51, .inl (ia dr₀)))] sz₀) := by
  refine xs_met (cc := cX9_readsFix) (maxL := 3) (ret := none) (by decide) rfl (Nat.le_of_ble_eq_true rfl) ?_
  intro pP₀ eN₀ sT₀ mI₀ below₀ meth₀ cD₀ hsz₀ args₀ QQ₀ C₀ hr₀ hlk₀ hnm₀ hQ₀ ls₀ H₀ locs₀ hl₀ hH₀
  subst hsz₀
  have hl₀ : lv_has ls₀ 3 [(0, .ref a₀)] := hl₀
  generalize hAe₀ : va_A [mO a₀ q₀ th₀ un₀ mf₀ ty₀ fr₀ tt₀ tk₀ fa₀ (bz hf₀) (bz ho₀) km₀, (q₀ 9, .inl (k₀ 1, 120, .inl (by8 tx₀))), (q₀ 2, .inl (k₀ 0, 51, .inl (ia dr₀)))] sT₀.heap.size = A₀ at C₀ hH₀ hQ₀
  refine lv_aload_n C₀.1.1 C₀.1.2.1 dX9_readsFix_0 rfl (lv_at hl₀ 0 rfl) ?_
  have L15₀ : ∀ (b₀ : Bool), (b₀ = decide (0 < dr₀ 1)) → ∀ (H₀ : Heap) (locs₀ : List Loc) (ls₀ : Array Slot), Hp D₀ A₀ sT₀.heap [mO a₀ q₀ th₀ un₀ mf₀ ty₀ fr₀ tt₀ tk₀ fa₀ (bz hf₀) (bz ho₀) km₀, (q₀ 9, .inl (k₀ 1, 120, .inl (by8 tx₀))), (q₀ 2, .inl (k₀ 0, 51, .inl (ia dr₀)))] H₀ locs₀ → lv_has ls₀ 3 [(0, .ref a₀)] → W pP₀ lL₀ eN₀ rmX9_readsFix sT₀ mI₀ args₀ below₀ meth₀ cD₀ H₀ locs₀ 0 0 QQ₀ (F0 mI₀ 15 ls₀ [.int (iI (bz b₀)), .ref a₀]) := by
    intro b₀ jb₀ H₀ locs₀ ls₀ hH₀ hl₀
    refine xc_Vv (wr := [(q₀ 2, .inl (k₀ 0, 51, .inl (ia dr₀)))]) (ws' := fun ⟨f2_1₀, a2_2₀⟩ => [mO a₀ q₀ th₀ un₀ mf₀ ty₀ f2_1₀ (mTo tx₀ ty₀ f2_1₀) (mTk tx₀ ty₀ f2_1₀) a2_2₀ (bz hf₀) (bz ho₀) km₀, (q₀ 9, .inl (k₀ 1, 120, .inl (by8 tx₀))), (q₀ 2, .inl (k₀ 0, 51, .inl (ia dr₀)))]) (As := [.int (iI (bz b₀))]) (rest := []) C₀ hH₀ (c_X9_takes lL₀ D₀ k₀ H₀.size a₀ q₀ th₀ un₀ mf₀ ty₀ fr₀ tt₀ tk₀ fa₀ hf₀ ho₀ km₀ tx₀ b₀ (by omega) (htx₀) (by omega) (by first | rfl | assumption) (by first | rfl | assumption) (by omega)) ZT_b (fun _ _ _ => trivial) (cwV 1 C₀.1.2.2.2.2 gX9_readsFix_X9_takes rfl rfl rfl (by decide +kernel) ⟨Nat.le_of_ble_eq_true rfl, Nat.le_of_ble_eq_true rfl⟩) [0, 1] [2] [1, 2, 0] rfl rfl (by decide) (by decide) (by decide) (fun _ => rfl) (by decide) (q0 := 0) rfl rfl rfl hl₀.1 rfl (Nat.le_of_ble_eq_true rfl) dX9_readsFix_15 ⟨Nat.le_of_ble_eq_true rfl, Nat.le_of_ble_eq_true rfl⟩ (fun ⟨f2_1₀, a2_2₀⟩ hu1₀ H₀ locs₀ hH₀ => ?_)
    obtain ⟨hp1a₀, hp1b₀⟩ : pOk ty₀ (f2_1₀, a2_2₀) := by rw [hu1₀]; exact pT_ok _ ⟨hfr₀, hfa₀⟩
    dsimp only at hp1a₀ hp1b₀
    refine lv_aload_n C₀.1.1 C₀.1.2.1 dX9_readsFix_18 rfl (lv_at hl₀ 0 rfl) ?_
    refine lv_iconst (v := iI 1) C₀.1.1 C₀.1.2.1 dX9_readsFix_19 (by decide) ?_
    refine xw_put (ws' := [mO a₀ q₀ th₀ un₀ mf₀ ty₀ f2_1₀ (mTo tx₀ ty₀ f2_1₀) (mTk tx₀ ty₀ f2_1₀) a2_2₀ 1 (bz ho₀) km₀, (q₀ 9, .inl (k₀ 1, 120, .inl (by8 tx₀))), (q₀ 2, .inl (k₀ 0, 51, .inl (ia dr₀)))]) (v := .int (iI 1)) C₀ hH₀ 0 rfl rfl tyX9 tyX9_ok nmX9 15 (by decide) iw_X9_readsFix_X9 (by decide +kernel) rfl rfl rfl (Nat.le_of_ble_eq_true rfl) dX9_readsFix_20 rfl (fun H₀ locs₀ hH₀ => ?_)
    refine lv_aload_n C₀.1.1 C₀.1.2.1 dX9_readsFix_23 rfl (lv_at hl₀ 0 rfl) ?_
    refine lv_aload_n C₀.1.1 C₀.1.2.1 dX9_readsFix_24 rfl (lv_at hl₀ 0 rfl) ?_
    refine xw_get C₀ hH₀ 0 rfl rfl 2 (by decide) iw_X9_readsFix_X9 (by decide +kernel) (v := .ref (q₀ 2)) rfl dX9_readsFix_25 ?_
    refine lv_iconst (v := iI 0) C₀.1.1 C₀.1.2.1 dX9_readsFix_28 (by decide) ?_
    refine xw_ild C₀ hH₀ 2 0 rfl rfl (z := 0) (by omega) (by omega) (by decide) dX9_readsFix_29 ?_
    refine xc_Vi (wr := [(q₀ 2, .inl (k₀ 0, 51, .inl (ia dr₀)))]) (ws' := fun ⟨f2_3₀, a2_4₀⟩ => [mO a₀ q₀ th₀ un₀ mf₀ ty₀ f2_3₀ (mTo tx₀ ty₀ f2_3₀) (mTk tx₀ ty₀ f2_3₀) a2_4₀ 1 (bz ho₀) km₀, (q₀ 9, .inl (k₀ 1, 120, .inl (by8 tx₀))), (q₀ 2, .inl (k₀ 0, 51, .inl (ia dr₀)))]) (As := [.int (iI (dr₀ 0))]) (rest := []) C₀ hH₀ (c_X9_figure lL₀ D₀ k₀ H₀.size a₀ q₀ th₀ un₀ mf₀ ty₀ f2_1₀ (mTo tx₀ ty₀ f2_1₀) (mTk tx₀ ty₀ f2_1₀) a2_2₀ true ho₀ km₀ tx₀ (dr₀ 0) (by omega) (htx₀) (by omega) (by first | rfl | assumption) (by first | rfl | assumption) (by omega) (by omega)) ZT_b (fun _ _ _ => trivial) (cwV 1 C₀.1.2.2.2.2 gX9_readsFix_X9_figure rfl rfl rfl (by decide +kernel) ⟨Nat.le_of_ble_eq_true rfl, Nat.le_of_ble_eq_true rfl⟩) [0, 1] [2] [1, 2, 0] rfl rfl (by decide) (by decide) (by decide) (fun _ => rfl) (by decide) (q0 := 0) rfl rfl rfl hl₀.1 rfl (Nat.le_of_ble_eq_true rfl) dX9_readsFix_30 ⟨Nat.le_of_ble_eq_true rfl, Nat.le_of_ble_eq_true rfl⟩ (fun ⟨f2_3₀, a2_4₀⟩ hu2₀ H₀ locs₀ hH₀ => ?_)
    obtain ⟨hp2a₀, hp2b₀⟩ : pOk ty₀ (f2_3₀, a2_4₀) := by rw [hu2₀]; exact pT_ok _ ⟨hp1a₀, hp1b₀⟩
    dsimp only at hp2a₀ hp2b₀
    refine lv_istore_n (lv' := [(1, .int (iI (mAt tx₀ ty₀ f2_1₀ - 48))), (0, .ref a₀)]) C₀.1.1 C₀.1.2.1 dX9_readsFix_33 rfl hl₀ (by decide) rfl (fun ls₀ hl₀ => ?_)
    refine lv_aload_n C₀.1.1 C₀.1.2.1 dX9_readsFix_34 rfl (lv_at hl₀ 1 rfl) ?_
    refine lv_aload_n C₀.1.1 C₀.1.2.1 dX9_readsFix_35 rfl (lv_at hl₀ 1 rfl) ?_
    refine xw_get C₀ hH₀ 0 rfl rfl 2 (by decide) iw_X9_readsFix_X9 (by decide +kernel) (v := .ref (q₀ 2)) rfl dX9_readsFix_36 ?_
    refine lv_iconst (v := iI 1) C₀.1.1 C₀.1.2.1 dX9_readsFix_39 (by decide) ?_
    refine xw_ild C₀ hH₀ 2 0 rfl rfl (z := 1) (by omega) (by omega) (by decide) dX9_readsFix_40 ?_
    refine xc_Vi (wr := [(q₀ 2, .inl (k₀ 0, 51, .inl (ia dr₀)))]) (ws' := fun ⟨f2_5₀, a2_6₀⟩ => [mO a₀ q₀ th₀ un₀ mf₀ ty₀ f2_5₀ (mTo tx₀ ty₀ f2_5₀) (mTk tx₀ ty₀ f2_5₀) a2_6₀ 1 (bz ho₀) km₀, (q₀ 9, .inl (k₀ 1, 120, .inl (by8 tx₀))), (q₀ 2, .inl (k₀ 0, 51, .inl (ia dr₀)))]) (As := [.int (iI (dr₀ 1))]) (rest := []) C₀ hH₀ (c_X9_figure lL₀ D₀ k₀ H₀.size a₀ q₀ th₀ un₀ mf₀ ty₀ f2_3₀ (mTo tx₀ ty₀ f2_3₀) (mTk tx₀ ty₀ f2_3₀) a2_4₀ true ho₀ km₀ tx₀ (dr₀ 1) (by omega) (htx₀) (by omega) (by first | rfl | assumption) (by first | rfl | assumption) (by omega) (by omega)) ZT_b (fun _ _ _ => trivial) (cwV 1 C₀.1.2.2.2.2 gX9_readsFix_X9_figure rfl rfl rfl (by decide +kernel) ⟨Nat.le_of_ble_eq_true rfl, Nat.le_of_ble_eq_true rfl⟩) [0, 1] [2] [1, 2, 0] rfl rfl (by decide) (by decide) (by decide) (fun _ => rfl) (by decide) (q0 := 0) rfl rfl rfl hl₀.1 rfl (Nat.le_of_ble_eq_true rfl) dX9_readsFix_41 ⟨Nat.le_of_ble_eq_true rfl, Nat.le_of_ble_eq_true rfl⟩ (fun ⟨f2_5₀, a2_6₀⟩ hu3₀ H₀ locs₀ hH₀ => ?_)
    obtain ⟨hp3a₀, hp3b₀⟩ : pOk ty₀ (f2_5₀, a2_6₀) := by rw [hu3₀]; exact pT_ok _ ⟨hp2a₀, hp2b₀⟩
    dsimp only at hp3a₀ hp3b₀
    refine lv_istore_n (lv' := [(2, .int (iI (mAt tx₀ ty₀ f2_3₀ - 48))), (1, .int (iI (mAt tx₀ ty₀ f2_1₀ - 48))), (0, .ref a₀)]) C₀.1.1 C₀.1.2.1 dX9_readsFix_44 rfl hl₀ (by decide) rfl (fun ls₀ hl₀ => ?_)
    refine lv_aload_n C₀.1.1 C₀.1.2.1 dX9_readsFix_45 rfl (lv_at hl₀ 2 rfl) ?_
    refine xw_get C₀ hH₀ 0 rfl rfl 14 (by decide) iw_X9_readsFix_X9 (by decide +kernel) (v := .int (iI a2_6₀)) rfl dX9_readsFix_46 ?_
    refine lv_bipush (v := iI (-9)) C₀.1.1 C₀.1.2.1 dX9_readsFix_49 (by decide) ?_
    refine xi_cne (tgt := 73) C₀.1.1 C₀.1.2.1 dX9_readsFix_51 (by decide) (by omega) (by omega) (fun h_7₀ => ?_) (fun h_7₀ => ?_)
    · exact xr_v C₀ hH₀ hlk₀ hr₀ hQ₀ hAe₀ (f2_5₀, a2_6₀, dr₀) (by unfold pFix; dsimp only; rw [← jb₀, ← hu1₀]; dsimp only; rw [← hu2₀]; dsimp only; rw [← hu3₀]; dsimp only; rw [if_neg (by omega)]) rfl dX9_readsFix_73
    · have hn3₀ := pT_no (tx := tx₀) ⟨hp2a₀, hp2b₀⟩ (by rw [← hu3₀]; assumption)
      have hn2₀ := pT_no (tx := tx₀) ⟨hp1a₀, hp1b₀⟩ (by rw [← hu2₀]; exact hn3₀.1)
      have hg3₀ := of_decide_eq_true hn3₀.2.1
      have hg2₀ := of_decide_eq_true hn2₀.2.1
      have hk3₀ := mTk_4 hg3₀.1
      have hk2₀ := mTk_4 hg2₀.1
      try dsimp only at hg3₀
      try dsimp only at hg2₀
      have hix₀ := fix_ix hd0₀ hd1₀ (show 0 ≤ mAt tx₀ ty₀ f2_1₀ - 48 ∧ mAt tx₀ ty₀ f2_1₀ - 48 < dr₀ 0 by omega) (show 0 ≤ mAt tx₀ ty₀ f2_3₀ - 48 ∧ mAt tx₀ ty₀ f2_3₀ - 48 < dr₀ 1 by omega)
      refine lv_aload_n C₀.1.1 C₀.1.2.1 dX9_readsFix_54 rfl (lv_at hl₀ 2 rfl) ?_
      refine xw_get C₀ hH₀ 0 rfl rfl 2 (by decide) iw_X9_readsFix_X9 (by decide +kernel) (v := .ref (q₀ 2)) rfl dX9_readsFix_55 ?_
      refine lv_bipush (v := iI 27) C₀.1.1 C₀.1.2.1 dX9_readsFix_58 (by decide) ?_
      refine lv_aload_n C₀.1.1 C₀.1.2.1 dX9_readsFix_60 rfl (lv_at hl₀ 2 rfl) ?_
      refine xw_get C₀ hH₀ 0 rfl rfl 2 (by decide) iw_X9_readsFix_X9 (by decide +kernel) (v := .ref (q₀ 2)) rfl dX9_readsFix_61 ?_
      refine lv_iconst (v := iI 0) C₀.1.1 C₀.1.2.1 dX9_readsFix_64 (by decide) ?_
      refine xw_ild C₀ hH₀ 2 0 rfl rfl (z := 0) (by omega) (by omega) (by decide) dX9_readsFix_65 ?_
      refine lv_iload_n C₀.1.1 C₀.1.2.1 dX9_readsFix_66 rfl (lv_at hl₀ 0 rfl) ?_
      refine xi_mul C₀.1.1 C₀.1.2.1 dX9_readsFix_67 ?_
      refine xi_add C₀.1.1 C₀.1.2.1 dX9_readsFix_68 ?_
      refine lv_iload_n C₀.1.1 C₀.1.2.1 dX9_readsFix_69 rfl (lv_at hl₀ 1 rfl) ?_
      refine xi_add C₀.1.1 C₀.1.2.1 dX9_readsFix_70 ?_
      refine lv_iconst (v := iI 1) C₀.1.1 C₀.1.2.1 dX9_readsFix_71 (by decide) ?_
      refine xw_ist (ws' := [mO a₀ q₀ th₀ un₀ mf₀ ty₀ f2_5₀ (mTo tx₀ ty₀ f2_5₀) (mTk tx₀ ty₀ f2_5₀) a2_6₀ 1 (bz ho₀) km₀, (q₀ 9, .inl (k₀ 1, 120, .inl (by8 tx₀))), (q₀ 2, .inl (k₀ 0, 51, .inl (ia (uz dr₀ (27 + ((dr₀ 0) * (mAt tx₀ ty₀ f2_3₀ - 48)) + (mAt tx₀ ty₀ f2_1₀ - 48)) 1))))]) C₀ hH₀ 2 0 rfl rfl (z := 27 + ((dr₀ 0) * (mAt tx₀ ty₀ f2_3₀ - 48)) + (mAt tx₀ ty₀ f2_1₀ - 48)) (v := 1) (by omega) (by omega) (by decide) dX9_readsFix_72 rfl (fun H₀ locs₀ hH₀ => ?_)
      exact xr_v C₀ hH₀ hlk₀ hr₀ hQ₀ hAe₀ (f2_5₀, a2_6₀, uz dr₀ (27 + ((dr₀ 0) * (mAt tx₀ ty₀ f2_3₀ - 48)) + (mAt tx₀ ty₀ f2_1₀ - 48)) 1) (by unfold pFix; dsimp only; rw [← jb₀, ← hu1₀]; dsimp only; rw [← hu2₀]; dsimp only; rw [← hu3₀]; dsimp only; rw [if_pos (by omega)]) rfl dX9_readsFix_73
  refine lv_aload_n C₀.1.1 C₀.1.2.1 dX9_readsFix_1 rfl (lv_at hl₀ 0 rfl) ?_
  refine xw_get C₀ hH₀ 0 rfl rfl 2 (by decide) iw_X9_readsFix_X9 (by decide +kernel) (v := .ref (q₀ 2)) rfl dX9_readsFix_2 ?_
  refine lv_iconst (v := iI 1) C₀.1.1 C₀.1.2.1 dX9_readsFix_5 (by decide) ?_
  refine xw_ild C₀ hH₀ 2 0 rfl rfl (z := 1) (by omega) (by omega) (by decide) dX9_readsFix_6 ?_
  refine xi_zle (tgt := 14) C₀.1.1 C₀.1.2.1 dX9_readsFix_7 (by decide) (by omega) (fun h_8₀ => ?_) (fun h_8₀ => ?_)
  · refine lv_iconst (v := iI 0) C₀.1.1 C₀.1.2.1 dX9_readsFix_14 (by decide) ?_
    exact L15₀ false ((decide_eq_false (by first | omega | (simp_all; done) | (simp_all; omega))).symm) _ _ _ hH₀ (lv_sub hl₀ [0] rfl)
  · refine lv_iconst (v := iI 1) C₀.1.1 C₀.1.2.1 dX9_readsFix_10 (by decide) ?_
    refine lv_goto (tgt := 15) C₀.1.1 C₀.1.2.1 dX9_readsFix_11 (by decide) ?_
    exact L15₀ true ((decide_eq_true (by first | omega | (simp_all; done) | (simp_all; omega))).symm) _ _ _ hH₀ (lv_sub hl₀ [0] rfl)
