theorem iw_X9_readsRow_X9 : ∀ w₀ ∈ u_ws RX9 TX9 24, w₀ ∈ wsX9_readsRow := (fun w₀ h₀ => List.mem_cons_of_mem _ (List.mem_append_right _ h₀))
abbrev rmX9_readsRow : Room := { frames := 4, cells := 0, slots := 0, locals := 87 }
set_option maxHeartbeats 4000000 in
set_option maxRecDepth 100000 in
/-- readsRow -/
theorem c_X9_readsRow (lL₀ : Launch) (D₀ : va_G) (k₀ : Nat → ClassId) (sz₀ : Nat) (a₀ : Nat) (q₀ : Nat → Nat) (th₀ : Int) (un₀ : Int) (mf₀ : Int) (ty₀ : Int) (fr₀ : Int) (tt₀ : Int) (tk₀ : Int) (fa₀ : Int) (hf₀ : Bool) (ho₀ : Bool) (km₀ : Int) (tx₀ : Int → Int) (dr₀ : Int → Int) (hty₀ : 0 ≤ ty₀ ∧ ty₀ ≤ 120) (htx₀ : ∀ j₀, 0 ≤ tx₀ j₀ ∧ tx₀ j₀ < 256) (hfr₀ : 0 ≤ fr₀ ∧ fr₀ ≤ ty₀) (htt₀ : tt₀ = mTo tx₀ ty₀ fr₀) (htk₀ : tk₀ = mTk tx₀ ty₀ fr₀) (hfa₀ : fa₀ = -9 ∨ 0 ≤ fa₀ ∧ fa₀ ≤ ty₀) (hd0₀ : 0 ≤ dr₀ 0 ∧ dr₀ 0 ≤ 4) (hd1₀ : 0 ≤ dr₀ 1 ∧ dr₀ 1 ≤ 6) : Met lL₀ yX9_readsRow wsX9_readsRow rmX9_readsRow (gPc ZT D₀ (tyk k₀) [.ref a₀] sz₀ [mO a₀ q₀ th₀ un₀ mf₀ ty₀ fr₀ tt₀ tk₀ fa₀ (bz hf₀) (bz ho₀) km₀, (q₀ 9, .inl (k₀ 1, 120, .inl (by8 tx₀))), (q₀ 2, .inl (k₀ 0, 51, .inl (ia dr₀)))]) (gQv D₀ (tyk k₀) [mO a₀ q₀ th₀ un₀ mf₀ ty₀ fr₀ tt₀ tk₀ fa₀ (bz hf₀) (bz ho₀) km₀, (q₀ 9, .inl (k₀ 1, 120, .inl (by8 tx₀))), (q₀ 2, .inl (k₀ 0, 51, .inl (ia dr₀)))] sz₀ (fun (u₀ : (Int) × (Int) × (Int → Int)) => match u₀ with | (f2₀, a2₀, d2₀) => (f2₀, a2₀, d2₀) = pRow tx₀ ty₀ fr₀ fa₀ dr₀ hf₀) (fun (u₀ : (Int) × (Int) × (Int → Int)) => match u₀ with | (f2₀, a2₀, d2₀) => [mO a₀ q₀ th₀ un₀ mf₀ ty₀ f2₀ (mTo tx₀ ty₀ f2₀) (mTk tx₀ ty₀ f2₀) a2₀ (bz hf₀) (bz ho₀) km₀, (q₀ 9, .inl (k₀ 1, 120, .inl (by8 tx₀))), (q₀ 2, .inl (k₀ 0, 51, .inl (ia d2₀)))])) 0 0 (va_A [mO a₀ q₀ th₀ un₀ mf₀ ty₀ fr₀ tt₀ tk₀ fa₀ (bz hf₀) (bz ho₀) km₀, (q₀ 9, .inl (k₀ 1, 120, .inl (by8 tx₀))), (q₀ 2, .inl (k₀ 0, 51, .inl (ia dr₀)))] sz₀) := by
  refine xs_met (cc := cX9_readsRow) (maxL := 4) (ret := none) (by decide) rfl (Nat.le_of_ble_eq_true rfl) ?_
  intro pP₀ eN₀ sT₀ mI₀ below₀ meth₀ cD₀ hsz₀ args₀ QQ₀ C₀ hr₀ hlk₀ hnm₀ hQ₀ ls₀ H₀ locs₀ hl₀ hH₀
  subst hsz₀
  have hl₀ : lv_has ls₀ 4 [(0, .ref a₀)] := hl₀
  generalize hAe₀ : va_A [mO a₀ q₀ th₀ un₀ mf₀ ty₀ fr₀ tt₀ tk₀ fa₀ (bz hf₀) (bz ho₀) km₀, (q₀ 9, .inl (k₀ 1, 120, .inl (by8 tx₀))), (q₀ 2, .inl (k₀ 0, 51, .inl (ia dr₀)))] sT₀.heap.size = A₀ at C₀ hH₀ hQ₀
  refine lv_aload_n C₀.1.1 C₀.1.2.1 dX9_readsRow_0 rfl (lv_at hl₀ 0 rfl) ?_
  have L24₀ : ∀ (b₀ : Bool), (b₀ = decide (dr₀ 1 < 6 ∧ hf₀ = false)) → ∀ (H₀ : Heap) (locs₀ : List Loc) (ls₀ : Array Slot), Hp D₀ A₀ sT₀.heap [mO a₀ q₀ th₀ un₀ mf₀ ty₀ fr₀ tt₀ tk₀ fa₀ (bz hf₀) (bz ho₀) km₀, (q₀ 9, .inl (k₀ 1, 120, .inl (by8 tx₀))), (q₀ 2, .inl (k₀ 0, 51, .inl (ia dr₀)))] H₀ locs₀ → lv_has ls₀ 4 [(0, .ref a₀)] → W pP₀ lL₀ eN₀ rmX9_readsRow sT₀ mI₀ args₀ below₀ meth₀ cD₀ H₀ locs₀ 0 0 QQ₀ (F0 mI₀ 24 ls₀ [.int (iI (bz b₀)), .ref a₀]) := by
    intro b₀ jb₀ H₀ locs₀ ls₀ hH₀ hl₀
    refine xc_Vv (wr := [(q₀ 2, .inl (k₀ 0, 51, .inl (ia dr₀)))]) (ws' := fun ⟨f2_1₀, a2_2₀⟩ => [mO a₀ q₀ th₀ un₀ mf₀ ty₀ f2_1₀ (mTo tx₀ ty₀ f2_1₀) (mTk tx₀ ty₀ f2_1₀) a2_2₀ (bz hf₀) (bz ho₀) km₀, (q₀ 9, .inl (k₀ 1, 120, .inl (by8 tx₀))), (q₀ 2, .inl (k₀ 0, 51, .inl (ia dr₀)))]) (As := [.int (iI (bz b₀))]) (rest := []) C₀ hH₀ (c_X9_takes lL₀ D₀ k₀ H₀.size a₀ q₀ th₀ un₀ mf₀ ty₀ fr₀ tt₀ tk₀ fa₀ hf₀ ho₀ km₀ tx₀ b₀ (by omega) (htx₀) (by omega) (by first | rfl | assumption) (by first | rfl | assumption) (by omega)) ZT_b (fun _ _ _ => trivial) (cwV 1 C₀.1.2.2.2.2 gX9_readsRow_X9_takes rfl rfl rfl (by decide +kernel) ⟨Nat.le_of_ble_eq_true rfl, Nat.le_of_ble_eq_true rfl⟩) [0, 1] [2] [1, 2, 0] rfl rfl (by decide) (by decide) (by decide) (fun _ => rfl) (by decide) (q0 := 0) rfl rfl rfl hl₀.1 rfl (Nat.le_of_ble_eq_true rfl) dX9_readsRow_24 ⟨Nat.le_of_ble_eq_true rfl, Nat.le_of_ble_eq_true rfl⟩ (fun ⟨f2_1₀, a2_2₀⟩ hu1₀ H₀ locs₀ hH₀ => ?_)
    obtain ⟨hp1a₀, hp1b₀⟩ : pOk ty₀ (f2_1₀, a2_2₀) := by rw [hu1₀]; exact pT_ok _ ⟨hfr₀, hfa₀⟩
    dsimp only at hp1a₀ hp1b₀
    have hmr₀ := mTo_rg (tx := tx₀) (ty := ty₀) (f := f2_1₀) hp1a₀.2
    have hkr₀ := mTk_rg (tx := tx₀) (ty := ty₀) (f := f2_1₀)
    refine lv_aload_n C₀.1.1 C₀.1.2.1 dX9_readsRow_27 rfl (lv_at hl₀ 0 rfl) ?_
    refine xw_get C₀ hH₀ 0 rfl rfl 12 (by decide) iw_X9_readsRow_X9 (by decide +kernel) (v := .int (iI (mTo tx₀ ty₀ f2_1₀))) rfl dX9_readsRow_28 ?_
    refine lv_aload_n C₀.1.1 C₀.1.2.1 dX9_readsRow_31 rfl (lv_at hl₀ 0 rfl) ?_
    refine xw_get C₀ hH₀ 0 rfl rfl 11 (by decide) iw_X9_readsRow_X9 (by decide +kernel) (v := .int (iI f2_1₀)) rfl dX9_readsRow_32 ?_
    refine xi_sub C₀.1.1 C₀.1.2.1 dX9_readsRow_35 ?_
    obtain ⟨n₀, en₀⟩ : ∃ z₀ : Int, z₀ = mTo tx₀ ty₀ f2_1₀ - f2_1₀ := ⟨_, rfl⟩
    refine xt_i (y := iI n₀) (by rw [en₀]) ?_
    refine lv_istore_n (lv' := [(1, .int (iI n₀)), (0, .ref a₀)]) C₀.1.1 C₀.1.2.1 dX9_readsRow_36 rfl hl₀ (by decide) rfl (fun ls₀ hl₀ => ?_)
    have L78₀ : ∀ (i0₀ : Bool), (i0₀ = mRowA tx₀ ty₀ dr₀ f2_1₀) → ∀ (H₀ : Heap) (locs₀ : List Loc) (ls₀ : Array Slot), Hp D₀ A₀ sT₀.heap [mO a₀ q₀ th₀ un₀ mf₀ ty₀ f2_1₀ (mTo tx₀ ty₀ f2_1₀) (mTk tx₀ ty₀ f2_1₀) a2_2₀ (bz hf₀) (bz ho₀) km₀, (q₀ 9, .inl (k₀ 1, 120, .inl (by8 tx₀))), (q₀ 2, .inl (k₀ 0, 51, .inl (ia dr₀)))] H₀ locs₀ → lv_has ls₀ 4 [(0, .ref a₀), (1, .int (iI n₀))] → W pP₀ lL₀ eN₀ rmX9_readsRow sT₀ mI₀ args₀ below₀ meth₀ cD₀ H₀ locs₀ 0 0 QQ₀ (F0 mI₀ 78 ls₀ [.int (iI (bz i0₀))]) := by
      intro i0₀ ji₀ H₀ locs₀ ls₀ hH₀ hl₀
      refine lv_istore_n (lv' := [(2, .int (iI (bz i0₀))), (0, .ref a₀), (1, .int (iI n₀))]) C₀.1.1 C₀.1.2.1 dX9_readsRow_78 rfl hl₀ (by decide) rfl (fun ls₀ hl₀ => ?_)
      refine lv_aload_n C₀.1.1 C₀.1.2.1 dX9_readsRow_79 rfl (lv_at hl₀ 1 rfl) ?_
      refine xw_get C₀ hH₀ 0 rfl rfl 11 (by decide) iw_X9_readsRow_X9 (by decide +kernel) (v := .int (iI f2_1₀)) rfl dX9_readsRow_80 ?_
      refine lv_istore_n (lv' := [(3, .int (iI f2_1₀)), (2, .int (iI (bz i0₀))), (0, .ref a₀), (1, .int (iI n₀))]) C₀.1.1 C₀.1.2.1 dX9_readsRow_83 rfl hl₀ (by decide) rfl (fun ls₀ hl₀ => ?_)
      have L84₀ : ∀ (nn₀ : Nat), ∀ (is₀ : Bool) (z₀ : Int), (is₀ = (i0₀ && alI (fun j₀ => decide (mAt tx₀ ty₀ (f2_1₀ + j₀) ≤ 51)) (z₀ - f2_1₀))) → (f2_1₀ ≤ z₀ ∧ z₀ ≤ mTo tx₀ ty₀ f2_1₀) → ((mTo tx₀ ty₀ f2_1₀ - z₀) < (nn₀ : Int)) → ∀ (H₀ : Heap) (locs₀ : List Loc) (ls₀ : Array Slot), Hp D₀ A₀ sT₀.heap [mO a₀ q₀ th₀ un₀ mf₀ ty₀ f2_1₀ (mTo tx₀ ty₀ f2_1₀) (mTk tx₀ ty₀ f2_1₀) a2_2₀ (bz hf₀) (bz ho₀) km₀, (q₀ 9, .inl (k₀ 1, 120, .inl (by8 tx₀))), (q₀ 2, .inl (k₀ 0, 51, .inl (ia dr₀)))] H₀ locs₀ → lv_has ls₀ 4 [(0, .ref a₀), (1, .int (iI n₀)), (2, .int (iI (bz is₀))), (3, .int (iI z₀))] → W pP₀ lL₀ eN₀ rmX9_readsRow sT₀ mI₀ args₀ below₀ meth₀ cD₀ H₀ locs₀ 0 0 QQ₀ (F0 mI₀ 84 ls₀ []) := by
        intro nn₀
        induction nn₀ with
        | zero => intro is₀ z₀ i1₀ i2₀ hm₀; exact absurd hm₀ (by omega)
        | succ nn₀ ih84₀ =>
          intro is₀ z₀ i1₀ i2₀ hm84₀ H₀ locs₀ ls₀ hH₀ hl₀
          have L118₀ : ∀ (ok₀ : Bool), (ok₀ = mRowOk tx₀ ty₀ dr₀ f2_1₀) → ∀ (H₀ : Heap) (locs₀ : List Loc) (ls₀ : Array Slot), Hp D₀ A₀ sT₀.heap [mO a₀ q₀ th₀ un₀ mf₀ ty₀ f2_1₀ (mTo tx₀ ty₀ f2_1₀) (mTk tx₀ ty₀ f2_1₀) a2_2₀ (bz hf₀) (bz ho₀) km₀, (q₀ 9, .inl (k₀ 1, 120, .inl (by8 tx₀))), (q₀ 2, .inl (k₀ 0, 51, .inl (ia dr₀)))] H₀ locs₀ → lv_has ls₀ 4 [(0, .ref a₀), (1, .int (iI n₀)), (2, .int (iI (bz ok₀)))] → W pP₀ lL₀ eN₀ rmX9_readsRow sT₀ mI₀ args₀ below₀ meth₀ cD₀ H₀ locs₀ 0 0 QQ₀ (F0 mI₀ 118 ls₀ []) := by
            intro ok₀ je₀ H₀ locs₀ ls₀ hH₀ hl₀
            refine lv_aload_n C₀.1.1 C₀.1.2.1 dX9_readsRow_118 rfl (lv_at hl₀ 0 rfl) ?_
            refine xw_get C₀ hH₀ 0 rfl rfl 14 (by decide) iw_X9_readsRow_X9 (by decide +kernel) (v := .int (iI a2_2₀)) rfl dX9_readsRow_119 ?_
            refine lv_bipush (v := iI (-9)) C₀.1.1 C₀.1.2.1 dX9_readsRow_122 (by decide) ?_
            refine xi_cne (tgt := 191) C₀.1.1 C₀.1.2.1 dX9_readsRow_124 (by decide) (by omega) (by omega) (fun h_3₀ => ?_) (fun h_3₀ => ?_)
            · refine lv_aload_n C₀.1.1 C₀.1.2.1 dX9_readsRow_191 rfl (lv_at hl₀ 0 rfl) ?_
              refine lv_iload_n C₀.1.1 C₀.1.2.1 dX9_readsRow_192 rfl (lv_at hl₀ 2 rfl) ?_
              refine xc_Vv (wr := [(q₀ 2, .inl (k₀ 0, 51, .inl (ia dr₀)))]) (ws' := fun ⟨f2_4₀, a2_5₀⟩ => [mO a₀ q₀ th₀ un₀ mf₀ ty₀ f2_4₀ (mTo tx₀ ty₀ f2_4₀) (mTk tx₀ ty₀ f2_4₀) a2_5₀ (bz hf₀) (bz ho₀) km₀, (q₀ 9, .inl (k₀ 1, 120, .inl (by8 tx₀))), (q₀ 2, .inl (k₀ 0, 51, .inl (ia dr₀)))]) (As := [.int (iI (bz ok₀))]) (rest := []) C₀ hH₀ (c_X9_takes lL₀ D₀ k₀ H₀.size a₀ q₀ th₀ un₀ mf₀ ty₀ f2_1₀ (mTo tx₀ ty₀ f2_1₀) (mTk tx₀ ty₀ f2_1₀) a2_2₀ hf₀ ho₀ km₀ tx₀ ok₀ (by omega) (htx₀) (by omega) (by first | rfl | assumption) (by first | rfl | assumption) (by omega)) ZT_b (fun _ _ _ => trivial) (cwV 1 C₀.1.2.2.2.2 gX9_readsRow_X9_takes rfl rfl rfl (by decide +kernel) ⟨Nat.le_of_ble_eq_true rfl, Nat.le_of_ble_eq_true rfl⟩) [0, 1] [2] [1, 2, 0] rfl rfl (by decide) (by decide) (by decide) (fun _ => rfl) (by decide) (q0 := 0) rfl rfl rfl hl₀.1 rfl (Nat.le_of_ble_eq_true rfl) dX9_readsRow_193 ⟨Nat.le_of_ble_eq_true rfl, Nat.le_of_ble_eq_true rfl⟩ (fun ⟨f2_4₀, a2_5₀⟩ hu2₀ H₀ locs₀ hH₀ => ?_)
              exact xr_v C₀ hH₀ hlk₀ hr₀ hQ₀ hAe₀ (f2_4₀, a2_5₀, dr₀) (by unfold pRow; dsimp only; rw [← jb₀, ← hu1₀]; dsimp only; rw [← je₀, ← hu2₀]; dsimp only; rw [if_neg (by rintro ⟨q1₀, q2₀⟩; first | omega | simp_all)]) rfl dX9_readsRow_196
            · refine lv_iload_n C₀.1.1 C₀.1.2.1 dX9_readsRow_127 rfl (lv_at hl₀ 2 rfl) ?_
              refine xb_eq (tgt := 191) C₀.1.1 C₀.1.2.1 dX9_readsRow_128 (by decide) (fun h_6₀ => ?_) (fun h_6₀ => ?_)
              · refine lv_aload_n C₀.1.1 C₀.1.2.1 dX9_readsRow_191 rfl (lv_at hl₀ 0 rfl) ?_
                refine lv_iload_n C₀.1.1 C₀.1.2.1 dX9_readsRow_192 rfl (lv_at hl₀ 2 rfl) ?_
                refine xc_Vv (wr := [(q₀ 2, .inl (k₀ 0, 51, .inl (ia dr₀)))]) (ws' := fun ⟨f2_7₀, a2_8₀⟩ => [mO a₀ q₀ th₀ un₀ mf₀ ty₀ f2_7₀ (mTo tx₀ ty₀ f2_7₀) (mTk tx₀ ty₀ f2_7₀) a2_8₀ (bz hf₀) (bz ho₀) km₀, (q₀ 9, .inl (k₀ 1, 120, .inl (by8 tx₀))), (q₀ 2, .inl (k₀ 0, 51, .inl (ia dr₀)))]) (As := [.int (iI (bz ok₀))]) (rest := []) C₀ hH₀ (c_X9_takes lL₀ D₀ k₀ H₀.size a₀ q₀ th₀ un₀ mf₀ ty₀ f2_1₀ (mTo tx₀ ty₀ f2_1₀) (mTk tx₀ ty₀ f2_1₀) a2_2₀ hf₀ ho₀ km₀ tx₀ ok₀ (by omega) (htx₀) (by omega) (by first | rfl | assumption) (by first | rfl | assumption) (by omega)) ZT_b (fun _ _ _ => trivial) (cwV 1 C₀.1.2.2.2.2 gX9_readsRow_X9_takes rfl rfl rfl (by decide +kernel) ⟨Nat.le_of_ble_eq_true rfl, Nat.le_of_ble_eq_true rfl⟩) [0, 1] [2] [1, 2, 0] rfl rfl (by decide) (by decide) (by decide) (fun _ => rfl) (by decide) (q0 := 0) rfl rfl rfl hl₀.1 rfl (Nat.le_of_ble_eq_true rfl) dX9_readsRow_193 ⟨Nat.le_of_ble_eq_true rfl, Nat.le_of_ble_eq_true rfl⟩ (fun ⟨f2_7₀, a2_8₀⟩ hu2₀ H₀ locs₀ hH₀ => ?_)
                exact xr_v C₀ hH₀ hlk₀ hr₀ hQ₀ hAe₀ (f2_7₀, a2_8₀, dr₀) (by unfold pRow; dsimp only; rw [← jb₀, ← hu1₀]; dsimp only; rw [← je₀, ← hu2₀]; dsimp only; rw [if_neg (by rintro ⟨q1₀, q2₀⟩; first | omega | simp_all)]) rfl dX9_readsRow_196
              · have hrs₀ := mRowOk_spec (show mRowOk tx₀ ty₀ dr₀ f2_1₀ = true by rw [← je₀]; assumption)
                have hno₀ := pT_no (tx := tx₀) (z := (fr₀, fa₀)) (b := b₀) ⟨hfr₀, hfa₀⟩ (by rw [← hu1₀]; assumption)
                have hb6₀ := hno₀.2.1
                rw [jb₀] at hb6₀
                have hb7₀ := (of_decide_eq_true hb6₀).1
                have hpr₀ := mul_rg (n := n₀) (by omega) (show 0 ≤ dr₀ 1 ∧ dr₀ 1 ≤ 5 by omega)
                refine lv_aload_n C₀.1.1 C₀.1.2.1 dX9_readsRow_131 rfl (lv_at hl₀ 0 rfl) ?_
                refine xw_get C₀ hH₀ 0 rfl rfl 2 (by decide) iw_X9_readsRow_X9 (by decide +kernel) (v := .ref (q₀ 2)) rfl dX9_readsRow_132 ?_
                refine lv_iconst (v := iI 0) C₀.1.1 C₀.1.2.1 dX9_readsRow_135 (by decide) ?_
                refine lv_iload_n C₀.1.1 C₀.1.2.1 dX9_readsRow_136 rfl (lv_at hl₀ 1 rfl) ?_
                refine xw_ist (ws' := [mO a₀ q₀ th₀ un₀ mf₀ ty₀ f2_1₀ (mTo tx₀ ty₀ f2_1₀) (mTk tx₀ ty₀ f2_1₀) a2_2₀ (bz hf₀) (bz ho₀) km₀, (q₀ 9, .inl (k₀ 1, 120, .inl (by8 tx₀))), (q₀ 2, .inl (k₀ 0, 51, .inl (ia (uz dr₀ 0 n₀))))]) C₀ hH₀ 2 0 rfl rfl (z := 0) (v := n₀) (by omega) (by omega) (by decide) dX9_readsRow_137 rfl (fun H₀ locs₀ hH₀ => ?_)
                refine lv_iconst (v := iI 0) C₀.1.1 C₀.1.2.1 dX9_readsRow_138 (by decide) ?_
                refine lv_istore_n (lv' := [(3, .int (iI 0)), (0, .ref a₀), (1, .int (iI n₀)), (2, .int (iI (bz ok₀)))]) C₀.1.1 C₀.1.2.1 dX9_readsRow_139 rfl hl₀ (by decide) rfl (fun ls₀ hl₀ => ?_)
                have L140₀ : ∀ (nn₀ : Nat), ∀ (x : Int) (dq₀ : Int → Int), (dq₀ = cpz (fun j₀ => mAt tx₀ ty₀ (f2_1₀ + j₀) - 48) (uz dr₀ 0 n₀) 0 (3 + n₀ * dr₀ 1) x) → (0 ≤ x ∧ x ≤ n₀) → ((n₀ - x) < (nn₀ : Int)) → ∀ (H₀ : Heap) (locs₀ : List Loc) (ls₀ : Array Slot), Hp D₀ A₀ sT₀.heap [mO a₀ q₀ th₀ un₀ mf₀ ty₀ f2_1₀ (mTo tx₀ ty₀ f2_1₀) (mTk tx₀ ty₀ f2_1₀) a2_2₀ (bz hf₀) (bz ho₀) km₀, (q₀ 9, .inl (k₀ 1, 120, .inl (by8 tx₀))), (q₀ 2, .inl (k₀ 0, 51, .inl (ia dq₀)))] H₀ locs₀ → lv_has ls₀ 4 [(0, .ref a₀), (1, .int (iI n₀)), (2, .int (iI (bz ok₀))), (3, .int (iI x))] → W pP₀ lL₀ eN₀ rmX9_readsRow sT₀ mI₀ args₀ below₀ meth₀ cD₀ H₀ locs₀ 0 0 QQ₀ (F0 mI₀ 140 ls₀ []) := by
                  intro nn₀
                  induction nn₀ with
                  | zero => intro x dq₀ k1₀ k2₀ hm₀; exact absurd hm₀ (by omega)
                  | succ nn₀ ih140₀ =>
                    intro x dq₀ k1₀ k2₀ hm140₀ H₀ locs₀ ls₀ hH₀ hl₀
                    have e1₀ : dq₀ 1 = dr₀ 1 := by rw [k1₀, cpz_out (by omega), uz_n (by decide)]
                    have e2₀ : n₀ * dq₀ 1 = n₀ * dr₀ 1 := by rw [e1₀]
                    refine lv_iload_n C₀.1.1 C₀.1.2.1 dX9_readsRow_140 rfl (lv_at hl₀ 3 rfl) ?_
                    refine lv_iload_n C₀.1.1 C₀.1.2.1 dX9_readsRow_141 rfl (lv_at hl₀ 1 rfl) ?_
                    refine xi_cge (tgt := 181) C₀.1.1 C₀.1.2.1 dX9_readsRow_142 (by decide) (by omega) (by omega) (fun h_9₀ => ?_) (fun h_9₀ => ?_)
                    · refine lv_aload_n C₀.1.1 C₀.1.2.1 dX9_readsRow_181 rfl (lv_at hl₀ 0 rfl) ?_
                      refine xw_get C₀ hH₀ 0 rfl rfl 2 (by decide) iw_X9_readsRow_X9 (by decide +kernel) (v := .ref (q₀ 2)) rfl dX9_readsRow_182 ?_
                      refine lv_iconst (v := iI 1) C₀.1.1 C₀.1.2.1 dX9_readsRow_185 (by decide) ?_
                      refine lv_dup2_11 C₀.1.1 C₀.1.2.1 dX9_readsRow_186 rfl rfl ?_
                      refine xw_ild C₀ hH₀ 2 0 rfl rfl (z := 1) (by omega) (by omega) (by decide) dX9_readsRow_187 ?_
                      refine lv_iconst (v := iI 1) C₀.1.1 C₀.1.2.1 dX9_readsRow_188 (by decide) ?_
                      refine xi_add C₀.1.1 C₀.1.2.1 dX9_readsRow_189 ?_
                      refine xw_ist (ws' := [mO a₀ q₀ th₀ un₀ mf₀ ty₀ f2_1₀ (mTo tx₀ ty₀ f2_1₀) (mTk tx₀ ty₀ f2_1₀) a2_2₀ (bz hf₀) (bz ho₀) km₀, (q₀ 9, .inl (k₀ 1, 120, .inl (by8 tx₀))), (q₀ 2, .inl (k₀ 0, 51, .inl (ia (uz dq₀ 1 (dq₀ 1 + 1)))))]) C₀ hH₀ 2 0 rfl rfl (z := 1) (v := dq₀ 1 + 1) (by omega) (by omega) (by decide) dX9_readsRow_190 rfl (fun H₀ locs₀ hH₀ => ?_)
                      refine lv_aload_n C₀.1.1 C₀.1.2.1 dX9_readsRow_191 rfl (lv_at hl₀ 0 rfl) ?_
                      refine lv_iload_n C₀.1.1 C₀.1.2.1 dX9_readsRow_192 rfl (lv_at hl₀ 2 rfl) ?_
                      refine xc_Vv (wr := [(q₀ 2, .inl (k₀ 0, 51, .inl (ia (uz dq₀ 1 (dq₀ 1 + 1)))))]) (ws' := fun ⟨f2_10₀, a2_11₀⟩ => [mO a₀ q₀ th₀ un₀ mf₀ ty₀ f2_10₀ (mTo tx₀ ty₀ f2_10₀) (mTk tx₀ ty₀ f2_10₀) a2_11₀ (bz hf₀) (bz ho₀) km₀, (q₀ 9, .inl (k₀ 1, 120, .inl (by8 tx₀))), (q₀ 2, .inl (k₀ 0, 51, .inl (ia (uz dq₀ 1 (dq₀ 1 + 1)))))]) (As := [.int (iI (bz ok₀))]) (rest := []) C₀ hH₀ (c_X9_takes lL₀ D₀ k₀ H₀.size a₀ q₀ th₀ un₀ mf₀ ty₀ f2_1₀ (mTo tx₀ ty₀ f2_1₀) (mTk tx₀ ty₀ f2_1₀) a2_2₀ hf₀ ho₀ km₀ tx₀ ok₀ (by omega) (htx₀) (by omega) (by first | rfl | assumption) (by first | rfl | assumption) (by omega)) ZT_b (fun _ _ _ => trivial) (cwV 1 C₀.1.2.2.2.2 gX9_readsRow_X9_takes rfl rfl rfl (by decide +kernel) ⟨Nat.le_of_ble_eq_true rfl, Nat.le_of_ble_eq_true rfl⟩) [0, 1] [2] [1, 2, 0] rfl rfl (by decide) (by decide) (by decide) (fun _ => rfl) (by decide) (q0 := 0) rfl rfl rfl hl₀.1 rfl (Nat.le_of_ble_eq_true rfl) dX9_readsRow_193 ⟨Nat.le_of_ble_eq_true rfl, Nat.le_of_ble_eq_true rfl⟩ (fun ⟨f2_10₀, a2_11₀⟩ hu2₀ H₀ locs₀ hH₀ => ?_)
                      exact xr_v C₀ hH₀ hlk₀ hr₀ hQ₀ hAe₀ (f2_10₀, a2_11₀, uz dq₀ 1 (dq₀ 1 + 1)) (by unfold pRow; dsimp only; rw [← jb₀, ← hu1₀]; dsimp only; rw [← je₀, ← hu2₀]; dsimp only; rw [if_pos ⟨by assumption, by assumption⟩]; unfold mRowD; rw [← en₀, e1₀, k1₀, show x = n₀ by omega]) rfl dX9_readsRow_196
                    · refine lv_aload_n C₀.1.1 C₀.1.2.1 dX9_readsRow_145 rfl (lv_at hl₀ 0 rfl) ?_
                      refine xw_get C₀ hH₀ 0 rfl rfl 2 (by decide) iw_X9_readsRow_X9 (by decide +kernel) (v := .ref (q₀ 2)) rfl dX9_readsRow_146 ?_
                      refine lv_iconst (v := iI 3) C₀.1.1 C₀.1.2.1 dX9_readsRow_149 (by decide) ?_
                      refine lv_iload_n C₀.1.1 C₀.1.2.1 dX9_readsRow_150 rfl (lv_at hl₀ 1 rfl) ?_
                      refine lv_aload_n C₀.1.1 C₀.1.2.1 dX9_readsRow_151 rfl (lv_at hl₀ 0 rfl) ?_
                      refine xw_get C₀ hH₀ 0 rfl rfl 2 (by decide) iw_X9_readsRow_X9 (by decide +kernel) (v := .ref (q₀ 2)) rfl dX9_readsRow_152 ?_
                      refine lv_iconst (v := iI 1) C₀.1.1 C₀.1.2.1 dX9_readsRow_155 (by decide) ?_
                      refine xw_ild C₀ hH₀ 2 0 rfl rfl (z := 1) (by omega) (by omega) (by decide) dX9_readsRow_156 ?_
                      refine xi_mul C₀.1.1 C₀.1.2.1 dX9_readsRow_157 ?_
                      refine xi_add C₀.1.1 C₀.1.2.1 dX9_readsRow_158 ?_
                      refine lv_iload_n C₀.1.1 C₀.1.2.1 dX9_readsRow_159 rfl (lv_at hl₀ 3 rfl) ?_
                      refine xi_add C₀.1.1 C₀.1.2.1 dX9_readsRow_160 ?_
                      refine lv_aload_n C₀.1.1 C₀.1.2.1 dX9_readsRow_161 rfl (lv_at hl₀ 0 rfl) ?_
                      refine lv_aload_n C₀.1.1 C₀.1.2.1 dX9_readsRow_162 rfl (lv_at hl₀ 0 rfl) ?_
                      refine xw_get C₀ hH₀ 0 rfl rfl 11 (by decide) iw_X9_readsRow_X9 (by decide +kernel) (v := .int (iI f2_1₀)) rfl dX9_readsRow_163 ?_
                      refine lv_iload_n C₀.1.1 C₀.1.2.1 dX9_readsRow_166 rfl (lv_at hl₀ 3 rfl) ?_
                      refine xi_add C₀.1.1 C₀.1.2.1 dX9_readsRow_167 ?_
                      refine xc_Vi (wr := [(q₀ 2, .inl (k₀ 0, 51, .inl (ia dq₀)))]) (ws' := fun _ => [mO a₀ q₀ th₀ un₀ mf₀ ty₀ f2_1₀ (mTo tx₀ ty₀ f2_1₀) (mTk tx₀ ty₀ f2_1₀) a2_2₀ (bz hf₀) (bz ho₀) km₀, (q₀ 9, .inl (k₀ 1, 120, .inl (by8 tx₀))), (q₀ 2, .inl (k₀ 0, 51, .inl (ia dq₀)))]) (As := [.int (iI (f2_1₀ + x))]) (rest := [.int (iI (3 + (n₀ * (dq₀ 1)) + x)), .ref (q₀ 2)]) C₀ hH₀ (c_X9_at lL₀ D₀ k₀ H₀.size a₀ q₀ th₀ un₀ mf₀ ty₀ f2_1₀ (mTo tx₀ ty₀ f2_1₀) (mTk tx₀ ty₀ f2_1₀) a2_2₀ hf₀ ho₀ km₀ tx₀ (f2_1₀ + x) (by omega) (by omega) (htx₀)) ZT_b (fun _ _ _ => trivial) (cwV 1 C₀.1.2.2.2.2 gX9_readsRow_X9_at rfl rfl rfl (by decide +kernel) ⟨Nat.le_of_ble_eq_true rfl, Nat.le_of_ble_eq_true rfl⟩) [0, 1] [2] [1, 2, 0] rfl rfl (by decide) (by decide) (by decide) (fun _ => rfl) (by decide) (q0 := 0) rfl rfl rfl hl₀.1 rfl (Nat.le_of_ble_eq_true rfl) dX9_readsRow_168 ⟨Nat.le_of_ble_eq_true rfl, Nat.le_of_ble_eq_true rfl⟩ (fun _ _ H₀ locs₀ hH₀ => ?_)
                      refine lv_bipush (v := iI 48) C₀.1.1 C₀.1.2.1 dX9_readsRow_171 (by decide) ?_
                      refine xi_sub C₀.1.1 C₀.1.2.1 dX9_readsRow_173 ?_
                      refine xw_ist (ws' := [mO a₀ q₀ th₀ un₀ mf₀ ty₀ f2_1₀ (mTo tx₀ ty₀ f2_1₀) (mTk tx₀ ty₀ f2_1₀) a2_2₀ (bz hf₀) (bz ho₀) km₀, (q₀ 9, .inl (k₀ 1, 120, .inl (by8 tx₀))), (q₀ 2, .inl (k₀ 0, 51, .inl (ia (uz dq₀ (3 + (n₀ * (dq₀ 1)) + x) (mAt tx₀ ty₀ (f2_1₀ + x) - 48)))))]) C₀ hH₀ 2 0 rfl rfl (z := 3 + (n₀ * (dq₀ 1)) + x) (v := mAt tx₀ ty₀ (f2_1₀ + x) - 48) (by omega) (by omega) (by decide) dX9_readsRow_174 rfl (fun H₀ locs₀ hH₀ => ?_)
                      refine lv_iinc (v := iI (x + 1)) (lv' := [(3, .int (iI (x + 1))), (0, .ref a₀), (1, .int (iI n₀)), (2, .int (iI (bz ok₀)))]) C₀.1.1 C₀.1.2.1 dX9_readsRow_175 hl₀ (k := 3) rfl (iI_add _ (1)) (by decide) rfl (fun ls₀ hl₀ => ?_)
                      refine lv_goto (tgt := 140) C₀.1.1 C₀.1.2.1 dX9_readsRow_178 (by decide) ?_
                      exact ih140₀ (x + 1) (uz dq₀ (3 + (n₀ * (dq₀ 1)) + x) (mAt tx₀ ty₀ (f2_1₀ + x) - 48)) (by rw [e2₀, k1₀]; exact cpz_s (by omega) (by omega) (by first | rfl | (congr 2; omega))) (by omega) (by omega) _ _ _ hH₀ (lv_sub hl₀ [1, 2, 3, 0] rfl)
                exact L140₀ (((n₀ - 0) : Int).toNat + 1) 0 (uz dr₀ 0 n₀) ((cpz_0 _ _ _ _).symm) (by omega) (by omega) _ _ _ hH₀ (lv_sub hl₀ [1, 2, 3, 0] rfl)
          refine lv_iload_n C₀.1.1 C₀.1.2.1 dX9_readsRow_84 rfl (lv_at hl₀ 3 rfl) ?_
          refine lv_aload_n C₀.1.1 C₀.1.2.1 dX9_readsRow_85 rfl (lv_at hl₀ 0 rfl) ?_
          refine xw_get C₀ hH₀ 0 rfl rfl 12 (by decide) iw_X9_readsRow_X9 (by decide +kernel) (v := .int (iI (mTo tx₀ ty₀ f2_1₀))) rfl dX9_readsRow_86 ?_
          refine xi_cge (tgt := 118) C₀.1.1 C₀.1.2.1 dX9_readsRow_89 (by decide) (by omega) (by omega) (fun h_12₀ => ?_) (fun h_12₀ => ?_)
          · exact L118₀ is₀ ((by unfold mRowOk; rw [← ji₀, i1₀, show z₀ - f2_1₀ = mTo tx₀ ty₀ f2_1₀ - f2_1₀ by omega])) _ _ _ hH₀ (lv_sub hl₀ [0, 1, 2] rfl)
          · refine lv_iload_n C₀.1.1 C₀.1.2.1 dX9_readsRow_92 rfl (lv_at hl₀ 2 rfl) ?_
            refine xb_eq (tgt := 118) C₀.1.1 C₀.1.2.1 dX9_readsRow_93 (by decide) (fun h_13₀ => ?_) (fun h_13₀ => ?_)
            · exact L118₀ is₀ ((by unfold mRowOk; rw [← ji₀, h_13₀]; exact (and_al_f (m := z₀ - f2_1₀) (by rw [← i1₀]; exact h_13₀) (by omega)).symm)) _ _ _ hH₀ (lv_sub hl₀ [0, 1, 2] rfl)
            · have har₀ := mAt_rg (ty := ty₀) htx₀ z₀
              have L111₀ : ∀ (d₀ : Bool), (d₀ = decide (mAt tx₀ ty₀ z₀ ≤ 51)) → ∀ (H₀ : Heap) (locs₀ : List Loc) (ls₀ : Array Slot), Hp D₀ A₀ sT₀.heap [mO a₀ q₀ th₀ un₀ mf₀ ty₀ f2_1₀ (mTo tx₀ ty₀ f2_1₀) (mTk tx₀ ty₀ f2_1₀) a2_2₀ (bz hf₀) (bz ho₀) km₀, (q₀ 9, .inl (k₀ 1, 120, .inl (by8 tx₀))), (q₀ 2, .inl (k₀ 0, 51, .inl (ia dr₀)))] H₀ locs₀ → lv_has ls₀ 4 [(0, .ref a₀), (1, .int (iI n₀)), (2, .int (iI (bz is₀))), (3, .int (iI z₀))] → W pP₀ lL₀ eN₀ rmX9_readsRow sT₀ mI₀ args₀ below₀ meth₀ cD₀ H₀ locs₀ 0 0 QQ₀ (F0 mI₀ 111 ls₀ [.int (iI (bz d₀))]) := by
                intro d₀ jd₀ H₀ locs₀ ls₀ hH₀ hl₀
                refine lv_istore_n (lv' := [(2, .int (iI (bz d₀))), (0, .ref a₀), (1, .int (iI n₀)), (3, .int (iI z₀))]) C₀.1.1 C₀.1.2.1 dX9_readsRow_111 rfl hl₀ (by decide) rfl (fun ls₀ hl₀ => ?_)
                refine lv_iinc (v := iI (z₀ + 1)) (lv' := [(3, .int (iI (z₀ + 1))), (2, .int (iI (bz d₀))), (0, .ref a₀), (1, .int (iI n₀))]) C₀.1.1 C₀.1.2.1 dX9_readsRow_112 hl₀ (k := 3) rfl (iI_add _ (1)) (by decide) rfl (fun ls₀ hl₀ => ?_)
                refine lv_goto (tgt := 84) C₀.1.1 C₀.1.2.1 dX9_readsRow_115 (by decide) ?_
                exact ih84₀ d₀ (z₀ + 1) (by rw [show z₀ + 1 - f2_1₀ = (z₀ - f2_1₀) + 1 by omega, alI_s (by omega), ← Bool.and_assoc, ← i1₀, h_13₀, Bool.true_and, show f2_1₀ + (z₀ - f2_1₀) = z₀ by omega]; exact jd₀) (by omega) (by omega) _ _ _ hH₀ (lv_sub hl₀ [2, 3, 1, 0] rfl)
              refine lv_aload_n C₀.1.1 C₀.1.2.1 dX9_readsRow_96 rfl (lv_at hl₀ 0 rfl) ?_
              refine lv_iload_n C₀.1.1 C₀.1.2.1 dX9_readsRow_97 rfl (lv_at hl₀ 3 rfl) ?_
              refine xc_Vi (wr := [(q₀ 2, .inl (k₀ 0, 51, .inl (ia dr₀)))]) (ws' := fun _ => [mO a₀ q₀ th₀ un₀ mf₀ ty₀ f2_1₀ (mTo tx₀ ty₀ f2_1₀) (mTk tx₀ ty₀ f2_1₀) a2_2₀ (bz hf₀) (bz ho₀) km₀, (q₀ 9, .inl (k₀ 1, 120, .inl (by8 tx₀))), (q₀ 2, .inl (k₀ 0, 51, .inl (ia dr₀)))]) (As := [.int (iI z₀)]) (rest := []) C₀ hH₀ (c_X9_at lL₀ D₀ k₀ H₀.size a₀ q₀ th₀ un₀ mf₀ ty₀ f2_1₀ (mTo tx₀ ty₀ f2_1₀) (mTk tx₀ ty₀ f2_1₀) a2_2₀ hf₀ ho₀ km₀ tx₀ z₀ (by omega) (by omega) (htx₀)) ZT_b (fun _ _ _ => trivial) (cwV 1 C₀.1.2.2.2.2 gX9_readsRow_X9_at rfl rfl rfl (by decide +kernel) ⟨Nat.le_of_ble_eq_true rfl, Nat.le_of_ble_eq_true rfl⟩) [0, 1] [2] [1, 2, 0] rfl rfl (by decide) (by decide) (by decide) (fun _ => rfl) (by decide) (q0 := 0) rfl rfl rfl hl₀.1 rfl (Nat.le_of_ble_eq_true rfl) dX9_readsRow_98 ⟨Nat.le_of_ble_eq_true rfl, Nat.le_of_ble_eq_true rfl⟩ (fun _ _ H₀ locs₀ hH₀ => ?_)
              refine lv_bipush (v := iI 51) C₀.1.1 C₀.1.2.1 dX9_readsRow_101 (by decide) ?_
              refine xi_cgt (tgt := 110) C₀.1.1 C₀.1.2.1 dX9_readsRow_103 (by decide) (by omega) (by omega) (fun h_14₀ => ?_) (fun h_14₀ => ?_)
              · refine lv_iconst (v := iI 0) C₀.1.1 C₀.1.2.1 dX9_readsRow_110 (by decide) ?_
                exact L111₀ false ((decide_eq_false (by first | omega | (simp_all; done) | (simp_all; omega))).symm) _ _ _ hH₀ (lv_sub hl₀ [0, 1, 2, 3] rfl)
              · refine lv_iconst (v := iI 1) C₀.1.1 C₀.1.2.1 dX9_readsRow_106 (by decide) ?_
                refine lv_goto (tgt := 111) C₀.1.1 C₀.1.2.1 dX9_readsRow_107 (by decide) ?_
                exact L111₀ true ((decide_eq_true (by first | omega | (simp_all; done) | (simp_all; omega))).symm) _ _ _ hH₀ (lv_sub hl₀ [0, 1, 2, 3] rfl)
      exact L84₀ (((mTo tx₀ ty₀ f2_1₀ - f2_1₀) : Int).toNat + 1) i0₀ f2_1₀ (by rw [show f2_1₀ - f2_1₀ = 0 by omega, alI_0, Bool.and_true]) (by omega) (by omega) _ _ _ hH₀ (lv_sub hl₀ [2, 3, 1, 0] rfl)
    refine lv_aload_n C₀.1.1 C₀.1.2.1 dX9_readsRow_37 rfl (lv_at hl₀ 1 rfl) ?_
    refine xw_get C₀ hH₀ 0 rfl rfl 13 (by decide) iw_X9_readsRow_X9 (by decide +kernel) (v := .int (iI (mTk tx₀ ty₀ f2_1₀))) rfl dX9_readsRow_38 ?_
    refine lv_iconst (v := iI 4) C₀.1.1 C₀.1.2.1 dX9_readsRow_41 (by decide) ?_
    refine xi_cne (tgt := 77) C₀.1.1 C₀.1.2.1 dX9_readsRow_42 (by decide) (by omega) (by omega) (fun h_15₀ => ?_) (fun h_15₀ => ?_)
    · refine lv_iconst (v := iI 0) C₀.1.1 C₀.1.2.1 dX9_readsRow_77 (by decide) ?_
      exact L78₀ false ((by unfold mRowA; exact (decide_eq_false (by omega)).symm)) _ _ _ hH₀ (lv_sub hl₀ [1, 0] rfl)
    · refine lv_iload_n C₀.1.1 C₀.1.2.1 dX9_readsRow_45 rfl (lv_at hl₀ 0 rfl) ?_
      refine lv_iconst (v := iI 1) C₀.1.1 C₀.1.2.1 dX9_readsRow_46 (by decide) ?_
      refine lv_iconst (v := iI 4) C₀.1.1 C₀.1.2.1 dX9_readsRow_47 (by decide) ?_
      refine xc_Si (wr := [mO a₀ q₀ th₀ un₀ mf₀ ty₀ f2_1₀ (mTo tx₀ ty₀ f2_1₀) (mTk tx₀ ty₀ f2_1₀) a2_2₀ (bz hf₀) (bz ho₀) km₀, (q₀ 9, .inl (k₀ 1, 120, .inl (by8 tx₀))), (q₀ 2, .inl (k₀ 0, 51, .inl (ia dr₀)))]) (ws' := fun _ => [mO a₀ q₀ th₀ un₀ mf₀ ty₀ f2_1₀ (mTo tx₀ ty₀ f2_1₀) (mTk tx₀ ty₀ f2_1₀) a2_2₀ (bz hf₀) (bz ho₀) km₀, (q₀ 9, .inl (k₀ 1, 120, .inl (by8 tx₀))), (q₀ 2, .inl (k₀ 0, 51, .inl (ia dr₀)))]) (As := [.int (iI n₀), .int (iI 1), .int (iI 4)]) (rest := []) C₀ hH₀ (c_X9_in lL₀ D₀ k₀ H₀.size n₀ 1 4 (by omega) (by omega) (by omega)) ZT_b (fun _ _ _ => trivial) (va_cwS 3 C₀.1.2.2.2.2 gX9_readsRow_X9_in rfl rfl rfl (by decide +kernel) ⟨Nat.le_of_ble_eq_true rfl, Nat.le_of_ble_eq_true rfl⟩) [] [0, 1, 2] [0, 1, 2] rfl rfl (by decide) (by decide) (by decide) (fun _ => rfl) (by decide) rfl hl₀.1 rfl (Nat.le_of_ble_eq_true rfl) dX9_readsRow_48 ⟨Nat.le_of_ble_eq_true rfl, Nat.le_of_ble_eq_true rfl⟩ (fun _ _ H₀ locs₀ hH₀ => ?_)
      refine xp_eq (tgt := 77) C₀.1.1 C₀.1.2.1 dX9_readsRow_51 (by decide) (fun h_16₀ => ?_) (fun h_16₀ => ?_)
      · refine lv_iconst (v := iI 0) C₀.1.1 C₀.1.2.1 dX9_readsRow_77 (by decide) ?_
        exact L78₀ false ((by unfold mRowA; exact (decide_eq_false (by omega)).symm)) _ _ _ hH₀ (lv_sub hl₀ [1, 0] rfl)
      · refine lv_aload_n C₀.1.1 C₀.1.2.1 dX9_readsRow_54 rfl (lv_at hl₀ 1 rfl) ?_
        refine xw_get C₀ hH₀ 0 rfl rfl 2 (by decide) iw_X9_readsRow_X9 (by decide +kernel) (v := .ref (q₀ 2)) rfl dX9_readsRow_55 ?_
        refine lv_iconst (v := iI 1) C₀.1.1 C₀.1.2.1 dX9_readsRow_58 (by decide) ?_
        refine xw_ild C₀ hH₀ 2 0 rfl rfl (z := 1) (by omega) (by omega) (by decide) dX9_readsRow_59 ?_
        refine xi_zeq (tgt := 73) C₀.1.1 C₀.1.2.1 dX9_readsRow_60 (by decide) (by omega) (fun h_17₀ => ?_) (fun h_17₀ => ?_)
        · refine lv_iconst (v := iI 1) C₀.1.1 C₀.1.2.1 dX9_readsRow_73 (by decide) ?_
          refine lv_goto (tgt := 78) C₀.1.1 C₀.1.2.1 dX9_readsRow_74 (by decide) ?_
          exact L78₀ true ((by unfold mRowA; exact (decide_eq_true (by omega)).symm)) _ _ _ hH₀ (lv_sub hl₀ [1, 0] rfl)
        · refine lv_iload_n C₀.1.1 C₀.1.2.1 dX9_readsRow_63 rfl (lv_at hl₀ 0 rfl) ?_
          refine lv_aload_n C₀.1.1 C₀.1.2.1 dX9_readsRow_64 rfl (lv_at hl₀ 1 rfl) ?_
          refine xw_get C₀ hH₀ 0 rfl rfl 2 (by decide) iw_X9_readsRow_X9 (by decide +kernel) (v := .ref (q₀ 2)) rfl dX9_readsRow_65 ?_
          refine lv_iconst (v := iI 0) C₀.1.1 C₀.1.2.1 dX9_readsRow_68 (by decide) ?_
          refine xw_ild C₀ hH₀ 2 0 rfl rfl (z := 0) (by omega) (by omega) (by decide) dX9_readsRow_69 ?_
          refine xi_cne (tgt := 77) C₀.1.1 C₀.1.2.1 dX9_readsRow_70 (by decide) (by omega) (by omega) (fun h_18₀ => ?_) (fun h_18₀ => ?_)
          · refine lv_iconst (v := iI 0) C₀.1.1 C₀.1.2.1 dX9_readsRow_77 (by decide) ?_
            exact L78₀ false ((by unfold mRowA; exact (decide_eq_false (by omega)).symm)) _ _ _ hH₀ (lv_sub hl₀ [1, 0] rfl)
          · refine lv_iconst (v := iI 1) C₀.1.1 C₀.1.2.1 dX9_readsRow_73 (by decide) ?_
            refine lv_goto (tgt := 78) C₀.1.1 C₀.1.2.1 dX9_readsRow_74 (by decide) ?_
            exact L78₀ true ((by unfold mRowA; exact (decide_eq_true (by omega)).symm)) _ _ _ hH₀ (lv_sub hl₀ [1, 0] rfl)
  refine lv_aload_n C₀.1.1 C₀.1.2.1 dX9_readsRow_1 rfl (lv_at hl₀ 0 rfl) ?_
  refine xw_get C₀ hH₀ 0 rfl rfl 2 (by decide) iw_X9_readsRow_X9 (by decide +kernel) (v := .ref (q₀ 2)) rfl dX9_readsRow_2 ?_
  refine lv_iconst (v := iI 1) C₀.1.1 C₀.1.2.1 dX9_readsRow_5 (by decide) ?_
  refine xw_ild C₀ hH₀ 2 0 rfl rfl (z := 1) (by omega) (by omega) (by decide) dX9_readsRow_6 ?_
  refine lv_bipush (v := iI 6) C₀.1.1 C₀.1.2.1 dX9_readsRow_7 (by decide) ?_
  refine xi_cge (tgt := 23) C₀.1.1 C₀.1.2.1 dX9_readsRow_9 (by decide) (by omega) (by omega) (fun h_19₀ => ?_) (fun h_19₀ => ?_)
  · refine lv_iconst (v := iI 0) C₀.1.1 C₀.1.2.1 dX9_readsRow_23 (by decide) ?_
    exact L24₀ false ((decide_eq_false (by first | omega | (simp_all; done) | (simp_all; omega))).symm) _ _ _ hH₀ (lv_sub hl₀ [0] rfl)
  · refine lv_aload_n C₀.1.1 C₀.1.2.1 dX9_readsRow_12 rfl (lv_at hl₀ 0 rfl) ?_
    refine xw_get C₀ hH₀ 0 rfl rfl 15 (by decide) iw_X9_readsRow_X9 (by decide +kernel) (v := .int (iI (bz hf₀))) rfl dX9_readsRow_13 ?_
    refine xb_ne (tgt := 23) C₀.1.1 C₀.1.2.1 dX9_readsRow_16 (by decide) (fun h_20₀ => ?_) (fun h_20₀ => ?_)
    · refine lv_iconst (v := iI 0) C₀.1.1 C₀.1.2.1 dX9_readsRow_23 (by decide) ?_
      exact L24₀ false ((decide_eq_false (by first | omega | (simp_all; done) | (simp_all; omega))).symm) _ _ _ hH₀ (lv_sub hl₀ [0] rfl)
    · refine lv_iconst (v := iI 1) C₀.1.1 C₀.1.2.1 dX9_readsRow_19 (by decide) ?_
      refine lv_goto (tgt := 24) C₀.1.1 C₀.1.2.1 dX9_readsRow_20 (by decide) ?_
      exact L24₀ true ((decide_eq_true (by first | omega | (simp_all; done) | (simp_all; omega))).symm) _ _ _ hH₀ (lv_sub hl₀ [0] rfl)
