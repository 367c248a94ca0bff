theorem iw_X9_settles_X9 : ∀ w₀ ∈ u_ws RX9 TX9 24, w₀ ∈ wsX9_settles := (fun w₀ h₀ => List.mem_cons_of_mem _ (List.mem_append_right _ h₀))
abbrev rmX9_settles : Room := { frames := 6, cells := 0, slots := 0, locals := 145 }
set_option maxHeartbeats 4000000 in
set_option maxRecDepth 100000 in
/-- settles -/
theorem c_X9_settles (lL₀ : Launch) (D₀ : va_G) (k₀ : Nat → ClassId) (sz₀ : Nat) (a₀ : Nat) (q₀ : Nat → Nat) (th₀ : Int) (un₀ : Int) (mf₀ : Int) (ty₀ : Int) (fr₀ : Int) (tt₀ : Int) (tk₀ : Int) (fa₀ : Int) (hf₀ : Bool) (ho₀ : Bool) (km₀ : Int) (s₀ : Int → Int) (pa₀ : Int → Int) (co₀ : Int → Int) (be₀ : Int → Int) (hS₀ : mS s₀) (hun₀ : 0 ≤ un₀ ∧ un₀ ≤ 6) : Met lL₀ yX9_settles wsX9_settles rmX9_settles (gPc ZT D₀ (tyk k₀) [.ref a₀] sz₀ [mO a₀ q₀ th₀ un₀ mf₀ ty₀ fr₀ tt₀ tk₀ fa₀ (bz hf₀) (bz ho₀) km₀, (q₀ 1, .inl (k₀ 0, 51, .inl (ia s₀))), (q₀ 3, .inl (k₀ 0, 306, .inl (ia pa₀))), (q₀ 18, .inl (k₀ 0, 1536, .inl (ia co₀))), (q₀ 19, .inl (k₀ 0, 24, .inl (ia be₀)))]) (gQi D₀ (tyk k₀) [mO a₀ q₀ th₀ un₀ mf₀ ty₀ fr₀ tt₀ tk₀ fa₀ (bz hf₀) (bz ho₀) km₀, (q₀ 1, .inl (k₀ 0, 51, .inl (ia s₀))), (q₀ 3, .inl (k₀ 0, 306, .inl (ia pa₀))), (q₀ 18, .inl (k₀ 0, 1536, .inl (ia co₀))), (q₀ 19, .inl (k₀ 0, 24, .inl (ia be₀)))] sz₀ (fun (u₀ : (Int → Int) × (Int → Int)) => match u₀ with | (c9₀, b9₀) => True) (fun (u₀ : (Int → Int) × (Int → Int)) => match u₀ with | (c9₀, b9₀) => (iI (mSetlR s₀))) (fun (u₀ : (Int → Int) × (Int → Int)) => match u₀ with | (c9₀, b9₀) => [mO a₀ q₀ 0 (cond (mSetlC s₀) (mUn un₀) un₀) mf₀ ty₀ fr₀ tt₀ tk₀ fa₀ (bz hf₀) (bz ho₀) km₀, (q₀ 1, .inl (k₀ 0, 51, .inl (ia (cond (mSetlC s₀) (mSetlS s₀) s₀)))), (q₀ 3, .inl (k₀ 0, 306, .inl (ia (cond (mSetlC s₀) (mPa pa₀ s₀ un₀) pa₀)))), (q₀ 18, .inl (k₀ 0, 1536, .inl (ia c9₀))), (q₀ 19, .inl (k₀ 0, 24, .inl (ia b9₀)))])) 0 0 (va_A [mO a₀ q₀ th₀ un₀ mf₀ ty₀ fr₀ tt₀ tk₀ fa₀ (bz hf₀) (bz ho₀) km₀, (q₀ 1, .inl (k₀ 0, 51, .inl (ia s₀))), (q₀ 3, .inl (k₀ 0, 306, .inl (ia pa₀))), (q₀ 18, .inl (k₀ 0, 1536, .inl (ia co₀))), (q₀ 19, .inl (k₀ 0, 24, .inl (ia be₀)))] sz₀) := by
  refine xs_met (cc := cX9_settles) (maxL := 3) (ret := some .int) (by decide) rfl (Nat.le_of_ble_eq_true rfl) ?_
  intro pP₀ eN₀ sT₀ mI₀ below₀ meth₀ cD₀ hsz₀ args₀ QQ₀ C₀ hr₀ hlk₀ hnm₀ hQ₀ ls₀ H₀ locs₀ hl₀ hH₀
  subst hsz₀
  have hl₀ : lv_has ls₀ 3 [(0, .ref a₀)] := hl₀
  generalize hAe₀ : va_A [mO a₀ q₀ th₀ un₀ mf₀ ty₀ fr₀ tt₀ tk₀ fa₀ (bz hf₀) (bz ho₀) km₀, (q₀ 1, .inl (k₀ 0, 51, .inl (ia s₀))), (q₀ 3, .inl (k₀ 0, 306, .inl (ia pa₀))), (q₀ 18, .inl (k₀ 0, 1536, .inl (ia co₀))), (q₀ 19, .inl (k₀ 0, 24, .inl (ia be₀)))] sT₀.heap.size = A₀ at C₀ hH₀ hQ₀
  obtain ⟨hs0₀, hs1₀, hs2₀, hsh₀, hsf₀⟩ := id hS₀
  have hcl₀ := cells_rg hs0₀ hs1₀
  have har₀ := mAll_rg hs0₀ hs1₀
  have hjr₀ := mJar_rg hs0₀ hs1₀
  refine lv_aload_n C₀.1.1 C₀.1.2.1 dX9_settles_0 rfl (lv_at hl₀ 0 rfl) ?_
  refine lv_iconst (v := iI 0) C₀.1.1 C₀.1.2.1 dX9_settles_1 (by decide) ?_
  refine xw_put (ws' := [mO a₀ q₀ 0 un₀ mf₀ ty₀ fr₀ tt₀ tk₀ fa₀ (bz hf₀) (bz ho₀) km₀, (q₀ 1, .inl (k₀ 0, 51, .inl (ia s₀))), (q₀ 3, .inl (k₀ 0, 306, .inl (ia pa₀))), (q₀ 18, .inl (k₀ 0, 1536, .inl (ia co₀))), (q₀ 19, .inl (k₀ 0, 24, .inl (ia be₀)))]) (v := .int (iI 0)) C₀ hH₀ 0 rfl rfl tyX9 tyX9_ok nmX9 0 (by decide) iw_X9_settles_X9 (by decide +kernel) rfl rfl rfl (Nat.le_of_ble_eq_true rfl) dX9_settles_2 rfl (fun H₀ locs₀ hH₀ => ?_)
  refine lv_aload_n C₀.1.1 C₀.1.2.1 dX9_settles_5 rfl (lv_at hl₀ 0 rfl) ?_
  refine xc_Vi (wr := [(q₀ 3, .inl (k₀ 0, 306, .inl (ia pa₀))), (q₀ 18, .inl (k₀ 0, 1536, .inl (ia co₀))), (q₀ 19, .inl (k₀ 0, 24, .inl (ia be₀)))]) (ws' := fun _ => [mO a₀ q₀ 0 un₀ mf₀ ty₀ fr₀ tt₀ tk₀ fa₀ (bz hf₀) (bz ho₀) km₀, (q₀ 1, .inl (k₀ 0, 51, .inl (ia s₀))), (q₀ 3, .inl (k₀ 0, 306, .inl (ia pa₀))), (q₀ 18, .inl (k₀ 0, 1536, .inl (ia co₀))), (q₀ 19, .inl (k₀ 0, 24, .inl (ia be₀)))]) (As := []) (rest := []) C₀ hH₀ (c_X9_jarring lL₀ D₀ k₀ H₀.size a₀ q₀ 0 un₀ mf₀ ty₀ fr₀ tt₀ tk₀ fa₀ hf₀ ho₀ km₀ s₀ (hS₀)) ZT_b (fun _ _ _ => trivial) (cwV 0 C₀.1.2.2.2.2 gX9_settles_X9_jarring rfl rfl rfl (by decide +kernel) ⟨Nat.le_of_ble_eq_true rfl, Nat.le_of_ble_eq_true rfl⟩) [0, 1] [2, 3, 4] [3, 4, 0, 1, 2] rfl rfl (by decide) (by decide) (by decide) (fun _ => rfl) (by decide) (q0 := 0) rfl rfl rfl hl₀.1 rfl (Nat.le_of_ble_eq_true rfl) dX9_settles_6 ⟨Nat.le_of_ble_eq_true rfl, Nat.le_of_ble_eq_true rfl⟩ (fun _ _ H₀ locs₀ hH₀ => ?_)
  refine xi_zne (tgt := 17) C₀.1.1 C₀.1.2.1 dX9_settles_9 (by decide) (by omega) (fun h_1₀ => ?_) (fun h_1₀ => ?_)
  · refine lv_aload_n C₀.1.1 C₀.1.2.1 dX9_settles_17 rfl (lv_at hl₀ 0 rfl) ?_
    refine xc_Vi (wr := [(q₀ 3, .inl (k₀ 0, 306, .inl (ia pa₀)))]) (ws' := fun ⟨c9_2₀, b9_3₀⟩ => [mO a₀ q₀ 0 un₀ mf₀ ty₀ fr₀ tt₀ tk₀ fa₀ (bz hf₀) (bz ho₀) km₀, (q₀ 1, .inl (k₀ 0, 51, .inl (ia s₀))), (q₀ 3, .inl (k₀ 0, 306, .inl (ia pa₀))), (q₀ 18, .inl (k₀ 0, 1536, .inl (ia c9_2₀))), (q₀ 19, .inl (k₀ 0, 24, .inl (ia b9_3₀)))]) (As := []) (rest := []) C₀ hH₀ (c_X9_change lL₀ D₀ k₀ H₀.size a₀ q₀ 0 un₀ mf₀ ty₀ fr₀ tt₀ tk₀ fa₀ hf₀ ho₀ km₀ s₀ co₀ be₀ (hS₀)) ZT_b (fun _ _ _ => trivial) (cwV 0 C₀.1.2.2.2.2 gX9_settles_X9_change rfl rfl rfl (by decide +kernel) ⟨Nat.le_of_ble_eq_true rfl, Nat.le_of_ble_eq_true rfl⟩) [0, 1, 3, 4] [2] [1, 2, 0, 3, 4] rfl rfl (by decide) (by decide) (by decide) (fun _ => rfl) (by decide) (q0 := 0) rfl rfl rfl hl₀.1 rfl (Nat.le_of_ble_eq_true rfl) dX9_settles_18 ⟨Nat.le_of_ble_eq_true rfl, Nat.le_of_ble_eq_true rfl⟩ (fun ⟨c9_2₀, b9_3₀⟩ hu₀ H₀ locs₀ hH₀ => ?_)
    have hcg₀ : mChange s₀ = if mAll s₀ = 1000 then -9 else mAll s₀ := rfl
    have hcr₀ : -9 ≤ mChange s₀ ∧ mChange s₀ ≤ 1000 := by rw [hcg₀]; split <;> omega
    refine lv_istore_n (lv' := [(1, .int (iI (mChange s₀))), (0, .ref a₀)]) C₀.1.1 C₀.1.2.1 dX9_settles_21 rfl hl₀ (by decide) rfl (fun ls₀ hl₀ => ?_)
    refine lv_iload_n C₀.1.1 C₀.1.2.1 dX9_settles_22 rfl (lv_at hl₀ 0 rfl) ?_
    refine lv_bipush (v := iI (-9)) C₀.1.1 C₀.1.2.1 dX9_settles_23 (by decide) ?_
    refine xi_cne (tgt := 31) C₀.1.1 C₀.1.2.1 dX9_settles_25 (by decide) (by omega) (by omega) (fun h_4₀ => ?_) (fun h_4₀ => ?_)
    · have hlt₀ : mAll s₀ < 1000 := by (by_cases hq9₀ : mAll s₀ = 1000; (exfalso; rw [if_pos hq9₀] at hcg₀; omega); omega)
      have hcv₀ : mChange s₀ = mAll s₀ := by rw [hcg₀, if_neg (by omega)]
      refine lv_aload_n C₀.1.1 C₀.1.2.1 dX9_settles_31 rfl (lv_at hl₀ 1 rfl) ?_
      refine xc_Vv (wr := [(q₀ 18, .inl (k₀ 0, 1536, .inl (ia c9_2₀))), (q₀ 19, .inl (k₀ 0, 24, .inl (ia b9_3₀)))]) (ws' := fun _ => [mO a₀ q₀ 0 (mUn un₀) mf₀ ty₀ fr₀ tt₀ tk₀ fa₀ (bz hf₀) (bz ho₀) km₀, (q₀ 1, .inl (k₀ 0, 51, .inl (ia s₀))), (q₀ 3, .inl (k₀ 0, 306, .inl (ia (mPa pa₀ s₀ un₀)))), (q₀ 18, .inl (k₀ 0, 1536, .inl (ia c9_2₀))), (q₀ 19, .inl (k₀ 0, 24, .inl (ia b9_3₀)))]) (As := []) (rest := []) C₀ hH₀ (c_X9_notes lL₀ D₀ k₀ H₀.size a₀ q₀ 0 un₀ mf₀ ty₀ fr₀ tt₀ tk₀ fa₀ hf₀ ho₀ km₀ s₀ pa₀ (by omega)) ZT_b (fun _ _ _ => trivial) (cwV 0 C₀.1.2.2.2.2 gX9_settles_X9_notes rfl rfl rfl (by decide +kernel) ⟨Nat.le_of_ble_eq_true rfl, Nat.le_of_ble_eq_true rfl⟩) [0, 1, 2] [3, 4] [2, 3, 4, 0, 1] rfl rfl (by decide) (by decide) (by decide) (fun _ => rfl) (by decide) (q0 := 0) rfl rfl rfl hl₀.1 rfl (Nat.le_of_ble_eq_true rfl) dX9_settles_32 ⟨Nat.le_of_ble_eq_true rfl, Nat.le_of_ble_eq_true rfl⟩ (fun _ _ H₀ locs₀ hH₀ => ?_)
      refine lv_iconst (v := iI 0) C₀.1.1 C₀.1.2.1 dX9_settles_35 (by decide) ?_
      refine lv_istore_n (lv' := [(2, .int (iI 0)), (1, .int (iI (mChange s₀))), (0, .ref a₀)]) C₀.1.1 C₀.1.2.1 dX9_settles_36 rfl hl₀ (by decide) rfl (fun ls₀ hl₀ => ?_)
      have L37₀ : ∀ (nn₀ : Nat), ∀ (c₀ : Int) (sq₀ : Int → Int), (sq₀ = cpz b9_3₀ s₀ 0 3 c₀) → (0 ≤ c₀ ∧ c₀ ≤ s₀ 0 * s₀ 1) → ((s₀ 0 * s₀ 1 - c₀) < (nn₀ : Int)) → ∀ (H₀ : Heap) (locs₀ : List Loc) (ls₀ : Array Slot), Hp D₀ A₀ sT₀.heap [mO a₀ q₀ 0 (mUn un₀) mf₀ ty₀ fr₀ tt₀ tk₀ fa₀ (bz hf₀) (bz ho₀) km₀, (q₀ 1, .inl (k₀ 0, 51, .inl (ia sq₀))), (q₀ 3, .inl (k₀ 0, 306, .inl (ia (mPa pa₀ s₀ un₀)))), (q₀ 18, .inl (k₀ 0, 1536, .inl (ia c9_2₀))), (q₀ 19, .inl (k₀ 0, 24, .inl (ia b9_3₀)))] H₀ locs₀ → lv_has ls₀ 3 [(0, .ref a₀), (1, .int (iI (mChange s₀))), (2, .int (iI c₀))] → W pP₀ lL₀ eN₀ rmX9_settles sT₀ mI₀ args₀ below₀ meth₀ cD₀ H₀ locs₀ 0 0 QQ₀ (F0 mI₀ 37 ls₀ []) := by
        intro nn₀
        induction nn₀ with
        | zero => intro c₀ sq₀ j1₀ j2₀ hm₀; exact absurd hm₀ (by omega)
        | succ nn₀ ih37₀ =>
          intro c₀ sq₀ j1₀ j2₀ hm37₀ H₀ locs₀ ls₀ hH₀ hl₀
          have e0₀ : sq₀ 0 = s₀ 0 := by rw [j1₀]; exact cpz_out (by omega)
          have e1₀ : sq₀ 1 = s₀ 1 := by rw [j1₀]; exact cpz_out (by omega)
          have e01₀ : sq₀ 0 * sq₀ 1 = s₀ 0 * s₀ 1 := by rw [e0₀, e1₀]
          refine lv_iload_n C₀.1.1 C₀.1.2.1 dX9_settles_37 rfl (lv_at hl₀ 2 rfl) ?_
          refine lv_aload_n C₀.1.1 C₀.1.2.1 dX9_settles_38 rfl (lv_at hl₀ 0 rfl) ?_
          refine xc_Vi (wr := [(q₀ 3, .inl (k₀ 0, 306, .inl (ia (mPa pa₀ s₀ un₀)))), (q₀ 18, .inl (k₀ 0, 1536, .inl (ia c9_2₀))), (q₀ 19, .inl (k₀ 0, 24, .inl (ia b9_3₀)))]) (ws' := fun _ => [mO a₀ q₀ 0 (mUn un₀) mf₀ ty₀ fr₀ tt₀ tk₀ fa₀ (bz hf₀) (bz ho₀) km₀, (q₀ 1, .inl (k₀ 0, 51, .inl (ia sq₀))), (q₀ 3, .inl (k₀ 0, 306, .inl (ia (mPa pa₀ s₀ un₀)))), (q₀ 18, .inl (k₀ 0, 1536, .inl (ia c9_2₀))), (q₀ 19, .inl (k₀ 0, 24, .inl (ia b9_3₀)))]) (As := []) (rest := [.int (iI c₀)]) C₀ hH₀ (c_X9_cells lL₀ D₀ k₀ H₀.size a₀ q₀ 0 (mUn un₀) mf₀ ty₀ fr₀ tt₀ tk₀ fa₀ hf₀ ho₀ km₀ sq₀ ) ZT_b (fun _ _ _ => trivial) (cwV 0 C₀.1.2.2.2.2 gX9_settles_X9_cells rfl rfl rfl (by decide +kernel) ⟨Nat.le_of_ble_eq_true rfl, Nat.le_of_ble_eq_true rfl⟩) [0, 1] [2, 3, 4] [3, 4, 0, 1, 2] rfl rfl (by decide) (by decide) (by decide) (fun _ => rfl) (by decide) (q0 := 0) rfl rfl rfl hl₀.1 rfl (Nat.le_of_ble_eq_true rfl) dX9_settles_39 ⟨Nat.le_of_ble_eq_true rfl, Nat.le_of_ble_eq_true rfl⟩ (fun _ _ H₀ locs₀ hH₀ => ?_)
          refine xi_cge (tgt := 65) C₀.1.1 C₀.1.2.1 dX9_settles_42 (by decide) (by omega) (by omega) (fun h_5₀ => ?_) (fun h_5₀ => ?_)
          · refine lv_iload_n C₀.1.1 C₀.1.2.1 dX9_settles_65 rfl (lv_at hl₀ 1 rfl) ?_
            exact xr_i C₀ hH₀ hlk₀ hr₀ hQ₀ rfl hAe₀ (c9_2₀, b9_3₀) trivial (by unfold mSetlR; rw [if_pos (by omega), hcv₀]) (by rw [show mSetlC s₀ = true from decide_eq_true (by omega), j1₀, show c₀ = s₀ 0 * s₀ 1 by omega, mSetl_eq hs0₀ hu₀ hlt₀]; rfl) dX9_settles_66
          · refine lv_aload_n C₀.1.1 C₀.1.2.1 dX9_settles_45 rfl (lv_at hl₀ 0 rfl) ?_
            refine xw_get C₀ hH₀ 0 rfl rfl 1 (by decide) iw_X9_settles_X9 (by decide +kernel) (v := .ref (q₀ 1)) rfl dX9_settles_46 ?_
            refine lv_iconst (v := iI 3) C₀.1.1 C₀.1.2.1 dX9_settles_49 (by decide) ?_
            refine lv_iload_n C₀.1.1 C₀.1.2.1 dX9_settles_50 rfl (lv_at hl₀ 2 rfl) ?_
            refine xi_add C₀.1.1 C₀.1.2.1 dX9_settles_51 ?_
            refine lv_aload_n C₀.1.1 C₀.1.2.1 dX9_settles_52 rfl (lv_at hl₀ 0 rfl) ?_
            refine xw_get C₀ hH₀ 0 rfl rfl 19 (by decide) iw_X9_settles_X9 (by decide +kernel) (v := .ref (q₀ 19)) rfl dX9_settles_53 ?_
            refine lv_iload_n C₀.1.1 C₀.1.2.1 dX9_settles_56 rfl (lv_at hl₀ 2 rfl) ?_
            refine xw_ild C₀ hH₀ 4 0 rfl rfl (z := c₀) (by omega) (by omega) (by decide) dX9_settles_57 ?_
            refine xw_ist (ws' := [mO a₀ q₀ 0 (mUn un₀) mf₀ ty₀ fr₀ tt₀ tk₀ fa₀ (bz hf₀) (bz ho₀) km₀, (q₀ 1, .inl (k₀ 0, 51, .inl (ia (uz sq₀ (3 + c₀) (b9_3₀ c₀))))), (q₀ 3, .inl (k₀ 0, 306, .inl (ia (mPa pa₀ s₀ un₀)))), (q₀ 18, .inl (k₀ 0, 1536, .inl (ia c9_2₀))), (q₀ 19, .inl (k₀ 0, 24, .inl (ia b9_3₀)))]) C₀ hH₀ 1 0 rfl rfl (z := 3 + c₀) (v := b9_3₀ c₀) (by omega) (by omega) (by decide) dX9_settles_58 rfl (fun H₀ locs₀ hH₀ => ?_)
            refine lv_iinc (v := iI (c₀ + 1)) (lv' := [(2, .int (iI (c₀ + 1))), (0, .ref a₀), (1, .int (iI (mChange s₀)))]) C₀.1.1 C₀.1.2.1 dX9_settles_59 hl₀ (k := 2) rfl (iI_add _ (1)) (by decide) rfl (fun ls₀ hl₀ => ?_)
            refine lv_goto (tgt := 37) C₀.1.1 C₀.1.2.1 dX9_settles_62 (by decide) ?_
            exact ih37₀ (c₀ + 1) (uz sq₀ (3 + c₀) (b9_3₀ c₀)) (by rw [j1₀]; exact cpz_s (by omega) (by omega) (by first | rfl | (congr 1; omega))) (by omega) (by omega) _ _ _ hH₀ (lv_sub hl₀ [1, 2, 0] rfl)
      exact L37₀ (((s₀ 0 * s₀ 1 - 0) : Int).toNat + 1) 0 s₀ ((cpz_0 _ _ _ _).symm) (by omega) (by omega) _ _ _ hH₀ (lv_sub hl₀ [2, 1, 0] rfl)
    · refine lv_bipush (v := iI (-2)) C₀.1.1 C₀.1.2.1 dX9_settles_28 (by decide) ?_
      exact xr_i C₀ hH₀ hlk₀ hr₀ hQ₀ rfl hAe₀ (c9_2₀, b9_3₀) trivial (by unfold mSetlR; rw [if_neg (by first | omega | (rw [hcg₀] at *; split at * <;> omega))]) (by rw [show mSetlC s₀ = false from decide_eq_false (by first | omega | (rw [hcg₀] at *; split at * <;> omega))]; rfl) dX9_settles_30
  · refine lv_bipush (v := iI (-9)) C₀.1.1 C₀.1.2.1 dX9_settles_12 (by decide) ?_
    refine lv_goto (tgt := 21) C₀.1.1 C₀.1.2.1 dX9_settles_14 (by decide) ?_
    have hcg₀ : mChange s₀ = if mAll s₀ = 1000 then -9 else mAll s₀ := rfl
    have hcr₀ : -9 ≤ mChange s₀ ∧ mChange s₀ ≤ 1000 := by rw [hcg₀]; split <;> omega
    refine lv_istore_n (lv' := [(1, .int (iI (-9))), (0, .ref a₀)]) C₀.1.1 C₀.1.2.1 dX9_settles_21 rfl hl₀ (by decide) rfl (fun ls₀ hl₀ => ?_)
    refine lv_iload_n C₀.1.1 C₀.1.2.1 dX9_settles_22 rfl (lv_at hl₀ 0 rfl) ?_
    refine lv_bipush (v := iI (-9)) C₀.1.1 C₀.1.2.1 dX9_settles_23 (by decide) ?_
    refine xi_cne (tgt := 31) C₀.1.1 C₀.1.2.1 dX9_settles_25 (by decide) (by omega) (by omega) (fun h_6₀ => ?_) (fun h_6₀ => ?_)
    · exfalso; omega
    · refine lv_bipush (v := iI (-2)) C₀.1.1 C₀.1.2.1 dX9_settles_28 (by decide) ?_
      exact xr_i C₀ hH₀ hlk₀ hr₀ hQ₀ rfl hAe₀ (co₀, be₀) trivial (by unfold mSetlR; rw [if_neg (by first | omega | (rw [hcg₀] at *; split at * <;> omega))]) (by rw [show mSetlC s₀ = false from decide_eq_false (by first | omega | (rw [hcg₀] at *; split at * <;> omega))]; rfl) dX9_settles_30
theorem iw_X9_least_X9 : ∀ w₀ ∈ u_ws RX9 TX9 24, w₀ ∈ wsX9_least := (fun w₀ h₀ => List.mem_cons_of_mem _ (List.mem_append_right _ h₀))
abbrev rmX9_least : Room := { frames := 6, cells := 0, slots := 0, locals := 145 }
set_option maxHeartbeats 4000000 in
set_option maxRecDepth 100000 in
/-- least -/
theorem c_X9_least (lL₀ : Launch) (D₀ : va_G) (k₀ : Nat → ClassId) (sz₀ : Nat) (a₀ : Nat) (q₀ : Nat → Nat) (th₀ : Int) (un₀ : Int) (mf₀ : Int) (ty₀ : Int) (fr₀ : Int) (tt₀ : Int) (tk₀ : Int) (fa₀ : Int) (hf₀ : Bool) (ho₀ : Bool) (km₀ : Int) (s₀ : Int → Int) (co₀ : Int → Int) (be₀ : Int → Int) (x : Int) (hS₀ : mS s₀) (hx₀ : -2147483648 ≤ x ∧ x < 2147483648) : Met lL₀ yX9_least wsX9_least rmX9_least (gPc ZT D₀ (tyk k₀) [.ref a₀, .int (iI x)] sz₀ [mO a₀ q₀ th₀ un₀ mf₀ ty₀ fr₀ tt₀ tk₀ fa₀ (bz hf₀) (bz ho₀) km₀, (q₀ 1, .inl (k₀ 0, 51, .inl (ia s₀))), (q₀ 18, .inl (k₀ 0, 1536, .inl (ia co₀))), (q₀ 19, .inl (k₀ 0, 24, .inl (ia be₀)))]) (gQi D₀ (tyk k₀) [mO a₀ q₀ th₀ un₀ mf₀ ty₀ fr₀ tt₀ tk₀ fa₀ (bz hf₀) (bz ho₀) km₀, (q₀ 1, .inl (k₀ 0, 51, .inl (ia s₀))), (q₀ 18, .inl (k₀ 0, 1536, .inl (ia co₀))), (q₀ 19, .inl (k₀ 0, 24, .inl (ia be₀)))] sz₀ (fun (u₀ : (Int → Int) × (Int → Int)) => match u₀ with | (c9₀, b9₀) => True) (fun (u₀ : (Int → Int) × (Int → Int)) => match u₀ with | (c9₀, b9₀) => (iI (mLeastR s₀ x))) (fun (u₀ : (Int → Int) × (Int → Int)) => match u₀ with | (c9₀, b9₀) => [mO a₀ q₀ 0 un₀ mf₀ ty₀ fr₀ tt₀ tk₀ fa₀ (bz hf₀) (bz ho₀) km₀, (q₀ 1, .inl (k₀ 0, 51, .inl (ia s₀))), (q₀ 18, .inl (k₀ 0, 1536, .inl (ia c9₀))), (q₀ 19, .inl (k₀ 0, 24, .inl (ia b9₀)))])) 0 0 (va_A [mO a₀ q₀ th₀ un₀ mf₀ ty₀ fr₀ tt₀ tk₀ fa₀ (bz hf₀) (bz ho₀) km₀, (q₀ 1, .inl (k₀ 0, 51, .inl (ia s₀))), (q₀ 18, .inl (k₀ 0, 1536, .inl (ia co₀))), (q₀ 19, .inl (k₀ 0, 24, .inl (ia be₀)))] sz₀) := by
  refine xs_met (cc := cX9_least) (maxL := 3) (ret := some .int) (by decide) rfl (Nat.le_of_ble_eq_true rfl) ?_
  intro pP₀ eN₀ sT₀ mI₀ below₀ meth₀ cD₀ hsz₀ args₀ QQ₀ C₀ hr₀ hlk₀ hnm₀ hQ₀ ls₀ H₀ locs₀ hl₀ hH₀
  subst hsz₀
  have hl₀ : lv_has ls₀ 3 [(0, .ref a₀), (1, .int (iI x))] := hl₀
  generalize hAe₀ : va_A [mO a₀ q₀ th₀ un₀ mf₀ ty₀ fr₀ tt₀ tk₀ fa₀ (bz hf₀) (bz ho₀) km₀, (q₀ 1, .inl (k₀ 0, 51, .inl (ia s₀))), (q₀ 18, .inl (k₀ 0, 1536, .inl (ia co₀))), (q₀ 19, .inl (k₀ 0, 24, .inl (ia be₀)))] sT₀.heap.size = A₀ at C₀ hH₀ hQ₀
  obtain ⟨hs0₀, hs1₀, hs2₀, hsh₀, hsf₀⟩ := id hS₀
  have hcl₀ := cells_rg hs0₀ hs1₀
  have har₀ := mAll_rg hs0₀ hs1₀
  refine lv_aload_n C₀.1.1 C₀.1.2.1 dX9_least_0 rfl (lv_at hl₀ 0 rfl) ?_
  refine lv_iconst (v := iI 0) C₀.1.1 C₀.1.2.1 dX9_least_1 (by decide) ?_
  refine xw_put (ws' := [mO a₀ q₀ 0 un₀ mf₀ ty₀ fr₀ tt₀ tk₀ fa₀ (bz hf₀) (bz ho₀) km₀, (q₀ 1, .inl (k₀ 0, 51, .inl (ia s₀))), (q₀ 18, .inl (k₀ 0, 1536, .inl (ia co₀))), (q₀ 19, .inl (k₀ 0, 24, .inl (ia be₀)))]) (v := .int (iI 0)) C₀ hH₀ 0 rfl rfl tyX9 tyX9_ok nmX9 0 (by decide) iw_X9_least_X9 (by decide +kernel) rfl rfl rfl (Nat.le_of_ble_eq_true rfl) dX9_least_2 rfl (fun H₀ locs₀ hH₀ => ?_)
  refine lv_iload_n C₀.1.1 C₀.1.2.1 dX9_least_5 rfl (lv_at hl₀ 1 rfl) ?_
  refine lv_iconst (v := iI (-1)) C₀.1.1 C₀.1.2.1 dX9_least_6 (by decide) ?_
  refine lv_aload_n C₀.1.1 C₀.1.2.1 dX9_least_7 rfl (lv_at hl₀ 0 rfl) ?_
  refine xc_Vi (wr := [(q₀ 18, .inl (k₀ 0, 1536, .inl (ia co₀))), (q₀ 19, .inl (k₀ 0, 24, .inl (ia be₀)))]) (ws' := fun _ => [mO a₀ q₀ 0 un₀ mf₀ ty₀ fr₀ tt₀ tk₀ fa₀ (bz hf₀) (bz ho₀) km₀, (q₀ 1, .inl (k₀ 0, 51, .inl (ia s₀))), (q₀ 18, .inl (k₀ 0, 1536, .inl (ia co₀))), (q₀ 19, .inl (k₀ 0, 24, .inl (ia be₀)))]) (As := []) (rest := [.int (iI (-1)), .int (iI x)]) C₀ hH₀ (c_X9_cells lL₀ D₀ k₀ H₀.size a₀ q₀ 0 un₀ mf₀ ty₀ fr₀ tt₀ tk₀ fa₀ hf₀ ho₀ km₀ s₀ ) ZT_b (fun _ _ _ => trivial) (cwV 0 C₀.1.2.2.2.2 gX9_least_X9_cells rfl rfl rfl (by decide +kernel) ⟨Nat.le_of_ble_eq_true rfl, Nat.le_of_ble_eq_true rfl⟩) [0, 1] [2, 3] [2, 3, 0, 1] rfl rfl (by decide) (by decide) (by decide) (fun _ => rfl) (by decide) (q0 := 0) rfl rfl rfl hl₀.1 rfl (Nat.le_of_ble_eq_true rfl) dX9_least_8 ⟨Nat.le_of_ble_eq_true rfl, Nat.le_of_ble_eq_true rfl⟩ (fun _ _ H₀ locs₀ hH₀ => ?_)
  refine lv_iconst (v := iI 1) C₀.1.1 C₀.1.2.1 dX9_least_11 (by decide) ?_
  refine xi_sub C₀.1.1 C₀.1.2.1 dX9_least_12 ?_
  refine xc_Si (wr := [mO a₀ q₀ 0 un₀ mf₀ ty₀ fr₀ tt₀ tk₀ fa₀ (bz hf₀) (bz ho₀) km₀, (q₀ 1, .inl (k₀ 0, 51, .inl (ia s₀))), (q₀ 18, .inl (k₀ 0, 1536, .inl (ia co₀))), (q₀ 19, .inl (k₀ 0, 24, .inl (ia be₀)))]) (ws' := fun _ => [mO a₀ q₀ 0 un₀ mf₀ ty₀ fr₀ tt₀ tk₀ fa₀ (bz hf₀) (bz ho₀) km₀, (q₀ 1, .inl (k₀ 0, 51, .inl (ia s₀))), (q₀ 18, .inl (k₀ 0, 1536, .inl (ia co₀))), (q₀ 19, .inl (k₀ 0, 24, .inl (ia be₀)))]) (As := [.int (iI x), .int (iI (-1)), .int (iI (s₀ 0 * s₀ 1 - 1))]) (rest := []) C₀ hH₀ (c_X9_in lL₀ D₀ k₀ H₀.size x (-1) (s₀ 0 * s₀ 1 - 1) (by omega) (by omega) (by omega)) ZT_b (fun _ _ _ => trivial) (va_cwS 3 C₀.1.2.2.2.2 gX9_least_X9_in rfl rfl rfl (by decide +kernel) ⟨Nat.le_of_ble_eq_true rfl, Nat.le_of_ble_eq_true rfl⟩) [] [0, 1, 2, 3] [0, 1, 2, 3] rfl rfl (by decide) (by decide) (by decide) (fun _ => rfl) (by decide) rfl hl₀.1 rfl (Nat.le_of_ble_eq_true rfl) dX9_least_13 ⟨Nat.le_of_ble_eq_true rfl, Nat.le_of_ble_eq_true rfl⟩ (fun _ _ H₀ locs₀ hH₀ => ?_)
  refine xp_ne (tgt := 21) C₀.1.1 C₀.1.2.1 dX9_least_16 (by decide) (fun h_1₀ => ?_) (fun h_1₀ => ?_)
  · refine lv_aload_n C₀.1.1 C₀.1.2.1 dX9_least_21 rfl (lv_at hl₀ 0 rfl) ?_
    refine xc_Vi (wr := []) (ws' := fun ⟨c9_2₀, b9_3₀⟩ => [mO a₀ q₀ 0 un₀ mf₀ ty₀ fr₀ tt₀ tk₀ fa₀ (bz hf₀) (bz ho₀) km₀, (q₀ 1, .inl (k₀ 0, 51, .inl (ia s₀))), (q₀ 18, .inl (k₀ 0, 1536, .inl (ia c9_2₀))), (q₀ 19, .inl (k₀ 0, 24, .inl (ia b9_3₀)))]) (As := []) (rest := []) C₀ hH₀ (c_X9_change lL₀ D₀ k₀ H₀.size a₀ q₀ 0 un₀ mf₀ ty₀ fr₀ tt₀ tk₀ fa₀ hf₀ ho₀ km₀ s₀ co₀ be₀ (hS₀)) ZT_b (fun _ _ _ => trivial) (cwV 0 C₀.1.2.2.2.2 gX9_least_X9_change rfl rfl rfl (by decide +kernel) ⟨Nat.le_of_ble_eq_true rfl, Nat.le_of_ble_eq_true rfl⟩) [0, 1, 2, 3] [] [0, 1, 2, 3] rfl rfl (by decide) (by decide) (by decide) (fun _ => rfl) (by decide) (q0 := 0) rfl rfl rfl hl₀.1 rfl (Nat.le_of_ble_eq_true rfl) dX9_least_22 ⟨Nat.le_of_ble_eq_true rfl, Nat.le_of_ble_eq_true rfl⟩ (fun ⟨c9_2₀, b9_3₀⟩ hu₀ H₀ locs₀ hH₀ => ?_)
    have hcg₀ : mChange s₀ = if mAll s₀ = 1000 then -9 else mAll s₀ := rfl
    have hcr₀ : -9 ≤ mChange s₀ ∧ mChange s₀ ≤ 1000 := by rw [hcg₀]; split <;> omega
    refine lv_istore_n (lv' := [(2, .int (iI (mChange s₀))), (0, .ref a₀), (1, .int (iI x))]) C₀.1.1 C₀.1.2.1 dX9_least_25 rfl hl₀ (by decide) rfl (fun ls₀ hl₀ => ?_)
    refine lv_iload_n C₀.1.1 C₀.1.2.1 dX9_least_26 rfl (lv_at hl₀ 0 rfl) ?_
    refine lv_bipush (v := iI (-9)) C₀.1.1 C₀.1.2.1 dX9_least_27 (by decide) ?_
    refine xi_ceq (tgt := 37) C₀.1.1 C₀.1.2.1 dX9_least_29 (by decide) (by omega) (by omega) (fun h_4₀ => ?_) (fun h_4₀ => ?_)
    · refine lv_iload_n C₀.1.1 C₀.1.2.1 dX9_least_37 rfl (lv_at hl₀ 0 rfl) ?_
      refine lv_goto (tgt := 47) C₀.1.1 C₀.1.2.1 dX9_least_38 (by decide) ?_
      exact xr_i C₀ hH₀ hlk₀ hr₀ hQ₀ rfl hAe₀ (c9_2₀, b9_3₀) trivial (by unfold mLeastR; rw [if_pos (by omega)]; by_cases hq₀ : mAll s₀ = 1000; (rw [if_pos hq₀] at hcg₀ ⊢; rw [hcg₀]); (rw [if_neg hq₀] at hcg₀ ⊢; exfalso; omega)) rfl dX9_least_47
    · refine lv_iload_n C₀.1.1 C₀.1.2.1 dX9_least_32 rfl (lv_at hl₀ 2 rfl) ?_
      refine lv_iconst (v := iI (-1)) C₀.1.1 C₀.1.2.1 dX9_least_33 (by decide) ?_
      refine xi_cne (tgt := 41) C₀.1.1 C₀.1.2.1 dX9_least_34 (by decide) (by omega) (by omega) (fun h_5₀ => ?_) (fun h_5₀ => ?_)
      · refine lv_aload_n C₀.1.1 C₀.1.2.1 dX9_least_41 rfl (lv_at hl₀ 1 rfl) ?_
        refine xw_get C₀ hH₀ 0 rfl rfl 19 (by decide) iw_X9_least_X9 (by decide +kernel) (v := .ref (q₀ 19)) rfl dX9_least_42 ?_
        refine lv_iload_n C₀.1.1 C₀.1.2.1 dX9_least_45 rfl (lv_at hl₀ 2 rfl) ?_
        refine xw_ild C₀ hH₀ 3 0 rfl rfl (z := x) (by omega) (by omega) (by decide) dX9_least_46 ?_
        exact xr_i C₀ hH₀ hlk₀ hr₀ hQ₀ rfl hAe₀ (c9_2₀, b9_3₀) trivial (by have hlt₀ : mAll s₀ < 1000 := (by by_cases hq9₀ : mAll s₀ = 1000; (exfalso; rw [if_pos hq9₀] at hcg₀; omega); omega); unfold mLeastR; rw [if_pos (by omega), if_neg (by omega), if_neg (by omega), mBe_at hs0₀ hu₀ hlt₀ (by omega)]) rfl dX9_least_47
      · refine lv_iload_n C₀.1.1 C₀.1.2.1 dX9_least_37 rfl (lv_at hl₀ 0 rfl) ?_
        refine lv_goto (tgt := 47) C₀.1.1 C₀.1.2.1 dX9_least_38 (by decide) ?_
        exact xr_i C₀ hH₀ hlk₀ hr₀ hQ₀ rfl hAe₀ (c9_2₀, b9_3₀) trivial (by unfold mLeastR; rw [if_pos (by omega)]; by_cases hq₀ : mAll s₀ = 1000; (rw [if_pos hq₀] at hcg₀ ⊢; rw [hcg₀]); (rw [if_neg hq₀] at hcg₀ ⊢; rw [if_pos (by omega), hcg₀])) rfl dX9_least_47
  · refine lv_iconst (v := iI (-1)) C₀.1.1 C₀.1.2.1 dX9_least_19 (by decide) ?_
    exact xr_i C₀ hH₀ hlk₀ hr₀ hQ₀ rfl hAe₀ (co₀, be₀) trivial (by simp (disch := omega) only [mLeastR, if_pos, if_neg]) rfl dX9_least_20
theorem iw_X9_isBeside_X9 : ∀ w₀ ∈ u_ws RX9 TX9 24, w₀ ∈ wsX9_isBeside := (fun w₀ h₀ => List.mem_cons_of_mem _ (List.mem_append_right _ h₀))
abbrev rmX9_isBeside : Room := { frames := 1, cells := 0, slots := 0, locals := 20 }
set_option maxHeartbeats 4000000 in
set_option maxRecDepth 100000 in
/-- isBeside -/
theorem c_X9_isBeside (lL₀ : Launch) (D₀ : va_G) (k₀ : Nat → ClassId) (sz₀ : Nat) (a₀ : Nat) (q₀ : Nat → Nat) (th₀ : Int) (un₀ : Int) (mf₀ : Int) (ty₀ : Int) (fr₀ : Int) (tt₀ : Int) (tk₀ : Int) (fa₀ : Int) (hf₀ : Bool) (ho₀ : Bool) (km₀ : Int) (s₀ : Int → Int) (wt₀ : Int → Int) (x : Int) (y₀ : Int) (hS₀ : mS s₀) (hx₀ : 0 ≤ x ∧ x < s₀ 0) (hy₀ : 0 ≤ y₀ ∧ y₀ < s₀ 1) (hwt₀ : ∀ j₀, 0 ≤ j₀ → j₀ < 24 → 0 ≤ wt₀ j₀ ∧ wt₀ j₀ ≤ 1) : Met lL₀ yX9_isBeside wsX9_isBeside rmX9_isBeside (gPc ZT D₀ (tyk k₀) [.ref a₀, .int (iI x), .int (iI y₀)] sz₀ [mO a₀ q₀ th₀ un₀ mf₀ ty₀ fr₀ tt₀ tk₀ fa₀ (bz hf₀) (bz ho₀) km₀, (q₀ 1, .inl (k₀ 0, 51, .inl (ia s₀))), (q₀ 17, .inl (k₀ 2, 24, .inl (ia wt₀)))]) (gQi D₀ (tyk k₀) [mO a₀ q₀ th₀ un₀ mf₀ ty₀ fr₀ tt₀ tk₀ fa₀ (bz hf₀) (bz ho₀) km₀, (q₀ 1, .inl (k₀ 0, 51, .inl (ia s₀))), (q₀ 17, .inl (k₀ 2, 24, .inl (ia wt₀)))] sz₀ (fun (_ : Unit) => True) (fun (_ : Unit) => (iI (bz (mBs s₀ wt₀ x y₀)))) (fun (_ : Unit) => [mO a₀ q₀ th₀ un₀ mf₀ ty₀ fr₀ tt₀ tk₀ fa₀ (bz hf₀) (bz ho₀) km₀, (q₀ 1, .inl (k₀ 0, 51, .inl (ia s₀))), (q₀ 17, .inl (k₀ 2, 24, .inl (ia wt₀)))])) 0 0 (va_A [mO a₀ q₀ th₀ un₀ mf₀ ty₀ fr₀ tt₀ tk₀ fa₀ (bz hf₀) (bz ho₀) km₀, (q₀ 1, .inl (k₀ 0, 51, .inl (ia s₀))), (q₀ 17, .inl (k₀ 2, 24, .inl (ia wt₀)))] sz₀) := by
  refine xs_met (cc := cX9_isBeside) (maxL := 7) (ret := some .boolean) (by decide) rfl (Nat.le_of_ble_eq_true rfl) ?_
  intro pP₀ eN₀ sT₀ mI₀ below₀ meth₀ cD₀ hsz₀ args₀ QQ₀ C₀ hr₀ hlk₀ hnm₀ hQ₀ ls₀ H₀ locs₀ hl₀ hH₀
  subst hsz₀
  have hl₀ : lv_has ls₀ 7 [(0, .ref a₀), (1, .int (iI x)), (2, .int (iI y₀))] := hl₀
  generalize hAe₀ : va_A [mO a₀ q₀ th₀ un₀ mf₀ ty₀ fr₀ tt₀ tk₀ fa₀ (bz hf₀) (bz ho₀) km₀, (q₀ 1, .inl (k₀ 0, 51, .inl (ia s₀))), (q₀ 17, .inl (k₀ 2, 24, .inl (ia wt₀)))] sT₀.heap.size = A₀ at C₀ hH₀ hQ₀
  obtain ⟨hs0₀, hs1₀, hs2₀, hsh₀, hsf₀⟩ := id hS₀
  have hcl₀ := cells_rg hs0₀ hs1₀
  refine lv_iconst (v := iI 0) C₀.1.1 C₀.1.2.1 dX9_isBeside_0 (by decide) ?_
  refine lv_istore_n (lv' := [(3, .int (iI 0)), (0, .ref a₀), (1, .int (iI x)), (2, .int (iI y₀))]) C₀.1.1 C₀.1.2.1 dX9_isBeside_1 rfl hl₀ (by decide) rfl (fun ls₀ hl₀ => ?_)
  refine lv_iconst (v := iI 0) C₀.1.1 C₀.1.2.1 dX9_isBeside_2 (by decide) ?_
  refine lv_istore (lv' := [(4, .int (iI 0)), (3, .int (iI 0)), (0, .ref a₀), (1, .int (iI x)), (2, .int (iI y₀))]) C₀.1.1 C₀.1.2.1 dX9_isBeside_3 hl₀ (by decide) rfl (fun ls₀ hl₀ => ?_)
  have L5₀ : ∀ (nn₀ : Nat), ∀ (t₀ : Bool) (c₀ : Int), (t₀ = exI (mBsX (s₀ 0) x y₀ wt₀) c₀) → (0 ≤ c₀ ∧ c₀ ≤ s₀ 0 * s₀ 1) → ((s₀ 0 * s₀ 1 - c₀) < (nn₀ : Int)) → ∀ (H₀ : Heap) (locs₀ : List Loc) (ls₀ : Array Slot), Hp D₀ A₀ sT₀.heap [mO a₀ q₀ th₀ un₀ mf₀ ty₀ fr₀ tt₀ tk₀ fa₀ (bz hf₀) (bz ho₀) km₀, (q₀ 1, .inl (k₀ 0, 51, .inl (ia s₀))), (q₀ 17, .inl (k₀ 2, 24, .inl (ia wt₀)))] H₀ locs₀ → lv_has ls₀ 7 [(0, .ref a₀), (1, .int (iI x)), (2, .int (iI y₀)), (3, .int (iI (bz t₀))), (4, .int (iI c₀))] → W pP₀ lL₀ eN₀ rmX9_isBeside sT₀ mI₀ args₀ below₀ meth₀ cD₀ H₀ locs₀ 0 0 QQ₀ (F0 mI₀ 5 ls₀ []) := by
    intro nn₀
    induction nn₀ with
    | zero => intro t₀ c₀ i1₀ i2₀ hm₀; exact absurd hm₀ (by omega)
    | succ nn₀ ih5₀ =>
      intro t₀ c₀ i1₀ i2₀ hm5₀ H₀ locs₀ ls₀ hH₀ hl₀
      refine lv_iload C₀.1.1 C₀.1.2.1 dX9_isBeside_5 (lv_at hl₀ 4 rfl) ?_
      refine lv_aload_n C₀.1.1 C₀.1.2.1 dX9_isBeside_7 rfl (lv_at hl₀ 0 rfl) ?_
      refine xc_Vi (wr := [(q₀ 17, .inl (k₀ 2, 24, .inl (ia wt₀)))]) (ws' := fun _ => [mO a₀ q₀ th₀ un₀ mf₀ ty₀ fr₀ tt₀ tk₀ fa₀ (bz hf₀) (bz ho₀) km₀, (q₀ 1, .inl (k₀ 0, 51, .inl (ia s₀))), (q₀ 17, .inl (k₀ 2, 24, .inl (ia wt₀)))]) (As := []) (rest := [.int (iI c₀)]) C₀ hH₀ (c_X9_cells lL₀ D₀ k₀ H₀.size a₀ q₀ th₀ un₀ mf₀ ty₀ fr₀ tt₀ tk₀ fa₀ hf₀ ho₀ km₀ s₀ ) ZT_b (fun _ _ _ => trivial) (cwV 0 C₀.1.2.2.2.2 gX9_isBeside_X9_cells rfl rfl rfl (by decide +kernel) ⟨Nat.le_of_ble_eq_true rfl, Nat.le_of_ble_eq_true rfl⟩) [0, 1] [2] [1, 2, 0] rfl rfl (by decide) (by decide) (by decide) (fun _ => rfl) (by decide) (q0 := 0) rfl rfl rfl hl₀.1 rfl (Nat.le_of_ble_eq_true rfl) dX9_isBeside_8 ⟨Nat.le_of_ble_eq_true rfl, Nat.le_of_ble_eq_true rfl⟩ (fun _ _ H₀ locs₀ hH₀ => ?_)
      refine xi_cge (tgt := 81) C₀.1.1 C₀.1.2.1 dX9_isBeside_11 (by decide) (by omega) (by omega) (fun h_1₀ => ?_) (fun h_1₀ => ?_)
      · refine lv_iload_n C₀.1.1 C₀.1.2.1 dX9_isBeside_81 rfl (lv_at hl₀ 3 rfl) ?_
        exact xr_i C₀ hH₀ hlk₀ hr₀ hQ₀ (nar_bz _) hAe₀ () trivial (by unfold mBs; rw [i1₀, show c₀ = s₀ 0 * s₀ 1 by omega]) rfl dX9_isBeside_82
      · have hdm₀ := dm_rg hs0₀ (show 0 ≤ c₀ ∧ c₀ < s₀ 0 * s₀ 1 by omega)
        have hwc₀ := hwt₀ c₀ (by omega) (by omega)
        refine lv_iload_n C₀.1.1 C₀.1.2.1 dX9_isBeside_14 rfl (lv_at hl₀ 1 rfl) ?_
        refine lv_iload C₀.1.1 C₀.1.2.1 dX9_isBeside_15 (lv_at hl₀ 4 rfl) ?_
        refine lv_aload_n C₀.1.1 C₀.1.2.1 dX9_isBeside_17 rfl (lv_at hl₀ 0 rfl) ?_
        refine xw_get C₀ hH₀ 0 rfl rfl 1 (by decide) iw_X9_isBeside_X9 (by decide +kernel) (v := .ref (q₀ 1)) rfl dX9_isBeside_18 ?_
        refine lv_iconst (v := iI 0) C₀.1.1 C₀.1.2.1 dX9_isBeside_21 (by decide) ?_
        refine xw_ild C₀ hH₀ 1 0 rfl rfl (z := 0) (by omega) (by omega) (by decide) dX9_isBeside_22 ?_
        refine xi_rem C₀.1.1 C₀.1.2.1 dX9_isBeside_23 (by omega) (by omega) ?_
        refine xi_sub C₀.1.1 C₀.1.2.1 dX9_isBeside_24 ?_
        refine lv_istore (lv' := [(5, .int (iI (x - (c₀ % (s₀ 0))))), (0, .ref a₀), (1, .int (iI x)), (2, .int (iI y₀)), (3, .int (iI (bz t₀))), (4, .int (iI c₀))]) C₀.1.1 C₀.1.2.1 dX9_isBeside_25 hl₀ (by decide) rfl (fun ls₀ hl₀ => ?_)
        refine lv_iload_n C₀.1.1 C₀.1.2.1 dX9_isBeside_27 rfl (lv_at hl₀ 3 rfl) ?_
        refine lv_iload C₀.1.1 C₀.1.2.1 dX9_isBeside_28 (lv_at hl₀ 5 rfl) ?_
        refine lv_aload_n C₀.1.1 C₀.1.2.1 dX9_isBeside_30 rfl (lv_at hl₀ 1 rfl) ?_
        refine xw_get C₀ hH₀ 0 rfl rfl 1 (by decide) iw_X9_isBeside_X9 (by decide +kernel) (v := .ref (q₀ 1)) rfl dX9_isBeside_31 ?_
        refine lv_iconst (v := iI 0) C₀.1.1 C₀.1.2.1 dX9_isBeside_34 (by decide) ?_
        refine xw_ild C₀ hH₀ 1 0 rfl rfl (z := 0) (by omega) (by omega) (by decide) dX9_isBeside_35 ?_
        refine xi_div C₀.1.1 C₀.1.2.1 dX9_isBeside_36 (by omega) (by omega) ?_
        refine xi_sub C₀.1.1 C₀.1.2.1 dX9_isBeside_37 ?_
        refine lv_istore (lv' := [(6, .int (iI (y₀ - (c₀ / (s₀ 0))))), (5, .int (iI (x - (c₀ % (s₀ 0))))), (0, .ref a₀), (1, .int (iI x)), (2, .int (iI y₀)), (3, .int (iI (bz t₀))), (4, .int (iI c₀))]) C₀.1.1 C₀.1.2.1 dX9_isBeside_38 hl₀ (by decide) rfl (fun ls₀ hl₀ => ?_)
        have L74₀ : ∀ (d₀ : Bool), (d₀ = (t₀ || mBsX (s₀ 0) x y₀ wt₀ c₀)) → ∀ (H₀ : Heap) (locs₀ : List Loc) (ls₀ : Array Slot), Hp D₀ A₀ sT₀.heap [mO a₀ q₀ th₀ un₀ mf₀ ty₀ fr₀ tt₀ tk₀ fa₀ (bz hf₀) (bz ho₀) km₀, (q₀ 1, .inl (k₀ 0, 51, .inl (ia s₀))), (q₀ 17, .inl (k₀ 2, 24, .inl (ia wt₀)))] H₀ locs₀ → lv_has ls₀ 7 [(0, .ref a₀), (1, .int (iI x)), (2, .int (iI y₀)), (3, .int (iI (bz t₀))), (4, .int (iI c₀)), (5, .int (iI (x - (c₀ % (s₀ 0))))), (6, .int (iI (y₀ - (c₀ / (s₀ 0)))))] → W pP₀ lL₀ eN₀ rmX9_isBeside sT₀ mI₀ args₀ below₀ meth₀ cD₀ H₀ locs₀ 0 0 QQ₀ (F0 mI₀ 74 ls₀ [.int (iI (bz d₀))]) := by
          intro d₀ jd₀ H₀ locs₀ ls₀ hH₀ hl₀
          refine lv_istore_n (lv' := [(3, .int (iI (bz d₀))), (0, .ref a₀), (1, .int (iI x)), (2, .int (iI y₀)), (4, .int (iI c₀)), (5, .int (iI (x - (c₀ % (s₀ 0))))), (6, .int (iI (y₀ - (c₀ / (s₀ 0)))))]) C₀.1.1 C₀.1.2.1 dX9_isBeside_74 rfl hl₀ (by decide) rfl (fun ls₀ hl₀ => ?_)
          refine lv_iinc (v := iI (c₀ + 1)) (lv' := [(4, .int (iI (c₀ + 1))), (3, .int (iI (bz d₀))), (0, .ref a₀), (1, .int (iI x)), (2, .int (iI y₀)), (5, .int (iI (x - (c₀ % (s₀ 0))))), (6, .int (iI (y₀ - (c₀ / (s₀ 0)))))]) C₀.1.1 C₀.1.2.1 dX9_isBeside_75 hl₀ (k := 4) rfl (iI_add _ (1)) (by decide) rfl (fun ls₀ hl₀ => ?_)
          refine lv_goto (tgt := 5) C₀.1.1 C₀.1.2.1 dX9_isBeside_78 (by decide) ?_
          exact ih5₀ d₀ (c₀ + 1) (by rw [exI_s i2₀.1, ← i1₀, jd₀]) (by omega) (by omega) _ _ _ hH₀ (lv_sub hl₀ [2, 3, 4, 1, 0] rfl)
        refine lv_iload_n C₀.1.1 C₀.1.2.1 dX9_isBeside_40 rfl (lv_at hl₀ 5 rfl) ?_
        refine xb_ne (tgt := 69) C₀.1.1 C₀.1.2.1 dX9_isBeside_41 (by decide) (fun h_2₀ => ?_) (fun h_2₀ => ?_)
        · refine lv_iconst (v := iI 1) C₀.1.1 C₀.1.2.1 dX9_isBeside_69 (by decide) ?_
          refine lv_goto (tgt := 74) C₀.1.1 C₀.1.2.1 dX9_isBeside_70 (by decide) ?_
          exact L74₀ true ((by unfold mBsX; rw [h_2₀, Bool.true_or])) _ _ _ hH₀ (lv_sub hl₀ [2, 3, 4, 5, 6, 1, 0] rfl)
        · refine lv_aload_n C₀.1.1 C₀.1.2.1 dX9_isBeside_44 rfl (lv_at hl₀ 2 rfl) ?_
          refine xw_get C₀ hH₀ 0 rfl rfl 17 (by decide) iw_X9_isBeside_X9 (by decide +kernel) (v := .ref (q₀ 17)) rfl dX9_isBeside_45 ?_
          refine lv_iload C₀.1.1 C₀.1.2.1 dX9_isBeside_48 (lv_at hl₀ 6 rfl) ?_
          refine xw_zld C₀ hH₀ 2 2 rfl rfl (z := c₀) (by omega) (by omega) (by decide) dX9_isBeside_50 ?_
          refine xi_zeq (tgt := 73) C₀.1.1 C₀.1.2.1 dX9_isBeside_51 (by decide) (by omega) (fun h_3₀ => ?_) (fun h_3₀ => ?_)
          · refine lv_iconst (v := iI 0) C₀.1.1 C₀.1.2.1 dX9_isBeside_73 (by decide) ?_
            exact L74₀ false ((by unfold mBsX; rw [h_2₀, Bool.false_or, decide_eq_false (by rintro ⟨q1₀, q2₀⟩; first | omega | (exact absurd q2₀ (by assumption)))])) _ _ _ hH₀ (lv_sub hl₀ [2, 3, 4, 5, 6, 1, 0] rfl)
          · refine lv_iload C₀.1.1 C₀.1.2.1 dX9_isBeside_54 (lv_at hl₀ 1 rfl) ?_
            refine lv_iload C₀.1.1 C₀.1.2.1 dX9_isBeside_56 (lv_at hl₀ 1 rfl) ?_
            refine xi_mul C₀.1.1 C₀.1.2.1 dX9_isBeside_58 ?_
            refine lv_iload C₀.1.1 C₀.1.2.1 dX9_isBeside_59 (lv_at hl₀ 0 rfl) ?_
            refine lv_iload C₀.1.1 C₀.1.2.1 dX9_isBeside_61 (lv_at hl₀ 0 rfl) ?_
            refine xi_mul C₀.1.1 C₀.1.2.1 dX9_isBeside_63 ?_
            refine xi_add C₀.1.1 C₀.1.2.1 dX9_isBeside_64 ?_
            have hq1₀ := sq_rg (z := x - c₀ % s₀ 0) (by omega)
            have hq2₀ := sq_rg (z := y₀ - c₀ / s₀ 0) (by omega)
            refine lv_iconst (v := iI 1) C₀.1.1 C₀.1.2.1 dX9_isBeside_65 (by decide) ?_
            refine xi_cne (tgt := 73) C₀.1.1 C₀.1.2.1 dX9_isBeside_66 (by decide) (by omega) (by omega) (fun h_4₀ => ?_) (fun h_4₀ => ?_)
            · refine lv_iconst (v := iI 0) C₀.1.1 C₀.1.2.1 dX9_isBeside_73 (by decide) ?_
              exact L74₀ false ((by unfold mBsX; rw [h_2₀, Bool.false_or, decide_eq_false (by rintro ⟨q1₀, q2₀⟩; first | omega | (exact absurd q2₀ (by assumption)))])) _ _ _ hH₀ (lv_sub hl₀ [2, 3, 4, 5, 6, 1, 0] rfl)
            · refine lv_iconst (v := iI 1) C₀.1.1 C₀.1.2.1 dX9_isBeside_69 (by decide) ?_
              refine lv_goto (tgt := 74) C₀.1.1 C₀.1.2.1 dX9_isBeside_70 (by decide) ?_
              exact L74₀ true ((by unfold mBsX; rw [h_2₀, Bool.false_or, decide_eq_true ⟨by omega, by assumption⟩])) _ _ _ hH₀ (lv_sub hl₀ [2, 3, 4, 5, 6, 1, 0] rfl)
  exact L5₀ (((s₀ 0 * s₀ 1 - 0) : Int).toNat + 1) false 0 (rfl) (by omega) (by omega) _ _ _ hH₀ (lv_sub hl₀ [2, 3, 4, 1, 0] rfl)
