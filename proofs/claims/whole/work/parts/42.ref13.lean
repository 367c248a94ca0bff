theorem iw_X9_tells_X9 : ∀ w₀ ∈ u_ws RX9 TX9 24, w₀ ∈ wsX9_tells := (fun w₀ h₀ => List.mem_cons_of_mem _ (List.mem_append_right _ h₀))
abbrev rmX9_tells : Room := { frames := 7, cells := 0, slots := 0, locals := 152 }
set_option maxHeartbeats 4000000 in
set_option maxRecDepth 100000 in
/-- tells -/
theorem c_X9_tells (lL₀ : Launch) (D₀ : va_G) (k₀ : Nat → ClassId) (sz₀ : Nat) (a₀ : Nat) (q₀ : Nat → Nat) (th₀ : Int) (un₀ : Int) (mf₀ : Int) (ty₀ : Int) (fr₀ : Int) (tt₀ : Int) (tk₀ : Int) (fa₀ : Int) (hf₀ : Bool) (ho₀ : Bool) (km₀ : Int) (s₀ : Int → Int) (pa₀ : Int → Int) (tx₀ : Int → Int) (dr₀ : Int → Int) (hty₀ : 0 ≤ ty₀ ∧ ty₀ ≤ 120) (htx₀ : ∀ j₀, 0 ≤ tx₀ j₀ ∧ tx₀ j₀ < 256) (hun₀ : 0 ≤ un₀ ∧ un₀ ≤ 6) : Met lL₀ yX9_tells wsX9_tells rmX9_tells (gPc ZT D₀ (tyk k₀) [.ref a₀] sz₀ [mO a₀ q₀ th₀ un₀ mf₀ ty₀ fr₀ tt₀ tk₀ fa₀ (bz hf₀) (bz ho₀) km₀, (q₀ 1, .inl (k₀ 0, 51, .inl (ia s₀))), (q₀ 3, .inl (k₀ 0, 306, .inl (ia pa₀))), (q₀ 9, .inl (k₀ 1, 120, .inl (by8 tx₀))), (q₀ 2, .inl (k₀ 0, 51, .inl (ia dr₀)))]) (gQi D₀ (tyk k₀) [mO a₀ q₀ th₀ un₀ mf₀ ty₀ fr₀ tt₀ tk₀ fa₀ (bz hf₀) (bz ho₀) km₀, (q₀ 1, .inl (k₀ 0, 51, .inl (ia s₀))), (q₀ 3, .inl (k₀ 0, 306, .inl (ia pa₀))), (q₀ 9, .inl (k₀ 1, 120, .inl (by8 tx₀))), (q₀ 2, .inl (k₀ 0, 51, .inl (ia dr₀)))] sz₀ (fun (u₀ : (Int) × (Int) × (Int → Int) × (Bool) × (Bool) × (Nat)) => match u₀ with | (f2₀, a2₀, d2₀, h2₀, o2₀, n9₀) => (∀ i₀, i₀ < n9₀ → pGo tx₀ ty₀ (pIt tx₀ ty₀ dr₀ i₀)) ∧ ¬ pGo tx₀ ty₀ (pIt tx₀ ty₀ dr₀ n9₀) ∧ d2₀ = (pIt tx₀ ty₀ dr₀ n9₀).2.2.1 ∧ (f2₀, a2₀) = pT tx₀ ty₀ ((pIt tx₀ ty₀ dr₀ n9₀).1, (pIt tx₀ ty₀ dr₀ n9₀).2.1) (decide (0 < (pIt tx₀ ty₀ dr₀ n9₀).2.2.1 1)) ∧ mD d2₀ ∧ pOk ty₀ (f2₀, a2₀)) (fun (u₀ : (Int) × (Int) × (Int → Int) × (Bool) × (Bool) × (Nat)) => match u₀ with | (f2₀, a2₀, d2₀, h2₀, o2₀, n9₀) => (iI (if a2₀ = -9 then (n9₀ : Int) else -10 - a2₀))) (fun (u₀ : (Int) × (Int) × (Int → Int) × (Bool) × (Bool) × (Nat)) => match u₀ with | (f2₀, a2₀, d2₀, h2₀, o2₀, n9₀) => [mO a₀ q₀ 0 (cond (decide (a2₀ = -9)) (mUn un₀) un₀) mf₀ (cond (decide (a2₀ = -9)) 0 ty₀) f2₀ (mTo tx₀ ty₀ f2₀) (mTk tx₀ ty₀ f2₀) a2₀ (bz h2₀) (bz o2₀) km₀, (q₀ 1, .inl (k₀ 0, 51, .inl (ia (cond (decide (a2₀ = -9)) (cpz d2₀ s₀ 0 0 51) s₀)))), (q₀ 3, .inl (k₀ 0, 306, .inl (ia (cond (decide (a2₀ = -9)) (mPa pa₀ s₀ un₀) pa₀)))), (q₀ 9, .inl (k₀ 1, 120, .inl (by8 tx₀))), (q₀ 2, .inl (k₀ 0, 51, .inl (ia d2₀)))])) 0 0 (va_A [mO a₀ q₀ th₀ un₀ mf₀ ty₀ fr₀ tt₀ tk₀ fa₀ (bz hf₀) (bz ho₀) km₀, (q₀ 1, .inl (k₀ 0, 51, .inl (ia s₀))), (q₀ 3, .inl (k₀ 0, 306, .inl (ia pa₀))), (q₀ 9, .inl (k₀ 1, 120, .inl (by8 tx₀))), (q₀ 2, .inl (k₀ 0, 51, .inl (ia dr₀)))] sz₀) := by
  refine xs_met (cc := cX9_tells) (maxL := 3) (ret := some .int) (by decide) rfl (Nat.le_of_ble_eq_true rfl) ?_
  intro pP₀ eN₀ sT₀ mI₀ below₀ meth₀ cD₀ hsz₀ args₀ QQ₀ C₀ hr₀ hlk₀ hnm₀ hQ₀ ls₀ H₀ locs₀ hl₀ hH₀
  subst hsz₀
  have hl₀ : lv_has ls₀ 3 [(0, .ref a₀)] := hl₀
  generalize hAe₀ : va_A [mO a₀ q₀ th₀ un₀ mf₀ ty₀ fr₀ tt₀ tk₀ fa₀ (bz hf₀) (bz ho₀) km₀, (q₀ 1, .inl (k₀ 0, 51, .inl (ia s₀))), (q₀ 3, .inl (k₀ 0, 306, .inl (ia pa₀))), (q₀ 9, .inl (k₀ 1, 120, .inl (by8 tx₀))), (q₀ 2, .inl (k₀ 0, 51, .inl (ia dr₀)))] sT₀.heap.size = A₀ at C₀ hH₀ hQ₀
  refine lv_aload_n C₀.1.1 C₀.1.2.1 dX9_tells_0 rfl (lv_at hl₀ 0 rfl) ?_
  refine lv_iconst (v := iI 0) C₀.1.1 C₀.1.2.1 dX9_tells_1 (by decide) ?_
  refine xw_put (ws' := [mO a₀ q₀ 0 un₀ mf₀ ty₀ fr₀ tt₀ tk₀ fa₀ (bz hf₀) (bz ho₀) km₀, (q₀ 1, .inl (k₀ 0, 51, .inl (ia s₀))), (q₀ 3, .inl (k₀ 0, 306, .inl (ia pa₀))), (q₀ 9, .inl (k₀ 1, 120, .inl (by8 tx₀))), (q₀ 2, .inl (k₀ 0, 51, .inl (ia dr₀)))]) (v := .int (iI 0)) C₀ hH₀ 0 rfl rfl tyX9 tyX9_ok nmX9 0 (by decide) iw_X9_tells_X9 (by decide +kernel) rfl rfl rfl (Nat.le_of_ble_eq_true rfl) dX9_tells_2 rfl (fun H₀ locs₀ hH₀ => ?_)
  refine lv_aload_n C₀.1.1 C₀.1.2.1 dX9_tells_5 rfl (lv_at hl₀ 0 rfl) ?_
  refine xc_Vi (wr := [(q₀ 1, .inl (k₀ 0, 51, .inl (ia s₀))), (q₀ 3, .inl (k₀ 0, 306, .inl (ia pa₀)))]) (ws' := fun ⟨f2_1₀, a2_2₀, d2_3₀, h2_4₀, o2_5₀, n9_6₀⟩ => [mO a₀ q₀ 0 un₀ mf₀ ty₀ f2_1₀ (mTo tx₀ ty₀ f2_1₀) (mTk tx₀ ty₀ f2_1₀) a2_2₀ (bz h2_4₀) (bz o2_5₀) km₀, (q₀ 1, .inl (k₀ 0, 51, .inl (ia s₀))), (q₀ 3, .inl (k₀ 0, 306, .inl (ia pa₀))), (q₀ 9, .inl (k₀ 1, 120, .inl (by8 tx₀))), (q₀ 2, .inl (k₀ 0, 51, .inl (ia d2_3₀)))]) (As := []) (rest := []) C₀ hH₀ (c_X9_reads lL₀ D₀ k₀ H₀.size a₀ q₀ 0 un₀ mf₀ ty₀ fr₀ tt₀ tk₀ fa₀ hf₀ ho₀ km₀ tx₀ dr₀ (by omega) (htx₀)) ZT_b (fun _ _ _ => trivial) (cwV 0 C₀.1.2.2.2.2 gX9_tells_X9_reads rfl rfl rfl (by decide +kernel) ⟨Nat.le_of_ble_eq_true rfl, Nat.le_of_ble_eq_true rfl⟩) [0, 3, 4] [1, 2] [2, 0, 1, 3, 4] rfl rfl (by decide) (by decide) (by decide) (fun _ => rfl) (by decide) (q0 := 0) rfl rfl rfl hl₀.1 rfl (Nat.le_of_ble_eq_true rfl) dX9_tells_6 ⟨Nat.le_of_ble_eq_true rfl, Nat.le_of_ble_eq_true rfl⟩ (fun ⟨f2_1₀, a2_2₀, d2_3₀, h2_4₀, o2_5₀, n9_6₀⟩ hu₀ H₀ locs₀ hH₀ => ?_)
  have hq2₀ := hu₀.2.2.2.2.2.2
  dsimp only at hq2₀
  refine lv_istore_n (lv' := [(1, .int (iI (n9_6₀ : Int))), (0, .ref a₀)]) C₀.1.1 C₀.1.2.1 dX9_tells_9 rfl hl₀ (by decide) rfl (fun ls₀ hl₀ => ?_)
  refine lv_aload_n C₀.1.1 C₀.1.2.1 dX9_tells_10 rfl (lv_at hl₀ 1 rfl) ?_
  refine xw_get C₀ hH₀ 0 rfl rfl 14 (by decide) iw_X9_tells_X9 (by decide +kernel) (v := .int (iI a2_2₀)) rfl dX9_tells_11 ?_
  refine lv_bipush (v := iI (-9)) C₀.1.1 C₀.1.2.1 dX9_tells_14 (by decide) ?_
  refine xi_ceq (tgt := 27) C₀.1.1 C₀.1.2.1 dX9_tells_16 (by decide) (by omega) (by omega) (fun h_7₀ => ?_) (fun h_7₀ => ?_)
  · refine lv_aload_n C₀.1.1 C₀.1.2.1 dX9_tells_27 rfl (lv_at hl₀ 1 rfl) ?_
    refine xc_Vv (wr := [(q₀ 9, .inl (k₀ 1, 120, .inl (by8 tx₀))), (q₀ 2, .inl (k₀ 0, 51, .inl (ia d2_3₀)))]) (ws' := fun _ => [mO a₀ q₀ 0 (mUn un₀) mf₀ ty₀ f2_1₀ (mTo tx₀ ty₀ f2_1₀) (mTk tx₀ ty₀ f2_1₀) a2_2₀ (bz h2_4₀) (bz o2_5₀) km₀, (q₀ 1, .inl (k₀ 0, 51, .inl (ia s₀))), (q₀ 3, .inl (k₀ 0, 306, .inl (ia (mPa pa₀ s₀ un₀)))), (q₀ 9, .inl (k₀ 1, 120, .inl (by8 tx₀))), (q₀ 2, .inl (k₀ 0, 51, .inl (ia d2_3₀)))]) (As := []) (rest := []) C₀ hH₀ (c_X9_notes lL₀ D₀ k₀ H₀.size a₀ q₀ 0 un₀ mf₀ ty₀ f2_1₀ (mTo tx₀ ty₀ f2_1₀) (mTk tx₀ ty₀ f2_1₀) a2_2₀ h2_4₀ o2_5₀ km₀ s₀ pa₀ (by omega)) ZT_b (fun _ _ _ => trivial) (cwV 0 C₀.1.2.2.2.2 gX9_tells_X9_notes rfl rfl rfl (by decide +kernel) ⟨Nat.le_of_ble_eq_true rfl, Nat.le_of_ble_eq_true rfl⟩) [0, 1, 2] [3, 4] [2, 3, 4, 0, 1] rfl rfl (by decide) (by decide) (by decide) (fun _ => rfl) (by decide) (q0 := 0) rfl rfl rfl hl₀.1 rfl (Nat.le_of_ble_eq_true rfl) dX9_tells_28 ⟨Nat.le_of_ble_eq_true rfl, Nat.le_of_ble_eq_true rfl⟩ (fun _ _ H₀ locs₀ hH₀ => ?_)
    refine lv_iconst (v := iI 0) C₀.1.1 C₀.1.2.1 dX9_tells_31 (by decide) ?_
    refine lv_istore_n (lv' := [(2, .int (iI 0)), (1, .int (iI (n9_6₀ : Int))), (0, .ref a₀)]) C₀.1.1 C₀.1.2.1 dX9_tells_32 rfl hl₀ (by decide) rfl (fun ls₀ hl₀ => ?_)
    have L33₀ : ∀ (nn₀ : Nat), ∀ (c₀ : Int) (sq₀ : Int → Int), (sq₀ = cpz d2_3₀ s₀ 0 0 c₀) → (0 ≤ c₀ ∧ c₀ ≤ 51) → ((51 - c₀) < (nn₀ : Int)) → ∀ (H₀ : Heap) (locs₀ : List Loc) (ls₀ : Array Slot), Hp D₀ A₀ sT₀.heap [mO a₀ q₀ 0 (mUn un₀) mf₀ ty₀ f2_1₀ (mTo tx₀ ty₀ f2_1₀) (mTk tx₀ ty₀ f2_1₀) a2_2₀ (bz h2_4₀) (bz o2_5₀) km₀, (q₀ 1, .inl (k₀ 0, 51, .inl (ia sq₀))), (q₀ 3, .inl (k₀ 0, 306, .inl (ia (mPa pa₀ s₀ un₀)))), (q₀ 9, .inl (k₀ 1, 120, .inl (by8 tx₀))), (q₀ 2, .inl (k₀ 0, 51, .inl (ia d2_3₀)))] H₀ locs₀ → lv_has ls₀ 3 [(0, .ref a₀), (1, .int (iI (n9_6₀ : Int))), (2, .int (iI c₀))] → W pP₀ lL₀ eN₀ rmX9_tells sT₀ mI₀ args₀ below₀ meth₀ cD₀ H₀ locs₀ 0 0 QQ₀ (F0 mI₀ 33 ls₀ []) := by
      intro nn₀
      induction nn₀ with
      | zero => intro c₀ sq₀ i1₀ i2₀ hm₀; exact absurd hm₀ (by omega)
      | succ nn₀ ih33₀ =>
        intro c₀ sq₀ i1₀ i2₀ hm33₀ H₀ locs₀ ls₀ hH₀ hl₀
        refine lv_iload_n C₀.1.1 C₀.1.2.1 dX9_tells_33 rfl (lv_at hl₀ 2 rfl) ?_
        refine lv_bipush (v := iI 51) C₀.1.1 C₀.1.2.1 dX9_tells_34 (by decide) ?_
        refine xi_cge (tgt := 57) C₀.1.1 C₀.1.2.1 dX9_tells_36 (by decide) (by omega) (by omega) (fun h_8₀ => ?_) (fun h_8₀ => ?_)
        · have ec₀ : c₀ = 51 := by omega
          subst ec₀
          refine lv_aload_n C₀.1.1 C₀.1.2.1 dX9_tells_57 rfl (lv_at hl₀ 0 rfl) ?_
          refine lv_iconst (v := iI 0) C₀.1.1 C₀.1.2.1 dX9_tells_58 (by decide) ?_
          refine xw_put (ws' := [mO a₀ q₀ 0 (mUn un₀) mf₀ 0 f2_1₀ (mTo tx₀ ty₀ f2_1₀) (mTk tx₀ ty₀ f2_1₀) a2_2₀ (bz h2_4₀) (bz o2_5₀) km₀, (q₀ 1, .inl (k₀ 0, 51, .inl (ia sq₀))), (q₀ 3, .inl (k₀ 0, 306, .inl (ia (mPa pa₀ s₀ un₀)))), (q₀ 9, .inl (k₀ 1, 120, .inl (by8 tx₀))), (q₀ 2, .inl (k₀ 0, 51, .inl (ia d2_3₀)))]) (v := .int (iI 0)) C₀ hH₀ 0 rfl rfl tyX9 tyX9_ok nmX9 10 (by decide) iw_X9_tells_X9 (by decide +kernel) rfl rfl rfl (Nat.le_of_ble_eq_true rfl) dX9_tells_59 rfl (fun H₀ locs₀ hH₀ => ?_)
          refine lv_iload_n C₀.1.1 C₀.1.2.1 dX9_tells_62 rfl (lv_at hl₀ 1 rfl) ?_
          exact xr_i C₀ hH₀ hlk₀ hr₀ hQ₀ rfl hAe₀ (f2_1₀, a2_2₀, d2_3₀, h2_4₀, o2_5₀, n9_6₀) hu₀ (by dsimp only; rw [if_pos (by omega)]) (by dsimp only; rw [decide_eq_true (by omega), i1₀]; rfl) dX9_tells_63
        · refine lv_aload_n C₀.1.1 C₀.1.2.1 dX9_tells_39 rfl (lv_at hl₀ 0 rfl) ?_
          refine xw_get C₀ hH₀ 0 rfl rfl 1 (by decide) iw_X9_tells_X9 (by decide +kernel) (v := .ref (q₀ 1)) rfl dX9_tells_40 ?_
          refine lv_iload_n C₀.1.1 C₀.1.2.1 dX9_tells_43 rfl (lv_at hl₀ 2 rfl) ?_
          refine lv_aload_n C₀.1.1 C₀.1.2.1 dX9_tells_44 rfl (lv_at hl₀ 0 rfl) ?_
          refine xw_get C₀ hH₀ 0 rfl rfl 2 (by decide) iw_X9_tells_X9 (by decide +kernel) (v := .ref (q₀ 2)) rfl dX9_tells_45 ?_
          refine lv_iload_n C₀.1.1 C₀.1.2.1 dX9_tells_48 rfl (lv_at hl₀ 2 rfl) ?_
          refine xw_ild C₀ hH₀ 4 0 rfl rfl (z := c₀) (by omega) (by omega) (by decide) dX9_tells_49 ?_
          refine xw_ist (ws' := [mO a₀ q₀ 0 (mUn un₀) mf₀ ty₀ f2_1₀ (mTo tx₀ ty₀ f2_1₀) (mTk tx₀ ty₀ f2_1₀) a2_2₀ (bz h2_4₀) (bz o2_5₀) km₀, (q₀ 1, .inl (k₀ 0, 51, .inl (ia (uz sq₀ c₀ (d2_3₀ c₀))))), (q₀ 3, .inl (k₀ 0, 306, .inl (ia (mPa pa₀ s₀ un₀)))), (q₀ 9, .inl (k₀ 1, 120, .inl (by8 tx₀))), (q₀ 2, .inl (k₀ 0, 51, .inl (ia d2_3₀)))]) C₀ hH₀ 1 0 rfl rfl (z := c₀) (v := d2_3₀ c₀) (by omega) (by omega) (by decide) dX9_tells_50 rfl (fun H₀ locs₀ hH₀ => ?_)
          refine lv_iinc (v := iI (c₀ + 1)) (lv' := [(2, .int (iI (c₀ + 1))), (0, .ref a₀), (1, .int (iI (n9_6₀ : Int)))]) C₀.1.1 C₀.1.2.1 dX9_tells_51 hl₀ (k := 2) rfl (iI_add _ (1)) (by decide) rfl (fun ls₀ hl₀ => ?_)
          refine lv_goto (tgt := 33) C₀.1.1 C₀.1.2.1 dX9_tells_54 (by decide) ?_
          exact ih33₀ (c₀ + 1) (uz sq₀ c₀ (d2_3₀ c₀)) (by rw [i1₀]; exact cpz_s (by omega) (by omega) (by first | rfl | (congr 1; omega))) (by omega) (by omega) _ _ _ hH₀ (lv_sub hl₀ [1, 2, 0] rfl)
    exact L33₀ (((51 - 0) : Int).toNat + 1) 0 s₀ ((cpz_0 _ _ _ _).symm) (by omega) (by omega) _ _ _ hH₀ (lv_sub hl₀ [2, 1, 0] rfl)
  · refine lv_bipush (v := iI (-10)) C₀.1.1 C₀.1.2.1 dX9_tells_19 (by decide) ?_
    refine lv_aload_n C₀.1.1 C₀.1.2.1 dX9_tells_21 rfl (lv_at hl₀ 1 rfl) ?_
    refine xw_get C₀ hH₀ 0 rfl rfl 14 (by decide) iw_X9_tells_X9 (by decide +kernel) (v := .int (iI a2_2₀)) rfl dX9_tells_22 ?_
    refine xi_sub C₀.1.1 C₀.1.2.1 dX9_tells_25 ?_
    exact xr_i C₀ hH₀ hlk₀ hr₀ hQ₀ rfl hAe₀ (f2_1₀, a2_2₀, d2_3₀, h2_4₀, o2_5₀, n9_6₀) hu₀ (by dsimp only; rw [if_neg (by omega)]) (by dsimp only; rw [decide_eq_false (by omega)]; rfl) dX9_tells_26
