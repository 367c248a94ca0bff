theorem iw_X9_reads_X9 : ∀ w₀ ∈ u_ws RX9 TX9 24, w₀ ∈ wsX9_reads := (fun w₀ h₀ => List.mem_cons_of_mem _ (List.mem_append_right _ h₀))
abbrev rmX9_reads : Room := { frames := 6, cells := 0, slots := 0, locals := 131 }
set_option maxHeartbeats 4000000 in
set_option maxRecDepth 100000 in
/-- reads -/
theorem c_X9_reads (lL₀ : Launch) (D₀ : va_G) (k₀ : Nat → ClassId) (sz₀ : Nat) (a₀ : Nat) (q₀ : Nat → Nat) (th₀ : Int) (un₀ : Int) (mf₀ : Int) (ty₀ : Int) (fr₀ : Int) (tt₀ : Int) (tk₀ : Int) (fa₀ : Int) (hf₀ : Bool) (ho₀ : Bool) (km₀ : Int) (tx₀ : Int → Int) (dr₀ : Int → Int) (hty₀ : 0 ≤ ty₀ ∧ ty₀ ≤ 120) (htx₀ : ∀ j₀, 0 ≤ tx₀ j₀ ∧ tx₀ j₀ < 256) : Met lL₀ yX9_reads wsX9_reads rmX9_reads (gPc ZT D₀ (tyk k₀) [.ref a₀] sz₀ [mO a₀ q₀ th₀ un₀ mf₀ ty₀ fr₀ tt₀ tk₀ fa₀ (bz hf₀) (bz ho₀) km₀, (q₀ 9, .inl (k₀ 1, 120, .inl (by8 tx₀))), (q₀ 2, .inl (k₀ 0, 51, .inl (ia dr₀)))]) (gQi D₀ (tyk k₀) [mO a₀ q₀ th₀ un₀ mf₀ ty₀ fr₀ tt₀ tk₀ fa₀ (bz hf₀) (bz ho₀) km₀, (q₀ 9, .inl (k₀ 1, 120, .inl (by8 tx₀))), (q₀ 2, .inl (k₀ 0, 51, .inl (ia dr₀)))] sz₀ (fun (u₀ : (Int) × (Int) × (Int → Int) × (Bool) × (Bool) × (Nat)) => match u₀ with | (f2₀, a2₀, d2₀, h2₀, o2₀, n9₀) => (∀ i₀, i₀ < n9₀ → pGo tx₀ ty₀ (pIt tx₀ ty₀ dr₀ i₀)) ∧ ¬ pGo tx₀ ty₀ (pIt tx₀ ty₀ dr₀ n9₀) ∧ d2₀ = (pIt tx₀ ty₀ dr₀ n9₀).2.2.1 ∧ (f2₀, a2₀) = pT tx₀ ty₀ ((pIt tx₀ ty₀ dr₀ n9₀).1, (pIt tx₀ ty₀ dr₀ n9₀).2.1) (decide (0 < (pIt tx₀ ty₀ dr₀ n9₀).2.2.1 1)) ∧ mD d2₀ ∧ pOk ty₀ (f2₀, a2₀)) (fun (u₀ : (Int) × (Int) × (Int → Int) × (Bool) × (Bool) × (Nat)) => match u₀ with | (f2₀, a2₀, d2₀, h2₀, o2₀, n9₀) => (iI (n9₀ : Int))) (fun (u₀ : (Int) × (Int) × (Int → Int) × (Bool) × (Bool) × (Nat)) => match u₀ with | (f2₀, a2₀, d2₀, h2₀, o2₀, n9₀) => [mO a₀ q₀ th₀ un₀ mf₀ ty₀ f2₀ (mTo tx₀ ty₀ f2₀) (mTk tx₀ ty₀ f2₀) a2₀ (bz h2₀) (bz o2₀) km₀, (q₀ 9, .inl (k₀ 1, 120, .inl (by8 tx₀))), (q₀ 2, .inl (k₀ 0, 51, .inl (ia d2₀)))])) 0 0 (va_A [mO a₀ q₀ th₀ un₀ mf₀ ty₀ fr₀ tt₀ tk₀ fa₀ (bz hf₀) (bz ho₀) km₀, (q₀ 9, .inl (k₀ 1, 120, .inl (by8 tx₀))), (q₀ 2, .inl (k₀ 0, 51, .inl (ia dr₀)))] sz₀) := by
  refine xs_met (cc := cX9_reads) (maxL := 2) (ret := some .int) (by decide) rfl (Nat.le_of_ble_eq_true rfl) ?_
  intro pP₀ eN₀ sT₀ mI₀ below₀ meth₀ cD₀ hsz₀ args₀ QQ₀ C₀ hr₀ hlk₀ hnm₀ hQ₀ ls₀ H₀ locs₀ hl₀ hH₀
  subst hsz₀
  have hl₀ : lv_has ls₀ 2 [(0, .ref a₀)] := hl₀
  generalize hAe₀ : va_A [mO a₀ q₀ th₀ un₀ mf₀ ty₀ fr₀ tt₀ tk₀ fa₀ (bz hf₀) (bz ho₀) km₀, (q₀ 9, .inl (k₀ 1, 120, .inl (by8 tx₀))), (q₀ 2, .inl (k₀ 0, 51, .inl (ia dr₀)))] sT₀.heap.size = A₀ at C₀ hH₀ hQ₀
  refine lv_iconst (v := iI 0) C₀.1.1 C₀.1.2.1 dX9_reads_0 (by decide) ?_
  refine lv_istore_n (lv' := [(1, .int (iI 0)), (0, .ref a₀)]) C₀.1.1 C₀.1.2.1 dX9_reads_1 rfl hl₀ (by decide) rfl (fun ls₀ hl₀ => ?_)
  have L2₀ : ∀ (nn₀ : Nat), ∀ (c₀ : Int) (dp₀ : Int → Int), (dp₀ = cpz (fun _ => 0) dr₀ 0 0 c₀) → (0 ≤ c₀ ∧ c₀ ≤ 51) → ((51 - c₀) < (nn₀ : Int)) → ∀ (H₀ : Heap) (locs₀ : List Loc) (ls₀ : Array Slot), Hp D₀ A₀ sT₀.heap [mO a₀ q₀ th₀ un₀ mf₀ ty₀ fr₀ tt₀ tk₀ fa₀ (bz hf₀) (bz ho₀) km₀, (q₀ 9, .inl (k₀ 1, 120, .inl (by8 tx₀))), (q₀ 2, .inl (k₀ 0, 51, .inl (ia dp₀)))] H₀ locs₀ → lv_has ls₀ 2 [(0, .ref a₀), (1, .int (iI c₀))] → W pP₀ lL₀ eN₀ rmX9_reads sT₀ mI₀ args₀ below₀ meth₀ cD₀ H₀ locs₀ 0 0 QQ₀ (F0 mI₀ 2 ls₀ []) := by
    intro nn₀
    induction nn₀ with
    | zero => intro c₀ dp₀ a1₀ a2₀ hm₀; exact absurd hm₀ (by omega)
    | succ nn₀ ih2₀ =>
      intro c₀ dp₀ a1₀ a2₀ hm2₀ H₀ locs₀ ls₀ hH₀ hl₀
      refine lv_iload_n C₀.1.1 C₀.1.2.1 dX9_reads_2 rfl (lv_at hl₀ 1 rfl) ?_
      refine lv_bipush (v := iI 51) C₀.1.1 C₀.1.2.1 dX9_reads_3 (by decide) ?_
      refine xi_cge (tgt := 21) C₀.1.1 C₀.1.2.1 dX9_reads_5 (by decide) (by omega) (by omega) (fun h_1₀ => ?_) (fun h_1₀ => ?_)
      · refine lv_aload_n C₀.1.1 C₀.1.2.1 dX9_reads_21 rfl (lv_at hl₀ 0 rfl) ?_
        refine xw_get C₀ hH₀ 0 rfl rfl 2 (by decide) iw_X9_reads_X9 (by decide +kernel) (v := .ref (q₀ 2)) rfl dX9_reads_22 ?_
        refine lv_iconst (v := iI 2) C₀.1.1 C₀.1.2.1 dX9_reads_25 (by decide) ?_
        refine lv_bipush (v := iI (-9)) C₀.1.1 C₀.1.2.1 dX9_reads_26 (by decide) ?_
        refine xw_ist (ws' := [mO a₀ q₀ th₀ un₀ mf₀ ty₀ fr₀ tt₀ tk₀ fa₀ (bz hf₀) (bz ho₀) km₀, (q₀ 9, .inl (k₀ 1, 120, .inl (by8 tx₀))), (q₀ 2, .inl (k₀ 0, 51, .inl (ia (uz dp₀ 2 (-9)))))]) C₀ hH₀ 2 0 rfl rfl (z := 2) (v := (-9)) (by omega) (by omega) (by decide) dX9_reads_28 rfl (fun H₀ locs₀ hH₀ => ?_)
        refine lv_aload_n C₀.1.1 C₀.1.2.1 dX9_reads_29 rfl (lv_at hl₀ 0 rfl) ?_
        refine lv_iconst (v := iI 0) C₀.1.1 C₀.1.2.1 dX9_reads_30 (by decide) ?_
        refine xw_put (ws' := [mO a₀ q₀ th₀ un₀ mf₀ ty₀ fr₀ tt₀ tk₀ fa₀ 0 (bz ho₀) km₀, (q₀ 9, .inl (k₀ 1, 120, .inl (by8 tx₀))), (q₀ 2, .inl (k₀ 0, 51, .inl (ia (uz dp₀ 2 (-9)))))]) (v := .int (iI 0)) C₀ hH₀ 0 rfl rfl tyX9 tyX9_ok nmX9 15 (by decide) iw_X9_reads_X9 (by decide +kernel) rfl rfl rfl (Nat.le_of_ble_eq_true rfl) dX9_reads_31 rfl (fun H₀ locs₀ hH₀ => ?_)
        refine lv_aload_n C₀.1.1 C₀.1.2.1 dX9_reads_34 rfl (lv_at hl₀ 0 rfl) ?_
        refine lv_iconst (v := iI 0) C₀.1.1 C₀.1.2.1 dX9_reads_35 (by decide) ?_
        refine xw_put (ws' := [mO a₀ q₀ th₀ un₀ mf₀ ty₀ fr₀ tt₀ tk₀ fa₀ 0 0 km₀, (q₀ 9, .inl (k₀ 1, 120, .inl (by8 tx₀))), (q₀ 2, .inl (k₀ 0, 51, .inl (ia (uz dp₀ 2 (-9)))))]) (v := .int (iI 0)) C₀ hH₀ 0 rfl rfl tyX9 tyX9_ok nmX9 16 (by decide) iw_X9_reads_X9 (by decide +kernel) rfl rfl rfl (Nat.le_of_ble_eq_true rfl) dX9_reads_36 rfl (fun H₀ locs₀ hH₀ => ?_)
        refine lv_aload_n C₀.1.1 C₀.1.2.1 dX9_reads_39 rfl (lv_at hl₀ 0 rfl) ?_
        refine lv_bipush (v := iI (-9)) C₀.1.1 C₀.1.2.1 dX9_reads_40 (by decide) ?_
        refine xw_put (ws' := [mO a₀ q₀ th₀ un₀ mf₀ ty₀ fr₀ tt₀ tk₀ (-9) 0 0 km₀, (q₀ 9, .inl (k₀ 1, 120, .inl (by8 tx₀))), (q₀ 2, .inl (k₀ 0, 51, .inl (ia (uz dp₀ 2 (-9)))))]) (v := .int (iI (-9))) C₀ hH₀ 0 rfl rfl tyX9 tyX9_ok nmX9 14 (by decide) iw_X9_reads_X9 (by decide +kernel) rfl rfl rfl (Nat.le_of_ble_eq_true rfl) dX9_reads_42 rfl (fun H₀ locs₀ hH₀ => ?_)
        have hsk₀ := mSkip_rg (tx := tx₀) (ty := ty₀) (p := 0) (by omega)
        refine lv_aload_n C₀.1.1 C₀.1.2.1 dX9_reads_45 rfl (lv_at hl₀ 0 rfl) ?_
        refine lv_iconst (v := iI 0) C₀.1.1 C₀.1.2.1 dX9_reads_46 (by decide) ?_
        refine xw_put (ws' := [mO a₀ q₀ th₀ un₀ mf₀ ty₀ fr₀ 0 tk₀ (-9) 0 0 km₀, (q₀ 9, .inl (k₀ 1, 120, .inl (by8 tx₀))), (q₀ 2, .inl (k₀ 0, 51, .inl (ia (uz dp₀ 2 (-9)))))]) (v := .int (iI 0)) C₀ hH₀ 0 rfl rfl tyX9 tyX9_ok nmX9 12 (by decide) iw_X9_reads_X9 (by decide +kernel) rfl rfl rfl (Nat.le_of_ble_eq_true rfl) dX9_reads_47 rfl (fun H₀ locs₀ hH₀ => ?_)
        refine lv_aload_n C₀.1.1 C₀.1.2.1 dX9_reads_50 rfl (lv_at hl₀ 0 rfl) ?_
        refine xc_Vv (wr := [(q₀ 2, .inl (k₀ 0, 51, .inl (ia (uz dp₀ 2 (-9)))))]) (ws' := fun _ => [mO a₀ q₀ th₀ un₀ mf₀ ty₀ (mSkip tx₀ ty₀ 0) (mTo tx₀ ty₀ (mSkip tx₀ ty₀ 0)) (mTk tx₀ ty₀ (mSkip tx₀ ty₀ 0)) (-9) 0 0 km₀, (q₀ 9, .inl (k₀ 1, 120, .inl (by8 tx₀))), (q₀ 2, .inl (k₀ 0, 51, .inl (ia (uz dp₀ 2 (-9)))))]) (As := []) (rest := []) C₀ hH₀ (c_X9_steps lL₀ D₀ k₀ H₀.size a₀ q₀ th₀ un₀ mf₀ ty₀ fr₀ 0 tk₀ (-9) false false km₀ tx₀ (by omega) (htx₀) (by omega)) ZT_b (fun _ _ _ => trivial) (cwV 0 C₀.1.2.2.2.2 gX9_reads_X9_steps rfl rfl rfl (by decide +kernel) ⟨Nat.le_of_ble_eq_true rfl, Nat.le_of_ble_eq_true rfl⟩) [0, 1] [2] [1, 2, 0] rfl rfl (by decide) (by decide) (by decide) (fun _ => rfl) (by decide) (q0 := 0) rfl rfl rfl hl₀.1 rfl (Nat.le_of_ble_eq_true rfl) dX9_reads_51 ⟨Nat.le_of_ble_eq_true rfl, Nat.le_of_ble_eq_true rfl⟩ (fun _ _ H₀ locs₀ hH₀ => ?_)
        refine lv_iconst (v := iI 0) C₀.1.1 C₀.1.2.1 dX9_reads_54 (by decide) ?_
        refine lv_istore_n (lv' := [(1, .int (iI 0)), (0, .ref a₀)]) C₀.1.1 C₀.1.2.1 dX9_reads_55 rfl hl₀ (by decide) rfl (fun ls₀ hl₀ => ?_)
        have L56₀ : ∀ (nn₀ : Nat), ∀ (it₀ : Int) (f₀ : Int) (fq₀ : Int) (hq₀ : Bool) (oq₀ : Bool) (dq₀ : Int → Int) (nq₀ : Nat), ((f₀, fq₀, dq₀, hq₀, oq₀) = pIt tx₀ ty₀ dr₀ nq₀) → (it₀ = (nq₀ : Int)) → (pOk ty₀ (f₀, fq₀)) → (mD dq₀) → (∀ i₀, i₀ < nq₀ → pGo tx₀ ty₀ (pIt tx₀ ty₀ dr₀ i₀)) → ((if fq₀ = -9 then ty₀ - f₀ + 1 else 0) < (nn₀ : Int)) → ∀ (H₀ : Heap) (locs₀ : List Loc) (ls₀ : Array Slot), Hp D₀ A₀ sT₀.heap [mO a₀ q₀ th₀ un₀ mf₀ ty₀ f₀ (mTo tx₀ ty₀ f₀) (mTk tx₀ ty₀ f₀) fq₀ (bz hq₀) (bz oq₀) km₀, (q₀ 9, .inl (k₀ 1, 120, .inl (by8 tx₀))), (q₀ 2, .inl (k₀ 0, 51, .inl (ia dq₀)))] H₀ locs₀ → lv_has ls₀ 2 [(0, .ref a₀), (1, .int (iI it₀))] → W pP₀ lL₀ eN₀ rmX9_reads sT₀ mI₀ args₀ below₀ meth₀ cD₀ H₀ locs₀ 0 0 QQ₀ (F0 mI₀ 56 ls₀ []) := by
          intro nn₀
          induction nn₀ with
          | zero => intro it₀ f₀ fq₀ hq₀ oq₀ dq₀ nq₀ i1₀ i2₀ i3₀ i4₀ i5₀ hm₀; exact absurd hm₀ (by exfalso; have q1₀ := i3₀.1; dsimp only at q1₀; split at hm₀ <;> omega)
          | succ nn₀ ih56₀ =>
            intro it₀ f₀ fq₀ hq₀ oq₀ dq₀ nq₀ i1₀ i2₀ i3₀ i4₀ i5₀ hm56₀ H₀ locs₀ ls₀ hH₀ hl₀
            obtain ⟨i3a₀, i3b₀⟩ := id i3₀
            dsimp only at i3a₀ i3b₀
            have hkr₀ := mTk_rg (tx := tx₀) (ty := ty₀) (f := f₀)
            have L145₀ : (¬ (fq₀ = -9 ∧ mTk tx₀ ty₀ f₀ ≠ 0)) → ∀ (H₀ : Heap) (locs₀ : List Loc) (ls₀ : Array Slot), Hp D₀ A₀ sT₀.heap [mO a₀ q₀ th₀ un₀ mf₀ ty₀ f₀ (mTo tx₀ ty₀ f₀) (mTk tx₀ ty₀ f₀) fq₀ (bz hq₀) (bz oq₀) km₀, (q₀ 9, .inl (k₀ 1, 120, .inl (by8 tx₀))), (q₀ 2, .inl (k₀ 0, 51, .inl (ia dq₀)))] H₀ locs₀ → lv_has ls₀ 2 [(0, .ref a₀), (1, .int (iI it₀))] → W pP₀ lL₀ eN₀ rmX9_reads sT₀ mI₀ args₀ below₀ meth₀ cD₀ H₀ locs₀ 0 0 QQ₀ (F0 mI₀ 145 ls₀ []) := by
              intro  hx₀ H₀ locs₀ ls₀ hH₀ hl₀
              refine lv_aload_n C₀.1.1 C₀.1.2.1 dX9_reads_145 rfl (lv_at hl₀ 0 rfl) ?_
              have hd1₀ := i4₀.2.1
              have L160₀ : ∀ (b6₀ : Bool), (b6₀ = decide (0 < dq₀ 1)) → ∀ (H₀ : Heap) (locs₀ : List Loc) (ls₀ : Array Slot), Hp D₀ A₀ sT₀.heap [mO a₀ q₀ th₀ un₀ mf₀ ty₀ f₀ (mTo tx₀ ty₀ f₀) (mTk tx₀ ty₀ f₀) fq₀ (bz hq₀) (bz oq₀) km₀, (q₀ 9, .inl (k₀ 1, 120, .inl (by8 tx₀))), (q₀ 2, .inl (k₀ 0, 51, .inl (ia dq₀)))] H₀ locs₀ → lv_has ls₀ 2 [(0, .ref a₀), (1, .int (iI it₀))] → W pP₀ lL₀ eN₀ rmX9_reads sT₀ mI₀ args₀ below₀ meth₀ cD₀ H₀ locs₀ 0 0 QQ₀ (F0 mI₀ 160 ls₀ [.int (iI (bz b6₀)), .ref a₀]) := by
                intro b6₀ jb6₀ H₀ locs₀ ls₀ hH₀ hl₀
                refine xc_Vv (wr := [(q₀ 2, .inl (k₀ 0, 51, .inl (ia dq₀)))]) (ws' := fun ⟨f2_2₀, a2_3₀⟩ => [mO a₀ q₀ th₀ un₀ mf₀ ty₀ f2_2₀ (mTo tx₀ ty₀ f2_2₀) (mTk tx₀ ty₀ f2_2₀) a2_3₀ (bz hq₀) (bz oq₀) km₀, (q₀ 9, .inl (k₀ 1, 120, .inl (by8 tx₀))), (q₀ 2, .inl (k₀ 0, 51, .inl (ia dq₀)))]) (As := [.int (iI (bz b6₀))]) (rest := []) C₀ hH₀ (c_X9_takes lL₀ D₀ k₀ H₀.size a₀ q₀ th₀ un₀ mf₀ ty₀ f₀ (mTo tx₀ ty₀ f₀) (mTk tx₀ ty₀ f₀) fq₀ hq₀ oq₀ km₀ tx₀ b6₀ (by omega) (htx₀) (by omega) (by first | rfl | assumption) (by first | rfl | assumption) (by omega)) ZT_b (fun _ _ _ => trivial) (cwV 1 C₀.1.2.2.2.2 gX9_reads_X9_takes rfl rfl rfl (by decide +kernel) ⟨Nat.le_of_ble_eq_true rfl, Nat.le_of_ble_eq_true rfl⟩) [0, 1] [2] [1, 2, 0] rfl rfl (by decide) (by decide) (by decide) (fun _ => rfl) (by decide) (q0 := 0) rfl rfl rfl hl₀.1 rfl (Nat.le_of_ble_eq_true rfl) dX9_reads_160 ⟨Nat.le_of_ble_eq_true rfl, Nat.le_of_ble_eq_true rfl⟩ (fun ⟨f2_2₀, a2_3₀⟩ he₀ H₀ locs₀ hH₀ => ?_)
                have hpe₀ : pOk ty₀ (f2_2₀, a2_3₀) := by rw [he₀]; exact pT_ok _ i3₀
                refine lv_iload_n C₀.1.1 C₀.1.2.1 dX9_reads_163 rfl (lv_at hl₀ 1 rfl) ?_
                exact xr_i C₀ hH₀ hlk₀ hr₀ hQ₀ rfl hAe₀ (f2_2₀, a2_3₀, dq₀, hq₀, oq₀, nq₀) (by dsimp only; rw [← i1₀]; exact ⟨i5₀, hx₀, rfl, by rw [he₀, jb6₀], i4₀, hpe₀⟩) (by rw [i2₀]) rfl dX9_reads_164
              refine lv_aload_n C₀.1.1 C₀.1.2.1 dX9_reads_146 rfl (lv_at hl₀ 0 rfl) ?_
              refine xw_get C₀ hH₀ 0 rfl rfl 2 (by decide) iw_X9_reads_X9 (by decide +kernel) (v := .ref (q₀ 2)) rfl dX9_reads_147 ?_
              refine lv_iconst (v := iI 1) C₀.1.1 C₀.1.2.1 dX9_reads_150 (by decide) ?_
              refine xw_ild C₀ hH₀ 2 0 rfl rfl (z := 1) (by omega) (by omega) (by decide) dX9_reads_151 ?_
              refine xi_zle (tgt := 159) C₀.1.1 C₀.1.2.1 dX9_reads_152 (by decide) (by omega) (fun h_4₀ => ?_) (fun h_4₀ => ?_)
              · refine lv_iconst (v := iI 0) C₀.1.1 C₀.1.2.1 dX9_reads_159 (by decide) ?_
                exact L160₀ false ((decide_eq_false (by first | omega | (simp_all; done) | (simp_all; omega))).symm) _ _ _ hH₀ (lv_sub hl₀ [0, 1] rfl)
              · refine lv_iconst (v := iI 1) C₀.1.1 C₀.1.2.1 dX9_reads_155 (by decide) ?_
                refine lv_goto (tgt := 160) C₀.1.1 C₀.1.2.1 dX9_reads_156 (by decide) ?_
                exact L160₀ true ((decide_eq_true (by first | omega | (simp_all; done) | (simp_all; omega))).symm) _ _ _ hH₀ (lv_sub hl₀ [0, 1] rfl)
            refine lv_aload_n C₀.1.1 C₀.1.2.1 dX9_reads_56 rfl (lv_at hl₀ 0 rfl) ?_
            refine xw_get C₀ hH₀ 0 rfl rfl 14 (by decide) iw_X9_reads_X9 (by decide +kernel) (v := .int (iI fq₀)) rfl dX9_reads_57 ?_
            refine lv_bipush (v := iI (-9)) C₀.1.1 C₀.1.2.1 dX9_reads_60 (by decide) ?_
            refine xi_cne (tgt := 145) C₀.1.1 C₀.1.2.1 dX9_reads_62 (by decide) (by omega) (by omega) (fun h_5₀ => ?_) (fun h_5₀ => ?_)
            · exact L145₀  (by omega) _ _ _ hH₀ (lv_sub hl₀ [0, 1] rfl)
            · refine lv_aload_n C₀.1.1 C₀.1.2.1 dX9_reads_65 rfl (lv_at hl₀ 0 rfl) ?_
              refine xw_get C₀ hH₀ 0 rfl rfl 13 (by decide) iw_X9_reads_X9 (by decide +kernel) (v := .int (iI (mTk tx₀ ty₀ f₀))) rfl dX9_reads_66 ?_
              refine xi_zeq (tgt := 145) C₀.1.1 C₀.1.2.1 dX9_reads_69 (by decide) (by omega) (fun h_6₀ => ?_) (fun h_6₀ => ?_)
              · exact L145₀  (by omega) _ _ _ hH₀ (lv_sub hl₀ [0, 1] rfl)
              · have hgo₀ : pGo tx₀ ty₀ (f₀, fq₀, dq₀, hq₀, oq₀) := ⟨by assumption, by assumption⟩
                have hok₀ := pItem_ok (tx := tx₀) (r := (f₀, fq₀, dq₀, hq₀, oq₀)) i3₀ i4₀
                have hmk₀ := pMid_ok (tx := tx₀) (r := (f₀, fq₀, dq₀, hq₀, oq₀)) i3₀ i4₀
                have hlt₀ := pItem_lt (tx := tx₀) (r := (f₀, fq₀, dq₀, hq₀, oq₀)) i3₀ i4₀ hgo₀.2
                have L122₀ : ∀ (f3₀ : Int) (fq3₀ : Int) (h3₀ : Bool) (o3₀ : Bool) (d3₀ : Int → Int), ((f3₀, fq3₀, d3₀, h3₀, o3₀) = pMid tx₀ ty₀ (f₀, fq₀, dq₀, hq₀, oq₀)) → ∀ (H₀ : Heap) (locs₀ : List Loc) (ls₀ : Array Slot), Hp D₀ A₀ sT₀.heap [mO a₀ q₀ th₀ un₀ mf₀ ty₀ f3₀ (mTo tx₀ ty₀ f3₀) (mTk tx₀ ty₀ f3₀) fq3₀ (bz h3₀) (bz o3₀) km₀, (q₀ 9, .inl (k₀ 1, 120, .inl (by8 tx₀))), (q₀ 2, .inl (k₀ 0, 51, .inl (ia d3₀)))] H₀ locs₀ → lv_has ls₀ 2 [(0, .ref a₀), (1, .int (iI it₀))] → W pP₀ lL₀ eN₀ rmX9_reads sT₀ mI₀ args₀ below₀ meth₀ cD₀ H₀ locs₀ 0 0 QQ₀ (F0 mI₀ 122 ls₀ []) := by
                  intro f3₀ fq3₀ h3₀ o3₀ d3₀ hmid₀ H₀ locs₀ ls₀ hH₀ hl₀
                  rw [← hmid₀] at hmk₀
                  obtain ⟨hm3a₀, hm3b₀⟩ := hmk₀.1
                  dsimp only at hm3a₀ hm3b₀
                  have hk3₀ := mTk_rg (tx := tx₀) (ty := ty₀) (f := f3₀)
                  refine lv_aload_n C₀.1.1 C₀.1.2.1 dX9_reads_122 rfl (lv_at hl₀ 0 rfl) ?_
                  have L136₀ : ∀ (b5₀ : Bool), (b5₀ = decide (mTk tx₀ ty₀ f3₀ = 5)) → ∀ (H₀ : Heap) (locs₀ : List Loc) (ls₀ : Array Slot), Hp D₀ A₀ sT₀.heap [mO a₀ q₀ th₀ un₀ mf₀ ty₀ f3₀ (mTo tx₀ ty₀ f3₀) (mTk tx₀ ty₀ f3₀) fq3₀ (bz h3₀) (bz o3₀) km₀, (q₀ 9, .inl (k₀ 1, 120, .inl (by8 tx₀))), (q₀ 2, .inl (k₀ 0, 51, .inl (ia d3₀)))] H₀ locs₀ → lv_has ls₀ 2 [(0, .ref a₀), (1, .int (iI it₀))] → W pP₀ lL₀ eN₀ rmX9_reads sT₀ mI₀ args₀ below₀ meth₀ cD₀ H₀ locs₀ 0 0 QQ₀ (F0 mI₀ 136 ls₀ [.int (iI (bz b5₀)), .ref a₀]) := by
                    intro b5₀ jb5₀ H₀ locs₀ ls₀ hH₀ hl₀
                    refine xc_Vv (wr := [(q₀ 2, .inl (k₀ 0, 51, .inl (ia d3₀)))]) (ws' := fun ⟨f2_7₀, a2_8₀⟩ => [mO a₀ q₀ th₀ un₀ mf₀ ty₀ f2_7₀ (mTo tx₀ ty₀ f2_7₀) (mTk tx₀ ty₀ f2_7₀) a2_8₀ (bz h3₀) (bz o3₀) km₀, (q₀ 9, .inl (k₀ 1, 120, .inl (by8 tx₀))), (q₀ 2, .inl (k₀ 0, 51, .inl (ia d3₀)))]) (As := [.int (iI (bz b5₀))]) (rest := []) C₀ hH₀ (c_X9_takes lL₀ D₀ k₀ H₀.size a₀ q₀ th₀ un₀ mf₀ ty₀ f3₀ (mTo tx₀ ty₀ f3₀) (mTk tx₀ ty₀ f3₀) fq3₀ h3₀ o3₀ km₀ tx₀ b5₀ (by omega) (htx₀) (by omega) (by first | rfl | assumption) (by first | rfl | assumption) (by omega)) ZT_b (fun _ _ _ => trivial) (cwV 1 C₀.1.2.2.2.2 gX9_reads_X9_takes rfl rfl rfl (by decide +kernel) ⟨Nat.le_of_ble_eq_true rfl, Nat.le_of_ble_eq_true rfl⟩) [0, 1] [2] [1, 2, 0] rfl rfl (by decide) (by decide) (by decide) (fun _ => rfl) (by decide) (q0 := 0) rfl rfl rfl hl₀.1 rfl (Nat.le_of_ble_eq_true rfl) dX9_reads_136 ⟨Nat.le_of_ble_eq_true rfl, Nat.le_of_ble_eq_true rfl⟩ (fun ⟨f2_7₀, a2_8₀⟩ hn₀ H₀ locs₀ hH₀ => ?_)
                    have hit2₀ : (f2_7₀, a2_8₀, d3₀, h3₀, o3₀) = pItem tx₀ ty₀ (f₀, fq₀, dq₀, hq₀, oq₀) := by unfold pItem; rw [← hmid₀]; dsimp only; rw [← jb5₀, ← hn₀]
                    have hit₀ : (f2_7₀, a2_8₀, d3₀, h3₀, o3₀) = pIt tx₀ ty₀ dr₀ (nq₀ + 1) := by rw [hit2₀, i1₀]; rfl
                    have hmeas₀ : (if a2_8₀ = -9 then ty₀ - f2_7₀ + 1 else 0) < (nn₀ : Int) := by (have hl2₀ := hlt₀; rw [← hit2₀] at hl2₀; rw [if_pos hgo₀.1] at hm56₀; split; (have := hl2₀ (by assumption); dsimp only at this; omega); omega)
                    refine lv_iinc (v := iI (it₀ + 1)) (lv' := [(1, .int (iI (it₀ + 1))), (0, .ref a₀)]) C₀.1.1 C₀.1.2.1 dX9_reads_139 hl₀ (k := 1) rfl (iI_add _ (1)) (by decide) rfl (fun ls₀ hl₀ => ?_)
                    refine lv_goto (tgt := 56) C₀.1.1 C₀.1.2.1 dX9_reads_142 (by decide) ?_
                    exact ih56₀ (it₀ + 1) f2_7₀ a2_8₀ h3₀ o3₀ d3₀ (nq₀ + 1) (hit₀) (by rw [i2₀]; rfl) (by have q₀ := hok₀.1; rw [← hit2₀] at q₀; exact q₀) (by have q₀ := hok₀.2; rw [← hit2₀] at q₀; exact q₀) (fun i₀ q₀ => by by_cases hi₀ : i₀ = nq₀; (rw [hi₀, ← i1₀]; exact hgo₀); (exact i5₀ i₀ (by omega))) (hmeas₀) _ _ _ hH₀ (lv_sub hl₀ [1, 0] rfl)
                  refine lv_aload_n C₀.1.1 C₀.1.2.1 dX9_reads_123 rfl (lv_at hl₀ 0 rfl) ?_
                  refine xw_get C₀ hH₀ 0 rfl rfl 13 (by decide) iw_X9_reads_X9 (by decide +kernel) (v := .int (iI (mTk tx₀ ty₀ f3₀))) rfl dX9_reads_124 ?_
                  refine lv_iconst (v := iI 5) C₀.1.1 C₀.1.2.1 dX9_reads_127 (by decide) ?_
                  refine xi_cne (tgt := 135) C₀.1.1 C₀.1.2.1 dX9_reads_128 (by decide) (by omega) (by omega) (fun h_9₀ => ?_) (fun h_9₀ => ?_)
                  · refine lv_iconst (v := iI 0) C₀.1.1 C₀.1.2.1 dX9_reads_135 (by decide) ?_
                    exact L136₀ false ((decide_eq_false (by first | omega | (simp_all; done) | (simp_all; omega))).symm) _ _ _ hH₀ (lv_sub hl₀ [0, 1] rfl)
                  · refine lv_iconst (v := iI 1) C₀.1.1 C₀.1.2.1 dX9_reads_131 (by decide) ?_
                    refine lv_goto (tgt := 136) C₀.1.1 C₀.1.2.1 dX9_reads_132 (by decide) ?_
                    exact L136₀ true ((decide_eq_true (by first | omega | (simp_all; done) | (simp_all; omega))).symm) _ _ _ hH₀ (lv_sub hl₀ [0, 1] rfl)
                refine lv_aload_n C₀.1.1 C₀.1.2.1 dX9_reads_72 rfl (lv_at hl₀ 0 rfl) ?_
                refine xw_get C₀ hH₀ 0 rfl rfl 13 (by decide) iw_X9_reads_X9 (by decide +kernel) (v := .int (iI (mTk tx₀ ty₀ f₀))) rfl dX9_reads_73 ?_
                refine lv_iconst (v := iI 1) C₀.1.1 C₀.1.2.1 dX9_reads_76 (by decide) ?_
                refine xi_cne (tgt := 87) C₀.1.1 C₀.1.2.1 dX9_reads_77 (by decide) (by omega) (by omega) (fun h_10₀ => ?_) (fun h_10₀ => ?_)
                · refine lv_aload_n C₀.1.1 C₀.1.2.1 dX9_reads_87 rfl (lv_at hl₀ 0 rfl) ?_
                  refine xw_get C₀ hH₀ 0 rfl rfl 13 (by decide) iw_X9_reads_X9 (by decide +kernel) (v := .int (iI (mTk tx₀ ty₀ f₀))) rfl dX9_reads_88 ?_
                  refine lv_iconst (v := iI 2) C₀.1.1 C₀.1.2.1 dX9_reads_91 (by decide) ?_
                  refine xi_cne (tgt := 102) C₀.1.1 C₀.1.2.1 dX9_reads_92 (by decide) (by omega) (by omega) (fun h_11₀ => ?_) (fun h_11₀ => ?_)
                  · refine lv_aload_n C₀.1.1 C₀.1.2.1 dX9_reads_102 rfl (lv_at hl₀ 0 rfl) ?_
                    refine xw_get C₀ hH₀ 0 rfl rfl 13 (by decide) iw_X9_reads_X9 (by decide +kernel) (v := .int (iI (mTk tx₀ ty₀ f₀))) rfl dX9_reads_103 ?_
                    refine lv_iconst (v := iI 3) C₀.1.1 C₀.1.2.1 dX9_reads_106 (by decide) ?_
                    refine xi_cne (tgt := 117) C₀.1.1 C₀.1.2.1 dX9_reads_107 (by decide) (by omega) (by omega) (fun h_12₀ => ?_) (fun h_12₀ => ?_)
                    · refine lv_aload_n C₀.1.1 C₀.1.2.1 dX9_reads_117 rfl (lv_at hl₀ 0 rfl) ?_
                      refine lv_iconst (v := iI 0) C₀.1.1 C₀.1.2.1 dX9_reads_118 (by decide) ?_
                      refine xc_Vv (wr := [(q₀ 2, .inl (k₀ 0, 51, .inl (ia dq₀)))]) (ws' := fun ⟨f2_13₀, a2_14₀⟩ => [mO a₀ q₀ th₀ un₀ mf₀ ty₀ f2_13₀ (mTo tx₀ ty₀ f2_13₀) (mTk tx₀ ty₀ f2_13₀) a2_14₀ (bz hq₀) (bz oq₀) km₀, (q₀ 9, .inl (k₀ 1, 120, .inl (by8 tx₀))), (q₀ 2, .inl (k₀ 0, 51, .inl (ia dq₀)))]) (As := [.int (iI 0)]) (rest := []) C₀ hH₀ (c_X9_takes lL₀ D₀ k₀ H₀.size a₀ q₀ th₀ un₀ mf₀ ty₀ f₀ (mTo tx₀ ty₀ f₀) (mTk tx₀ ty₀ f₀) fq₀ hq₀ oq₀ km₀ tx₀ false (by omega) (htx₀) (by omega) (by first | rfl | assumption) (by first | rfl | assumption) (by omega)) ZT_b (fun _ _ _ => trivial) (cwV 1 C₀.1.2.2.2.2 gX9_reads_X9_takes rfl rfl rfl (by decide +kernel) ⟨Nat.le_of_ble_eq_true rfl, Nat.le_of_ble_eq_true rfl⟩) [0, 1] [2] [1, 2, 0] rfl rfl (by decide) (by decide) (by decide) (fun _ => rfl) (by decide) (q0 := 0) rfl rfl rfl hl₀.1 rfl (Nat.le_of_ble_eq_true rfl) dX9_reads_119 ⟨Nat.le_of_ble_eq_true rfl, Nat.le_of_ble_eq_true rfl⟩ (fun ⟨f2_13₀, a2_14₀⟩ hm₀ H₀ locs₀ hH₀ => ?_)
                      exact L122₀ f2_13₀ a2_14₀ hq₀ oq₀ dq₀ ((by unfold pMid; dsimp only; rw [if_neg (by omega), if_neg (by omega), if_neg (by omega), ← hm₀])) _ _ _ hH₀ (lv_sub hl₀ [0, 1] rfl)
                    · refine lv_aload_n C₀.1.1 C₀.1.2.1 dX9_reads_110 rfl (lv_at hl₀ 0 rfl) ?_
                      refine xc_Vv (wr := []) (ws' := fun ⟨f2_15₀, a2_16₀, d2_17₀⟩ => [mO a₀ q₀ th₀ un₀ mf₀ ty₀ f2_15₀ (mTo tx₀ ty₀ f2_15₀) (mTk tx₀ ty₀ f2_15₀) a2_16₀ (bz hq₀) (bz true) km₀, (q₀ 9, .inl (k₀ 1, 120, .inl (by8 tx₀))), (q₀ 2, .inl (k₀ 0, 51, .inl (ia d2_17₀)))]) (As := []) (rest := []) C₀ hH₀ (c_X9_readsOutside lL₀ D₀ k₀ H₀.size a₀ q₀ th₀ un₀ mf₀ ty₀ f₀ (mTo tx₀ ty₀ f₀) (mTk tx₀ ty₀ f₀) fq₀ hq₀ oq₀ km₀ tx₀ dq₀ (by omega) (htx₀) (by omega) (by first | rfl | assumption) (by first | rfl | assumption) (by omega)) ZT_b (fun _ _ _ => trivial) (cwV 0 C₀.1.2.2.2.2 gX9_reads_X9_readsOutside rfl rfl rfl (by decide +kernel) ⟨Nat.le_of_ble_eq_true rfl, Nat.le_of_ble_eq_true rfl⟩) [0, 1, 2] [] [0, 1, 2] rfl rfl (by decide) (by decide) (by decide) (fun _ => rfl) (by decide) (q0 := 0) rfl rfl rfl hl₀.1 rfl (Nat.le_of_ble_eq_true rfl) dX9_reads_111 ⟨Nat.le_of_ble_eq_true rfl, Nat.le_of_ble_eq_true rfl⟩ (fun ⟨f2_15₀, a2_16₀, d2_17₀⟩ hm₀ H₀ locs₀ hH₀ => ?_)
                      refine lv_goto (tgt := 122) C₀.1.1 C₀.1.2.1 dX9_reads_114 (by decide) ?_
                      exact L122₀ f2_15₀ a2_16₀ hq₀ true d2_17₀ ((by unfold pMid; dsimp only; rw [if_neg (by omega), if_neg (by omega), if_pos (by omega), ← hm₀])) _ _ _ hH₀ (lv_sub hl₀ [0, 1] rfl)
                  · refine lv_aload_n C₀.1.1 C₀.1.2.1 dX9_reads_95 rfl (lv_at hl₀ 0 rfl) ?_
                    refine xc_Vv (wr := []) (ws' := fun ⟨f2_18₀, a2_19₀, d2_20₀⟩ => [mO a₀ q₀ th₀ un₀ mf₀ ty₀ f2_18₀ (mTo tx₀ ty₀ f2_18₀) (mTk tx₀ ty₀ f2_18₀) a2_19₀ (bz true) (bz oq₀) km₀, (q₀ 9, .inl (k₀ 1, 120, .inl (by8 tx₀))), (q₀ 2, .inl (k₀ 0, 51, .inl (ia d2_20₀)))]) (As := []) (rest := []) C₀ hH₀ (c_X9_readsFix lL₀ D₀ k₀ H₀.size a₀ q₀ th₀ un₀ mf₀ ty₀ f₀ (mTo tx₀ ty₀ f₀) (mTk tx₀ ty₀ f₀) fq₀ hq₀ oq₀ km₀ tx₀ dq₀ (by omega) (htx₀) (by omega) (by first | rfl | assumption) (by first | rfl | assumption) (by omega) (i4₀.1) (i4₀.2.1)) ZT_b (fun _ _ _ => trivial) (cwV 0 C₀.1.2.2.2.2 gX9_reads_X9_readsFix rfl rfl rfl (by decide +kernel) ⟨Nat.le_of_ble_eq_true rfl, Nat.le_of_ble_eq_true rfl⟩) [0, 1, 2] [] [0, 1, 2] rfl rfl (by decide) (by decide) (by decide) (fun _ => rfl) (by decide) (q0 := 0) rfl rfl rfl hl₀.1 rfl (Nat.le_of_ble_eq_true rfl) dX9_reads_96 ⟨Nat.le_of_ble_eq_true rfl, Nat.le_of_ble_eq_true rfl⟩ (fun ⟨f2_18₀, a2_19₀, d2_20₀⟩ hm₀ H₀ locs₀ hH₀ => ?_)
                    refine lv_goto (tgt := 122) C₀.1.1 C₀.1.2.1 dX9_reads_99 (by decide) ?_
                    exact L122₀ f2_18₀ a2_19₀ true oq₀ d2_20₀ ((by unfold pMid; dsimp only; rw [if_neg (by omega), if_pos (by omega), ← hm₀])) _ _ _ hH₀ (lv_sub hl₀ [0, 1] rfl)
                · refine lv_aload_n C₀.1.1 C₀.1.2.1 dX9_reads_80 rfl (lv_at hl₀ 0 rfl) ?_
                  refine xc_Vv (wr := []) (ws' := fun ⟨f2_21₀, a2_22₀, d2_23₀⟩ => [mO a₀ q₀ th₀ un₀ mf₀ ty₀ f2_21₀ (mTo tx₀ ty₀ f2_21₀) (mTk tx₀ ty₀ f2_21₀) a2_22₀ (bz hq₀) (bz oq₀) km₀, (q₀ 9, .inl (k₀ 1, 120, .inl (by8 tx₀))), (q₀ 2, .inl (k₀ 0, 51, .inl (ia d2_23₀)))]) (As := []) (rest := []) C₀ hH₀ (c_X9_readsRow lL₀ D₀ k₀ H₀.size a₀ q₀ th₀ un₀ mf₀ ty₀ f₀ (mTo tx₀ ty₀ f₀) (mTk tx₀ ty₀ f₀) fq₀ hq₀ oq₀ km₀ tx₀ dq₀ (by omega) (htx₀) (by omega) (by first | rfl | assumption) (by first | rfl | assumption) (by omega) (i4₀.1) (i4₀.2.1)) ZT_b (fun _ _ _ => trivial) (cwV 0 C₀.1.2.2.2.2 gX9_reads_X9_readsRow rfl rfl rfl (by decide +kernel) ⟨Nat.le_of_ble_eq_true rfl, Nat.le_of_ble_eq_true rfl⟩) [0, 1, 2] [] [0, 1, 2] rfl rfl (by decide) (by decide) (by decide) (fun _ => rfl) (by decide) (q0 := 0) rfl rfl rfl hl₀.1 rfl (Nat.le_of_ble_eq_true rfl) dX9_reads_81 ⟨Nat.le_of_ble_eq_true rfl, Nat.le_of_ble_eq_true rfl⟩ (fun ⟨f2_21₀, a2_22₀, d2_23₀⟩ hm₀ H₀ locs₀ hH₀ => ?_)
                  refine lv_goto (tgt := 122) C₀.1.1 C₀.1.2.1 dX9_reads_84 (by decide) ?_
                  exact L122₀ f2_21₀ a2_22₀ hq₀ oq₀ d2_23₀ ((by unfold pMid; dsimp only; rw [if_pos (by omega), ← hm₀])) _ _ _ hH₀ (lv_sub hl₀ [0, 1] rfl)
        exact L56₀ (((if (-9) = -9 then ty₀ - (mSkip tx₀ ty₀ 0) + 1 else 0) : Int).toNat + 1) 0 (mSkip tx₀ ty₀ 0) (-9) false false (uz dp₀ 2 (-9)) 0 (by rw [a1₀, show c₀ = 51 by omega]; rfl) (rfl) (⟨by have := mSkip_rg (tx := tx₀) (ty := ty₀) (p := 0) (by omega); dsimp only; omega, Or.inl rfl⟩) (by rw [a1₀, show c₀ = 51 by omega]; exact mD_0 dr₀) (fun i₀ q₀ => absurd q₀ (by omega)) (by omega) _ _ _ hH₀ (lv_sub hl₀ [1, 0] rfl)
      · refine lv_aload_n C₀.1.1 C₀.1.2.1 dX9_reads_8 rfl (lv_at hl₀ 0 rfl) ?_
        refine xw_get C₀ hH₀ 0 rfl rfl 2 (by decide) iw_X9_reads_X9 (by decide +kernel) (v := .ref (q₀ 2)) rfl dX9_reads_9 ?_
        refine lv_iload_n C₀.1.1 C₀.1.2.1 dX9_reads_12 rfl (lv_at hl₀ 1 rfl) ?_
        refine lv_iconst (v := iI 0) C₀.1.1 C₀.1.2.1 dX9_reads_13 (by decide) ?_
        refine xw_ist (ws' := [mO a₀ q₀ th₀ un₀ mf₀ ty₀ fr₀ tt₀ tk₀ fa₀ (bz hf₀) (bz ho₀) km₀, (q₀ 9, .inl (k₀ 1, 120, .inl (by8 tx₀))), (q₀ 2, .inl (k₀ 0, 51, .inl (ia (uz dp₀ c₀ 0))))]) C₀ hH₀ 2 0 rfl rfl (z := c₀) (v := 0) (by omega) (by omega) (by decide) dX9_reads_14 rfl (fun H₀ locs₀ hH₀ => ?_)
        refine lv_iinc (v := iI (c₀ + 1)) (lv' := [(1, .int (iI (c₀ + 1))), (0, .ref a₀)]) C₀.1.1 C₀.1.2.1 dX9_reads_15 hl₀ (k := 1) rfl (iI_add _ (1)) (by decide) rfl (fun ls₀ hl₀ => ?_)
        refine lv_goto (tgt := 2) C₀.1.1 C₀.1.2.1 dX9_reads_18 (by decide) ?_
        exact ih2₀ (c₀ + 1) (uz dp₀ c₀ 0) (by rw [a1₀]; exact cpz_s (by omega) (by omega) rfl) (by omega) (by omega) _ _ _ hH₀ (lv_sub hl₀ [1, 0] rfl)
  exact L2₀ (((51 - 0) : Int).toNat + 1) 0 dr₀ ((cpz_0 _ _ _ _).symm) (by omega) (by omega) _ _ _ hH₀ (lv_sub hl₀ [1, 0] rfl)
