theorem iw_X9_kind_X9 : ∀ w₀ ∈ u_ws RX9 TX9 24, w₀ ∈ wsX9_kind := (fun w₀ h₀ => List.mem_cons_of_mem _ (List.mem_append_right _ h₀))
abbrev rmX9_kind : Room := { frames := 7, cells := 0, slots := 0, locals := 164 }
set_option maxHeartbeats 4000000 in
set_option maxRecDepth 100000 in
/-- kind -/
theorem c_X9_kind (lL₀ : Launch) (D₀ : va_G) (k₀ : Nat → ClassId) (sz₀ : Nat) (a₀ : Nat) (q₀ : Nat → Nat) (th₀ : Int) (un₀ : Int) (mf₀ : Int) (ty₀ : Int) (fr₀ : Int) (tt₀ : Int) (tk₀ : Int) (fa₀ : Int) (hf₀ : Bool) (ho₀ : Bool) (km₀ : Int) (s₀ : Int → Int) (sq₀ : Int → Int) (kn₀ : Int → Int) (fi₀ : Int → Int) (z₀ : Int) (i₀ : Int) (hS₀ : mS s₀) (hz₀ : -2147483648 ≤ z₀ ∧ z₀ < 2147483648) (hi₀ : -2147483648 ≤ i₀ ∧ i₀ < 2147483648) : Met lL₀ yX9_kind wsX9_kind rmX9_kind (gPc ZT D₀ (tyk k₀) [.ref a₀, .int (iI z₀), .int (iI i₀)] sz₀ [mO a₀ q₀ th₀ un₀ mf₀ ty₀ fr₀ tt₀ tk₀ fa₀ (bz hf₀) (bz ho₀) km₀, (q₀ 1, .inl (k₀ 0, 51, .inl (ia s₀))), (q₀ 20, .inl (k₀ 0, 72, .inl (ia sq₀))), (q₀ 21, .inl (k₀ 0, 24, .inl (ia kn₀))), (q₀ 22, .inl (k₀ 0, 24, .inl (ia fi₀)))]) (gQi D₀ (tyk k₀) [mO a₀ q₀ th₀ un₀ mf₀ ty₀ fr₀ tt₀ tk₀ fa₀ (bz hf₀) (bz ho₀) km₀, (q₀ 1, .inl (k₀ 0, 51, .inl (ia s₀))), (q₀ 20, .inl (k₀ 0, 72, .inl (ia sq₀))), (q₀ 21, .inl (k₀ 0, 24, .inl (ia kn₀))), (q₀ 22, .inl (k₀ 0, 24, .inl (ia fi₀)))] sz₀ (fun (sr₀ : Int → Int) => mSqOk s₀ sr₀ (s₀ 0 * s₀ 1)) (fun (sr₀ : Int → Int) => (iI (if -1 ≤ z₀ ∧ z₀ ≤ (mKd sr₀ fi₀ kn₀ (s₀ 0 * s₀ 1).toNat).1 - 1 ∧ 0 ≤ i₀ ∧ i₀ ≤ (if z₀ < 0 then 0 else 3) then if z₀ < 0 then (mKd sr₀ fi₀ kn₀ (s₀ 0 * s₀ 1).toNat).1 else if 0 < i₀ then sr₀ (3 * (mKd sr₀ fi₀ kn₀ (s₀ 0 * s₀ 1).toNat).2.1 z₀ + i₀ - 1) else sI (fun c₀ => if (mKd sr₀ fi₀ kn₀ (s₀ 0 * s₀ 1).toNat).2.2 c₀ = z₀ then 1 else 0) (s₀ 0 * s₀ 1) else -5))) (fun (sr₀ : Int → Int) => [mO a₀ q₀ 0 un₀ mf₀ ty₀ fr₀ tt₀ tk₀ fa₀ (bz hf₀) (bz ho₀) ((mKd sr₀ fi₀ kn₀ (s₀ 0 * s₀ 1).toNat).1), (q₀ 1, .inl (k₀ 0, 51, .inl (ia s₀))), (q₀ 20, .inl (k₀ 0, 72, .inl (ia sr₀))), (q₀ 21, .inl (k₀ 0, 24, .inl (ia ((mKd sr₀ fi₀ kn₀ (s₀ 0 * s₀ 1).toNat).2.2)))), (q₀ 22, .inl (k₀ 0, 24, .inl (ia ((mKd sr₀ fi₀ kn₀ (s₀ 0 * s₀ 1).toNat).2.1))))])) 0 0 (va_A [mO a₀ q₀ th₀ un₀ mf₀ ty₀ fr₀ tt₀ tk₀ fa₀ (bz hf₀) (bz ho₀) km₀, (q₀ 1, .inl (k₀ 0, 51, .inl (ia s₀))), (q₀ 20, .inl (k₀ 0, 72, .inl (ia sq₀))), (q₀ 21, .inl (k₀ 0, 24, .inl (ia kn₀))), (q₀ 22, .inl (k₀ 0, 24, .inl (ia fi₀)))] sz₀) := by
  refine xs_met (cc := cX9_kind) (maxL := 5) (ret := some .int) (by decide) rfl (Nat.le_of_ble_eq_true rfl) ?_
  intro pP₀ eN₀ sT₀ mI₀ below₀ meth₀ cD₀ hsz₀ args₀ QQ₀ C₀ hr₀ hlk₀ hnm₀ hQ₀ ls₀ H₀ locs₀ hl₀ hH₀
  subst hsz₀
  have hl₀ : lv_has ls₀ 5 [(0, .ref a₀), (1, .int (iI z₀)), (2, .int (iI i₀))] := hl₀
  generalize hAe₀ : va_A [mO a₀ q₀ th₀ un₀ mf₀ ty₀ fr₀ tt₀ tk₀ fa₀ (bz hf₀) (bz ho₀) km₀, (q₀ 1, .inl (k₀ 0, 51, .inl (ia s₀))), (q₀ 20, .inl (k₀ 0, 72, .inl (ia sq₀))), (q₀ 21, .inl (k₀ 0, 24, .inl (ia kn₀))), (q₀ 22, .inl (k₀ 0, 24, .inl (ia fi₀)))] sT₀.heap.size = A₀ at C₀ hH₀ hQ₀
  obtain ⟨hs0₀, hs1₀, hs2₀, hsh₀, hsf₀⟩ := id hS₀
  have hcl₀ := cells_rg hs0₀ hs1₀
  refine lv_aload_n C₀.1.1 C₀.1.2.1 dX9_kind_0 rfl (lv_at hl₀ 0 rfl) ?_
  refine lv_iconst (v := iI 0) C₀.1.1 C₀.1.2.1 dX9_kind_1 (by decide) ?_
  refine xw_put (ws' := [mO a₀ q₀ 0 un₀ mf₀ ty₀ fr₀ tt₀ tk₀ fa₀ (bz hf₀) (bz ho₀) km₀, (q₀ 1, .inl (k₀ 0, 51, .inl (ia s₀))), (q₀ 20, .inl (k₀ 0, 72, .inl (ia sq₀))), (q₀ 21, .inl (k₀ 0, 24, .inl (ia kn₀))), (q₀ 22, .inl (k₀ 0, 24, .inl (ia fi₀)))]) (v := .int (iI 0)) C₀ hH₀ 0 rfl rfl tyX9 tyX9_ok nmX9 0 (by decide) iw_X9_kind_X9 (by decide +kernel) rfl rfl rfl (Nat.le_of_ble_eq_true rfl) dX9_kind_2 rfl (fun H₀ locs₀ hH₀ => ?_)
  refine lv_aload_n C₀.1.1 C₀.1.2.1 dX9_kind_5 rfl (lv_at hl₀ 0 rfl) ?_
  refine xc_Vv (wr := []) (ws' := fun sr_1₀ => [mO a₀ q₀ 0 un₀ mf₀ ty₀ fr₀ tt₀ tk₀ fa₀ (bz hf₀) (bz ho₀) ((mKd sr_1₀ fi₀ kn₀ (s₀ 0 * s₀ 1).toNat).1), (q₀ 1, .inl (k₀ 0, 51, .inl (ia s₀))), (q₀ 20, .inl (k₀ 0, 72, .inl (ia sr_1₀))), (q₀ 21, .inl (k₀ 0, 24, .inl (ia ((mKd sr_1₀ fi₀ kn₀ (s₀ 0 * s₀ 1).toNat).2.2)))), (q₀ 22, .inl (k₀ 0, 24, .inl (ia ((mKd sr_1₀ fi₀ kn₀ (s₀ 0 * s₀ 1).toNat).2.1))))]) (As := []) (rest := []) C₀ hH₀ (c_X9_laysKinds lL₀ D₀ k₀ H₀.size a₀ q₀ 0 un₀ mf₀ ty₀ fr₀ tt₀ tk₀ fa₀ hf₀ ho₀ km₀ s₀ sq₀ kn₀ fi₀ (hS₀)) ZT_b (fun _ _ _ => trivial) (cwV 0 C₀.1.2.2.2.2 gX9_kind_X9_laysKinds rfl rfl rfl (by decide +kernel) ⟨Nat.le_of_ble_eq_true rfl, Nat.le_of_ble_eq_true rfl⟩) [0, 1, 2, 3, 4] [] [0, 1, 2, 3, 4] rfl rfl (by decide) (by decide) (by decide) (fun _ => rfl) (by decide) (q0 := 0) rfl rfl rfl hl₀.1 rfl (Nat.le_of_ble_eq_true rfl) dX9_kind_6 ⟨Nat.le_of_ble_eq_true rfl, Nat.le_of_ble_eq_true rfl⟩ (fun sr_1₀ hu₀ H₀ locs₀ hH₀ => ?_)
  have hkr₀ := mKd_rg sr_1₀ fi₀ kn₀ (s₀ 0 * s₀ 1).toNat
  refine lv_iload_n C₀.1.1 C₀.1.2.1 dX9_kind_9 rfl (lv_at hl₀ 1 rfl) ?_
  refine lv_iconst (v := iI (-1)) C₀.1.1 C₀.1.2.1 dX9_kind_10 (by decide) ?_
  refine lv_aload_n C₀.1.1 C₀.1.2.1 dX9_kind_11 rfl (lv_at hl₀ 0 rfl) ?_
  refine xw_get C₀ hH₀ 0 rfl rfl 23 (by decide) iw_X9_kind_X9 (by decide +kernel) (v := .int (iI ((mKd sr_1₀ fi₀ kn₀ (s₀ 0 * s₀ 1).toNat).1))) rfl dX9_kind_12 ?_
  refine lv_iconst (v := iI 1) C₀.1.1 C₀.1.2.1 dX9_kind_15 (by decide) ?_
  refine xi_sub C₀.1.1 C₀.1.2.1 dX9_kind_16 ?_
  refine xc_Si (wr := [mO a₀ q₀ 0 un₀ mf₀ ty₀ fr₀ tt₀ tk₀ fa₀ (bz hf₀) (bz ho₀) ((mKd sr_1₀ fi₀ kn₀ (s₀ 0 * s₀ 1).toNat).1), (q₀ 1, .inl (k₀ 0, 51, .inl (ia s₀))), (q₀ 20, .inl (k₀ 0, 72, .inl (ia sr_1₀))), (q₀ 21, .inl (k₀ 0, 24, .inl (ia ((mKd sr_1₀ fi₀ kn₀ (s₀ 0 * s₀ 1).toNat).2.2)))), (q₀ 22, .inl (k₀ 0, 24, .inl (ia ((mKd sr_1₀ fi₀ kn₀ (s₀ 0 * s₀ 1).toNat).2.1))))]) (ws' := fun _ => [mO a₀ q₀ 0 un₀ mf₀ ty₀ fr₀ tt₀ tk₀ fa₀ (bz hf₀) (bz ho₀) ((mKd sr_1₀ fi₀ kn₀ (s₀ 0 * s₀ 1).toNat).1), (q₀ 1, .inl (k₀ 0, 51, .inl (ia s₀))), (q₀ 20, .inl (k₀ 0, 72, .inl (ia sr_1₀))), (q₀ 21, .inl (k₀ 0, 24, .inl (ia ((mKd sr_1₀ fi₀ kn₀ (s₀ 0 * s₀ 1).toNat).2.2)))), (q₀ 22, .inl (k₀ 0, 24, .inl (ia ((mKd sr_1₀ fi₀ kn₀ (s₀ 0 * s₀ 1).toNat).2.1))))]) (As := [.int (iI z₀), .int (iI (-1)), .int (iI ((mKd sr_1₀ fi₀ kn₀ (s₀ 0 * s₀ 1).toNat).1 - 1))]) (rest := []) C₀ hH₀ (c_X9_in lL₀ D₀ k₀ H₀.size z₀ (-1) ((mKd sr_1₀ fi₀ kn₀ (s₀ 0 * s₀ 1).toNat).1 - 1) (by omega) (by omega) (by omega)) ZT_b (fun _ _ _ => trivial) (va_cwS 3 C₀.1.2.2.2.2 gX9_kind_X9_in rfl rfl rfl (by decide +kernel) ⟨Nat.le_of_ble_eq_true rfl, Nat.le_of_ble_eq_true rfl⟩) [] [0, 1, 2, 3, 4] [0, 1, 2, 3, 4] rfl rfl (by decide) (by decide) (by decide) (fun _ => rfl) (by decide) rfl hl₀.1 rfl (Nat.le_of_ble_eq_true rfl) dX9_kind_17 ⟨Nat.le_of_ble_eq_true rfl, Nat.le_of_ble_eq_true rfl⟩ (fun _ _ H₀ locs₀ hH₀ => ?_)
  refine xp_eq (tgt := 40) C₀.1.1 C₀.1.2.1 dX9_kind_20 (by decide) (fun h_2₀ => ?_) (fun h_2₀ => ?_)
  · refine lv_bipush (v := iI (-5)) C₀.1.1 C₀.1.2.1 dX9_kind_40 (by decide) ?_
    exact xr_i C₀ hH₀ hlk₀ hr₀ hQ₀ rfl hAe₀ (sr_1₀) hu₀ (by first | (rw [if_neg (by omega)]) | (rw [if_neg (by rw [← jl₀]; omega)])) rfl dX9_kind_42
  · refine lv_iload_n C₀.1.1 C₀.1.2.1 dX9_kind_23 rfl (lv_at hl₀ 2 rfl) ?_
    refine lv_iconst (v := iI 0) C₀.1.1 C₀.1.2.1 dX9_kind_24 (by decide) ?_
    have L34₀ : ∀ (lim₀ : Int), (lim₀ = if z₀ < 0 then 0 else 3) → ∀ (H₀ : Heap) (locs₀ : List Loc) (ls₀ : Array Slot), Hp D₀ A₀ sT₀.heap [mO a₀ q₀ 0 un₀ mf₀ ty₀ fr₀ tt₀ tk₀ fa₀ (bz hf₀) (bz ho₀) ((mKd sr_1₀ fi₀ kn₀ (s₀ 0 * s₀ 1).toNat).1), (q₀ 1, .inl (k₀ 0, 51, .inl (ia s₀))), (q₀ 20, .inl (k₀ 0, 72, .inl (ia sr_1₀))), (q₀ 21, .inl (k₀ 0, 24, .inl (ia ((mKd sr_1₀ fi₀ kn₀ (s₀ 0 * s₀ 1).toNat).2.2)))), (q₀ 22, .inl (k₀ 0, 24, .inl (ia ((mKd sr_1₀ fi₀ kn₀ (s₀ 0 * s₀ 1).toNat).2.1))))] H₀ locs₀ → lv_has ls₀ 5 [(0, .ref a₀), (1, .int (iI z₀)), (2, .int (iI i₀))] → W pP₀ lL₀ eN₀ rmX9_kind sT₀ mI₀ args₀ below₀ meth₀ cD₀ H₀ locs₀ 0 0 QQ₀ (F0 mI₀ 34 ls₀ [.int (iI lim₀), .int (iI 0), .int (iI i₀)]) := by
      intro lim₀ jl₀ H₀ locs₀ ls₀ hH₀ hl₀
      have hlr₀ : 0 ≤ lim₀ ∧ lim₀ ≤ 3 := by rw [jl₀]; split <;> omega
      refine xc_Si (wr := [mO a₀ q₀ 0 un₀ mf₀ ty₀ fr₀ tt₀ tk₀ fa₀ (bz hf₀) (bz ho₀) ((mKd sr_1₀ fi₀ kn₀ (s₀ 0 * s₀ 1).toNat).1), (q₀ 1, .inl (k₀ 0, 51, .inl (ia s₀))), (q₀ 20, .inl (k₀ 0, 72, .inl (ia sr_1₀))), (q₀ 21, .inl (k₀ 0, 24, .inl (ia ((mKd sr_1₀ fi₀ kn₀ (s₀ 0 * s₀ 1).toNat).2.2)))), (q₀ 22, .inl (k₀ 0, 24, .inl (ia ((mKd sr_1₀ fi₀ kn₀ (s₀ 0 * s₀ 1).toNat).2.1))))]) (ws' := fun _ => [mO a₀ q₀ 0 un₀ mf₀ ty₀ fr₀ tt₀ tk₀ fa₀ (bz hf₀) (bz ho₀) ((mKd sr_1₀ fi₀ kn₀ (s₀ 0 * s₀ 1).toNat).1), (q₀ 1, .inl (k₀ 0, 51, .inl (ia s₀))), (q₀ 20, .inl (k₀ 0, 72, .inl (ia sr_1₀))), (q₀ 21, .inl (k₀ 0, 24, .inl (ia ((mKd sr_1₀ fi₀ kn₀ (s₀ 0 * s₀ 1).toNat).2.2)))), (q₀ 22, .inl (k₀ 0, 24, .inl (ia ((mKd sr_1₀ fi₀ kn₀ (s₀ 0 * s₀ 1).toNat).2.1))))]) (As := [.int (iI i₀), .int (iI 0), .int (iI lim₀)]) (rest := []) C₀ hH₀ (c_X9_in lL₀ D₀ k₀ H₀.size i₀ 0 lim₀ (by omega) (by omega) (by omega)) ZT_b (fun _ _ _ => trivial) (va_cwS 3 C₀.1.2.2.2.2 gX9_kind_X9_in rfl rfl rfl (by decide +kernel) ⟨Nat.le_of_ble_eq_true rfl, Nat.le_of_ble_eq_true rfl⟩) [] [0, 1, 2, 3, 4] [0, 1, 2, 3, 4] rfl rfl (by decide) (by decide) (by decide) (fun _ => rfl) (by decide) rfl hl₀.1 rfl (Nat.le_of_ble_eq_true rfl) dX9_kind_34 ⟨Nat.le_of_ble_eq_true rfl, Nat.le_of_ble_eq_true rfl⟩ (fun _ _ H₀ locs₀ hH₀ => ?_)
      refine xp_ne (tgt := 43) C₀.1.1 C₀.1.2.1 dX9_kind_37 (by decide) (fun h_3₀ => ?_) (fun h_3₀ => ?_)
      · refine lv_iload_n C₀.1.1 C₀.1.2.1 dX9_kind_43 rfl (lv_at hl₀ 1 rfl) ?_
        refine xi_zge (tgt := 52) C₀.1.1 C₀.1.2.1 dX9_kind_44 (by decide) (by omega) (fun h_4₀ => ?_) (fun h_4₀ => ?_)
        · refine lv_iload_n C₀.1.1 C₀.1.2.1 dX9_kind_52 rfl (lv_at hl₀ 2 rfl) ?_
          refine xi_zle (tgt := 74) C₀.1.1 C₀.1.2.1 dX9_kind_53 (by decide) (by omega) (fun h_5₀ => ?_) (fun h_5₀ => ?_)
          · refine lv_iconst (v := iI 0) C₀.1.1 C₀.1.2.1 dX9_kind_74 (by decide) ?_
            refine lv_istore_n (lv' := [(3, .int (iI 0)), (0, .ref a₀), (1, .int (iI z₀)), (2, .int (iI i₀))]) C₀.1.1 C₀.1.2.1 dX9_kind_75 rfl hl₀ (by decide) rfl (fun ls₀ hl₀ => ?_)
            refine lv_iconst (v := iI 0) C₀.1.1 C₀.1.2.1 dX9_kind_76 (by decide) ?_
            refine lv_istore (lv' := [(4, .int (iI 0)), (3, .int (iI 0)), (0, .ref a₀), (1, .int (iI z₀)), (2, .int (iI i₀))]) C₀.1.1 C₀.1.2.1 dX9_kind_77 hl₀ (by decide) rfl (fun ls₀ hl₀ => ?_)
            have L79₀ : ∀ (nn₀ : Nat), ∀ (n₀ : Int) (c₀ : Int), (n₀ = sI (fun c₀ => if (mKd sr_1₀ fi₀ kn₀ (s₀ 0 * s₀ 1).toNat).2.2 c₀ = z₀ then 1 else 0) c₀) → (0 ≤ c₀ ∧ c₀ ≤ s₀ 0 * s₀ 1) → ((s₀ 0 * s₀ 1 - c₀) < (nn₀ : Int)) → ∀ (H₀ : Heap) (locs₀ : List Loc) (ls₀ : Array Slot), Hp D₀ A₀ sT₀.heap [mO a₀ q₀ 0 un₀ mf₀ ty₀ fr₀ tt₀ tk₀ fa₀ (bz hf₀) (bz ho₀) ((mKd sr_1₀ fi₀ kn₀ (s₀ 0 * s₀ 1).toNat).1), (q₀ 1, .inl (k₀ 0, 51, .inl (ia s₀))), (q₀ 20, .inl (k₀ 0, 72, .inl (ia sr_1₀))), (q₀ 21, .inl (k₀ 0, 24, .inl (ia ((mKd sr_1₀ fi₀ kn₀ (s₀ 0 * s₀ 1).toNat).2.2)))), (q₀ 22, .inl (k₀ 0, 24, .inl (ia ((mKd sr_1₀ fi₀ kn₀ (s₀ 0 * s₀ 1).toNat).2.1))))] H₀ locs₀ → lv_has ls₀ 5 [(0, .ref a₀), (1, .int (iI z₀)), (2, .int (iI i₀)), (3, .int (iI n₀)), (4, .int (iI c₀))] → W pP₀ lL₀ eN₀ rmX9_kind sT₀ mI₀ args₀ below₀ meth₀ cD₀ H₀ locs₀ 0 0 QQ₀ (F0 mI₀ 79 ls₀ []) := by
              intro nn₀
              induction nn₀ with
              | zero => intro n₀ c₀ i1₀ i2₀ hm₀; exact absurd hm₀ (by omega)
              | succ nn₀ ih79₀ =>
                intro n₀ c₀ i1₀ i2₀ hm79₀ H₀ locs₀ ls₀ hH₀ hl₀
                refine lv_iload C₀.1.1 C₀.1.2.1 dX9_kind_79 (lv_at hl₀ 4 rfl) ?_
                refine lv_aload_n C₀.1.1 C₀.1.2.1 dX9_kind_81 rfl (lv_at hl₀ 0 rfl) ?_
                refine xc_Vi (wr := [(q₀ 20, .inl (k₀ 0, 72, .inl (ia sr_1₀))), (q₀ 21, .inl (k₀ 0, 24, .inl (ia ((mKd sr_1₀ fi₀ kn₀ (s₀ 0 * s₀ 1).toNat).2.2)))), (q₀ 22, .inl (k₀ 0, 24, .inl (ia ((mKd sr_1₀ fi₀ kn₀ (s₀ 0 * s₀ 1).toNat).2.1))))]) (ws' := fun _ => [mO a₀ q₀ 0 un₀ mf₀ ty₀ fr₀ tt₀ tk₀ fa₀ (bz hf₀) (bz ho₀) ((mKd sr_1₀ fi₀ kn₀ (s₀ 0 * s₀ 1).toNat).1), (q₀ 1, .inl (k₀ 0, 51, .inl (ia s₀))), (q₀ 20, .inl (k₀ 0, 72, .inl (ia sr_1₀))), (q₀ 21, .inl (k₀ 0, 24, .inl (ia ((mKd sr_1₀ fi₀ kn₀ (s₀ 0 * s₀ 1).toNat).2.2)))), (q₀ 22, .inl (k₀ 0, 24, .inl (ia ((mKd sr_1₀ fi₀ kn₀ (s₀ 0 * s₀ 1).toNat).2.1))))]) (As := []) (rest := [.int (iI c₀)]) C₀ hH₀ (c_X9_cells lL₀ D₀ k₀ H₀.size a₀ q₀ 0 un₀ mf₀ ty₀ fr₀ tt₀ tk₀ fa₀ hf₀ ho₀ ((mKd sr_1₀ fi₀ kn₀ (s₀ 0 * s₀ 1).toNat).1) s₀ ) ZT_b (fun _ _ _ => trivial) (cwV 0 C₀.1.2.2.2.2 gX9_kind_X9_cells rfl rfl rfl (by decide +kernel) ⟨Nat.le_of_ble_eq_true rfl, Nat.le_of_ble_eq_true rfl⟩) [0, 1] [2, 3, 4] [3, 4, 0, 1, 2] rfl rfl (by decide) (by decide) (by decide) (fun _ => rfl) (by decide) (q0 := 0) rfl rfl rfl hl₀.1 rfl (Nat.le_of_ble_eq_true rfl) dX9_kind_82 ⟨Nat.le_of_ble_eq_true rfl, Nat.le_of_ble_eq_true rfl⟩ (fun _ _ H₀ locs₀ hH₀ => ?_)
                refine xi_cge (tgt := 113) C₀.1.1 C₀.1.2.1 dX9_kind_85 (by decide) (by omega) (by omega) (fun h_6₀ => ?_) (fun h_6₀ => ?_)
                · refine lv_iload_n C₀.1.1 C₀.1.2.1 dX9_kind_113 rfl (lv_at hl₀ 3 rfl) ?_
                  exact xr_i C₀ hH₀ hlk₀ hr₀ hQ₀ rfl hAe₀ (sr_1₀) hu₀ (by rw [if_pos ⟨by omega, by omega, by omega, by rw [← jl₀]; omega⟩, if_neg (by omega), if_neg (by omega), i1₀, show c₀ = s₀ 0 * s₀ 1 by omega]) rfl dX9_kind_114
                · refine lv_iload_n C₀.1.1 C₀.1.2.1 dX9_kind_88 rfl (lv_at hl₀ 3 rfl) ?_
                  have hkc₀ := hkr₀.2.2.2 c₀ (by omega) (by omega)
                  have L105₀ : ∀ (d₀ : Int), (d₀ = if (mKd sr_1₀ fi₀ kn₀ (s₀ 0 * s₀ 1).toNat).2.2 c₀ = z₀ then 1 else 0) → ∀ (H₀ : Heap) (locs₀ : List Loc) (ls₀ : Array Slot), Hp D₀ A₀ sT₀.heap [mO a₀ q₀ 0 un₀ mf₀ ty₀ fr₀ tt₀ tk₀ fa₀ (bz hf₀) (bz ho₀) ((mKd sr_1₀ fi₀ kn₀ (s₀ 0 * s₀ 1).toNat).1), (q₀ 1, .inl (k₀ 0, 51, .inl (ia s₀))), (q₀ 20, .inl (k₀ 0, 72, .inl (ia sr_1₀))), (q₀ 21, .inl (k₀ 0, 24, .inl (ia ((mKd sr_1₀ fi₀ kn₀ (s₀ 0 * s₀ 1).toNat).2.2)))), (q₀ 22, .inl (k₀ 0, 24, .inl (ia ((mKd sr_1₀ fi₀ kn₀ (s₀ 0 * s₀ 1).toNat).2.1))))] H₀ locs₀ → lv_has ls₀ 5 [(0, .ref a₀), (1, .int (iI z₀)), (2, .int (iI i₀)), (3, .int (iI n₀)), (4, .int (iI c₀))] → W pP₀ lL₀ eN₀ rmX9_kind sT₀ mI₀ args₀ below₀ meth₀ cD₀ H₀ locs₀ 0 0 QQ₀ (F0 mI₀ 105 ls₀ [.int (iI d₀), .int (iI n₀)]) := by
                    intro d₀ jd₀ H₀ locs₀ ls₀ hH₀ hl₀
                    refine xi_add C₀.1.1 C₀.1.2.1 dX9_kind_105 ?_
                    refine lv_istore_n (lv' := [(3, .int (iI (n₀ + d₀))), (0, .ref a₀), (1, .int (iI z₀)), (2, .int (iI i₀)), (4, .int (iI c₀))]) C₀.1.1 C₀.1.2.1 dX9_kind_106 rfl hl₀ (by decide) rfl (fun ls₀ hl₀ => ?_)
                    refine lv_iinc (v := iI (c₀ + 1)) (lv' := [(4, .int (iI (c₀ + 1))), (3, .int (iI (n₀ + d₀))), (0, .ref a₀), (1, .int (iI z₀)), (2, .int (iI i₀))]) C₀.1.1 C₀.1.2.1 dX9_kind_107 hl₀ (k := 4) rfl (iI_add _ (1)) (by decide) rfl (fun ls₀ hl₀ => ?_)
                    refine lv_goto (tgt := 79) C₀.1.1 C₀.1.2.1 dX9_kind_110 (by decide) ?_
                    exact ih79₀ (n₀ + d₀) (c₀ + 1) (by rw [sI_s i2₀.1, ← i1₀, jd₀]) (by omega) (by omega) _ _ _ hH₀ (lv_sub hl₀ [2, 3, 4, 1, 0] rfl)
                  refine lv_aload_n C₀.1.1 C₀.1.2.1 dX9_kind_89 rfl (lv_at hl₀ 0 rfl) ?_
                  refine xw_get C₀ hH₀ 0 rfl rfl 21 (by decide) iw_X9_kind_X9 (by decide +kernel) (v := .ref (q₀ 21)) rfl dX9_kind_90 ?_
                  refine lv_iload C₀.1.1 C₀.1.2.1 dX9_kind_93 (lv_at hl₀ 4 rfl) ?_
                  refine xw_ild C₀ hH₀ 3 0 rfl rfl (z := c₀) (by omega) (by omega) (by decide) dX9_kind_95 ?_
                  refine lv_iload_n C₀.1.1 C₀.1.2.1 dX9_kind_96 rfl (lv_at hl₀ 1 rfl) ?_
                  refine xi_cne (tgt := 104) C₀.1.1 C₀.1.2.1 dX9_kind_97 (by decide) (by omega) (by omega) (fun h_7₀ => ?_) (fun h_7₀ => ?_)
                  · refine lv_iconst (v := iI 0) C₀.1.1 C₀.1.2.1 dX9_kind_104 (by decide) ?_
                    exact L105₀ 0 ((by simp (disch := omega) only [if_pos, if_neg])) _ _ _ hH₀ (lv_sub hl₀ [0, 1, 2, 3, 4] rfl)
                  · refine lv_iconst (v := iI 1) C₀.1.1 C₀.1.2.1 dX9_kind_100 (by decide) ?_
                    refine lv_goto (tgt := 105) C₀.1.1 C₀.1.2.1 dX9_kind_101 (by decide) ?_
                    exact L105₀ 1 ((by simp (disch := omega) only [if_pos, if_neg])) _ _ _ hH₀ (lv_sub hl₀ [0, 1, 2, 3, 4] rfl)
            exact L79₀ (((s₀ 0 * s₀ 1 - 0) : Int).toNat + 1) 0 0 (rfl) (by omega) (by omega) _ _ _ hH₀ (lv_sub hl₀ [2, 3, 4, 1, 0] rfl)
          · have hfz₀ := hkr₀.2.2.1 z₀ (by omega) (by omega)
            refine lv_aload_n C₀.1.1 C₀.1.2.1 dX9_kind_56 rfl (lv_at hl₀ 0 rfl) ?_
            refine xw_get C₀ hH₀ 0 rfl rfl 20 (by decide) iw_X9_kind_X9 (by decide +kernel) (v := .ref (q₀ 20)) rfl dX9_kind_57 ?_
            refine lv_iconst (v := iI 3) C₀.1.1 C₀.1.2.1 dX9_kind_60 (by decide) ?_
            refine lv_aload_n C₀.1.1 C₀.1.2.1 dX9_kind_61 rfl (lv_at hl₀ 0 rfl) ?_
            refine xw_get C₀ hH₀ 0 rfl rfl 22 (by decide) iw_X9_kind_X9 (by decide +kernel) (v := .ref (q₀ 22)) rfl dX9_kind_62 ?_
            refine lv_iload_n C₀.1.1 C₀.1.2.1 dX9_kind_65 rfl (lv_at hl₀ 1 rfl) ?_
            refine xw_ild C₀ hH₀ 4 0 rfl rfl (z := z₀) (by omega) (by omega) (by decide) dX9_kind_66 ?_
            refine xi_mul C₀.1.1 C₀.1.2.1 dX9_kind_67 ?_
            refine lv_iload_n C₀.1.1 C₀.1.2.1 dX9_kind_68 rfl (lv_at hl₀ 2 rfl) ?_
            refine xi_add C₀.1.1 C₀.1.2.1 dX9_kind_69 ?_
            refine lv_iconst (v := iI 1) C₀.1.1 C₀.1.2.1 dX9_kind_70 (by decide) ?_
            refine xi_sub C₀.1.1 C₀.1.2.1 dX9_kind_71 ?_
            refine xw_ild C₀ hH₀ 2 0 rfl rfl (z := 3 * (((mKd sr_1₀ fi₀ kn₀ (s₀ 0 * s₀ 1).toNat).2.1) z₀) + i₀ - 1) (by omega) (by omega) (by decide) dX9_kind_72 ?_
            exact xr_i C₀ hH₀ hlk₀ hr₀ hQ₀ rfl hAe₀ (sr_1₀) hu₀ (by rw [if_pos ⟨by omega, by omega, by omega, by rw [← jl₀]; omega⟩, if_neg (by omega), if_pos (by omega)]) rfl dX9_kind_73
        · refine lv_aload_n C₀.1.1 C₀.1.2.1 dX9_kind_47 rfl (lv_at hl₀ 0 rfl) ?_
          refine xw_get C₀ hH₀ 0 rfl rfl 23 (by decide) iw_X9_kind_X9 (by decide +kernel) (v := .int (iI ((mKd sr_1₀ fi₀ kn₀ (s₀ 0 * s₀ 1).toNat).1))) rfl dX9_kind_48 ?_
          exact xr_i C₀ hH₀ hlk₀ hr₀ hQ₀ rfl hAe₀ (sr_1₀) hu₀ (by rw [if_pos ⟨by omega, by omega, by omega, by rw [← jl₀]; omega⟩, if_pos (by omega)]) rfl dX9_kind_51
      · refine lv_bipush (v := iI (-5)) C₀.1.1 C₀.1.2.1 dX9_kind_40 (by decide) ?_
        exact xr_i C₀ hH₀ hlk₀ hr₀ hQ₀ rfl hAe₀ (sr_1₀) hu₀ (by first | (rw [if_neg (by omega)]) | (rw [if_neg (by rw [← jl₀]; omega)])) rfl dX9_kind_42
    refine lv_iload_n C₀.1.1 C₀.1.2.1 dX9_kind_25 rfl (lv_at hl₀ 1 rfl) ?_
    refine xi_zge (tgt := 33) C₀.1.1 C₀.1.2.1 dX9_kind_26 (by decide) (by omega) (fun h_8₀ => ?_) (fun h_8₀ => ?_)
    · refine lv_iconst (v := iI 3) C₀.1.1 C₀.1.2.1 dX9_kind_33 (by decide) ?_
      exact L34₀ 3 ((by simp (disch := omega) only [if_pos, if_neg])) _ _ _ hH₀ (lv_sub hl₀ [0, 1, 2] rfl)
    · refine lv_iconst (v := iI 0) C₀.1.1 C₀.1.2.1 dX9_kind_29 (by decide) ?_
      refine lv_goto (tgt := 34) C₀.1.1 C₀.1.2.1 dX9_kind_30 (by decide) ?_
      exact L34₀ 0 ((by simp (disch := omega) only [if_pos, if_neg])) _ _ _ hH₀ (lv_sub hl₀ [0, 1, 2] rfl)
theorem iw_X9_mostAlike_X9 : ∀ w₀ ∈ u_ws RX9 TX9 24, w₀ ∈ wsX9_mostAlike := (fun w₀ h₀ => List.mem_cons_of_mem _ (List.mem_append_right _ h₀))
abbrev rmX9_mostAlike : Room := { frames := 1, cells := 0, slots := 0, locals := 23 }
set_option maxHeartbeats 4000000 in
set_option maxRecDepth 100000 in
/-- mostAlike -/
theorem c_X9_mostAlike (lL₀ : Launch) (D₀ : va_G) (k₀ : Nat → ClassId) (sz₀ : Nat) (a₀ : Nat) (q₀ : Nat → Nat) (th₀ : Int) (un₀ : Int) (mf₀ : Int) (ty₀ : Int) (fr₀ : Int) (tt₀ : Int) (tk₀ : Int) (fa₀ : Int) (hf₀ : Bool) (ho₀ : Bool) (km₀ : Int) (s₀ : Int → Int) (fc₀ : Int → Int) (sq₀ : Int → Int) (la₀ : Int) (hS₀ : mS s₀) (hmf₀ : 0 ≤ mf₀ ∧ mf₀ ≤ 6) (hfc₀ : ∀ j₀, 0 ≤ j₀ → j₀ < mf₀ → (1 ≤ fc₀ (2 * j₀) ∧ fc₀ (2 * j₀) ≤ 3) ∧ -9 ≤ fc₀ (2 * j₀ + 1) ∧ fc₀ (2 * j₀ + 1) ≤ 46) (hla₀ : 1 ≤ la₀ ∧ la₀ ≤ 3) (hsr₀ : ∀ d₀ t₀, 0 ≤ d₀ → d₀ < s₀ 0 * s₀ 1 → 0 ≤ t₀ → t₀ < 3 → -9 ≤ sq₀ (3 * d₀ + t₀) ∧ sq₀ (3 * d₀ + t₀) ≤ 46) : Met lL₀ yX9_mostAlike wsX9_mostAlike rmX9_mostAlike (gPc ZT D₀ (tyk k₀) [.ref a₀, .int (iI la₀)] sz₀ [mO a₀ q₀ th₀ un₀ mf₀ ty₀ fr₀ tt₀ tk₀ fa₀ (bz hf₀) (bz ho₀) km₀, (q₀ 1, .inl (k₀ 0, 51, .inl (ia s₀))), (q₀ 7, .inl (k₀ 0, 12, .inl (ia fc₀))), (q₀ 20, .inl (k₀ 0, 72, .inl (ia sq₀)))]) (gQi D₀ (tyk k₀) [mO a₀ q₀ th₀ un₀ mf₀ ty₀ fr₀ tt₀ tk₀ fa₀ (bz hf₀) (bz ho₀) km₀, (q₀ 1, .inl (k₀ 0, 51, .inl (ia s₀))), (q₀ 7, .inl (k₀ 0, 12, .inl (ia fc₀))), (q₀ 20, .inl (k₀ 0, 72, .inl (ia sq₀)))] sz₀ (fun (_ : Unit) => True) (fun (_ : Unit) => (iI (mAlk sq₀ fc₀ mf₀ (s₀ 0 * s₀ 1) la₀))) (fun (_ : Unit) => [mO a₀ q₀ th₀ un₀ mf₀ ty₀ fr₀ tt₀ tk₀ fa₀ (bz hf₀) (bz ho₀) km₀, (q₀ 1, .inl (k₀ 0, 51, .inl (ia s₀))), (q₀ 7, .inl (k₀ 0, 12, .inl (ia fc₀))), (q₀ 20, .inl (k₀ 0, 72, .inl (ia sq₀)))])) 0 0 (va_A [mO a₀ q₀ th₀ un₀ mf₀ ty₀ fr₀ tt₀ tk₀ fa₀ (bz hf₀) (bz ho₀) km₀, (q₀ 1, .inl (k₀ 0, 51, .inl (ia s₀))), (q₀ 7, .inl (k₀ 0, 12, .inl (ia fc₀))), (q₀ 20, .inl (k₀ 0, 72, .inl (ia sq₀)))] sz₀) := by
  refine xs_met (cc := cX9_mostAlike) (maxL := 6) (ret := some .int) (by decide) rfl (Nat.le_of_ble_eq_true rfl) ?_
  intro pP₀ eN₀ sT₀ mI₀ below₀ meth₀ cD₀ hsz₀ args₀ QQ₀ C₀ hr₀ hlk₀ hnm₀ hQ₀ ls₀ H₀ locs₀ hl₀ hH₀
  subst hsz₀
  have hl₀ : lv_has ls₀ 6 [(0, .ref a₀), (1, .int (iI la₀))] := hl₀
  generalize hAe₀ : va_A [mO a₀ q₀ th₀ un₀ mf₀ ty₀ fr₀ tt₀ tk₀ fa₀ (bz hf₀) (bz ho₀) km₀, (q₀ 1, .inl (k₀ 0, 51, .inl (ia s₀))), (q₀ 7, .inl (k₀ 0, 12, .inl (ia fc₀))), (q₀ 20, .inl (k₀ 0, 72, .inl (ia sq₀)))] sT₀.heap.size = A₀ at C₀ hH₀ hQ₀
  obtain ⟨hs0₀, hs1₀, hs2₀, hsh₀, hsf₀⟩ := id hS₀
  have hcl₀ := cells_rg hs0₀ hs1₀
  refine lv_iconst (v := iI 0) C₀.1.1 C₀.1.2.1 dX9_mostAlike_0 (by decide) ?_
  refine lv_istore_n (lv' := [(2, .int (iI 0)), (0, .ref a₀), (1, .int (iI la₀))]) C₀.1.1 C₀.1.2.1 dX9_mostAlike_1 rfl hl₀ (by decide) rfl (fun ls₀ hl₀ => ?_)
  refine lv_iconst (v := iI 0) C₀.1.1 C₀.1.2.1 dX9_mostAlike_2 (by decide) ?_
  refine lv_istore_n (lv' := [(3, .int (iI 0)), (2, .int (iI 0)), (0, .ref a₀), (1, .int (iI la₀))]) C₀.1.1 C₀.1.2.1 dX9_mostAlike_3 rfl hl₀ (by decide) rfl (fun ls₀ hl₀ => ?_)
  have L4₀ : ∀ (nn₀ : Nat), ∀ (m₀ : Int) (i₀ : Int), (m₀ = mxI (fun i₀ => sI (mAlkX sq₀ fc₀ mf₀ la₀ i₀) (s₀ 0 * s₀ 1)) i₀) → (0 ≤ i₀ ∧ i₀ ≤ s₀ 0 * s₀ 1) → (0 ≤ m₀ ∧ m₀ ≤ 24) → ((s₀ 0 * s₀ 1 - i₀) < (nn₀ : Int)) → ∀ (H₀ : Heap) (locs₀ : List Loc) (ls₀ : Array Slot), Hp D₀ A₀ sT₀.heap [mO a₀ q₀ th₀ un₀ mf₀ ty₀ fr₀ tt₀ tk₀ fa₀ (bz hf₀) (bz ho₀) km₀, (q₀ 1, .inl (k₀ 0, 51, .inl (ia s₀))), (q₀ 7, .inl (k₀ 0, 12, .inl (ia fc₀))), (q₀ 20, .inl (k₀ 0, 72, .inl (ia sq₀)))] H₀ locs₀ → lv_has ls₀ 6 [(0, .ref a₀), (1, .int (iI la₀)), (2, .int (iI m₀)), (3, .int (iI i₀))] → W pP₀ lL₀ eN₀ rmX9_mostAlike sT₀ mI₀ args₀ below₀ meth₀ cD₀ H₀ locs₀ 0 0 QQ₀ (F0 mI₀ 4 ls₀ []) := by
    intro nn₀
    induction nn₀ with
    | zero => intro m₀ i₀ i1₀ i2₀ i3₀ hm₀; exact absurd hm₀ (by omega)
    | succ nn₀ ih4₀ =>
      intro m₀ i₀ i1₀ i2₀ i3₀ hm4₀ H₀ locs₀ ls₀ hH₀ hl₀
      refine lv_iload_n C₀.1.1 C₀.1.2.1 dX9_mostAlike_4 rfl (lv_at hl₀ 3 rfl) ?_
      refine lv_aload_n C₀.1.1 C₀.1.2.1 dX9_mostAlike_5 rfl (lv_at hl₀ 0 rfl) ?_
      refine xc_Vi (wr := [(q₀ 7, .inl (k₀ 0, 12, .inl (ia fc₀))), (q₀ 20, .inl (k₀ 0, 72, .inl (ia sq₀)))]) (ws' := fun _ => [mO a₀ q₀ th₀ un₀ mf₀ ty₀ fr₀ tt₀ tk₀ fa₀ (bz hf₀) (bz ho₀) km₀, (q₀ 1, .inl (k₀ 0, 51, .inl (ia s₀))), (q₀ 7, .inl (k₀ 0, 12, .inl (ia fc₀))), (q₀ 20, .inl (k₀ 0, 72, .inl (ia sq₀)))]) (As := []) (rest := [.int (iI i₀)]) C₀ hH₀ (c_X9_cells lL₀ D₀ k₀ H₀.size a₀ q₀ th₀ un₀ mf₀ ty₀ fr₀ tt₀ tk₀ fa₀ hf₀ ho₀ km₀ s₀ ) ZT_b (fun _ _ _ => trivial) (cwV 0 C₀.1.2.2.2.2 gX9_mostAlike_X9_cells rfl rfl rfl (by decide +kernel) ⟨Nat.le_of_ble_eq_true rfl, Nat.le_of_ble_eq_true rfl⟩) [0, 1] [2, 3] [2, 3, 0, 1] rfl rfl (by decide) (by decide) (by decide) (fun _ => rfl) (by decide) (q0 := 0) rfl rfl rfl hl₀.1 rfl (Nat.le_of_ble_eq_true rfl) dX9_mostAlike_6 ⟨Nat.le_of_ble_eq_true rfl, Nat.le_of_ble_eq_true rfl⟩ (fun _ _ H₀ locs₀ hH₀ => ?_)
      refine xi_cge (tgt := 107) C₀.1.1 C₀.1.2.1 dX9_mostAlike_9 (by decide) (by omega) (by omega) (fun h_1₀ => ?_) (fun h_1₀ => ?_)
      · refine lv_iload_n C₀.1.1 C₀.1.2.1 dX9_mostAlike_107 rfl (lv_at hl₀ 2 rfl) ?_
        exact xr_i C₀ hH₀ hlk₀ hr₀ hQ₀ rfl hAe₀ () trivial (by unfold mAlk; rw [i1₀, show i₀ = s₀ 0 * s₀ 1 by omega]) rfl dX9_mostAlike_108
      · refine lv_iconst (v := iI 0) C₀.1.1 C₀.1.2.1 dX9_mostAlike_12 (by decide) ?_
        refine lv_istore (lv' := [(4, .int (iI 0)), (0, .ref a₀), (1, .int (iI la₀)), (2, .int (iI m₀)), (3, .int (iI i₀))]) C₀.1.1 C₀.1.2.1 dX9_mostAlike_13 hl₀ (by decide) rfl (fun ls₀ hl₀ => ?_)
        refine lv_iconst (v := iI 0) C₀.1.1 C₀.1.2.1 dX9_mostAlike_15 (by decide) ?_
        refine lv_istore (lv' := [(5, .int (iI 0)), (4, .int (iI 0)), (0, .ref a₀), (1, .int (iI la₀)), (2, .int (iI m₀)), (3, .int (iI i₀))]) C₀.1.1 C₀.1.2.1 dX9_mostAlike_16 hl₀ (by decide) rfl (fun ls₀ hl₀ => ?_)
        have L18₀ : ∀ (nn₀ : Nat), ∀ (n₀ : Int) (j₀ : Int), (n₀ = sI (mAlkX sq₀ fc₀ mf₀ la₀ i₀) j₀) → (0 ≤ j₀ ∧ j₀ ≤ s₀ 0 * s₀ 1) → ((s₀ 0 * s₀ 1 - j₀) < (nn₀ : Int)) → ∀ (H₀ : Heap) (locs₀ : List Loc) (ls₀ : Array Slot), Hp D₀ A₀ sT₀.heap [mO a₀ q₀ th₀ un₀ mf₀ ty₀ fr₀ tt₀ tk₀ fa₀ (bz hf₀) (bz ho₀) km₀, (q₀ 1, .inl (k₀ 0, 51, .inl (ia s₀))), (q₀ 7, .inl (k₀ 0, 12, .inl (ia fc₀))), (q₀ 20, .inl (k₀ 0, 72, .inl (ia sq₀)))] H₀ locs₀ → lv_has ls₀ 6 [(0, .ref a₀), (1, .int (iI la₀)), (2, .int (iI m₀)), (3, .int (iI i₀)), (4, .int (iI n₀)), (5, .int (iI j₀))] → W pP₀ lL₀ eN₀ rmX9_mostAlike sT₀ mI₀ args₀ below₀ meth₀ cD₀ H₀ locs₀ 0 0 QQ₀ (F0 mI₀ 18 ls₀ []) := by
          intro nn₀
          induction nn₀ with
          | zero => intro n₀ j₀ j1₀ j2₀ hm₀; exact absurd hm₀ (by omega)
          | succ nn₀ ih18₀ =>
            intro n₀ j₀ j1₀ j2₀ hm18₀ H₀ locs₀ ls₀ hH₀ hl₀
            refine lv_iload C₀.1.1 C₀.1.2.1 dX9_mostAlike_18 (lv_at hl₀ 5 rfl) ?_
            refine lv_aload_n C₀.1.1 C₀.1.2.1 dX9_mostAlike_20 rfl (lv_at hl₀ 0 rfl) ?_
            refine xc_Vi (wr := [(q₀ 7, .inl (k₀ 0, 12, .inl (ia fc₀))), (q₀ 20, .inl (k₀ 0, 72, .inl (ia sq₀)))]) (ws' := fun _ => [mO a₀ q₀ th₀ un₀ mf₀ ty₀ fr₀ tt₀ tk₀ fa₀ (bz hf₀) (bz ho₀) km₀, (q₀ 1, .inl (k₀ 0, 51, .inl (ia s₀))), (q₀ 7, .inl (k₀ 0, 12, .inl (ia fc₀))), (q₀ 20, .inl (k₀ 0, 72, .inl (ia sq₀)))]) (As := []) (rest := [.int (iI j₀)]) C₀ hH₀ (c_X9_cells lL₀ D₀ k₀ H₀.size a₀ q₀ th₀ un₀ mf₀ ty₀ fr₀ tt₀ tk₀ fa₀ hf₀ ho₀ km₀ s₀ ) ZT_b (fun _ _ _ => trivial) (cwV 0 C₀.1.2.2.2.2 gX9_mostAlike_X9_cells rfl rfl rfl (by decide +kernel) ⟨Nat.le_of_ble_eq_true rfl, Nat.le_of_ble_eq_true rfl⟩) [0, 1] [2, 3] [2, 3, 0, 1] rfl rfl (by decide) (by decide) (by decide) (fun _ => rfl) (by decide) (q0 := 0) rfl rfl rfl hl₀.1 rfl (Nat.le_of_ble_eq_true rfl) dX9_mostAlike_21 ⟨Nat.le_of_ble_eq_true rfl, Nat.le_of_ble_eq_true rfl⟩ (fun _ _ H₀ locs₀ hH₀ => ?_)
            refine xi_cge (tgt := 88) C₀.1.1 C₀.1.2.1 dX9_mostAlike_24 (by decide) (by omega) (by omega) (fun h_2₀ => ?_) (fun h_2₀ => ?_)
            · have jn₀ : n₀ = sI (mAlkX sq₀ fc₀ mf₀ la₀ i₀) (s₀ 0 * s₀ 1) := by rw [j1₀, show j₀ = s₀ 0 * s₀ 1 by omega]
              have hnr₀ := sI_rg (f := mAlkX sq₀ fc₀ mf₀ la₀ i₀) (B := 1) (show 0 ≤ s₀ 0 * s₀ 1 by omega) (fun t₀ _ _ => bz_rg _)
              rw [← jn₀] at hnr₀
              refine lv_iload C₀.1.1 C₀.1.2.1 dX9_mostAlike_88 (lv_at hl₀ 4 rfl) ?_
              refine lv_iload_n C₀.1.1 C₀.1.2.1 dX9_mostAlike_90 rfl (lv_at hl₀ 2 rfl) ?_
              refine xi_cle (tgt := 99) C₀.1.1 C₀.1.2.1 dX9_mostAlike_91 (by decide) (by omega) (by omega) (fun h_3₀ => ?_) (fun h_3₀ => ?_)
              · refine lv_iload_n C₀.1.1 C₀.1.2.1 dX9_mostAlike_99 rfl (lv_at hl₀ 2 rfl) ?_
                refine lv_istore_n (lv' := [(2, .int (iI m₀)), (0, .ref a₀), (1, .int (iI la₀)), (3, .int (iI i₀)), (4, .int (iI n₀)), (5, .int (iI j₀))]) C₀.1.1 C₀.1.2.1 dX9_mostAlike_100 rfl hl₀ (by decide) rfl (fun ls₀ hl₀ => ?_)
                refine lv_iinc (v := iI (i₀ + 1)) (lv' := [(3, .int (iI (i₀ + 1))), (2, .int (iI m₀)), (0, .ref a₀), (1, .int (iI la₀)), (4, .int (iI n₀)), (5, .int (iI j₀))]) C₀.1.1 C₀.1.2.1 dX9_mostAlike_101 hl₀ (k := 3) rfl (iI_add _ (1)) (by decide) rfl (fun ls₀ hl₀ => ?_)
                refine lv_goto (tgt := 4) C₀.1.1 C₀.1.2.1 dX9_mostAlike_104 (by decide) ?_
                exact ih4₀ m₀ (i₀ + 1) (by rw [mxI_s i2₀.1, ← i1₀, ← jn₀]; simp (disch := omega) only [if_pos, if_neg]) (by omega) (by omega) (by omega) _ _ _ hH₀ (lv_sub hl₀ [2, 3, 1, 0] rfl)
              · refine lv_iload C₀.1.1 C₀.1.2.1 dX9_mostAlike_94 (lv_at hl₀ 4 rfl) ?_
                refine lv_goto (tgt := 100) C₀.1.1 C₀.1.2.1 dX9_mostAlike_96 (by decide) ?_
                refine lv_istore_n (lv' := [(2, .int (iI n₀)), (0, .ref a₀), (1, .int (iI la₀)), (3, .int (iI i₀)), (4, .int (iI n₀)), (5, .int (iI j₀))]) C₀.1.1 C₀.1.2.1 dX9_mostAlike_100 rfl hl₀ (by decide) rfl (fun ls₀ hl₀ => ?_)
                refine lv_iinc (v := iI (i₀ + 1)) (lv' := [(3, .int (iI (i₀ + 1))), (2, .int (iI n₀)), (0, .ref a₀), (1, .int (iI la₀)), (4, .int (iI n₀)), (5, .int (iI j₀))]) C₀.1.1 C₀.1.2.1 dX9_mostAlike_101 hl₀ (k := 3) rfl (iI_add _ (1)) (by decide) rfl (fun ls₀ hl₀ => ?_)
                refine lv_goto (tgt := 4) C₀.1.1 C₀.1.2.1 dX9_mostAlike_104 (by decide) ?_
                exact ih4₀ n₀ (i₀ + 1) (by rw [mxI_s i2₀.1, ← i1₀, ← jn₀]; simp (disch := omega) only [if_pos, if_neg]) (by omega) (by omega) (by omega) _ _ _ hH₀ (lv_sub hl₀ [2, 3, 1, 0] rfl)
            · refine lv_iload C₀.1.1 C₀.1.2.1 dX9_mostAlike_27 (lv_at hl₀ 4 rfl) ?_
              have hb1₀ := hsr₀ i₀ (la₀ - 1) (by omega) (by omega) (by omega) (by omega)
              have hb2₀ := hsr₀ j₀ (la₀ - 1) (by omega) (by omega) (by omega) (by omega)
              rw [show 3 * i₀ + (la₀ - 1) = 3 * i₀ + la₀ - 1 by omega] at hb1₀
              rw [show 3 * j₀ + (la₀ - 1) = 3 * j₀ + la₀ - 1 by omega] at hb2₀
              have L79₀ : ∀ (d₀ : Int), (d₀ = mAlkX sq₀ fc₀ mf₀ la₀ i₀ j₀) → ∀ (H₀ : Heap) (locs₀ : List Loc) (ls₀ : Array Slot), Hp D₀ A₀ sT₀.heap [mO a₀ q₀ th₀ un₀ mf₀ ty₀ fr₀ tt₀ tk₀ fa₀ (bz hf₀) (bz ho₀) km₀, (q₀ 1, .inl (k₀ 0, 51, .inl (ia s₀))), (q₀ 7, .inl (k₀ 0, 12, .inl (ia fc₀))), (q₀ 20, .inl (k₀ 0, 72, .inl (ia sq₀)))] H₀ locs₀ → lv_has ls₀ 6 [(0, .ref a₀), (1, .int (iI la₀)), (2, .int (iI m₀)), (3, .int (iI i₀)), (4, .int (iI n₀)), (5, .int (iI j₀))] → W pP₀ lL₀ eN₀ rmX9_mostAlike sT₀ mI₀ args₀ below₀ meth₀ cD₀ H₀ locs₀ 0 0 QQ₀ (F0 mI₀ 79 ls₀ [.int (iI d₀), .int (iI n₀)]) := by
                intro d₀ jd₀ H₀ locs₀ ls₀ hH₀ hl₀
                refine xi_add C₀.1.1 C₀.1.2.1 dX9_mostAlike_79 ?_
                refine lv_istore (lv' := [(4, .int (iI (n₀ + d₀))), (0, .ref a₀), (1, .int (iI la₀)), (2, .int (iI m₀)), (3, .int (iI i₀)), (5, .int (iI j₀))]) C₀.1.1 C₀.1.2.1 dX9_mostAlike_80 hl₀ (by decide) rfl (fun ls₀ hl₀ => ?_)
                refine lv_iinc (v := iI (j₀ + 1)) (lv' := [(5, .int (iI (j₀ + 1))), (4, .int (iI (n₀ + d₀))), (0, .ref a₀), (1, .int (iI la₀)), (2, .int (iI m₀)), (3, .int (iI i₀))]) C₀.1.1 C₀.1.2.1 dX9_mostAlike_82 hl₀ (k := 5) rfl (iI_add _ (1)) (by decide) rfl (fun ls₀ hl₀ => ?_)
                refine lv_goto (tgt := 18) C₀.1.1 C₀.1.2.1 dX9_mostAlike_85 (by decide) ?_
                exact ih18₀ (n₀ + d₀) (j₀ + 1) (by rw [sI_s j2₀.1, ← j1₀, jd₀]) (by omega) (by omega) _ _ _ hH₀ (lv_sub hl₀ [2, 3, 4, 5, 1, 0] rfl)
              refine lv_aload_n C₀.1.1 C₀.1.2.1 dX9_mostAlike_29 rfl (lv_at hl₀ 0 rfl) ?_
              refine lv_iload_n C₀.1.1 C₀.1.2.1 dX9_mostAlike_30 rfl (lv_at hl₀ 3 rfl) ?_
              refine xc_Vi (wr := [(q₀ 1, .inl (k₀ 0, 51, .inl (ia s₀)))]) (ws' := fun _ => [mO a₀ q₀ th₀ un₀ mf₀ ty₀ fr₀ tt₀ tk₀ fa₀ (bz hf₀) (bz ho₀) km₀, (q₀ 1, .inl (k₀ 0, 51, .inl (ia s₀))), (q₀ 7, .inl (k₀ 0, 12, .inl (ia fc₀))), (q₀ 20, .inl (k₀ 0, 72, .inl (ia sq₀)))]) (As := [.int (iI i₀)]) (rest := [.int (iI n₀)]) C₀ hH₀ (c_X9_isSo lL₀ D₀ k₀ H₀.size a₀ q₀ th₀ un₀ mf₀ ty₀ fr₀ tt₀ tk₀ fa₀ hf₀ ho₀ km₀ fc₀ sq₀ i₀ (by omega) (by omega) (hfc₀) (fun t₀ a₀ b₀ => hsr₀ _ t₀ (by omega) (by omega) a₀ b₀)) ZT_b (fun _ _ _ => trivial) (cwV 1 C₀.1.2.2.2.2 gX9_mostAlike_X9_isSo rfl rfl rfl (by decide +kernel) ⟨Nat.le_of_ble_eq_true rfl, Nat.le_of_ble_eq_true rfl⟩) [0, 2, 3] [1] [1, 0, 2, 3] rfl rfl (by decide) (by decide) (by decide) (fun _ => rfl) (by decide) (q0 := 0) rfl rfl rfl hl₀.1 rfl (Nat.le_of_ble_eq_true rfl) dX9_mostAlike_31 ⟨Nat.le_of_ble_eq_true rfl, Nat.le_of_ble_eq_true rfl⟩ (fun _ _ H₀ locs₀ hH₀ => ?_)
              refine xb_eq (tgt := 78) C₀.1.1 C₀.1.2.1 dX9_mostAlike_34 (by decide) (fun h_4₀ => ?_) (fun h_4₀ => ?_)
              · refine lv_iconst (v := iI 0) C₀.1.1 C₀.1.2.1 dX9_mostAlike_78 (by decide) ?_
                exact L79₀ 0 ((by unfold mAlkX; simp_all [bz])) _ _ _ hH₀ (lv_sub hl₀ [0, 1, 2, 3, 4, 5] rfl)
              · refine lv_aload_n C₀.1.1 C₀.1.2.1 dX9_mostAlike_37 rfl (lv_at hl₀ 0 rfl) ?_
                refine lv_iload C₀.1.1 C₀.1.2.1 dX9_mostAlike_38 (lv_at hl₀ 5 rfl) ?_
                refine xc_Vi (wr := [(q₀ 1, .inl (k₀ 0, 51, .inl (ia s₀)))]) (ws' := fun _ => [mO a₀ q₀ th₀ un₀ mf₀ ty₀ fr₀ tt₀ tk₀ fa₀ (bz hf₀) (bz ho₀) km₀, (q₀ 1, .inl (k₀ 0, 51, .inl (ia s₀))), (q₀ 7, .inl (k₀ 0, 12, .inl (ia fc₀))), (q₀ 20, .inl (k₀ 0, 72, .inl (ia sq₀)))]) (As := [.int (iI j₀)]) (rest := [.int (iI n₀)]) C₀ hH₀ (c_X9_isSo lL₀ D₀ k₀ H₀.size a₀ q₀ th₀ un₀ mf₀ ty₀ fr₀ tt₀ tk₀ fa₀ hf₀ ho₀ km₀ fc₀ sq₀ j₀ (by omega) (by omega) (hfc₀) (fun t₀ a₀ b₀ => hsr₀ _ t₀ (by omega) (by omega) a₀ b₀)) ZT_b (fun _ _ _ => trivial) (cwV 1 C₀.1.2.2.2.2 gX9_mostAlike_X9_isSo rfl rfl rfl (by decide +kernel) ⟨Nat.le_of_ble_eq_true rfl, Nat.le_of_ble_eq_true rfl⟩) [0, 2, 3] [1] [1, 0, 2, 3] rfl rfl (by decide) (by decide) (by decide) (fun _ => rfl) (by decide) (q0 := 0) rfl rfl rfl hl₀.1 rfl (Nat.le_of_ble_eq_true rfl) dX9_mostAlike_40 ⟨Nat.le_of_ble_eq_true rfl, Nat.le_of_ble_eq_true rfl⟩ (fun _ _ H₀ locs₀ hH₀ => ?_)
                refine xb_eq (tgt := 78) C₀.1.1 C₀.1.2.1 dX9_mostAlike_43 (by decide) (fun h_5₀ => ?_) (fun h_5₀ => ?_)
                · refine lv_iconst (v := iI 0) C₀.1.1 C₀.1.2.1 dX9_mostAlike_78 (by decide) ?_
                  exact L79₀ 0 ((by unfold mAlkX; simp_all [bz])) _ _ _ hH₀ (lv_sub hl₀ [0, 1, 2, 3, 4, 5] rfl)
                · refine lv_aload_n C₀.1.1 C₀.1.2.1 dX9_mostAlike_46 rfl (lv_at hl₀ 0 rfl) ?_
                  refine xw_get C₀ hH₀ 0 rfl rfl 20 (by decide) iw_X9_mostAlike_X9 (by decide +kernel) (v := .ref (q₀ 20)) rfl dX9_mostAlike_47 ?_
                  refine lv_iconst (v := iI 3) C₀.1.1 C₀.1.2.1 dX9_mostAlike_50 (by decide) ?_
                  refine lv_iload_n C₀.1.1 C₀.1.2.1 dX9_mostAlike_51 rfl (lv_at hl₀ 3 rfl) ?_
                  refine xi_mul C₀.1.1 C₀.1.2.1 dX9_mostAlike_52 ?_
                  refine lv_iload_n C₀.1.1 C₀.1.2.1 dX9_mostAlike_53 rfl (lv_at hl₀ 1 rfl) ?_
                  refine xi_add C₀.1.1 C₀.1.2.1 dX9_mostAlike_54 ?_
                  refine lv_iconst (v := iI 1) C₀.1.1 C₀.1.2.1 dX9_mostAlike_55 (by decide) ?_
                  refine xi_sub C₀.1.1 C₀.1.2.1 dX9_mostAlike_56 ?_
                  refine xw_ild C₀ hH₀ 3 0 rfl rfl (z := 3 * i₀ + la₀ - 1) (by omega) (by omega) (by decide) dX9_mostAlike_57 ?_
                  refine lv_aload_n C₀.1.1 C₀.1.2.1 dX9_mostAlike_58 rfl (lv_at hl₀ 0 rfl) ?_
                  refine xw_get C₀ hH₀ 0 rfl rfl 20 (by decide) iw_X9_mostAlike_X9 (by decide +kernel) (v := .ref (q₀ 20)) rfl dX9_mostAlike_59 ?_
                  refine lv_iconst (v := iI 3) C₀.1.1 C₀.1.2.1 dX9_mostAlike_62 (by decide) ?_
                  refine lv_iload C₀.1.1 C₀.1.2.1 dX9_mostAlike_63 (lv_at hl₀ 5 rfl) ?_
                  refine xi_mul C₀.1.1 C₀.1.2.1 dX9_mostAlike_65 ?_
                  refine lv_iload_n C₀.1.1 C₀.1.2.1 dX9_mostAlike_66 rfl (lv_at hl₀ 1 rfl) ?_
                  refine xi_add C₀.1.1 C₀.1.2.1 dX9_mostAlike_67 ?_
                  refine lv_iconst (v := iI 1) C₀.1.1 C₀.1.2.1 dX9_mostAlike_68 (by decide) ?_
                  refine xi_sub C₀.1.1 C₀.1.2.1 dX9_mostAlike_69 ?_
                  refine xw_ild C₀ hH₀ 3 0 rfl rfl (z := 3 * j₀ + la₀ - 1) (by omega) (by omega) (by decide) dX9_mostAlike_70 ?_
                  refine xi_cne (tgt := 78) C₀.1.1 C₀.1.2.1 dX9_mostAlike_71 (by decide) (by omega) (by omega) (fun h_6₀ => ?_) (fun h_6₀ => ?_)
                  · refine lv_iconst (v := iI 0) C₀.1.1 C₀.1.2.1 dX9_mostAlike_78 (by decide) ?_
                    exact L79₀ 0 ((by unfold mAlkX; simp_all [bz])) _ _ _ hH₀ (lv_sub hl₀ [0, 1, 2, 3, 4, 5] rfl)
                  · refine lv_iconst (v := iI 1) C₀.1.1 C₀.1.2.1 dX9_mostAlike_74 (by decide) ?_
                    refine lv_goto (tgt := 79) C₀.1.1 C₀.1.2.1 dX9_mostAlike_75 (by decide) ?_
                    exact L79₀ 1 ((by unfold mAlkX; simp_all [bz])) _ _ _ hH₀ (lv_sub hl₀ [0, 1, 2, 3, 4, 5] rfl)
        exact L18₀ (((s₀ 0 * s₀ 1 - 0) : Int).toNat + 1) 0 0 (rfl) (by omega) (by omega) _ _ _ hH₀ (lv_sub hl₀ [2, 3, 4, 5, 1, 0] rfl)
  exact L4₀ (((s₀ 0 * s₀ 1 - 0) : Int).toNat + 1) 0 0 (rfl) (by omega) (by omega) (by omega) _ _ _ hH₀ (lv_sub hl₀ [2, 3, 1, 0] rfl)
theorem iw_X9_which_X9 : ∀ w₀ ∈ u_ws RX9 TX9 24, w₀ ∈ wsX9_which := (fun w₀ h₀ => List.mem_cons_of_mem _ (List.mem_append_right _ h₀))
abbrev rmX9_which : Room := { frames := 6, cells := 0, slots := 0, locals := 142 }
set_option maxHeartbeats 4000000 in
set_option maxRecDepth 100000 in
/-- which -/
theorem c_X9_which (lL₀ : Launch) (D₀ : va_G) (k₀ : Nat → ClassId) (sz₀ : Nat) (a₀ : Nat) (q₀ : Nat → Nat) (th₀ : Int) (un₀ : Int) (mf₀ : Int) (ty₀ : Int) (fr₀ : Int) (tt₀ : Int) (tk₀ : Int) (fa₀ : Int) (hf₀ : Bool) (ho₀ : Bool) (km₀ : Int) (s₀ : Int → Int) (fc₀ : Int → Int) (sq₀ : Int → Int) (x : Int) (hS₀ : mS s₀) (hmf₀ : 0 ≤ mf₀ ∧ mf₀ ≤ 6) (hfc₀ : ∀ j₀, 0 ≤ j₀ → j₀ < mf₀ → (1 ≤ fc₀ (2 * j₀) ∧ fc₀ (2 * j₀) ≤ 3) ∧ -9 ≤ fc₀ (2 * j₀ + 1) ∧ fc₀ (2 * j₀ + 1) ≤ 46) (hx₀ : -2147483648 ≤ x ∧ x < 2147483648) : Met lL₀ yX9_which wsX9_which rmX9_which (gPc ZT D₀ (tyk k₀) [.ref a₀, .int (iI x)] sz₀ [mO a₀ q₀ th₀ un₀ mf₀ ty₀ fr₀ tt₀ tk₀ fa₀ (bz hf₀) (bz ho₀) km₀, (q₀ 1, .inl (k₀ 0, 51, .inl (ia s₀))), (q₀ 7, .inl (k₀ 0, 12, .inl (ia fc₀))), (q₀ 20, .inl (k₀ 0, 72, .inl (ia sq₀)))]) (gQi D₀ (tyk k₀) [mO a₀ q₀ th₀ un₀ mf₀ ty₀ fr₀ tt₀ tk₀ fa₀ (bz hf₀) (bz ho₀) km₀, (q₀ 1, .inl (k₀ 0, 51, .inl (ia s₀))), (q₀ 7, .inl (k₀ 0, 12, .inl (ia fc₀))), (q₀ 20, .inl (k₀ 0, 72, .inl (ia sq₀)))] sz₀ (fun (sr₀ : Int → Int) => 0 ≤ x ∧ x ≤ 1 → mSqOk s₀ sr₀ (s₀ 0 * s₀ 1)) (fun (sr₀ : Int → Int) => (iI (if 0 ≤ x ∧ x ≤ 1 then if x = 0 then sI (fun c₀ => bz (mSo sr₀ fc₀ mf₀ c₀)) (s₀ 0 * s₀ 1) else mFst (mSo sr₀ fc₀ mf₀) (s₀ 0 * s₀ 1).toNat else -1))) (fun (sr₀ : Int → Int) => [mO a₀ q₀ 0 un₀ mf₀ ty₀ fr₀ tt₀ tk₀ fa₀ (bz hf₀) (bz ho₀) km₀, (q₀ 1, .inl (k₀ 0, 51, .inl (ia s₀))), (q₀ 7, .inl (k₀ 0, 12, .inl (ia fc₀))), (q₀ 20, .inl (k₀ 0, 72, .inl (ia sr₀)))])) 0 0 (va_A [mO a₀ q₀ th₀ un₀ mf₀ ty₀ fr₀ tt₀ tk₀ fa₀ (bz hf₀) (bz ho₀) km₀, (q₀ 1, .inl (k₀ 0, 51, .inl (ia s₀))), (q₀ 7, .inl (k₀ 0, 12, .inl (ia fc₀))), (q₀ 20, .inl (k₀ 0, 72, .inl (ia sq₀)))] sz₀) := by
  refine xs_met (cc := cX9_which) (maxL := 5) (ret := some .int) (by decide) rfl (Nat.le_of_ble_eq_true rfl) ?_
  intro pP₀ eN₀ sT₀ mI₀ below₀ meth₀ cD₀ hsz₀ args₀ QQ₀ C₀ hr₀ hlk₀ hnm₀ hQ₀ ls₀ H₀ locs₀ hl₀ hH₀
  subst hsz₀
  have hl₀ : lv_has ls₀ 5 [(0, .ref a₀), (1, .int (iI x))] := hl₀
  generalize hAe₀ : va_A [mO a₀ q₀ th₀ un₀ mf₀ ty₀ fr₀ tt₀ tk₀ fa₀ (bz hf₀) (bz ho₀) km₀, (q₀ 1, .inl (k₀ 0, 51, .inl (ia s₀))), (q₀ 7, .inl (k₀ 0, 12, .inl (ia fc₀))), (q₀ 20, .inl (k₀ 0, 72, .inl (ia sq₀)))] sT₀.heap.size = A₀ at C₀ hH₀ hQ₀
  obtain ⟨hs0₀, hs1₀, hs2₀, hsh₀, hsf₀⟩ := id hS₀
  have hcl₀ := cells_rg hs0₀ hs1₀
  refine lv_aload_n C₀.1.1 C₀.1.2.1 dX9_which_0 rfl (lv_at hl₀ 0 rfl) ?_
  refine lv_iconst (v := iI 0) C₀.1.1 C₀.1.2.1 dX9_which_1 (by decide) ?_
  refine xw_put (ws' := [mO a₀ q₀ 0 un₀ mf₀ ty₀ fr₀ tt₀ tk₀ fa₀ (bz hf₀) (bz ho₀) km₀, (q₀ 1, .inl (k₀ 0, 51, .inl (ia s₀))), (q₀ 7, .inl (k₀ 0, 12, .inl (ia fc₀))), (q₀ 20, .inl (k₀ 0, 72, .inl (ia sq₀)))]) (v := .int (iI 0)) C₀ hH₀ 0 rfl rfl tyX9 tyX9_ok nmX9 0 (by decide) iw_X9_which_X9 (by decide +kernel) rfl rfl rfl (Nat.le_of_ble_eq_true rfl) dX9_which_2 rfl (fun H₀ locs₀ hH₀ => ?_)
  refine lv_iload_n C₀.1.1 C₀.1.2.1 dX9_which_5 rfl (lv_at hl₀ 1 rfl) ?_
  refine lv_iconst (v := iI 0) C₀.1.1 C₀.1.2.1 dX9_which_6 (by decide) ?_
  refine lv_iconst (v := iI 1) C₀.1.1 C₀.1.2.1 dX9_which_7 (by decide) ?_
  refine xc_Si (wr := [mO a₀ q₀ 0 un₀ mf₀ ty₀ fr₀ tt₀ tk₀ fa₀ (bz hf₀) (bz ho₀) km₀, (q₀ 1, .inl (k₀ 0, 51, .inl (ia s₀))), (q₀ 7, .inl (k₀ 0, 12, .inl (ia fc₀))), (q₀ 20, .inl (k₀ 0, 72, .inl (ia sq₀)))]) (ws' := fun _ => [mO a₀ q₀ 0 un₀ mf₀ ty₀ fr₀ tt₀ tk₀ fa₀ (bz hf₀) (bz ho₀) km₀, (q₀ 1, .inl (k₀ 0, 51, .inl (ia s₀))), (q₀ 7, .inl (k₀ 0, 12, .inl (ia fc₀))), (q₀ 20, .inl (k₀ 0, 72, .inl (ia sq₀)))]) (As := [.int (iI x), .int (iI 0), .int (iI 1)]) (rest := []) C₀ hH₀ (c_X9_in lL₀ D₀ k₀ H₀.size x 0 1 (by omega) (by omega) (by omega)) ZT_b (fun _ _ _ => trivial) (va_cwS 3 C₀.1.2.2.2.2 gX9_which_X9_in rfl rfl rfl (by decide +kernel) ⟨Nat.le_of_ble_eq_true rfl, Nat.le_of_ble_eq_true rfl⟩) [] [0, 1, 2, 3] [0, 1, 2, 3] rfl rfl (by decide) (by decide) (by decide) (fun _ => rfl) (by decide) rfl hl₀.1 rfl (Nat.le_of_ble_eq_true rfl) dX9_which_8 ⟨Nat.le_of_ble_eq_true rfl, Nat.le_of_ble_eq_true rfl⟩ (fun _ _ H₀ locs₀ hH₀ => ?_)
  refine xp_ne (tgt := 16) C₀.1.1 C₀.1.2.1 dX9_which_11 (by decide) (fun h_1₀ => ?_) (fun h_1₀ => ?_)
  · refine lv_aload_n C₀.1.1 C₀.1.2.1 dX9_which_16 rfl (lv_at hl₀ 0 rfl) ?_
    refine xc_Vv (wr := [(q₀ 7, .inl (k₀ 0, 12, .inl (ia fc₀)))]) (ws' := fun sr_2₀ => [mO a₀ q₀ 0 un₀ mf₀ ty₀ fr₀ tt₀ tk₀ fa₀ (bz hf₀) (bz ho₀) km₀, (q₀ 1, .inl (k₀ 0, 51, .inl (ia s₀))), (q₀ 7, .inl (k₀ 0, 12, .inl (ia fc₀))), (q₀ 20, .inl (k₀ 0, 72, .inl (ia sr_2₀)))]) (As := []) (rest := []) C₀ hH₀ (c_X9_laysSquares lL₀ D₀ k₀ H₀.size a₀ q₀ 0 un₀ mf₀ ty₀ fr₀ tt₀ tk₀ fa₀ hf₀ ho₀ km₀ s₀ sq₀ (hS₀)) ZT_b (fun _ _ _ => trivial) (cwV 0 C₀.1.2.2.2.2 gX9_which_X9_laysSquares rfl rfl rfl (by decide +kernel) ⟨Nat.le_of_ble_eq_true rfl, Nat.le_of_ble_eq_true rfl⟩) [0, 1, 3] [2] [1, 2, 0, 3] rfl rfl (by decide) (by decide) (by decide) (fun _ => rfl) (by decide) (q0 := 0) rfl rfl rfl hl₀.1 rfl (Nat.le_of_ble_eq_true rfl) dX9_which_17 ⟨Nat.le_of_ble_eq_true rfl, Nat.le_of_ble_eq_true rfl⟩ (fun sr_2₀ hu₀ H₀ locs₀ hH₀ => ?_)
    refine lv_iconst (v := iI 0) C₀.1.1 C₀.1.2.1 dX9_which_20 (by decide) ?_
    refine lv_istore_n (lv' := [(2, .int (iI 0)), (0, .ref a₀), (1, .int (iI x))]) C₀.1.1 C₀.1.2.1 dX9_which_21 rfl hl₀ (by decide) rfl (fun ls₀ hl₀ => ?_)
    refine lv_bipush (v := iI (-9)) C₀.1.1 C₀.1.2.1 dX9_which_22 (by decide) ?_
    refine lv_istore_n (lv' := [(3, .int (iI (-9))), (2, .int (iI 0)), (0, .ref a₀), (1, .int (iI x))]) C₀.1.1 C₀.1.2.1 dX9_which_24 rfl hl₀ (by decide) rfl (fun ls₀ hl₀ => ?_)
    refine lv_iconst (v := iI 0) C₀.1.1 C₀.1.2.1 dX9_which_25 (by decide) ?_
    refine lv_istore (lv' := [(4, .int (iI 0)), (3, .int (iI (-9))), (2, .int (iI 0)), (0, .ref a₀), (1, .int (iI x))]) C₀.1.1 C₀.1.2.1 dX9_which_26 hl₀ (by decide) rfl (fun ls₀ hl₀ => ?_)
    have L28₀ : ∀ (nn₀ : Nat), ∀ (n₀ : Int) (f₀ : Int) (c₀ : Int), (n₀ = sI (fun c₀ => bz (mSo sr_2₀ fc₀ mf₀ c₀)) c₀) → (0 ≤ c₀ ∧ c₀ ≤ s₀ 0 * s₀ 1) → (f₀ = mFst (mSo sr_2₀ fc₀ mf₀) c₀.toNat) → (0 ≤ n₀ ∧ n₀ ≤ c₀) → ((s₀ 0 * s₀ 1 - c₀) < (nn₀ : Int)) → ∀ (H₀ : Heap) (locs₀ : List Loc) (ls₀ : Array Slot), Hp D₀ A₀ sT₀.heap [mO a₀ q₀ 0 un₀ mf₀ ty₀ fr₀ tt₀ tk₀ fa₀ (bz hf₀) (bz ho₀) km₀, (q₀ 1, .inl (k₀ 0, 51, .inl (ia s₀))), (q₀ 7, .inl (k₀ 0, 12, .inl (ia fc₀))), (q₀ 20, .inl (k₀ 0, 72, .inl (ia sr_2₀)))] H₀ locs₀ → lv_has ls₀ 5 [(0, .ref a₀), (1, .int (iI x)), (2, .int (iI n₀)), (3, .int (iI f₀)), (4, .int (iI c₀))] → W pP₀ lL₀ eN₀ rmX9_which sT₀ mI₀ args₀ below₀ meth₀ cD₀ H₀ locs₀ 0 0 QQ₀ (F0 mI₀ 28 ls₀ []) := by
      intro nn₀
      induction nn₀ with
      | zero => intro n₀ f₀ c₀ i1₀ i2₀ i3₀ i4₀ hm₀; exact absurd hm₀ (by omega)
      | succ nn₀ ih28₀ =>
        intro n₀ f₀ c₀ i1₀ i2₀ i3₀ i4₀ hm28₀ H₀ locs₀ ls₀ hH₀ hl₀
        refine lv_iload C₀.1.1 C₀.1.2.1 dX9_which_28 (lv_at hl₀ 4 rfl) ?_
        refine lv_aload_n C₀.1.1 C₀.1.2.1 dX9_which_30 rfl (lv_at hl₀ 0 rfl) ?_
        refine xc_Vi (wr := [(q₀ 7, .inl (k₀ 0, 12, .inl (ia fc₀))), (q₀ 20, .inl (k₀ 0, 72, .inl (ia sr_2₀)))]) (ws' := fun _ => [mO a₀ q₀ 0 un₀ mf₀ ty₀ fr₀ tt₀ tk₀ fa₀ (bz hf₀) (bz ho₀) km₀, (q₀ 1, .inl (k₀ 0, 51, .inl (ia s₀))), (q₀ 7, .inl (k₀ 0, 12, .inl (ia fc₀))), (q₀ 20, .inl (k₀ 0, 72, .inl (ia sr_2₀)))]) (As := []) (rest := [.int (iI c₀)]) C₀ hH₀ (c_X9_cells lL₀ D₀ k₀ H₀.size a₀ q₀ 0 un₀ mf₀ ty₀ fr₀ tt₀ tk₀ fa₀ hf₀ ho₀ km₀ s₀ ) ZT_b (fun _ _ _ => trivial) (cwV 0 C₀.1.2.2.2.2 gX9_which_X9_cells rfl rfl rfl (by decide +kernel) ⟨Nat.le_of_ble_eq_true rfl, Nat.le_of_ble_eq_true rfl⟩) [0, 1] [2, 3] [2, 3, 0, 1] rfl rfl (by decide) (by decide) (by decide) (fun _ => rfl) (by decide) (q0 := 0) rfl rfl rfl hl₀.1 rfl (Nat.le_of_ble_eq_true rfl) dX9_which_31 ⟨Nat.le_of_ble_eq_true rfl, Nat.le_of_ble_eq_true rfl⟩ (fun _ _ H₀ locs₀ hH₀ => ?_)
        refine xi_cge (tgt := 66) C₀.1.1 C₀.1.2.1 dX9_which_34 (by decide) (by omega) (by omega) (fun h_3₀ => ?_) (fun h_3₀ => ?_)
        · refine lv_iload_n C₀.1.1 C₀.1.2.1 dX9_which_66 rfl (lv_at hl₀ 1 rfl) ?_
          refine xi_zne (tgt := 74) C₀.1.1 C₀.1.2.1 dX9_which_67 (by decide) (by omega) (fun h_4₀ => ?_) (fun h_4₀ => ?_)
          · refine lv_iload_n C₀.1.1 C₀.1.2.1 dX9_which_74 rfl (lv_at hl₀ 3 rfl) ?_
            exact xr_i C₀ hH₀ hlk₀ hr₀ hQ₀ rfl hAe₀ (sr_2₀) (fun _ => hu₀) (by rw [if_pos (by omega), if_neg (by omega), i3₀, show c₀ = s₀ 0 * s₀ 1 by omega]) rfl dX9_which_75
          · refine lv_iload_n C₀.1.1 C₀.1.2.1 dX9_which_70 rfl (lv_at hl₀ 2 rfl) ?_
            refine lv_goto (tgt := 75) C₀.1.1 C₀.1.2.1 dX9_which_71 (by decide) ?_
            exact xr_i C₀ hH₀ hlk₀ hr₀ hQ₀ rfl hAe₀ (sr_2₀) (fun _ => hu₀) (by rw [if_pos (by omega), if_pos (by omega), i1₀, show c₀ = s₀ 0 * s₀ 1 by omega]) rfl dX9_which_75
        · refine lv_aload_n C₀.1.1 C₀.1.2.1 dX9_which_37 rfl (lv_at hl₀ 0 rfl) ?_
          refine lv_iload C₀.1.1 C₀.1.2.1 dX9_which_38 (lv_at hl₀ 4 rfl) ?_
          refine xc_Vi (wr := [(q₀ 1, .inl (k₀ 0, 51, .inl (ia s₀)))]) (ws' := fun _ => [mO a₀ q₀ 0 un₀ mf₀ ty₀ fr₀ tt₀ tk₀ fa₀ (bz hf₀) (bz ho₀) km₀, (q₀ 1, .inl (k₀ 0, 51, .inl (ia s₀))), (q₀ 7, .inl (k₀ 0, 12, .inl (ia fc₀))), (q₀ 20, .inl (k₀ 0, 72, .inl (ia sr_2₀)))]) (As := [.int (iI c₀)]) (rest := []) C₀ hH₀ (c_X9_isSo lL₀ D₀ k₀ H₀.size a₀ q₀ 0 un₀ mf₀ ty₀ fr₀ tt₀ tk₀ fa₀ hf₀ ho₀ km₀ fc₀ sr_2₀ c₀ (by omega) (by omega) (hfc₀) (fun t₀ a₀ b₀ => mSqOk_rg hu₀ (by omega) (by omega) a₀ b₀)) ZT_b (fun _ _ _ => trivial) (cwV 1 C₀.1.2.2.2.2 gX9_which_X9_isSo rfl rfl rfl (by decide +kernel) ⟨Nat.le_of_ble_eq_true rfl, Nat.le_of_ble_eq_true rfl⟩) [0, 2, 3] [1] [1, 0, 2, 3] rfl rfl (by decide) (by decide) (by decide) (fun _ => rfl) (by decide) (q0 := 0) rfl rfl rfl hl₀.1 rfl (Nat.le_of_ble_eq_true rfl) dX9_which_40 ⟨Nat.le_of_ble_eq_true rfl, Nat.le_of_ble_eq_true rfl⟩ (fun _ _ H₀ locs₀ hH₀ => ?_)
          refine xb_eq (tgt := 60) C₀.1.1 C₀.1.2.1 dX9_which_43 (by decide) (fun h_5₀ => ?_) (fun h_5₀ => ?_)
          · refine lv_iinc (v := iI (c₀ + 1)) (lv' := [(4, .int (iI (c₀ + 1))), (0, .ref a₀), (1, .int (iI x)), (2, .int (iI n₀)), (3, .int (iI f₀))]) C₀.1.1 C₀.1.2.1 dX9_which_60 hl₀ (k := 4) rfl (iI_add _ (1)) (by decide) rfl (fun ls₀ hl₀ => ?_)
            refine lv_goto (tgt := 28) C₀.1.1 C₀.1.2.1 dX9_which_63 (by decide) ?_
            exact ih28₀ n₀ f₀ (c₀ + 1) (by rw [sI_s i2₀.1, ← i1₀, h_5₀]; simp [bz]) (by omega) (by rw [mFst_s i2₀.1, ← i3₀, if_neg (by rw [h_5₀]; decide)]) (by omega) (by omega) _ _ _ hH₀ (lv_sub hl₀ [1, 2, 3, 4, 0] rfl)
          · refine lv_iload_n C₀.1.1 C₀.1.2.1 dX9_which_46 rfl (lv_at hl₀ 2 rfl) ?_
            refine xi_zne (tgt := 55) C₀.1.1 C₀.1.2.1 dX9_which_47 (by decide) (by omega) (fun h_6₀ => ?_) (fun h_6₀ => ?_)
            · refine lv_iload_n C₀.1.1 C₀.1.2.1 dX9_which_55 rfl (lv_at hl₀ 3 rfl) ?_
              refine lv_istore_n (lv' := [(3, .int (iI f₀)), (0, .ref a₀), (1, .int (iI x)), (2, .int (iI n₀)), (4, .int (iI c₀))]) C₀.1.1 C₀.1.2.1 dX9_which_56 rfl hl₀ (by decide) rfl (fun ls₀ hl₀ => ?_)
              refine lv_iinc (v := iI (n₀ + 1)) (lv' := [(2, .int (iI (n₀ + 1))), (3, .int (iI f₀)), (0, .ref a₀), (1, .int (iI x)), (4, .int (iI c₀))]) C₀.1.1 C₀.1.2.1 dX9_which_57 hl₀ (k := 3) rfl (iI_add _ (1)) (by decide) rfl (fun ls₀ hl₀ => ?_)
              refine lv_iinc (v := iI (c₀ + 1)) (lv' := [(4, .int (iI (c₀ + 1))), (2, .int (iI (n₀ + 1))), (3, .int (iI f₀)), (0, .ref a₀), (1, .int (iI x))]) C₀.1.1 C₀.1.2.1 dX9_which_60 hl₀ (k := 4) rfl (iI_add _ (1)) (by decide) rfl (fun ls₀ hl₀ => ?_)
              refine lv_goto (tgt := 28) C₀.1.1 C₀.1.2.1 dX9_which_63 (by decide) ?_
              exact ih28₀ (n₀ + 1) f₀ (c₀ + 1) (by rw [sI_s i2₀.1, ← i1₀, h_5₀]; simp [bz]) (by omega) (by rw [mFst_s i2₀.1, ← i1₀, ← i3₀, if_pos h_5₀]; simp (disch := omega) only [if_pos, if_neg]) (by omega) (by omega) _ _ _ hH₀ (lv_sub hl₀ [3, 4, 1, 2, 0] rfl)
            · refine lv_iload C₀.1.1 C₀.1.2.1 dX9_which_50 (lv_at hl₀ 4 rfl) ?_
              refine lv_goto (tgt := 56) C₀.1.1 C₀.1.2.1 dX9_which_52 (by decide) ?_
              refine lv_istore_n (lv' := [(3, .int (iI c₀)), (0, .ref a₀), (1, .int (iI x)), (2, .int (iI n₀)), (4, .int (iI c₀))]) C₀.1.1 C₀.1.2.1 dX9_which_56 rfl hl₀ (by decide) rfl (fun ls₀ hl₀ => ?_)
              refine lv_iinc (v := iI (n₀ + 1)) (lv' := [(2, .int (iI (n₀ + 1))), (3, .int (iI c₀)), (0, .ref a₀), (1, .int (iI x)), (4, .int (iI c₀))]) C₀.1.1 C₀.1.2.1 dX9_which_57 hl₀ (k := 3) rfl (iI_add _ (1)) (by decide) rfl (fun ls₀ hl₀ => ?_)
              refine lv_iinc (v := iI (c₀ + 1)) (lv' := [(4, .int (iI (c₀ + 1))), (2, .int (iI (n₀ + 1))), (3, .int (iI c₀)), (0, .ref a₀), (1, .int (iI x))]) C₀.1.1 C₀.1.2.1 dX9_which_60 hl₀ (k := 4) rfl (iI_add _ (1)) (by decide) rfl (fun ls₀ hl₀ => ?_)
              refine lv_goto (tgt := 28) C₀.1.1 C₀.1.2.1 dX9_which_63 (by decide) ?_
              exact ih28₀ (n₀ + 1) c₀ (c₀ + 1) (by rw [sI_s i2₀.1, ← i1₀, h_5₀]; simp [bz]) (by omega) (by rw [mFst_s i2₀.1, ← i1₀, ← i3₀, if_pos h_5₀]; simp (disch := omega) only [if_pos, if_neg]) (by omega) (by omega) _ _ _ hH₀ (lv_sub hl₀ [3, 4, 1, 2, 0] rfl)
    exact L28₀ (((s₀ 0 * s₀ 1 - 0) : Int).toNat + 1) 0 (-9) 0 (rfl) (by omega) (rfl) (by omega) (by omega) _ _ _ hH₀ (lv_sub hl₀ [3, 4, 2, 1, 0] rfl)
  · refine lv_iconst (v := iI (-1)) C₀.1.1 C₀.1.2.1 dX9_which_14 (by decide) ?_
    exact xr_i C₀ hH₀ hlk₀ hr₀ hQ₀ rfl hAe₀ (sq₀) (fun q₀ => absurd q₀ (by omega)) (by simp (disch := omega) only [if_pos, if_neg]) rfl dX9_which_15
theorem iw_X9_look_X9 : ∀ w₀ ∈ u_ws RX9 TX9 24, w₀ ∈ wsX9_look := (fun w₀ h₀ => List.mem_cons_of_mem _ (List.mem_append_right _ h₀))
abbrev rmX9_look : Room := { frames := 6, cells := 0, slots := 0, locals := 142 }
set_option maxHeartbeats 4000000 in
set_option maxRecDepth 100000 in
/-- look -/
theorem c_X9_look (lL₀ : Launch) (D₀ : va_G) (k₀ : Nat → ClassId) (sz₀ : Nat) (a₀ : Nat) (q₀ : Nat → Nat) (th₀ : Int) (un₀ : Int) (mf₀ : Int) (ty₀ : Int) (fr₀ : Int) (tt₀ : Int) (tk₀ : Int) (fa₀ : Int) (hf₀ : Bool) (ho₀ : Bool) (km₀ : Int) (s₀ : Int → Int) (fc₀ : Int → Int) (sq₀ : Int → Int) (hS₀ : mS s₀) (hmf₀ : 0 ≤ mf₀ ∧ mf₀ ≤ 6) (hfc₀ : ∀ j₀, 0 ≤ j₀ → j₀ < mf₀ → (1 ≤ fc₀ (2 * j₀) ∧ fc₀ (2 * j₀) ≤ 3) ∧ -9 ≤ fc₀ (2 * j₀ + 1) ∧ fc₀ (2 * j₀ + 1) ≤ 46) : Met lL₀ yX9_look wsX9_look rmX9_look (gPc ZT D₀ (tyk k₀) [.ref a₀] sz₀ [mO a₀ q₀ th₀ un₀ mf₀ ty₀ fr₀ tt₀ tk₀ fa₀ (bz hf₀) (bz ho₀) km₀, (q₀ 1, .inl (k₀ 0, 51, .inl (ia s₀))), (q₀ 7, .inl (k₀ 0, 12, .inl (ia fc₀))), (q₀ 20, .inl (k₀ 0, 72, .inl (ia sq₀)))]) (gQi D₀ (tyk k₀) [mO a₀ q₀ th₀ un₀ mf₀ ty₀ fr₀ tt₀ tk₀ fa₀ (bz hf₀) (bz ho₀) km₀, (q₀ 1, .inl (k₀ 0, 51, .inl (ia s₀))), (q₀ 7, .inl (k₀ 0, 12, .inl (ia fc₀))), (q₀ 20, .inl (k₀ 0, 72, .inl (ia sq₀)))] sz₀ (fun (sr₀ : Int → Int) => mSqOk s₀ sr₀ (s₀ 0 * s₀ 1)) (fun (sr₀ : Int → Int) => (iI (mLook sr₀ fc₀ mf₀ (s₀ 0 * s₀ 1)))) (fun (sr₀ : Int → Int) => [mO a₀ q₀ 0 un₀ mf₀ ty₀ fr₀ tt₀ tk₀ fa₀ (bz hf₀) (bz ho₀) km₀, (q₀ 1, .inl (k₀ 0, 51, .inl (ia s₀))), (q₀ 7, .inl (k₀ 0, 12, .inl (ia fc₀))), (q₀ 20, .inl (k₀ 0, 72, .inl (ia sr₀)))])) 0 0 (va_A [mO a₀ q₀ th₀ un₀ mf₀ ty₀ fr₀ tt₀ tk₀ fa₀ (bz hf₀) (bz ho₀) km₀, (q₀ 1, .inl (k₀ 0, 51, .inl (ia s₀))), (q₀ 7, .inl (k₀ 0, 12, .inl (ia fc₀))), (q₀ 20, .inl (k₀ 0, 72, .inl (ia sq₀)))] sz₀) := by
  refine xs_met (cc := cX9_look) (maxL := 6) (ret := some .int) (by decide) rfl (Nat.le_of_ble_eq_true rfl) ?_
  intro pP₀ eN₀ sT₀ mI₀ below₀ meth₀ cD₀ hsz₀ args₀ QQ₀ C₀ hr₀ hlk₀ hnm₀ hQ₀ ls₀ H₀ locs₀ hl₀ hH₀
  subst hsz₀
  have hl₀ : lv_has ls₀ 6 [(0, .ref a₀)] := hl₀
  generalize hAe₀ : va_A [mO a₀ q₀ th₀ un₀ mf₀ ty₀ fr₀ tt₀ tk₀ fa₀ (bz hf₀) (bz ho₀) km₀, (q₀ 1, .inl (k₀ 0, 51, .inl (ia s₀))), (q₀ 7, .inl (k₀ 0, 12, .inl (ia fc₀))), (q₀ 20, .inl (k₀ 0, 72, .inl (ia sq₀)))] sT₀.heap.size = A₀ at C₀ hH₀ hQ₀
  obtain ⟨hs0₀, hs1₀, hs2₀, hsh₀, hsf₀⟩ := id hS₀
  have hcl₀ := cells_rg hs0₀ hs1₀
  refine lv_aload_n C₀.1.1 C₀.1.2.1 dX9_look_0 rfl (lv_at hl₀ 0 rfl) ?_
  refine lv_iconst (v := iI 0) C₀.1.1 C₀.1.2.1 dX9_look_1 (by decide) ?_
  refine xw_put (ws' := [mO a₀ q₀ 0 un₀ mf₀ ty₀ fr₀ tt₀ tk₀ fa₀ (bz hf₀) (bz ho₀) km₀, (q₀ 1, .inl (k₀ 0, 51, .inl (ia s₀))), (q₀ 7, .inl (k₀ 0, 12, .inl (ia fc₀))), (q₀ 20, .inl (k₀ 0, 72, .inl (ia sq₀)))]) (v := .int (iI 0)) C₀ hH₀ 0 rfl rfl tyX9 tyX9_ok nmX9 0 (by decide) iw_X9_look_X9 (by decide +kernel) rfl rfl rfl (Nat.le_of_ble_eq_true rfl) dX9_look_2 rfl (fun H₀ locs₀ hH₀ => ?_)
  refine lv_aload_n C₀.1.1 C₀.1.2.1 dX9_look_5 rfl (lv_at hl₀ 0 rfl) ?_
  refine xc_Vv (wr := [(q₀ 7, .inl (k₀ 0, 12, .inl (ia fc₀)))]) (ws' := fun sr_1₀ => [mO a₀ q₀ 0 un₀ mf₀ ty₀ fr₀ tt₀ tk₀ fa₀ (bz hf₀) (bz ho₀) km₀, (q₀ 1, .inl (k₀ 0, 51, .inl (ia s₀))), (q₀ 7, .inl (k₀ 0, 12, .inl (ia fc₀))), (q₀ 20, .inl (k₀ 0, 72, .inl (ia sr_1₀)))]) (As := []) (rest := []) C₀ hH₀ (c_X9_laysSquares lL₀ D₀ k₀ H₀.size a₀ q₀ 0 un₀ mf₀ ty₀ fr₀ tt₀ tk₀ fa₀ hf₀ ho₀ km₀ s₀ sq₀ (hS₀)) ZT_b (fun _ _ _ => trivial) (cwV 0 C₀.1.2.2.2.2 gX9_look_X9_laysSquares rfl rfl rfl (by decide +kernel) ⟨Nat.le_of_ble_eq_true rfl, Nat.le_of_ble_eq_true rfl⟩) [0, 1, 3] [2] [1, 2, 0, 3] rfl rfl (by decide) (by decide) (by decide) (fun _ => rfl) (by decide) (q0 := 0) rfl rfl rfl hl₀.1 rfl (Nat.le_of_ble_eq_true rfl) dX9_look_6 ⟨Nat.le_of_ble_eq_true rfl, Nat.le_of_ble_eq_true rfl⟩ (fun sr_1₀ hu₀ H₀ locs₀ hH₀ => ?_)
  refine lv_iconst (v := iI 0) C₀.1.1 C₀.1.2.1 dX9_look_9 (by decide) ?_
  refine lv_istore_n (lv' := [(1, .int (iI 0)), (0, .ref a₀)]) C₀.1.1 C₀.1.2.1 dX9_look_10 rfl hl₀ (by decide) rfl (fun ls₀ hl₀ => ?_)
  refine lv_iconst (v := iI 0) C₀.1.1 C₀.1.2.1 dX9_look_11 (by decide) ?_
  refine lv_istore_n (lv' := [(2, .int (iI 0)), (1, .int (iI 0)), (0, .ref a₀)]) C₀.1.1 C₀.1.2.1 dX9_look_12 rfl hl₀ (by decide) rfl (fun ls₀ hl₀ => ?_)
  have L13₀ : ∀ (nn₀ : Nat), ∀ (n₀ : Int) (c₀ : Int), (n₀ = sI (fun c₀ => bz (mSo sr_1₀ fc₀ mf₀ c₀)) c₀) → (0 ≤ c₀ ∧ c₀ ≤ s₀ 0 * s₀ 1) → (0 ≤ n₀ ∧ n₀ ≤ c₀) → ((s₀ 0 * s₀ 1 - c₀) < (nn₀ : Int)) → ∀ (H₀ : Heap) (locs₀ : List Loc) (ls₀ : Array Slot), Hp D₀ A₀ sT₀.heap [mO a₀ q₀ 0 un₀ mf₀ ty₀ fr₀ tt₀ tk₀ fa₀ (bz hf₀) (bz ho₀) km₀, (q₀ 1, .inl (k₀ 0, 51, .inl (ia s₀))), (q₀ 7, .inl (k₀ 0, 12, .inl (ia fc₀))), (q₀ 20, .inl (k₀ 0, 72, .inl (ia sr_1₀)))] H₀ locs₀ → lv_has ls₀ 6 [(0, .ref a₀), (1, .int (iI n₀)), (2, .int (iI c₀))] → W pP₀ lL₀ eN₀ rmX9_look sT₀ mI₀ args₀ below₀ meth₀ cD₀ H₀ locs₀ 0 0 QQ₀ (F0 mI₀ 13 ls₀ []) := by
    intro nn₀
    induction nn₀ with
    | zero => intro n₀ c₀ i1₀ i2₀ i4₀ hm₀; exact absurd hm₀ (by omega)
    | succ nn₀ ih13₀ =>
      intro n₀ c₀ i1₀ i2₀ i4₀ hm13₀ H₀ locs₀ ls₀ hH₀ hl₀
      refine lv_iload_n C₀.1.1 C₀.1.2.1 dX9_look_13 rfl (lv_at hl₀ 2 rfl) ?_
      refine lv_aload_n C₀.1.1 C₀.1.2.1 dX9_look_14 rfl (lv_at hl₀ 0 rfl) ?_
      refine xc_Vi (wr := [(q₀ 7, .inl (k₀ 0, 12, .inl (ia fc₀))), (q₀ 20, .inl (k₀ 0, 72, .inl (ia sr_1₀)))]) (ws' := fun _ => [mO a₀ q₀ 0 un₀ mf₀ ty₀ fr₀ tt₀ tk₀ fa₀ (bz hf₀) (bz ho₀) km₀, (q₀ 1, .inl (k₀ 0, 51, .inl (ia s₀))), (q₀ 7, .inl (k₀ 0, 12, .inl (ia fc₀))), (q₀ 20, .inl (k₀ 0, 72, .inl (ia sr_1₀)))]) (As := []) (rest := [.int (iI c₀)]) C₀ hH₀ (c_X9_cells lL₀ D₀ k₀ H₀.size a₀ q₀ 0 un₀ mf₀ ty₀ fr₀ tt₀ tk₀ fa₀ hf₀ ho₀ km₀ s₀ ) ZT_b (fun _ _ _ => trivial) (cwV 0 C₀.1.2.2.2.2 gX9_look_X9_cells rfl rfl rfl (by decide +kernel) ⟨Nat.le_of_ble_eq_true rfl, Nat.le_of_ble_eq_true rfl⟩) [0, 1] [2, 3] [2, 3, 0, 1] rfl rfl (by decide) (by decide) (by decide) (fun _ => rfl) (by decide) (q0 := 0) rfl rfl rfl hl₀.1 rfl (Nat.le_of_ble_eq_true rfl) dX9_look_15 ⟨Nat.le_of_ble_eq_true rfl, Nat.le_of_ble_eq_true rfl⟩ (fun _ _ H₀ locs₀ hH₀ => ?_)
      refine xi_cge (tgt := 43) C₀.1.1 C₀.1.2.1 dX9_look_18 (by decide) (by omega) (by omega) (fun h_2₀ => ?_) (fun h_2₀ => ?_)
      · have hn24₀ : n₀ = sI (fun c₀ => bz (mSo sr_1₀ fc₀ mf₀ c₀)) (s₀ 0 * s₀ 1) := by rw [i1₀, show c₀ = s₀ 0 * s₀ 1 by omega]
        refine lv_bipush (v := iI (-9)) C₀.1.1 C₀.1.2.1 dX9_look_43 (by decide) ?_
        refine lv_istore_n (lv' := [(2, .int (iI (-9))), (0, .ref a₀), (1, .int (iI n₀))]) C₀.1.1 C₀.1.2.1 dX9_look_45 rfl hl₀ (by decide) rfl (fun ls₀ hl₀ => ?_)
        refine lv_sipush (v := iI 1000) C₀.1.1 C₀.1.2.1 dX9_look_46 (by decide) ?_
        refine lv_istore_n (lv' := [(3, .int (iI 1000)), (2, .int (iI (-9))), (0, .ref a₀), (1, .int (iI n₀))]) C₀.1.1 C₀.1.2.1 dX9_look_49 rfl hl₀ (by decide) rfl (fun ls₀ hl₀ => ?_)
        refine lv_iconst (v := iI 1) C₀.1.1 C₀.1.2.1 dX9_look_50 (by decide) ?_
        refine lv_istore (lv' := [(4, .int (iI 1)), (3, .int (iI 1000)), (2, .int (iI (-9))), (0, .ref a₀), (1, .int (iI n₀))]) C₀.1.1 C₀.1.2.1 dX9_look_51 hl₀ (by decide) rfl (fun ls₀ hl₀ => ?_)
        have L53₀ : ∀ (nn₀ : Nat), ∀ (f₀ : Int) (g₀ : Int) (la₀ : Int), ((f₀, g₀) = if 1 < n₀ then mLk (mAlk sr_1₀ fc₀ mf₀ (s₀ 0 * s₀ 1)) (la₀ - 1).toNat else (-9, 1000)) → (1 ≤ la₀ ∧ la₀ ≤ 4) → (0 ≤ g₀ ∧ g₀ ≤ 1000) → ((4 - la₀) < (nn₀ : Int)) → ∀ (H₀ : Heap) (locs₀ : List Loc) (ls₀ : Array Slot), Hp D₀ A₀ sT₀.heap [mO a₀ q₀ 0 un₀ mf₀ ty₀ fr₀ tt₀ tk₀ fa₀ (bz hf₀) (bz ho₀) km₀, (q₀ 1, .inl (k₀ 0, 51, .inl (ia s₀))), (q₀ 7, .inl (k₀ 0, 12, .inl (ia fc₀))), (q₀ 20, .inl (k₀ 0, 72, .inl (ia sr_1₀)))] H₀ locs₀ → lv_has ls₀ 6 [(0, .ref a₀), (1, .int (iI n₀)), (2, .int (iI f₀)), (3, .int (iI g₀)), (4, .int (iI la₀))] → W pP₀ lL₀ eN₀ rmX9_look sT₀ mI₀ args₀ below₀ meth₀ cD₀ H₀ locs₀ 0 0 QQ₀ (F0 mI₀ 53 ls₀ []) := by
          intro nn₀
          induction nn₀ with
          | zero => intro f₀ g₀ la₀ j1₀ j2₀ j3₀ hm₀; exact absurd hm₀ (by omega)
          | succ nn₀ ih53₀ =>
            intro f₀ g₀ la₀ j1₀ j2₀ j3₀ hm53₀ H₀ locs₀ ls₀ hH₀ hl₀
            refine lv_iload C₀.1.1 C₀.1.2.1 dX9_look_53 (lv_at hl₀ 4 rfl) ?_
            refine lv_iconst (v := iI 4) C₀.1.1 C₀.1.2.1 dX9_look_55 (by decide) ?_
            refine xi_cge (tgt := 104) C₀.1.1 C₀.1.2.1 dX9_look_56 (by decide) (by omega) (by omega) (fun h_3₀ => ?_) (fun h_3₀ => ?_)
            · refine lv_iload_n C₀.1.1 C₀.1.2.1 dX9_look_104 rfl (lv_at hl₀ 2 rfl) ?_
              exact xr_i C₀ hH₀ hlk₀ hr₀ hQ₀ rfl hAe₀ (sr_1₀) hu₀ (by unfold mLook; rw [← hn24₀]; by_cases hq₀ : 1 < n₀; (rw [if_pos hq₀] at j1₀ ⊢; rw [show (la₀ - 1).toNat = 3 by omega] at j1₀; rw [← j1₀]); (rw [if_neg hq₀] at j1₀ ⊢; exact congrArg (fun t₀ => iI t₀.1) j1₀)) rfl dX9_look_105
            · refine lv_iload_n C₀.1.1 C₀.1.2.1 dX9_look_59 rfl (lv_at hl₀ 1 rfl) ?_
              refine lv_iconst (v := iI 1) C₀.1.1 C₀.1.2.1 dX9_look_60 (by decide) ?_
              refine xi_cle (tgt := 104) C₀.1.1 C₀.1.2.1 dX9_look_61 (by decide) (by omega) (by omega) (fun h_4₀ => ?_) (fun h_4₀ => ?_)
              · refine lv_iload_n C₀.1.1 C₀.1.2.1 dX9_look_104 rfl (lv_at hl₀ 2 rfl) ?_
                exact xr_i C₀ hH₀ hlk₀ hr₀ hQ₀ rfl hAe₀ (sr_1₀) hu₀ (by unfold mLook; rw [← hn24₀]; by_cases hq₀ : 1 < n₀; (rw [if_pos hq₀] at j1₀ ⊢; rw [show (la₀ - 1).toNat = 3 by omega] at j1₀; rw [← j1₀]); (rw [if_neg hq₀] at j1₀ ⊢; exact congrArg (fun t₀ => iI t₀.1) j1₀)) rfl dX9_look_105
              · refine lv_aload_n C₀.1.1 C₀.1.2.1 dX9_look_64 rfl (lv_at hl₀ 0 rfl) ?_
                refine lv_iload C₀.1.1 C₀.1.2.1 dX9_look_65 (lv_at hl₀ 4 rfl) ?_
                refine xc_Vi (wr := []) (ws' := fun _ => [mO a₀ q₀ 0 un₀ mf₀ ty₀ fr₀ tt₀ tk₀ fa₀ (bz hf₀) (bz ho₀) km₀, (q₀ 1, .inl (k₀ 0, 51, .inl (ia s₀))), (q₀ 7, .inl (k₀ 0, 12, .inl (ia fc₀))), (q₀ 20, .inl (k₀ 0, 72, .inl (ia sr_1₀)))]) (As := [.int (iI la₀)]) (rest := []) C₀ hH₀ (c_X9_mostAlike lL₀ D₀ k₀ H₀.size a₀ q₀ 0 un₀ mf₀ ty₀ fr₀ tt₀ tk₀ fa₀ hf₀ ho₀ km₀ s₀ fc₀ sr_1₀ la₀ (hS₀) (by omega) (hfc₀) (by omega) (fun d₀ t₀ a₀ b₀ e₀ f₀ => mSqOk_rg hu₀ a₀ b₀ e₀ f₀)) ZT_b (fun _ _ _ => trivial) (cwV 1 C₀.1.2.2.2.2 gX9_look_X9_mostAlike rfl rfl rfl (by decide +kernel) ⟨Nat.le_of_ble_eq_true rfl, Nat.le_of_ble_eq_true rfl⟩) [0, 1, 2, 3] [] [0, 1, 2, 3] rfl rfl (by decide) (by decide) (by decide) (fun _ => rfl) (by decide) (q0 := 0) rfl rfl rfl hl₀.1 rfl (Nat.le_of_ble_eq_true rfl) dX9_look_67 ⟨Nat.le_of_ble_eq_true rfl, Nat.le_of_ble_eq_true rfl⟩ (fun _ _ H₀ locs₀ hH₀ => ?_)
                have hmr₀ := mAlk_rg (sq := sr_1₀) (fc := fc₀) (mf := mf₀) (n := s₀ 0 * s₀ 1) (la := la₀) (by omega)
                refine lv_istore (lv' := [(5, .int (iI (mAlk sr_1₀ fc₀ mf₀ (s₀ 0 * s₀ 1) la₀))), (0, .ref a₀), (1, .int (iI n₀)), (2, .int (iI f₀)), (3, .int (iI g₀)), (4, .int (iI la₀))]) C₀.1.1 C₀.1.2.1 dX9_look_70 hl₀ (by decide) rfl (fun ls₀ hl₀ => ?_)
                refine lv_iload C₀.1.1 C₀.1.2.1 dX9_look_72 (lv_at hl₀ 0 rfl) ?_
                refine lv_iload_n C₀.1.1 C₀.1.2.1 dX9_look_74 rfl (lv_at hl₀ 4 rfl) ?_
                refine xi_cge (tgt := 83) C₀.1.1 C₀.1.2.1 dX9_look_75 (by decide) (by omega) (by omega) (fun h_5₀ => ?_) (fun h_5₀ => ?_)
                · refine lv_iload_n C₀.1.1 C₀.1.2.1 dX9_look_83 rfl (lv_at hl₀ 3 rfl) ?_
                  refine lv_istore_n (lv' := [(2, .int (iI f₀)), (5, .int (iI (mAlk sr_1₀ fc₀ mf₀ (s₀ 0 * s₀ 1) la₀))), (0, .ref a₀), (1, .int (iI n₀)), (3, .int (iI g₀)), (4, .int (iI la₀))]) C₀.1.1 C₀.1.2.1 dX9_look_84 rfl hl₀ (by decide) rfl (fun ls₀ hl₀ => ?_)
                  refine lv_iload C₀.1.1 C₀.1.2.1 dX9_look_85 (lv_at hl₀ 1 rfl) ?_
                  refine lv_iload_n C₀.1.1 C₀.1.2.1 dX9_look_87 rfl (lv_at hl₀ 4 rfl) ?_
                  refine xi_cge (tgt := 96) C₀.1.1 C₀.1.2.1 dX9_look_88 (by decide) (by omega) (by omega) (fun h_6₀ => ?_) (fun h_6₀ => ?_)
                  · refine lv_iload_n C₀.1.1 C₀.1.2.1 dX9_look_96 rfl (lv_at hl₀ 4 rfl) ?_
                    refine lv_istore_n (lv' := [(3, .int (iI g₀)), (2, .int (iI f₀)), (5, .int (iI (mAlk sr_1₀ fc₀ mf₀ (s₀ 0 * s₀ 1) la₀))), (0, .ref a₀), (1, .int (iI n₀)), (4, .int (iI la₀))]) C₀.1.1 C₀.1.2.1 dX9_look_97 rfl hl₀ (by decide) rfl (fun ls₀ hl₀ => ?_)
                    refine lv_iinc (v := iI (la₀ + 1)) (lv' := [(4, .int (iI (la₀ + 1))), (3, .int (iI g₀)), (2, .int (iI f₀)), (5, .int (iI (mAlk sr_1₀ fc₀ mf₀ (s₀ 0 * s₀ 1) la₀))), (0, .ref a₀), (1, .int (iI n₀))]) C₀.1.1 C₀.1.2.1 dX9_look_98 hl₀ (k := 5) rfl (iI_add _ (1)) (by decide) rfl (fun ls₀ hl₀ => ?_)
                    refine lv_goto (tgt := 53) C₀.1.1 C₀.1.2.1 dX9_look_101 (by decide) ?_
                    exact ih53₀ f₀ g₀ (la₀ + 1) ((by first | (exfalso; omega) | skip; rw [if_pos (by omega)] at j1₀ ⊢; rw [show (la₀ + 1 - 1).toNat = (la₀ - 1).toNat + 1 by omega]; show _ = (if mAlk _ _ _ _ (((la₀ - 1).toNat : Int) + 1) < (mLk _ _).2 then (((la₀ - 1).toNat : Int) + 1) else (mLk _ _).1, if mAlk _ _ _ _ (((la₀ - 1).toNat : Int) + 1) < (mLk _ _).2 then mAlk _ _ _ _ (((la₀ - 1).toNat : Int) + 1) else (mLk _ _).2); rw [← j1₀, show ((la₀ - 1).toNat : Int) + 1 = la₀ by omega]; simp (disch := omega) only [if_pos, if_neg])) (by omega) (by omega) (by omega) _ _ _ hH₀ (lv_sub hl₀ [4, 5, 2, 1, 0] rfl)
                  · refine lv_iload C₀.1.1 C₀.1.2.1 dX9_look_91 (lv_at hl₀ 1 rfl) ?_
                    refine lv_goto (tgt := 97) C₀.1.1 C₀.1.2.1 dX9_look_93 (by decide) ?_
                    refine lv_istore_n (lv' := [(3, .int (iI (mAlk sr_1₀ fc₀ mf₀ (s₀ 0 * s₀ 1) la₀))), (2, .int (iI f₀)), (5, .int (iI (mAlk sr_1₀ fc₀ mf₀ (s₀ 0 * s₀ 1) la₀))), (0, .ref a₀), (1, .int (iI n₀)), (4, .int (iI la₀))]) C₀.1.1 C₀.1.2.1 dX9_look_97 rfl hl₀ (by decide) rfl (fun ls₀ hl₀ => ?_)
                    refine lv_iinc (v := iI (la₀ + 1)) (lv' := [(4, .int (iI (la₀ + 1))), (3, .int (iI (mAlk sr_1₀ fc₀ mf₀ (s₀ 0 * s₀ 1) la₀))), (2, .int (iI f₀)), (5, .int (iI (mAlk sr_1₀ fc₀ mf₀ (s₀ 0 * s₀ 1) la₀))), (0, .ref a₀), (1, .int (iI n₀))]) C₀.1.1 C₀.1.2.1 dX9_look_98 hl₀ (k := 5) rfl (iI_add _ (1)) (by decide) rfl (fun ls₀ hl₀ => ?_)
                    refine lv_goto (tgt := 53) C₀.1.1 C₀.1.2.1 dX9_look_101 (by decide) ?_
                    exact ih53₀ f₀ (mAlk sr_1₀ fc₀ mf₀ (s₀ 0 * s₀ 1) la₀) (la₀ + 1) ((by first | (exfalso; omega) | skip; rw [if_pos (by omega)] at j1₀ ⊢; rw [show (la₀ + 1 - 1).toNat = (la₀ - 1).toNat + 1 by omega]; show _ = (if mAlk _ _ _ _ (((la₀ - 1).toNat : Int) + 1) < (mLk _ _).2 then (((la₀ - 1).toNat : Int) + 1) else (mLk _ _).1, if mAlk _ _ _ _ (((la₀ - 1).toNat : Int) + 1) < (mLk _ _).2 then mAlk _ _ _ _ (((la₀ - 1).toNat : Int) + 1) else (mLk _ _).2); rw [← j1₀, show ((la₀ - 1).toNat : Int) + 1 = la₀ by omega]; simp (disch := omega) only [if_pos, if_neg])) (by omega) (by omega) (by omega) _ _ _ hH₀ (lv_sub hl₀ [4, 5, 2, 1, 0] rfl)
                · refine lv_iload C₀.1.1 C₀.1.2.1 dX9_look_78 (lv_at hl₀ 5 rfl) ?_
                  refine lv_goto (tgt := 84) C₀.1.1 C₀.1.2.1 dX9_look_80 (by decide) ?_
                  refine lv_istore_n (lv' := [(2, .int (iI la₀)), (5, .int (iI (mAlk sr_1₀ fc₀ mf₀ (s₀ 0 * s₀ 1) la₀))), (0, .ref a₀), (1, .int (iI n₀)), (3, .int (iI g₀)), (4, .int (iI la₀))]) C₀.1.1 C₀.1.2.1 dX9_look_84 rfl hl₀ (by decide) rfl (fun ls₀ hl₀ => ?_)
                  refine lv_iload C₀.1.1 C₀.1.2.1 dX9_look_85 (lv_at hl₀ 1 rfl) ?_
                  refine lv_iload_n C₀.1.1 C₀.1.2.1 dX9_look_87 rfl (lv_at hl₀ 4 rfl) ?_
                  refine xi_cge (tgt := 96) C₀.1.1 C₀.1.2.1 dX9_look_88 (by decide) (by omega) (by omega) (fun h_7₀ => ?_) (fun h_7₀ => ?_)
                  · refine lv_iload_n C₀.1.1 C₀.1.2.1 dX9_look_96 rfl (lv_at hl₀ 4 rfl) ?_
                    refine lv_istore_n (lv' := [(3, .int (iI g₀)), (2, .int (iI la₀)), (5, .int (iI (mAlk sr_1₀ fc₀ mf₀ (s₀ 0 * s₀ 1) la₀))), (0, .ref a₀), (1, .int (iI n₀)), (4, .int (iI la₀))]) C₀.1.1 C₀.1.2.1 dX9_look_97 rfl hl₀ (by decide) rfl (fun ls₀ hl₀ => ?_)
                    refine lv_iinc (v := iI (la₀ + 1)) (lv' := [(4, .int (iI (la₀ + 1))), (3, .int (iI g₀)), (2, .int (iI la₀)), (5, .int (iI (mAlk sr_1₀ fc₀ mf₀ (s₀ 0 * s₀ 1) la₀))), (0, .ref a₀), (1, .int (iI n₀))]) C₀.1.1 C₀.1.2.1 dX9_look_98 hl₀ (k := 5) rfl (iI_add _ (1)) (by decide) rfl (fun ls₀ hl₀ => ?_)
                    refine lv_goto (tgt := 53) C₀.1.1 C₀.1.2.1 dX9_look_101 (by decide) ?_
                    exact ih53₀ la₀ g₀ (la₀ + 1) ((by first | (exfalso; omega) | skip; rw [if_pos (by omega)] at j1₀ ⊢; rw [show (la₀ + 1 - 1).toNat = (la₀ - 1).toNat + 1 by omega]; show _ = (if mAlk _ _ _ _ (((la₀ - 1).toNat : Int) + 1) < (mLk _ _).2 then (((la₀ - 1).toNat : Int) + 1) else (mLk _ _).1, if mAlk _ _ _ _ (((la₀ - 1).toNat : Int) + 1) < (mLk _ _).2 then mAlk _ _ _ _ (((la₀ - 1).toNat : Int) + 1) else (mLk _ _).2); rw [← j1₀, show ((la₀ - 1).toNat : Int) + 1 = la₀ by omega]; simp (disch := omega) only [if_pos, if_neg])) (by omega) (by omega) (by omega) _ _ _ hH₀ (lv_sub hl₀ [4, 5, 2, 1, 0] rfl)
                  · refine lv_iload C₀.1.1 C₀.1.2.1 dX9_look_91 (lv_at hl₀ 1 rfl) ?_
                    refine lv_goto (tgt := 97) C₀.1.1 C₀.1.2.1 dX9_look_93 (by decide) ?_
                    refine lv_istore_n (lv' := [(3, .int (iI (mAlk sr_1₀ fc₀ mf₀ (s₀ 0 * s₀ 1) la₀))), (2, .int (iI la₀)), (5, .int (iI (mAlk sr_1₀ fc₀ mf₀ (s₀ 0 * s₀ 1) la₀))), (0, .ref a₀), (1, .int (iI n₀)), (4, .int (iI la₀))]) C₀.1.1 C₀.1.2.1 dX9_look_97 rfl hl₀ (by decide) rfl (fun ls₀ hl₀ => ?_)
                    refine lv_iinc (v := iI (la₀ + 1)) (lv' := [(4, .int (iI (la₀ + 1))), (3, .int (iI (mAlk sr_1₀ fc₀ mf₀ (s₀ 0 * s₀ 1) la₀))), (2, .int (iI la₀)), (5, .int (iI (mAlk sr_1₀ fc₀ mf₀ (s₀ 0 * s₀ 1) la₀))), (0, .ref a₀), (1, .int (iI n₀))]) C₀.1.1 C₀.1.2.1 dX9_look_98 hl₀ (k := 5) rfl (iI_add _ (1)) (by decide) rfl (fun ls₀ hl₀ => ?_)
                    refine lv_goto (tgt := 53) C₀.1.1 C₀.1.2.1 dX9_look_101 (by decide) ?_
                    exact ih53₀ la₀ (mAlk sr_1₀ fc₀ mf₀ (s₀ 0 * s₀ 1) la₀) (la₀ + 1) ((by first | (exfalso; omega) | skip; rw [if_pos (by omega)] at j1₀ ⊢; rw [show (la₀ + 1 - 1).toNat = (la₀ - 1).toNat + 1 by omega]; show _ = (if mAlk _ _ _ _ (((la₀ - 1).toNat : Int) + 1) < (mLk _ _).2 then (((la₀ - 1).toNat : Int) + 1) else (mLk _ _).1, if mAlk _ _ _ _ (((la₀ - 1).toNat : Int) + 1) < (mLk _ _).2 then mAlk _ _ _ _ (((la₀ - 1).toNat : Int) + 1) else (mLk _ _).2); rw [← j1₀, show ((la₀ - 1).toNat : Int) + 1 = la₀ by omega]; simp (disch := omega) only [if_pos, if_neg])) (by omega) (by omega) (by omega) _ _ _ hH₀ (lv_sub hl₀ [4, 5, 2, 1, 0] rfl)
        exact L53₀ (((4 - 1) : Int).toNat + 1) (-9) 1000 1 (by split <;> rfl) (by omega) (by omega) (by omega) _ _ _ hH₀ (lv_sub hl₀ [3, 4, 2, 1, 0] rfl)
      · refine lv_iload_n C₀.1.1 C₀.1.2.1 dX9_look_21 rfl (lv_at hl₀ 1 rfl) ?_
        refine lv_aload_n C₀.1.1 C₀.1.2.1 dX9_look_22 rfl (lv_at hl₀ 0 rfl) ?_
        refine lv_iload_n C₀.1.1 C₀.1.2.1 dX9_look_23 rfl (lv_at hl₀ 2 rfl) ?_
        refine xc_Vi (wr := [(q₀ 1, .inl (k₀ 0, 51, .inl (ia s₀)))]) (ws' := fun _ => [mO a₀ q₀ 0 un₀ mf₀ ty₀ fr₀ tt₀ tk₀ fa₀ (bz hf₀) (bz ho₀) km₀, (q₀ 1, .inl (k₀ 0, 51, .inl (ia s₀))), (q₀ 7, .inl (k₀ 0, 12, .inl (ia fc₀))), (q₀ 20, .inl (k₀ 0, 72, .inl (ia sr_1₀)))]) (As := [.int (iI c₀)]) (rest := [.int (iI n₀)]) C₀ hH₀ (c_X9_isSo lL₀ D₀ k₀ H₀.size a₀ q₀ 0 un₀ mf₀ ty₀ fr₀ tt₀ tk₀ fa₀ hf₀ ho₀ km₀ fc₀ sr_1₀ c₀ (by omega) (by omega) (hfc₀) (fun t₀ a₀ b₀ => mSqOk_rg hu₀ (by omega) (by omega) a₀ b₀)) ZT_b (fun _ _ _ => trivial) (cwV 1 C₀.1.2.2.2.2 gX9_look_X9_isSo rfl rfl rfl (by decide +kernel) ⟨Nat.le_of_ble_eq_true rfl, Nat.le_of_ble_eq_true rfl⟩) [0, 2, 3] [1] [1, 0, 2, 3] rfl rfl (by decide) (by decide) (by decide) (fun _ => rfl) (by decide) (q0 := 0) rfl rfl rfl hl₀.1 rfl (Nat.le_of_ble_eq_true rfl) dX9_look_24 ⟨Nat.le_of_ble_eq_true rfl, Nat.le_of_ble_eq_true rfl⟩ (fun _ _ H₀ locs₀ hH₀ => ?_)
        refine xb_eq (tgt := 34) C₀.1.1 C₀.1.2.1 dX9_look_27 (by decide) (fun h_8₀ => ?_) (fun h_8₀ => ?_)
        · refine lv_iconst (v := iI 0) C₀.1.1 C₀.1.2.1 dX9_look_34 (by decide) ?_
          refine xi_add C₀.1.1 C₀.1.2.1 dX9_look_35 ?_
          refine lv_istore_n (lv' := [(1, .int (iI (n₀ + 0))), (0, .ref a₀), (2, .int (iI c₀))]) C₀.1.1 C₀.1.2.1 dX9_look_36 rfl hl₀ (by decide) rfl (fun ls₀ hl₀ => ?_)
          refine lv_iinc (v := iI (c₀ + 1)) (lv' := [(2, .int (iI (c₀ + 1))), (1, .int (iI (n₀ + 0))), (0, .ref a₀)]) C₀.1.1 C₀.1.2.1 dX9_look_37 hl₀ (k := 2) rfl (iI_add _ (1)) (by decide) rfl (fun ls₀ hl₀ => ?_)
          refine lv_goto (tgt := 13) C₀.1.1 C₀.1.2.1 dX9_look_40 (by decide) ?_
          exact ih13₀ (n₀ + 0) (c₀ + 1) (by rw [sI_s i2₀.1, ← i1₀]; simp_all [bz]) (by omega) (by omega) (by omega) _ _ _ hH₀ (lv_sub hl₀ [2, 1, 0] rfl)
        · refine lv_iconst (v := iI 1) C₀.1.1 C₀.1.2.1 dX9_look_30 (by decide) ?_
          refine lv_goto (tgt := 35) C₀.1.1 C₀.1.2.1 dX9_look_31 (by decide) ?_
          refine xi_add C₀.1.1 C₀.1.2.1 dX9_look_35 ?_
          refine lv_istore_n (lv' := [(1, .int (iI (n₀ + 1))), (0, .ref a₀), (2, .int (iI c₀))]) C₀.1.1 C₀.1.2.1 dX9_look_36 rfl hl₀ (by decide) rfl (fun ls₀ hl₀ => ?_)
          refine lv_iinc (v := iI (c₀ + 1)) (lv' := [(2, .int (iI (c₀ + 1))), (1, .int (iI (n₀ + 1))), (0, .ref a₀)]) C₀.1.1 C₀.1.2.1 dX9_look_37 hl₀ (k := 2) rfl (iI_add _ (1)) (by decide) rfl (fun ls₀ hl₀ => ?_)
          refine lv_goto (tgt := 13) C₀.1.1 C₀.1.2.1 dX9_look_40 (by decide) ?_
          exact ih13₀ (n₀ + 1) (c₀ + 1) (by rw [sI_s i2₀.1, ← i1₀]; simp_all [bz]) (by omega) (by omega) (by omega) _ _ _ hH₀ (lv_sub hl₀ [2, 1, 0] rfl)
  exact L13₀ (((s₀ 0 * s₀ 1 - 0) : Int).toNat + 1) 0 0 (rfl) (by omega) (by omega) (by omega) _ _ _ hH₀ (lv_sub hl₀ [2, 1, 0] rfl)
