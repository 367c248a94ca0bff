theorem iw_X9_floods_X9 : ∀ w₀ ∈ u_ws RX9 TX9 24, w₀ ∈ wsX9_floods := (fun w₀ h₀ => List.mem_cons_of_mem _ (List.mem_append_right _ h₀))
abbrev rmX9_floods : Room := { frames := 2, cells := 0, slots := 0, locals := 46 }
set_option maxHeartbeats 4000000 in
set_option maxRecDepth 100000 in
/-- floods -/
theorem c_X9_floods (lL₀ : Launch) (D₀ : va_G) (k₀ : Nat → ClassId) (sz₀ : Nat) (a₀ : Nat) (q₀ : Nat → Nat) (th₀ : Int) (un₀ : Int) (mf₀ : Int) (ty₀ : Int) (fr₀ : Int) (tt₀ : Int) (tk₀ : Int) (fa₀ : Int) (hf₀ : Bool) (ho₀ : Bool) (km₀ : Int) (s₀ : Int → Int) (pa₀ : Int → Int) (wt₀ : Int → Int) (x : Int) (y₀ : Int) (h₀ : Int) (hS₀ : mS s₀) (hx₀ : -2147483648 ≤ x ∧ x < 2147483648) (hy₀ : -2147483648 ≤ y₀ ∧ y₀ < 2147483648) (hh₀ : -2147483648 ≤ h₀ ∧ h₀ < 2147483648) (hun₀ : 0 ≤ un₀ ∧ un₀ ≤ 6) : Met lL₀ yX9_floods wsX9_floods rmX9_floods (gPc ZT D₀ (tyk k₀) [.ref a₀, .int (iI x), .int (iI y₀), .int (iI h₀)] sz₀ [mO a₀ q₀ th₀ un₀ mf₀ ty₀ fr₀ tt₀ tk₀ fa₀ (bz hf₀) (bz ho₀) km₀, (q₀ 1, .inl (k₀ 0, 51, .inl (ia s₀))), (q₀ 3, .inl (k₀ 0, 306, .inl (ia pa₀))), (q₀ 17, .inl (k₀ 2, 24, .inl (ia wt₀)))]) (gQi D₀ (tyk k₀) [mO a₀ q₀ th₀ un₀ mf₀ ty₀ fr₀ tt₀ tk₀ fa₀ (bz hf₀) (bz ho₀) km₀, (q₀ 1, .inl (k₀ 0, 51, .inl (ia s₀))), (q₀ 3, .inl (k₀ 0, 306, .inl (ia pa₀))), (q₀ 17, .inl (k₀ 2, 24, .inl (ia wt₀)))] sz₀ (fun (w9₀ : Int → Int) => True) (fun (w9₀ : Int → Int) => (iI (mFldR s₀ x y₀ h₀))) (fun (w9₀ : Int → Int) => [mO a₀ q₀ 0 (cond (mFldC s₀ x y₀ h₀) (mUn un₀) un₀) mf₀ ty₀ fr₀ tt₀ tk₀ fa₀ (bz hf₀) (bz ho₀) km₀, (q₀ 1, .inl (k₀ 0, 51, .inl (ia (cond (mFldC s₀ x y₀ h₀) (mFldS s₀ (s₀ 0 * y₀ + x) h₀) s₀)))), (q₀ 3, .inl (k₀ 0, 306, .inl (ia (cond (mFldC s₀ x y₀ h₀) (mPa pa₀ s₀ un₀) pa₀)))), (q₀ 17, .inl (k₀ 2, 24, .inl (ia w9₀)))])) 0 0 (va_A [mO a₀ q₀ th₀ un₀ mf₀ ty₀ fr₀ tt₀ tk₀ fa₀ (bz hf₀) (bz ho₀) km₀, (q₀ 1, .inl (k₀ 0, 51, .inl (ia s₀))), (q₀ 3, .inl (k₀ 0, 306, .inl (ia pa₀))), (q₀ 17, .inl (k₀ 2, 24, .inl (ia wt₀)))] sz₀) := by
  refine xs_met (cc := cX9_floods) (maxL := 8) (ret := some .int) (by decide) rfl (Nat.le_of_ble_eq_true rfl) ?_
  intro pP₀ eN₀ sT₀ mI₀ below₀ meth₀ cD₀ hsz₀ args₀ QQ₀ C₀ hr₀ hlk₀ hnm₀ hQ₀ ls₀ H₀ locs₀ hl₀ hH₀
  subst hsz₀
  have hl₀ : lv_has ls₀ 8 [(0, .ref a₀), (1, .int (iI x)), (2, .int (iI y₀)), (3, .int (iI h₀))] := hl₀
  generalize hAe₀ : va_A [mO a₀ q₀ th₀ un₀ mf₀ ty₀ fr₀ tt₀ tk₀ fa₀ (bz hf₀) (bz ho₀) km₀, (q₀ 1, .inl (k₀ 0, 51, .inl (ia s₀))), (q₀ 3, .inl (k₀ 0, 306, .inl (ia pa₀))), (q₀ 17, .inl (k₀ 2, 24, .inl (ia wt₀)))] sT₀.heap.size = A₀ at C₀ hH₀ hQ₀
  obtain ⟨hs0₀, hs1₀, hs2₀, hsh₀, hsf₀⟩ := id hS₀
  have hcl₀ := cells_rg hs0₀ hs1₀
  refine lv_aload_n C₀.1.1 C₀.1.2.1 dX9_floods_0 rfl (lv_at hl₀ 0 rfl) ?_
  refine lv_iconst (v := iI 0) C₀.1.1 C₀.1.2.1 dX9_floods_1 (by decide) ?_
  refine xw_put (ws' := [mO a₀ q₀ 0 un₀ mf₀ ty₀ fr₀ tt₀ tk₀ fa₀ (bz hf₀) (bz ho₀) km₀, (q₀ 1, .inl (k₀ 0, 51, .inl (ia s₀))), (q₀ 3, .inl (k₀ 0, 306, .inl (ia pa₀))), (q₀ 17, .inl (k₀ 2, 24, .inl (ia wt₀)))]) (v := .int (iI 0)) C₀ hH₀ 0 rfl rfl tyX9 tyX9_ok nmX9 0 (by decide) iw_X9_floods_X9 (by decide +kernel) rfl rfl rfl (Nat.le_of_ble_eq_true rfl) dX9_floods_2 rfl (fun H₀ locs₀ hH₀ => ?_)
  refine lv_aload_n C₀.1.1 C₀.1.2.1 dX9_floods_5 rfl (lv_at hl₀ 0 rfl) ?_
  refine lv_iload_n C₀.1.1 C₀.1.2.1 dX9_floods_6 rfl (lv_at hl₀ 1 rfl) ?_
  refine lv_iload_n C₀.1.1 C₀.1.2.1 dX9_floods_7 rfl (lv_at hl₀ 2 rfl) ?_
  refine xc_Vi (wr := [(q₀ 3, .inl (k₀ 0, 306, .inl (ia pa₀))), (q₀ 17, .inl (k₀ 2, 24, .inl (ia wt₀)))]) (ws' := fun _ => [mO a₀ q₀ 0 un₀ mf₀ ty₀ fr₀ tt₀ tk₀ fa₀ (bz hf₀) (bz ho₀) km₀, (q₀ 1, .inl (k₀ 0, 51, .inl (ia s₀))), (q₀ 3, .inl (k₀ 0, 306, .inl (ia pa₀))), (q₀ 17, .inl (k₀ 2, 24, .inl (ia wt₀)))]) (As := [.int (iI x), .int (iI y₀)]) (rest := []) C₀ hH₀ (c_X9_isCell lL₀ D₀ k₀ H₀.size a₀ q₀ 0 un₀ mf₀ ty₀ fr₀ tt₀ tk₀ fa₀ hf₀ ho₀ km₀ s₀ x y₀ (by omega) (by omega) (by omega) (by omega)) ZT_b (fun _ _ _ => trivial) (cwV 2 C₀.1.2.2.2.2 gX9_floods_X9_isCell rfl rfl rfl (by decide +kernel) ⟨Nat.le_of_ble_eq_true rfl, Nat.le_of_ble_eq_true rfl⟩) [0, 1] [2, 3] [2, 3, 0, 1] rfl rfl (by decide) (by decide) (by decide) (fun _ => rfl) (by decide) (q0 := 0) rfl rfl rfl hl₀.1 rfl (Nat.le_of_ble_eq_true rfl) dX9_floods_8 ⟨Nat.le_of_ble_eq_true rfl, Nat.le_of_ble_eq_true rfl⟩ (fun _ _ H₀ locs₀ hH₀ => ?_)
  refine xp_eq (tgt := 23) C₀.1.1 C₀.1.2.1 dX9_floods_11 (by decide) (fun h_1₀ => ?_) (fun h_1₀ => ?_)
  · refine lv_iconst (v := iI (-1)) C₀.1.1 C₀.1.2.1 dX9_floods_23 (by decide) ?_
    exact xr_i C₀ hH₀ hlk₀ hr₀ hQ₀ rfl hAe₀ (wt₀) trivial (by simp (disch := omega) only [mFldR, if_pos, if_neg]) (by rw [show mFldC s₀ x y₀ h₀ = false from decide_eq_false (by omega)]; rfl) dX9_floods_24
  · refine lv_iload_n C₀.1.1 C₀.1.2.1 dX9_floods_14 rfl (lv_at hl₀ 3 rfl) ?_
    refine lv_iconst (v := iI 0) C₀.1.1 C₀.1.2.1 dX9_floods_15 (by decide) ?_
    refine lv_iconst (v := iI 3) C₀.1.1 C₀.1.2.1 dX9_floods_16 (by decide) ?_
    refine xc_Si (wr := [mO a₀ q₀ 0 un₀ mf₀ ty₀ fr₀ tt₀ tk₀ fa₀ (bz hf₀) (bz ho₀) km₀, (q₀ 1, .inl (k₀ 0, 51, .inl (ia s₀))), (q₀ 3, .inl (k₀ 0, 306, .inl (ia pa₀))), (q₀ 17, .inl (k₀ 2, 24, .inl (ia wt₀)))]) (ws' := fun _ => [mO a₀ q₀ 0 un₀ mf₀ ty₀ fr₀ tt₀ tk₀ fa₀ (bz hf₀) (bz ho₀) km₀, (q₀ 1, .inl (k₀ 0, 51, .inl (ia s₀))), (q₀ 3, .inl (k₀ 0, 306, .inl (ia pa₀))), (q₀ 17, .inl (k₀ 2, 24, .inl (ia wt₀)))]) (As := [.int (iI h₀), .int (iI 0), .int (iI 3)]) (rest := []) C₀ hH₀ (c_X9_in lL₀ D₀ k₀ H₀.size h₀ 0 3 (by omega) (by omega) (by omega)) ZT_b (fun _ _ _ => trivial) (va_cwS 3 C₀.1.2.2.2.2 gX9_floods_X9_in rfl rfl rfl (by decide +kernel) ⟨Nat.le_of_ble_eq_true rfl, Nat.le_of_ble_eq_true rfl⟩) [] [0, 1, 2, 3] [0, 1, 2, 3] rfl rfl (by decide) (by decide) (by decide) (fun _ => rfl) (by decide) rfl hl₀.1 rfl (Nat.le_of_ble_eq_true rfl) dX9_floods_17 ⟨Nat.le_of_ble_eq_true rfl, Nat.le_of_ble_eq_true rfl⟩ (fun _ _ H₀ locs₀ hH₀ => ?_)
    refine xp_ne (tgt := 25) C₀.1.1 C₀.1.2.1 dX9_floods_20 (by decide) (fun h_2₀ => ?_) (fun h_2₀ => ?_)
    · have hc1₀ := cell_rg hs0₀ (show 0 ≤ x ∧ x < s₀ 0 by omega) (show 0 ≤ y₀ ∧ y₀ < s₀ 1 by omega)
      have hac₀ : 0 ≤ s₀ 0 * y₀ + x ∧ s₀ 0 * y₀ + x < s₀ 0 * s₀ 1 := by omega
      have hwr₀ := hsh₀ (3 + s₀ 0 * y₀ + x) (by omega) (by omega)
      have e3₀ : s₀ (3 + s₀ 0 * y₀ + x) = s₀ (3 + (s₀ 0 * y₀ + x)) := by congr 1; omega
      refine lv_aload_n C₀.1.1 C₀.1.2.1 dX9_floods_25 rfl (lv_at hl₀ 0 rfl) ?_
      refine lv_iload_n C₀.1.1 C₀.1.2.1 dX9_floods_26 rfl (lv_at hl₀ 1 rfl) ?_
      refine lv_iload_n C₀.1.1 C₀.1.2.1 dX9_floods_27 rfl (lv_at hl₀ 2 rfl) ?_
      refine xc_Vi (wr := [(q₀ 3, .inl (k₀ 0, 306, .inl (ia pa₀))), (q₀ 17, .inl (k₀ 2, 24, .inl (ia wt₀)))]) (ws' := fun _ => [mO a₀ q₀ 0 un₀ mf₀ ty₀ fr₀ tt₀ tk₀ fa₀ (bz hf₀) (bz ho₀) km₀, (q₀ 1, .inl (k₀ 0, 51, .inl (ia s₀))), (q₀ 3, .inl (k₀ 0, 306, .inl (ia pa₀))), (q₀ 17, .inl (k₀ 2, 24, .inl (ia wt₀)))]) (As := [.int (iI x), .int (iI y₀)]) (rest := []) C₀ hH₀ (c_X9_height lL₀ D₀ k₀ H₀.size a₀ q₀ 0 un₀ mf₀ ty₀ fr₀ tt₀ tk₀ fa₀ hf₀ ho₀ km₀ s₀ x y₀ (by omega)) ZT_b (fun _ _ _ => trivial) (cwV 2 C₀.1.2.2.2.2 gX9_floods_X9_height rfl rfl rfl (by decide +kernel) ⟨Nat.le_of_ble_eq_true rfl, Nat.le_of_ble_eq_true rfl⟩) [0, 1] [2, 3] [2, 3, 0, 1] rfl rfl (by decide) (by decide) (by decide) (fun _ => rfl) (by decide) (q0 := 0) rfl rfl rfl hl₀.1 rfl (Nat.le_of_ble_eq_true rfl) dX9_floods_28 ⟨Nat.le_of_ble_eq_true rfl, Nat.le_of_ble_eq_true rfl⟩ (fun _ _ H₀ locs₀ hH₀ => ?_)
      refine lv_istore (lv' := [(4, .int (iI (s₀ (3 + s₀ 0 * y₀ + x)))), (0, .ref a₀), (1, .int (iI x)), (2, .int (iI y₀)), (3, .int (iI h₀))]) C₀.1.1 C₀.1.2.1 dX9_floods_31 hl₀ (by decide) rfl (fun ls₀ hl₀ => ?_)
      refine lv_iload C₀.1.1 C₀.1.2.1 dX9_floods_33 (lv_at hl₀ 0 rfl) ?_
      refine lv_iload_n C₀.1.1 C₀.1.2.1 dX9_floods_35 rfl (lv_at hl₀ 4 rfl) ?_
      refine xi_cne (tgt := 42) C₀.1.1 C₀.1.2.1 dX9_floods_36 (by decide) (by omega) (by omega) (fun h_3₀ => ?_) (fun h_3₀ => ?_)
      · refine lv_aload_n C₀.1.1 C₀.1.2.1 dX9_floods_42 rfl (lv_at hl₀ 1 rfl) ?_
        refine xc_Vv (wr := [(q₀ 17, .inl (k₀ 2, 24, .inl (ia wt₀)))]) (ws' := fun _ => [mO a₀ q₀ 0 (mUn un₀) mf₀ ty₀ fr₀ tt₀ tk₀ fa₀ (bz hf₀) (bz ho₀) km₀, (q₀ 1, .inl (k₀ 0, 51, .inl (ia s₀))), (q₀ 3, .inl (k₀ 0, 306, .inl (ia (mPa pa₀ s₀ un₀)))), (q₀ 17, .inl (k₀ 2, 24, .inl (ia wt₀)))]) (As := []) (rest := []) C₀ hH₀ (c_X9_notes lL₀ D₀ k₀ H₀.size a₀ q₀ 0 un₀ mf₀ ty₀ fr₀ tt₀ tk₀ fa₀ hf₀ ho₀ km₀ s₀ pa₀ (by omega)) ZT_b (fun _ _ _ => trivial) (cwV 0 C₀.1.2.2.2.2 gX9_floods_X9_notes rfl rfl rfl (by decide +kernel) ⟨Nat.le_of_ble_eq_true rfl, Nat.le_of_ble_eq_true rfl⟩) [0, 1, 2] [3] [1, 2, 3, 0] rfl rfl (by decide) (by decide) (by decide) (fun _ => rfl) (by decide) (q0 := 0) rfl rfl rfl hl₀.1 rfl (Nat.le_of_ble_eq_true rfl) dX9_floods_43 ⟨Nat.le_of_ble_eq_true rfl, Nat.le_of_ble_eq_true rfl⟩ (fun _ _ H₀ locs₀ hH₀ => ?_)
        refine lv_iconst (v := iI 0) C₀.1.1 C₀.1.2.1 dX9_floods_46 (by decide) ?_
        refine lv_istore (lv' := [(5, .int (iI 0)), (4, .int (iI (s₀ (3 + s₀ 0 * y₀ + x)))), (0, .ref a₀), (1, .int (iI x)), (2, .int (iI y₀)), (3, .int (iI h₀))]) C₀.1.1 C₀.1.2.1 dX9_floods_47 hl₀ (by decide) rfl (fun ls₀ hl₀ => ?_)
        have L49₀ : ∀ (nn₀ : Nat), ∀ (c₀ : Int) (w1₀ : Int → Int), (∀ j₀, 0 ≤ j₀ → j₀ < c₀ → w1₀ j₀ = if j₀ = s₀ 0 * y₀ + x then 1 else 0) → (0 ≤ c₀ ∧ c₀ ≤ 24) → ((24 - c₀) < (nn₀ : Int)) → ∀ (H₀ : Heap) (locs₀ : List Loc) (ls₀ : Array Slot), Hp D₀ A₀ sT₀.heap [mO a₀ q₀ 0 (mUn un₀) mf₀ ty₀ fr₀ tt₀ tk₀ fa₀ (bz hf₀) (bz ho₀) km₀, (q₀ 1, .inl (k₀ 0, 51, .inl (ia s₀))), (q₀ 3, .inl (k₀ 0, 306, .inl (ia (mPa pa₀ s₀ un₀)))), (q₀ 17, .inl (k₀ 2, 24, .inl (ia w1₀)))] H₀ locs₀ → lv_has ls₀ 8 [(0, .ref a₀), (1, .int (iI x)), (2, .int (iI y₀)), (3, .int (iI h₀)), (4, .int (iI (s₀ (3 + s₀ 0 * y₀ + x)))), (5, .int (iI c₀))] → W pP₀ lL₀ eN₀ rmX9_floods sT₀ mI₀ args₀ below₀ meth₀ cD₀ H₀ locs₀ 0 0 QQ₀ (F0 mI₀ 49 ls₀ []) := by
          intro nn₀
          induction nn₀ with
          | zero => intro c₀ w1₀ i1₀ i2₀ hm₀; exact absurd hm₀ (by omega)
          | succ nn₀ ih49₀ =>
            intro c₀ w1₀ i1₀ i2₀ hm49₀ H₀ locs₀ ls₀ hH₀ hl₀
            refine lv_iload C₀.1.1 C₀.1.2.1 dX9_floods_49 (lv_at hl₀ 5 rfl) ?_
            refine lv_bipush (v := iI 24) C₀.1.1 C₀.1.2.1 dX9_floods_51 (by decide) ?_
            refine xi_cge (tgt := 89) C₀.1.1 C₀.1.2.1 dX9_floods_53 (by decide) (by omega) (by omega) (fun h_4₀ => ?_) (fun h_4₀ => ?_)
            · refine lv_iconst (v := iI 1) C₀.1.1 C₀.1.2.1 dX9_floods_89 (by decide) ?_
              refine lv_istore (lv' := [(5, .int (iI 1)), (0, .ref a₀), (1, .int (iI x)), (2, .int (iI y₀)), (3, .int (iI h₀)), (4, .int (iI (s₀ (3 + s₀ 0 * y₀ + x))))]) C₀.1.1 C₀.1.2.1 dX9_floods_90 hl₀ (by decide) rfl (fun ls₀ hl₀ => ?_)
              refine lv_iconst (v := iI 1) C₀.1.1 C₀.1.2.1 dX9_floods_92 (by decide) ?_
              refine lv_istore (lv' := [(6, .int (iI 1)), (5, .int (iI 1)), (0, .ref a₀), (1, .int (iI x)), (2, .int (iI y₀)), (3, .int (iI h₀)), (4, .int (iI (s₀ (3 + s₀ 0 * y₀ + x))))]) C₀.1.1 C₀.1.2.1 dX9_floods_93 hl₀ (by decide) rfl (fun ls₀ hl₀ => ?_)
              have L95₀ : ∀ (nn₀ : Nat), ∀ (n₀ : Int) (mo₀ : Bool) (w2₀ : Int → Int), (mWk s₀ (s₀ 0 * y₀ + x) n₀ w2₀) → (mo₀ = false → mWcl s₀ (s₀ 0 * y₀ + x) (s₀ 0 * s₀ 1) w2₀) → ((2 * (25 - n₀) + bz mo₀) < (nn₀ : Int)) → ∀ (H₀ : Heap) (locs₀ : List Loc) (ls₀ : Array Slot), Hp D₀ A₀ sT₀.heap [mO a₀ q₀ 0 (mUn un₀) mf₀ ty₀ fr₀ tt₀ tk₀ fa₀ (bz hf₀) (bz ho₀) km₀, (q₀ 1, .inl (k₀ 0, 51, .inl (ia s₀))), (q₀ 3, .inl (k₀ 0, 306, .inl (ia (mPa pa₀ s₀ un₀)))), (q₀ 17, .inl (k₀ 2, 24, .inl (ia w2₀)))] H₀ locs₀ → lv_has ls₀ 8 [(0, .ref a₀), (1, .int (iI x)), (2, .int (iI y₀)), (3, .int (iI h₀)), (4, .int (iI (s₀ (3 + s₀ 0 * y₀ + x)))), (5, .int (iI n₀)), (6, .int (iI (bz mo₀)))] → W pP₀ lL₀ eN₀ rmX9_floods sT₀ mI₀ args₀ below₀ meth₀ cD₀ H₀ locs₀ 0 0 QQ₀ (F0 mI₀ 95 ls₀ []) := by
                intro nn₀
                induction nn₀ with
                | zero => intro n₀ mo₀ w2₀ f1₀ f5₀ hm₀; exact absurd hm₀ (by have q1₀ := bz_rg mo₀; have q2₀ := f1₀.2.2.2.2; omega)
                | succ nn₀ ih95₀ =>
                  intro n₀ mo₀ w2₀ f1₀ f5₀ hm95₀ H₀ locs₀ ls₀ hH₀ hl₀
                  refine lv_iload C₀.1.1 C₀.1.2.1 dX9_floods_95 (lv_at hl₀ 6 rfl) ?_
                  refine xb_eq (tgt := 187) C₀.1.1 C₀.1.2.1 dX9_floods_97 (by decide) (fun h_5₀ => ?_) (fun h_5₀ => ?_)
                  · have hfin₀ := mWk_end hac₀ (by omega) f1₀ (f5₀ h_5₀)
                    refine lv_iconst (v := iI 0) C₀.1.1 C₀.1.2.1 dX9_floods_187 (by decide) ?_
                    refine lv_istore (lv' := [(7, .int (iI 0)), (0, .ref a₀), (1, .int (iI x)), (2, .int (iI y₀)), (3, .int (iI h₀)), (4, .int (iI (s₀ (3 + s₀ 0 * y₀ + x)))), (5, .int (iI n₀)), (6, .int (iI (bz mo₀)))]) C₀.1.1 C₀.1.2.1 dX9_floods_188 hl₀ (by decide) rfl (fun ls₀ hl₀ => ?_)
                    have L190₀ : ∀ (nn₀ : Nat), ∀ (c₀ : Int) (sq₀ : Int → Int), (sq₀ = mWetS s₀ w2₀ h₀ c₀) → (0 ≤ c₀ ∧ c₀ ≤ s₀ 0 * s₀ 1) → ((s₀ 0 * s₀ 1 - c₀) < (nn₀ : Int)) → ∀ (H₀ : Heap) (locs₀ : List Loc) (ls₀ : Array Slot), Hp D₀ A₀ sT₀.heap [mO a₀ q₀ 0 (mUn un₀) mf₀ ty₀ fr₀ tt₀ tk₀ fa₀ (bz hf₀) (bz ho₀) km₀, (q₀ 1, .inl (k₀ 0, 51, .inl (ia sq₀))), (q₀ 3, .inl (k₀ 0, 306, .inl (ia (mPa pa₀ s₀ un₀)))), (q₀ 17, .inl (k₀ 2, 24, .inl (ia w2₀)))] H₀ locs₀ → lv_has ls₀ 8 [(0, .ref a₀), (1, .int (iI x)), (2, .int (iI y₀)), (3, .int (iI h₀)), (4, .int (iI (s₀ (3 + s₀ 0 * y₀ + x)))), (5, .int (iI n₀)), (6, .int (iI (bz mo₀))), (7, .int (iI c₀))] → W pP₀ lL₀ eN₀ rmX9_floods sT₀ mI₀ args₀ below₀ meth₀ cD₀ H₀ locs₀ 0 0 QQ₀ (F0 mI₀ 190 ls₀ []) := by
                      intro nn₀
                      induction nn₀ with
                      | zero => intro c₀ sq₀ k1₀ k2₀ hm₀; exact absurd hm₀ (by omega)
                      | succ nn₀ ih190₀ =>
                        intro c₀ sq₀ k1₀ k2₀ hm190₀ H₀ locs₀ ls₀ hH₀ hl₀
                        have e0₀ : sq₀ 0 = s₀ 0 := by rw [k1₀]; exact mWetS_lo (by decide)
                        have e1₀ : sq₀ 1 = s₀ 1 := by rw [k1₀]; exact mWetS_lo (by decide)
                        have e01₀ : sq₀ 0 * sq₀ 1 = s₀ 0 * s₀ 1 := by rw [e0₀, e1₀]
                        have e4₀ : sq₀ (3 + c₀) = s₀ (3 + c₀) := by rw [k1₀]; exact mWetS_hi
                        refine lv_iload C₀.1.1 C₀.1.2.1 dX9_floods_190 (lv_at hl₀ 7 rfl) ?_
                        refine lv_aload_n C₀.1.1 C₀.1.2.1 dX9_floods_192 rfl (lv_at hl₀ 0 rfl) ?_
                        refine xc_Vi (wr := [(q₀ 3, .inl (k₀ 0, 306, .inl (ia (mPa pa₀ s₀ un₀)))), (q₀ 17, .inl (k₀ 2, 24, .inl (ia w2₀)))]) (ws' := fun _ => [mO a₀ q₀ 0 (mUn un₀) mf₀ ty₀ fr₀ tt₀ tk₀ fa₀ (bz hf₀) (bz ho₀) km₀, (q₀ 1, .inl (k₀ 0, 51, .inl (ia sq₀))), (q₀ 3, .inl (k₀ 0, 306, .inl (ia (mPa pa₀ s₀ un₀)))), (q₀ 17, .inl (k₀ 2, 24, .inl (ia w2₀)))]) (As := []) (rest := [.int (iI c₀)]) C₀ hH₀ (c_X9_cells lL₀ D₀ k₀ H₀.size a₀ q₀ 0 (mUn un₀) mf₀ ty₀ fr₀ tt₀ tk₀ fa₀ hf₀ ho₀ km₀ sq₀ ) ZT_b (fun _ _ _ => trivial) (cwV 0 C₀.1.2.2.2.2 gX9_floods_X9_cells rfl rfl rfl (by decide +kernel) ⟨Nat.le_of_ble_eq_true rfl, Nat.le_of_ble_eq_true rfl⟩) [0, 1] [2, 3] [2, 3, 0, 1] rfl rfl (by decide) (by decide) (by decide) (fun _ => rfl) (by decide) (q0 := 0) rfl rfl rfl hl₀.1 rfl (Nat.le_of_ble_eq_true rfl) dX9_floods_193 ⟨Nat.le_of_ble_eq_true rfl, Nat.le_of_ble_eq_true rfl⟩ (fun _ _ H₀ locs₀ hH₀ => ?_)
                        refine xi_cge (tgt := 237) C₀.1.1 C₀.1.2.1 dX9_floods_196 (by decide) (by omega) (by omega) (fun h_6₀ => ?_) (fun h_6₀ => ?_)
                        · refine lv_iload C₀.1.1 C₀.1.2.1 dX9_floods_237 (lv_at hl₀ 5 rfl) ?_
                          exact xr_i C₀ hH₀ hlk₀ hr₀ hQ₀ rfl hAe₀ (w2₀) trivial (by unfold mFldR; rw [if_pos (by omega), if_neg (by omega), hfin₀.2]) (by rw [show mFldC s₀ x y₀ h₀ = true from decide_eq_true (by omega), k1₀, show c₀ = s₀ 0 * s₀ 1 by omega, mWetS_re hfin₀.1]; rfl) dX9_floods_239
                        · have hw24₀ := mWk_01 f1₀ c₀ (by omega) (by omega)
                          refine lv_aload_n C₀.1.1 C₀.1.2.1 dX9_floods_199 rfl (lv_at hl₀ 0 rfl) ?_
                          refine xw_get C₀ hH₀ 0 rfl rfl 1 (by decide) iw_X9_floods_X9 (by decide +kernel) (v := .ref (q₀ 1)) rfl dX9_floods_200 ?_
                          refine lv_iconst (v := iI 3) C₀.1.1 C₀.1.2.1 dX9_floods_203 (by decide) ?_
                          refine lv_iload C₀.1.1 C₀.1.2.1 dX9_floods_204 (lv_at hl₀ 7 rfl) ?_
                          refine xi_add C₀.1.1 C₀.1.2.1 dX9_floods_206 ?_
                          have L230₀ : ∀ (v₀ : Int), (v₀ = if w2₀ c₀ = 1 then h₀ else s₀ (3 + c₀)) → ∀ (H₀ : Heap) (locs₀ : List Loc) (ls₀ : Array Slot), Hp D₀ A₀ sT₀.heap [mO a₀ q₀ 0 (mUn un₀) mf₀ ty₀ fr₀ tt₀ tk₀ fa₀ (bz hf₀) (bz ho₀) km₀, (q₀ 1, .inl (k₀ 0, 51, .inl (ia sq₀))), (q₀ 3, .inl (k₀ 0, 306, .inl (ia (mPa pa₀ s₀ un₀)))), (q₀ 17, .inl (k₀ 2, 24, .inl (ia w2₀)))] H₀ locs₀ → lv_has ls₀ 8 [(0, .ref a₀), (1, .int (iI x)), (2, .int (iI y₀)), (3, .int (iI h₀)), (4, .int (iI (s₀ (3 + s₀ 0 * y₀ + x)))), (5, .int (iI n₀)), (6, .int (iI (bz mo₀))), (7, .int (iI c₀))] → W pP₀ lL₀ eN₀ rmX9_floods sT₀ mI₀ args₀ below₀ meth₀ cD₀ H₀ locs₀ 0 0 QQ₀ (F0 mI₀ 230 ls₀ [.int (iI v₀), .int (iI (3 + c₀)), .ref (q₀ 1)]) := by
                            intro v₀ jv₀ H₀ locs₀ ls₀ hH₀ hl₀
                            refine xw_ist (ws' := [mO a₀ q₀ 0 (mUn un₀) mf₀ ty₀ fr₀ tt₀ tk₀ fa₀ (bz hf₀) (bz ho₀) km₀, (q₀ 1, .inl (k₀ 0, 51, .inl (ia (uz sq₀ (3 + c₀) v₀)))), (q₀ 3, .inl (k₀ 0, 306, .inl (ia (mPa pa₀ s₀ un₀)))), (q₀ 17, .inl (k₀ 2, 24, .inl (ia w2₀)))]) C₀ hH₀ 1 0 rfl rfl (z := 3 + c₀) (v := v₀) (by omega) (by omega) (by decide) dX9_floods_230 rfl (fun H₀ locs₀ hH₀ => ?_)
                            refine lv_iinc (v := iI (c₀ + 1)) (lv' := [(7, .int (iI (c₀ + 1))), (0, .ref a₀), (1, .int (iI x)), (2, .int (iI y₀)), (3, .int (iI h₀)), (4, .int (iI (s₀ (3 + s₀ 0 * y₀ + x)))), (5, .int (iI n₀)), (6, .int (iI (bz mo₀)))]) C₀.1.1 C₀.1.2.1 dX9_floods_231 hl₀ (k := 7) rfl (iI_add _ (1)) (by decide) rfl (fun ls₀ hl₀ => ?_)
                            refine lv_goto (tgt := 190) C₀.1.1 C₀.1.2.1 dX9_floods_234 (by decide) ?_
                            exact ih190₀ (c₀ + 1) (uz sq₀ (3 + c₀) v₀) (by rw [k1₀]; exact mWetS_s k2₀.1 jv₀) (by omega) (by omega) _ _ _ hH₀ (lv_sub hl₀ [1, 2, 3, 4, 5, 6, 7, 0] rfl)
                          refine lv_aload_n C₀.1.1 C₀.1.2.1 dX9_floods_207 rfl (lv_at hl₀ 0 rfl) ?_
                          refine xw_get C₀ hH₀ 0 rfl rfl 17 (by decide) iw_X9_floods_X9 (by decide +kernel) (v := .ref (q₀ 17)) rfl dX9_floods_208 ?_
                          refine lv_iload C₀.1.1 C₀.1.2.1 dX9_floods_211 (lv_at hl₀ 7 rfl) ?_
                          refine xw_zld C₀ hH₀ 3 2 rfl rfl (z := c₀) (by omega) (by omega) (by decide) dX9_floods_213 ?_
                          refine xi_zeq (tgt := 221) C₀.1.1 C₀.1.2.1 dX9_floods_214 (by decide) (by omega) (fun h_7₀ => ?_) (fun h_7₀ => ?_)
                          · refine lv_aload_n C₀.1.1 C₀.1.2.1 dX9_floods_221 rfl (lv_at hl₀ 0 rfl) ?_
                            refine xw_get C₀ hH₀ 0 rfl rfl 1 (by decide) iw_X9_floods_X9 (by decide +kernel) (v := .ref (q₀ 1)) rfl dX9_floods_222 ?_
                            refine lv_iconst (v := iI 3) C₀.1.1 C₀.1.2.1 dX9_floods_225 (by decide) ?_
                            refine lv_iload C₀.1.1 C₀.1.2.1 dX9_floods_226 (lv_at hl₀ 7 rfl) ?_
                            refine xi_add C₀.1.1 C₀.1.2.1 dX9_floods_228 ?_
                            refine xw_ild C₀ hH₀ 1 0 rfl rfl (z := 3 + c₀) (by omega) (by omega) (by decide) dX9_floods_229 ?_
                            exact L230₀ (sq₀ (3 + c₀)) ((by rw [if_neg (by omega), e4₀])) _ _ _ hH₀ (lv_sub hl₀ [0, 1, 2, 3, 4, 5, 6, 7] rfl)
                          · refine lv_iload_n C₀.1.1 C₀.1.2.1 dX9_floods_217 rfl (lv_at hl₀ 3 rfl) ?_
                            refine lv_goto (tgt := 230) C₀.1.1 C₀.1.2.1 dX9_floods_218 (by decide) ?_
                            exact L230₀ h₀ ((by rw [if_pos (by omega)])) _ _ _ hH₀ (lv_sub hl₀ [0, 1, 2, 3, 4, 5, 6, 7] rfl)
                    exact L190₀ (((s₀ 0 * s₀ 1 - 0) : Int).toNat + 1) 0 s₀ ((mWetS_0 s₀ w2₀ h₀).symm) (by omega) (by omega) _ _ _ hH₀ (lv_sub hl₀ [1, 2, 3, 4, 5, 6, 7, 0] rfl)
                  · have hmo₀ : mo₀ = true := h_5₀
                    refine lv_iconst (v := iI 0) C₀.1.1 C₀.1.2.1 dX9_floods_100 (by decide) ?_
                    refine lv_istore (lv' := [(6, .int (iI 0)), (0, .ref a₀), (1, .int (iI x)), (2, .int (iI y₀)), (3, .int (iI h₀)), (4, .int (iI (s₀ (3 + s₀ 0 * y₀ + x)))), (5, .int (iI n₀))]) C₀.1.1 C₀.1.2.1 dX9_floods_101 hl₀ (by decide) rfl (fun ls₀ hl₀ => ?_)
                    refine lv_iconst (v := iI 0) C₀.1.1 C₀.1.2.1 dX9_floods_103 (by decide) ?_
                    refine lv_istore (lv' := [(7, .int (iI 0)), (6, .int (iI 0)), (0, .ref a₀), (1, .int (iI x)), (2, .int (iI y₀)), (3, .int (iI h₀)), (4, .int (iI (s₀ (3 + s₀ 0 * y₀ + x)))), (5, .int (iI n₀))]) C₀.1.1 C₀.1.2.1 dX9_floods_104 hl₀ (by decide) rfl (fun ls₀ hl₀ => ?_)
                    have L106₀ : ∀ (nn₀ : Nat), ∀ (n2₀ : Int) (m2₀ : Bool) (c₀ : Int) (w3₀ : Int → Int), (mWk s₀ (s₀ 0 * y₀ + x) n2₀ w3₀) → (m2₀ = false → n2₀ = n₀ ∧ mWcl s₀ (s₀ 0 * y₀ + x) c₀ w3₀) → (m2₀ = true → n₀ < n2₀) → (0 ≤ c₀ ∧ c₀ ≤ s₀ 0 * s₀ 1) → (n₀ ≤ n2₀) → ((s₀ 0 * s₀ 1 - c₀) < (nn₀ : Int)) → ∀ (H₀ : Heap) (locs₀ : List Loc) (ls₀ : Array Slot), Hp D₀ A₀ sT₀.heap [mO a₀ q₀ 0 (mUn un₀) mf₀ ty₀ fr₀ tt₀ tk₀ fa₀ (bz hf₀) (bz ho₀) km₀, (q₀ 1, .inl (k₀ 0, 51, .inl (ia s₀))), (q₀ 3, .inl (k₀ 0, 306, .inl (ia (mPa pa₀ s₀ un₀)))), (q₀ 17, .inl (k₀ 2, 24, .inl (ia w3₀)))] H₀ locs₀ → lv_has ls₀ 8 [(0, .ref a₀), (1, .int (iI x)), (2, .int (iI y₀)), (3, .int (iI h₀)), (4, .int (iI (s₀ (3 + s₀ 0 * y₀ + x)))), (5, .int (iI n2₀)), (6, .int (iI (bz m2₀))), (7, .int (iI c₀))] → W pP₀ lL₀ eN₀ rmX9_floods sT₀ mI₀ args₀ below₀ meth₀ cD₀ H₀ locs₀ 0 0 QQ₀ (F0 mI₀ 106 ls₀ []) := by
                      intro nn₀
                      induction nn₀ with
                      | zero => intro n2₀ m2₀ c₀ w3₀ g1₀ g5₀ g6₀ g7₀ g8₀ hm₀; exact absurd hm₀ (by omega)
                      | succ nn₀ ih106₀ =>
                        intro n2₀ m2₀ c₀ w3₀ g1₀ g5₀ g6₀ g7₀ g8₀ hm106₀ H₀ locs₀ ls₀ hH₀ hl₀
                        refine lv_iload C₀.1.1 C₀.1.2.1 dX9_floods_106 (lv_at hl₀ 7 rfl) ?_
                        refine lv_aload_n C₀.1.1 C₀.1.2.1 dX9_floods_108 rfl (lv_at hl₀ 0 rfl) ?_
                        refine xc_Vi (wr := [(q₀ 3, .inl (k₀ 0, 306, .inl (ia (mPa pa₀ s₀ un₀)))), (q₀ 17, .inl (k₀ 2, 24, .inl (ia w3₀)))]) (ws' := fun _ => [mO a₀ q₀ 0 (mUn un₀) mf₀ ty₀ fr₀ tt₀ tk₀ fa₀ (bz hf₀) (bz ho₀) km₀, (q₀ 1, .inl (k₀ 0, 51, .inl (ia s₀))), (q₀ 3, .inl (k₀ 0, 306, .inl (ia (mPa pa₀ s₀ un₀)))), (q₀ 17, .inl (k₀ 2, 24, .inl (ia w3₀)))]) (As := []) (rest := [.int (iI c₀)]) C₀ hH₀ (c_X9_cells lL₀ D₀ k₀ H₀.size a₀ q₀ 0 (mUn un₀) mf₀ ty₀ fr₀ tt₀ tk₀ fa₀ hf₀ ho₀ km₀ s₀ ) ZT_b (fun _ _ _ => trivial) (cwV 0 C₀.1.2.2.2.2 gX9_floods_X9_cells rfl rfl rfl (by decide +kernel) ⟨Nat.le_of_ble_eq_true rfl, Nat.le_of_ble_eq_true rfl⟩) [0, 1] [2, 3] [2, 3, 0, 1] rfl rfl (by decide) (by decide) (by decide) (fun _ => rfl) (by decide) (q0 := 0) rfl rfl rfl hl₀.1 rfl (Nat.le_of_ble_eq_true rfl) dX9_floods_109 ⟨Nat.le_of_ble_eq_true rfl, Nat.le_of_ble_eq_true rfl⟩ (fun _ _ H₀ locs₀ hH₀ => ?_)
                        refine xi_cge (tgt := 184) C₀.1.1 C₀.1.2.1 dX9_floods_112 (by decide) (by omega) (by omega) (fun h_8₀ => ?_) (fun h_8₀ => ?_)
                        · refine lv_goto (tgt := 95) C₀.1.1 C₀.1.2.1 dX9_floods_184 (by decide) ?_
                          exact ih95₀ n2₀ m2₀ w3₀ (g1₀) ((fun q₀ => by have q2₀ := (g5₀ q₀).2; rw [show c₀ = s₀ 0 * s₀ 1 by omega] at q2₀; exact q2₀)) (by (have q2₀ := bz_rg m2₀; cases m2₀ with | true => (have q3₀ := g6₀ rfl; rw [hmo₀] at hm95₀; rw [bz_t] at *; omega) | false => (have q3₀ := (g5₀ rfl).1; rw [hmo₀] at hm95₀; rw [bz_t] at hm95₀; rw [bz_f]; omega))) _ _ _ hH₀ (lv_sub hl₀ [0, 1, 2, 3, 4, 5, 6] rfl)
                        · have hdm₀ := dm_rg hs0₀ (show 0 ≤ c₀ ∧ c₀ < s₀ 0 * s₀ 1 by omega)
                          have hw01₀ := g1₀.1 c₀ (by omega) (by omega)
                          have hw24₀ := mWk_01 g1₀ c₀ (by omega) (by omega)
                          have hsc₀ := hsh₀ (3 + c₀) (by omega) (by omega)
                          refine lv_aload_n C₀.1.1 C₀.1.2.1 dX9_floods_115 rfl (lv_at hl₀ 0 rfl) ?_
                          refine xw_get C₀ hH₀ 0 rfl rfl 17 (by decide) iw_X9_floods_X9 (by decide +kernel) (v := .ref (q₀ 17)) rfl dX9_floods_116 ?_
                          refine lv_iload C₀.1.1 C₀.1.2.1 dX9_floods_119 (lv_at hl₀ 7 rfl) ?_
                          refine xw_zld C₀ hH₀ 3 2 rfl rfl (z := c₀) (by omega) (by omega) (by decide) dX9_floods_121 ?_
                          refine xi_zne (tgt := 178) C₀.1.1 C₀.1.2.1 dX9_floods_122 (by decide) (by omega) (fun h_9₀ => ?_) (fun h_9₀ => ?_)
                          · refine lv_iinc (v := iI (c₀ + 1)) (lv' := [(7, .int (iI (c₀ + 1))), (0, .ref a₀), (1, .int (iI x)), (2, .int (iI y₀)), (3, .int (iI h₀)), (4, .int (iI (s₀ (3 + s₀ 0 * y₀ + x)))), (5, .int (iI n2₀)), (6, .int (iI (bz m2₀)))]) C₀.1.1 C₀.1.2.1 dX9_floods_178 hl₀ (k := 7) rfl (iI_add _ (1)) (by decide) rfl (fun ls₀ hl₀ => ?_)
                            refine lv_goto (tgt := 106) C₀.1.1 C₀.1.2.1 dX9_floods_181 (by decide) ?_
                            exact ih106₀ n2₀ m2₀ (c₀ + 1) w3₀ (g1₀) ((fun q₀ => ⟨(g5₀ q₀).1, fun j₀ q1₀ q2₀ q3₀ q4₀ => by by_cases hj₀ : j₀ = c₀; (subst hj₀; rw [e3₀] at *; first | omega | assumption); (exact (g5₀ q₀).2 j₀ q1₀ (by omega) q3₀ q4₀)⟩)) (g6₀) (by omega) (by omega) (by omega) _ _ _ hH₀ (lv_sub hl₀ [1, 2, 3, 4, 5, 6, 7, 0] rfl)
                          · refine lv_aload_n C₀.1.1 C₀.1.2.1 dX9_floods_125 rfl (lv_at hl₀ 0 rfl) ?_
                            refine xw_get C₀ hH₀ 0 rfl rfl 1 (by decide) iw_X9_floods_X9 (by decide +kernel) (v := .ref (q₀ 1)) rfl dX9_floods_126 ?_
                            refine lv_iconst (v := iI 3) C₀.1.1 C₀.1.2.1 dX9_floods_129 (by decide) ?_
                            refine lv_iload C₀.1.1 C₀.1.2.1 dX9_floods_130 (lv_at hl₀ 7 rfl) ?_
                            refine xi_add C₀.1.1 C₀.1.2.1 dX9_floods_132 ?_
                            refine xw_ild C₀ hH₀ 1 0 rfl rfl (z := 3 + c₀) (by omega) (by omega) (by decide) dX9_floods_133 ?_
                            refine lv_iload C₀.1.1 C₀.1.2.1 dX9_floods_134 (lv_at hl₀ 4 rfl) ?_
                            refine xi_cne (tgt := 178) C₀.1.1 C₀.1.2.1 dX9_floods_136 (by decide) (by omega) (by omega) (fun h_10₀ => ?_) (fun h_10₀ => ?_)
                            · refine lv_iinc (v := iI (c₀ + 1)) (lv' := [(7, .int (iI (c₀ + 1))), (0, .ref a₀), (1, .int (iI x)), (2, .int (iI y₀)), (3, .int (iI h₀)), (4, .int (iI (s₀ (3 + s₀ 0 * y₀ + x)))), (5, .int (iI n2₀)), (6, .int (iI (bz m2₀)))]) C₀.1.1 C₀.1.2.1 dX9_floods_178 hl₀ (k := 7) rfl (iI_add _ (1)) (by decide) rfl (fun ls₀ hl₀ => ?_)
                              refine lv_goto (tgt := 106) C₀.1.1 C₀.1.2.1 dX9_floods_181 (by decide) ?_
                              exact ih106₀ n2₀ m2₀ (c₀ + 1) w3₀ (g1₀) ((fun q₀ => ⟨(g5₀ q₀).1, fun j₀ q1₀ q2₀ q3₀ q4₀ => by by_cases hj₀ : j₀ = c₀; (subst hj₀; rw [e3₀] at *; first | omega | assumption); (exact (g5₀ q₀).2 j₀ q1₀ (by omega) q3₀ q4₀)⟩)) (g6₀) (by omega) (by omega) (by omega) _ _ _ hH₀ (lv_sub hl₀ [1, 2, 3, 4, 5, 6, 7, 0] rfl)
                            · refine lv_aload_n C₀.1.1 C₀.1.2.1 dX9_floods_139 rfl (lv_at hl₀ 0 rfl) ?_
                              refine lv_iload C₀.1.1 C₀.1.2.1 dX9_floods_140 (lv_at hl₀ 7 rfl) ?_
                              refine lv_aload_n C₀.1.1 C₀.1.2.1 dX9_floods_142 rfl (lv_at hl₀ 0 rfl) ?_
                              refine xw_get C₀ hH₀ 0 rfl rfl 1 (by decide) iw_X9_floods_X9 (by decide +kernel) (v := .ref (q₀ 1)) rfl dX9_floods_143 ?_
                              refine lv_iconst (v := iI 0) C₀.1.1 C₀.1.2.1 dX9_floods_146 (by decide) ?_
                              refine xw_ild C₀ hH₀ 1 0 rfl rfl (z := 0) (by omega) (by omega) (by decide) dX9_floods_147 ?_
                              refine xi_rem C₀.1.1 C₀.1.2.1 dX9_floods_148 (by omega) (by omega) ?_
                              refine lv_iload C₀.1.1 C₀.1.2.1 dX9_floods_149 (lv_at hl₀ 7 rfl) ?_
                              refine lv_aload_n C₀.1.1 C₀.1.2.1 dX9_floods_151 rfl (lv_at hl₀ 0 rfl) ?_
                              refine xw_get C₀ hH₀ 0 rfl rfl 1 (by decide) iw_X9_floods_X9 (by decide +kernel) (v := .ref (q₀ 1)) rfl dX9_floods_152 ?_
                              refine lv_iconst (v := iI 0) C₀.1.1 C₀.1.2.1 dX9_floods_155 (by decide) ?_
                              refine xw_ild C₀ hH₀ 1 0 rfl rfl (z := 0) (by omega) (by omega) (by decide) dX9_floods_156 ?_
                              refine xi_div C₀.1.1 C₀.1.2.1 dX9_floods_157 (by omega) (by omega) ?_
                              refine xc_Vi (wr := [(q₀ 3, .inl (k₀ 0, 306, .inl (ia (mPa pa₀ s₀ un₀))))]) (ws' := fun _ => [mO a₀ q₀ 0 (mUn un₀) mf₀ ty₀ fr₀ tt₀ tk₀ fa₀ (bz hf₀) (bz ho₀) km₀, (q₀ 1, .inl (k₀ 0, 51, .inl (ia s₀))), (q₀ 3, .inl (k₀ 0, 306, .inl (ia (mPa pa₀ s₀ un₀)))), (q₀ 17, .inl (k₀ 2, 24, .inl (ia w3₀)))]) (As := [.int (iI (c₀ % (s₀ 0))), .int (iI (c₀ / (s₀ 0)))]) (rest := []) C₀ hH₀ (c_X9_isBeside lL₀ D₀ k₀ H₀.size a₀ q₀ 0 (mUn un₀) mf₀ ty₀ fr₀ tt₀ tk₀ fa₀ hf₀ ho₀ km₀ s₀ w3₀ (c₀ % (s₀ 0)) (c₀ / (s₀ 0)) (hS₀) (by omega) (by omega) (mWk_01 g1₀)) ZT_b (fun _ _ _ => trivial) (cwV 2 C₀.1.2.2.2.2 gX9_floods_X9_isBeside rfl rfl rfl (by decide +kernel) ⟨Nat.le_of_ble_eq_true rfl, Nat.le_of_ble_eq_true rfl⟩) [0, 1, 3] [2] [1, 2, 0, 3] rfl rfl (by decide) (by decide) (by decide) (fun _ => rfl) (by decide) (q0 := 0) rfl rfl rfl hl₀.1 rfl (Nat.le_of_ble_eq_true rfl) dX9_floods_158 ⟨Nat.le_of_ble_eq_true rfl, Nat.le_of_ble_eq_true rfl⟩ (fun _ _ H₀ locs₀ hH₀ => ?_)
                              refine xb_eq (tgt := 178) C₀.1.1 C₀.1.2.1 dX9_floods_161 (by decide) (fun h_11₀ => ?_) (fun h_11₀ => ?_)
                              · refine lv_iinc (v := iI (c₀ + 1)) (lv' := [(7, .int (iI (c₀ + 1))), (0, .ref a₀), (1, .int (iI x)), (2, .int (iI y₀)), (3, .int (iI h₀)), (4, .int (iI (s₀ (3 + s₀ 0 * y₀ + x)))), (5, .int (iI n2₀)), (6, .int (iI (bz m2₀)))]) C₀.1.1 C₀.1.2.1 dX9_floods_178 hl₀ (k := 7) rfl (iI_add _ (1)) (by decide) rfl (fun ls₀ hl₀ => ?_)
                                refine lv_goto (tgt := 106) C₀.1.1 C₀.1.2.1 dX9_floods_181 (by decide) ?_
                                exact ih106₀ n2₀ m2₀ (c₀ + 1) w3₀ (g1₀) ((fun q₀ => ⟨(g5₀ q₀).1, fun j₀ q1₀ q2₀ q3₀ q4₀ => by by_cases hj₀ : j₀ = c₀; (subst hj₀; rw [e3₀] at *; first | omega | assumption); (exact (g5₀ q₀).2 j₀ q1₀ (by omega) q3₀ q4₀)⟩)) (g6₀) (by omega) (by omega) (by omega) _ _ _ hH₀ (lv_sub hl₀ [1, 2, 3, 4, 5, 6, 7, 0] rfl)
                              · refine lv_aload_n C₀.1.1 C₀.1.2.1 dX9_floods_164 rfl (lv_at hl₀ 0 rfl) ?_
                                refine xw_get C₀ hH₀ 0 rfl rfl 17 (by decide) iw_X9_floods_X9 (by decide +kernel) (v := .ref (q₀ 17)) rfl dX9_floods_165 ?_
                                refine lv_iload C₀.1.1 C₀.1.2.1 dX9_floods_168 (lv_at hl₀ 7 rfl) ?_
                                refine lv_iconst (v := iI 1) C₀.1.1 C₀.1.2.1 dX9_floods_170 (by decide) ?_
                                refine xw_zst (ws' := [mO a₀ q₀ 0 (mUn un₀) mf₀ ty₀ fr₀ tt₀ tk₀ fa₀ (bz hf₀) (bz ho₀) km₀, (q₀ 1, .inl (k₀ 0, 51, .inl (ia s₀))), (q₀ 3, .inl (k₀ 0, 306, .inl (ia (mPa pa₀ s₀ un₀)))), (q₀ 17, .inl (k₀ 2, 24, .inl (ia (uz w3₀ c₀ 1))))]) C₀ hH₀ 3 2 rfl rfl (z := c₀) (v := 1) (by omega) (by omega) (by decide) rfl dX9_floods_171 rfl (fun H₀ locs₀ hH₀ => ?_)
                                refine lv_iconst (v := iI 1) C₀.1.1 C₀.1.2.1 dX9_floods_172 (by decide) ?_
                                refine lv_istore (lv' := [(6, .int (iI 1)), (0, .ref a₀), (1, .int (iI x)), (2, .int (iI y₀)), (3, .int (iI h₀)), (4, .int (iI (s₀ (3 + s₀ 0 * y₀ + x)))), (5, .int (iI n2₀)), (7, .int (iI c₀))]) C₀.1.1 C₀.1.2.1 dX9_floods_173 hl₀ (by decide) rfl (fun ls₀ hl₀ => ?_)
                                refine lv_iinc (v := iI (n2₀ + 1)) (lv' := [(5, .int (iI (n2₀ + 1))), (6, .int (iI 1)), (0, .ref a₀), (1, .int (iI x)), (2, .int (iI y₀)), (3, .int (iI h₀)), (4, .int (iI (s₀ (3 + s₀ 0 * y₀ + x)))), (7, .int (iI c₀))]) C₀.1.1 C₀.1.2.1 dX9_floods_175 hl₀ (k := 6) rfl (iI_add _ (1)) (by decide) rfl (fun ls₀ hl₀ => ?_)
                                refine lv_iinc (v := iI (c₀ + 1)) (lv' := [(7, .int (iI (c₀ + 1))), (5, .int (iI (n2₀ + 1))), (6, .int (iI 1)), (0, .ref a₀), (1, .int (iI x)), (2, .int (iI y₀)), (3, .int (iI h₀)), (4, .int (iI (s₀ (3 + s₀ 0 * y₀ + x))))]) C₀.1.1 C₀.1.2.1 dX9_floods_178 hl₀ (k := 7) rfl (iI_add _ (1)) (by decide) rfl (fun ls₀ hl₀ => ?_)
                                refine lv_goto (tgt := 106) C₀.1.1 C₀.1.2.1 dX9_floods_181 (by decide) ?_
                                exact ih106₀ (n2₀ + 1) true (c₀ + 1) (uz w3₀ c₀ 1) (mWk_new g1₀ (by omega) (by omega) (by omega) (by rw [← e3₀]; omega) (by assumption)) ((fun q₀ => by cases q₀)) ((fun _ => by omega)) (by omega) (by omega) (by omega) _ _ _ hH₀ (lv_sub hl₀ [3, 4, 5, 6, 7, 1, 2, 0] rfl)
                    exact L106₀ (((s₀ 0 * s₀ 1 - 0) : Int).toNat + 1) n₀ false 0 w2₀ (f1₀) (fun _ => ⟨rfl, fun j₀ a₀ b₀ => absurd b₀ (by omega)⟩) (fun q₀ => by cases q₀) (by omega) (by omega) (by omega) _ _ _ hH₀ (lv_sub hl₀ [2, 3, 4, 5, 6, 7, 1, 0] rfl)
              exact L95₀ (((2 * (25 - 1) + bz true) : Int).toNat + 1) 1 true w1₀ (mWk_0 hac₀ (by omega) (fun j₀ q1₀ q2₀ => i1₀ j₀ q1₀ (by omega))) (fun q₀ => by cases q₀) (by omega) _ _ _ hH₀ (lv_sub hl₀ [2, 3, 4, 5, 6, 1, 0] rfl)
            · refine lv_aload_n C₀.1.1 C₀.1.2.1 dX9_floods_56 rfl (lv_at hl₀ 0 rfl) ?_
              refine xw_get C₀ hH₀ 0 rfl rfl 17 (by decide) iw_X9_floods_X9 (by decide +kernel) (v := .ref (q₀ 17)) rfl dX9_floods_57 ?_
              refine lv_iload C₀.1.1 C₀.1.2.1 dX9_floods_60 (lv_at hl₀ 5 rfl) ?_
              have L82₀ : ∀ (b₀ : Bool), (b₀ = decide (c₀ = s₀ 0 * y₀ + x)) → ∀ (H₀ : Heap) (locs₀ : List Loc) (ls₀ : Array Slot), Hp D₀ A₀ sT₀.heap [mO a₀ q₀ 0 (mUn un₀) mf₀ ty₀ fr₀ tt₀ tk₀ fa₀ (bz hf₀) (bz ho₀) km₀, (q₀ 1, .inl (k₀ 0, 51, .inl (ia s₀))), (q₀ 3, .inl (k₀ 0, 306, .inl (ia (mPa pa₀ s₀ un₀)))), (q₀ 17, .inl (k₀ 2, 24, .inl (ia w1₀)))] H₀ locs₀ → lv_has ls₀ 8 [(0, .ref a₀), (1, .int (iI x)), (2, .int (iI y₀)), (3, .int (iI h₀)), (4, .int (iI (s₀ (3 + s₀ 0 * y₀ + x)))), (5, .int (iI c₀))] → W pP₀ lL₀ eN₀ rmX9_floods sT₀ mI₀ args₀ below₀ meth₀ cD₀ H₀ locs₀ 0 0 QQ₀ (F0 mI₀ 82 ls₀ [.int (iI (bz b₀)), .int (iI c₀), .ref (q₀ 17)]) := by
                intro b₀ jb₀ H₀ locs₀ ls₀ hH₀ hl₀
                refine xw_zst (ws' := [mO a₀ q₀ 0 (mUn un₀) mf₀ ty₀ fr₀ tt₀ tk₀ fa₀ (bz hf₀) (bz ho₀) km₀, (q₀ 1, .inl (k₀ 0, 51, .inl (ia s₀))), (q₀ 3, .inl (k₀ 0, 306, .inl (ia (mPa pa₀ s₀ un₀)))), (q₀ 17, .inl (k₀ 2, 24, .inl (ia (uz w1₀ c₀ (bz b₀)))))]) C₀ hH₀ 3 2 rfl rfl (z := c₀) (v := bz b₀) (by omega) (by omega) (by decide) (vpn_bz _) dX9_floods_82 rfl (fun H₀ locs₀ hH₀ => ?_)
                refine lv_iinc (v := iI (c₀ + 1)) (lv' := [(5, .int (iI (c₀ + 1))), (0, .ref a₀), (1, .int (iI x)), (2, .int (iI y₀)), (3, .int (iI h₀)), (4, .int (iI (s₀ (3 + s₀ 0 * y₀ + x))))]) C₀.1.1 C₀.1.2.1 dX9_floods_83 hl₀ (k := 5) rfl (iI_add _ (1)) (by decide) rfl (fun ls₀ hl₀ => ?_)
                refine lv_goto (tgt := 49) C₀.1.1 C₀.1.2.1 dX9_floods_86 (by decide) ?_
                exact ih49₀ (c₀ + 1) (uz w1₀ c₀ (bz b₀)) ((by intro j₀ q1₀ q2₀; by_cases hj₀ : j₀ = c₀; (subst hj₀; rw [uz_s, jb₀]; by_cases hz₀ : j₀ = s₀ 0 * y₀ + x; (rw [if_pos hz₀, decide_eq_true hz₀]; rfl); (rw [if_neg hz₀, decide_eq_false hz₀]; rfl)); (rw [uz_n hj₀]; exact i1₀ j₀ q1₀ (by omega)))) (by omega) (by omega) _ _ _ hH₀ (lv_sub hl₀ [1, 2, 3, 4, 5, 0] rfl)
              refine lv_iload C₀.1.1 C₀.1.2.1 dX9_floods_62 (lv_at hl₀ 5 rfl) ?_
              refine lv_aload_n C₀.1.1 C₀.1.2.1 dX9_floods_64 rfl (lv_at hl₀ 0 rfl) ?_
              refine xw_get C₀ hH₀ 0 rfl rfl 1 (by decide) iw_X9_floods_X9 (by decide +kernel) (v := .ref (q₀ 1)) rfl dX9_floods_65 ?_
              refine lv_iconst (v := iI 0) C₀.1.1 C₀.1.2.1 dX9_floods_68 (by decide) ?_
              refine xw_ild C₀ hH₀ 1 0 rfl rfl (z := 0) (by omega) (by omega) (by decide) dX9_floods_69 ?_
              refine lv_iload_n C₀.1.1 C₀.1.2.1 dX9_floods_70 rfl (lv_at hl₀ 2 rfl) ?_
              refine xi_mul C₀.1.1 C₀.1.2.1 dX9_floods_71 ?_
              refine lv_iload_n C₀.1.1 C₀.1.2.1 dX9_floods_72 rfl (lv_at hl₀ 1 rfl) ?_
              refine xi_add C₀.1.1 C₀.1.2.1 dX9_floods_73 ?_
              refine xi_cne (tgt := 81) C₀.1.1 C₀.1.2.1 dX9_floods_74 (by decide) (by omega) (by omega) (fun h_12₀ => ?_) (fun h_12₀ => ?_)
              · refine lv_iconst (v := iI 0) C₀.1.1 C₀.1.2.1 dX9_floods_81 (by decide) ?_
                exact L82₀ false ((decide_eq_false (by first | omega | (simp_all; done) | (simp_all; omega))).symm) _ _ _ hH₀ (lv_sub hl₀ [0, 1, 2, 3, 4, 5] rfl)
              · refine lv_iconst (v := iI 1) C₀.1.1 C₀.1.2.1 dX9_floods_77 (by decide) ?_
                refine lv_goto (tgt := 82) C₀.1.1 C₀.1.2.1 dX9_floods_78 (by decide) ?_
                exact L82₀ true ((decide_eq_true (by first | omega | (simp_all; done) | (simp_all; omega))).symm) _ _ _ hH₀ (lv_sub hl₀ [0, 1, 2, 3, 4, 5] rfl)
        exact L49₀ (((24 - 0) : Int).toNat + 1) 0 wt₀ (fun j₀ a₀ b₀ => absurd b₀ (by omega)) (by omega) (by omega) _ _ _ hH₀ (lv_sub hl₀ [2, 3, 4, 5, 1, 0] rfl)
      · refine lv_bipush (v := iI (-2)) C₀.1.1 C₀.1.2.1 dX9_floods_39 (by decide) ?_
        exact xr_i C₀ hH₀ hlk₀ hr₀ hQ₀ rfl hAe₀ (wt₀) trivial (by simp (disch := omega) only [mFldR, if_pos, if_neg]) (by rw [show mFldC s₀ x y₀ h₀ = false from decide_eq_false (by omega)]; rfl) dX9_floods_41
    · refine lv_iconst (v := iI (-1)) C₀.1.1 C₀.1.2.1 dX9_floods_23 (by decide) ?_
      exact xr_i C₀ hH₀ hlk₀ hr₀ hQ₀ rfl hAe₀ (wt₀) trivial (by simp (disch := omega) only [mFldR, if_pos, if_neg]) (by rw [show mFldC s₀ x y₀ h₀ = false from decide_eq_false (by omega)]; rfl) dX9_floods_24
