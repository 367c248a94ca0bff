theorem iw_X9_bestBehind_X9 : ∀ w₀ ∈ u_ws RX9 TX9 24, w₀ ∈ wsX9_bestBehind := (fun w₀ h₀ => List.mem_cons_of_mem _ (List.mem_append_right _ h₀))
abbrev rmX9_bestBehind : Room := { frames := 3, cells := 0, slots := 0, locals := 68 }
set_option maxHeartbeats 4000000 in
set_option maxRecDepth 100000 in
/-- bestBehind -/
theorem c_X9_bestBehind (lL₀ : Launch) (D₀ : va_G) (k₀ : Nat → ClassId) (sz₀ : Nat) (a₀ : Nat) (q₀ : Nat → Nat) (th₀ : Int) (un₀ : Int) (mf₀ : Int) (ty₀ : Int) (fr₀ : Int) (tt₀ : Int) (tk₀ : Int) (fa₀ : Int) (hf₀ : Bool) (ho₀ : Bool) (km₀ : Int) (s₀ : Int → Int) (co₀ : Int → Int) (y₀ : Int) (row₀ : Int) (rows₀ : Int) (hS₀ : mS s₀) (hy₀ : 0 ≤ y₀ ∧ y₀ < s₀ 1) (hrw₀ : 0 ≤ row₀ ∧ row₀ < 2147483648) (hrs₀ : rows₀ = mPow (s₀ 0)) (hco₀ : mCoOk s₀ co₀ (y₀ + 1)) : Met lL₀ yX9_bestBehind wsX9_bestBehind rmX9_bestBehind (gPc ZT D₀ (tyk k₀) [.ref a₀, .int (iI y₀), .int (iI row₀), .int (iI rows₀)] sz₀ [mO a₀ q₀ th₀ un₀ mf₀ ty₀ fr₀ tt₀ tk₀ fa₀ (bz hf₀) (bz ho₀) km₀, (q₀ 1, .inl (k₀ 0, 51, .inl (ia s₀))), (q₀ 18, .inl (k₀ 0, 1536, .inl (ia co₀)))]) (gQi D₀ (tyk k₀) [mO a₀ q₀ th₀ un₀ mf₀ ty₀ fr₀ tt₀ tk₀ fa₀ (bz hf₀) (bz ho₀) km₀, (q₀ 1, .inl (k₀ 0, 51, .inl (ia s₀))), (q₀ 18, .inl (k₀ 0, 1536, .inl (ia co₀)))] sz₀ (fun (_ : Unit) => True) (fun (_ : Unit) => (iI (mBB s₀ y₀ row₀))) (fun (_ : Unit) => [mO a₀ q₀ th₀ un₀ mf₀ ty₀ fr₀ tt₀ tk₀ fa₀ (bz hf₀) (bz ho₀) km₀, (q₀ 1, .inl (k₀ 0, 51, .inl (ia s₀))), (q₀ 18, .inl (k₀ 0, 1536, .inl (ia co₀)))])) 0 0 (va_A [mO a₀ q₀ th₀ un₀ mf₀ ty₀ fr₀ tt₀ tk₀ fa₀ (bz hf₀) (bz ho₀) km₀, (q₀ 1, .inl (k₀ 0, 51, .inl (ia s₀))), (q₀ 18, .inl (k₀ 0, 1536, .inl (ia co₀)))] sz₀) := by
  refine xs_met (cc := cX9_bestBehind) (maxL := 7) (ret := some .int) (by decide) rfl (Nat.le_of_ble_eq_true rfl) ?_
  intro pP₀ eN₀ sT₀ mI₀ below₀ meth₀ cD₀ hsz₀ args₀ QQ₀ C₀ hr₀ hlk₀ hnm₀ hQ₀ ls₀ H₀ locs₀ hl₀ hH₀
  subst hsz₀
  have hl₀ : lv_has ls₀ 7 [(0, .ref a₀), (1, .int (iI y₀)), (2, .int (iI row₀)), (3, .int (iI rows₀))] := hl₀
  generalize hAe₀ : va_A [mO a₀ q₀ th₀ un₀ mf₀ ty₀ fr₀ tt₀ tk₀ fa₀ (bz hf₀) (bz ho₀) km₀, (q₀ 1, .inl (k₀ 0, 51, .inl (ia s₀))), (q₀ 18, .inl (k₀ 0, 1536, .inl (ia co₀)))] sT₀.heap.size = A₀ at C₀ hH₀ hQ₀
  obtain ⟨hs0₀, hs1₀, hs2₀, hsh₀, hsf₀⟩ := id hS₀
  have hcl₀ := cells_rg hs0₀ hs1₀
  have hpw₀ := mPow_rg hs0₀
  have L19₀ : ∀ (l0₀ : Int), (l0₀ = if y₀ + 1 = s₀ 1 then 0 else 1000) → ∀ (H₀ : Heap) (locs₀ : List Loc) (ls₀ : Array Slot), Hp D₀ A₀ sT₀.heap [mO a₀ q₀ th₀ un₀ mf₀ ty₀ fr₀ tt₀ tk₀ fa₀ (bz hf₀) (bz ho₀) km₀, (q₀ 1, .inl (k₀ 0, 51, .inl (ia s₀))), (q₀ 18, .inl (k₀ 0, 1536, .inl (ia co₀)))] H₀ locs₀ → lv_has ls₀ 7 [(0, .ref a₀), (1, .int (iI y₀)), (2, .int (iI row₀)), (3, .int (iI rows₀))] → W pP₀ lL₀ eN₀ rmX9_bestBehind sT₀ mI₀ args₀ below₀ meth₀ cD₀ H₀ locs₀ 0 0 QQ₀ (F0 mI₀ 19 ls₀ [.int (iI l0₀)]) := by
    intro l0₀ jl₀ H₀ locs₀ ls₀ hH₀ hl₀
    refine lv_istore (lv' := [(4, .int (iI l0₀)), (0, .ref a₀), (1, .int (iI y₀)), (2, .int (iI row₀)), (3, .int (iI rows₀))]) C₀.1.1 C₀.1.2.1 dX9_bestBehind_19 hl₀ (by decide) rfl (fun ls₀ hl₀ => ?_)
    refine lv_iconst (v := iI 0) C₀.1.1 C₀.1.2.1 dX9_bestBehind_21 (by decide) ?_
    refine lv_istore (lv' := [(5, .int (iI 0)), (4, .int (iI l0₀)), (0, .ref a₀), (1, .int (iI y₀)), (2, .int (iI row₀)), (3, .int (iI rows₀))]) C₀.1.1 C₀.1.2.1 dX9_bestBehind_22 hl₀ (by decide) rfl (fun ls₀ hl₀ => ?_)
    have L24₀ : ∀ (nn₀ : Nat), ∀ (l₀ : Int) (z₀ : Int), (l₀ = if y₀ + 1 = s₀ 1 then 0 else lsI (mCst s₀ (y₀ + 1)) (mFit (s₀ 0) row₀) z₀) → (0 ≤ z₀ ∧ z₀ ≤ mPow (s₀ 0)) → (0 ≤ l₀ ∧ l₀ ≤ 1000) → ((mPow (s₀ 0) - z₀) < (nn₀ : Int)) → ∀ (H₀ : Heap) (locs₀ : List Loc) (ls₀ : Array Slot), Hp D₀ A₀ sT₀.heap [mO a₀ q₀ th₀ un₀ mf₀ ty₀ fr₀ tt₀ tk₀ fa₀ (bz hf₀) (bz ho₀) km₀, (q₀ 1, .inl (k₀ 0, 51, .inl (ia s₀))), (q₀ 18, .inl (k₀ 0, 1536, .inl (ia co₀)))] H₀ locs₀ → lv_has ls₀ 7 [(0, .ref a₀), (1, .int (iI y₀)), (2, .int (iI row₀)), (3, .int (iI rows₀)), (4, .int (iI l₀)), (5, .int (iI z₀))] → W pP₀ lL₀ eN₀ rmX9_bestBehind sT₀ mI₀ args₀ below₀ meth₀ cD₀ H₀ locs₀ 0 0 QQ₀ (F0 mI₀ 24 ls₀ []) := by
      intro nn₀
      induction nn₀ with
      | zero => intro l₀ z₀ i1₀ i2₀ i3₀ hm₀; exact absurd hm₀ (by omega)
      | succ nn₀ ih24₀ =>
        intro l₀ z₀ i1₀ i2₀ i3₀ hm24₀ H₀ locs₀ ls₀ hH₀ hl₀
        refine lv_iload C₀.1.1 C₀.1.2.1 dX9_bestBehind_24 (lv_at hl₀ 5 rfl) ?_
        refine lv_iload_n C₀.1.1 C₀.1.2.1 dX9_bestBehind_26 rfl (lv_at hl₀ 3 rfl) ?_
        refine xi_cge (tgt := 91) C₀.1.1 C₀.1.2.1 dX9_bestBehind_27 (by decide) (by omega) (by omega) (fun h_1₀ => ?_) (fun h_1₀ => ?_)
        · refine lv_iload C₀.1.1 C₀.1.2.1 dX9_bestBehind_91 (lv_at hl₀ 4 rfl) ?_
          exact xr_i C₀ hH₀ hlk₀ hr₀ hQ₀ rfl hAe₀ () trivial (by unfold mBB; rw [i1₀, show z₀ = mPow (s₀ 0) by omega]) rfl dX9_bestBehind_93
        · refine lv_iload_n C₀.1.1 C₀.1.2.1 dX9_bestBehind_30 rfl (lv_at hl₀ 1 rfl) ?_
          refine lv_iconst (v := iI 1) C₀.1.1 C₀.1.2.1 dX9_bestBehind_31 (by decide) ?_
          refine xi_add C₀.1.1 C₀.1.2.1 dX9_bestBehind_32 ?_
          refine lv_aload_n C₀.1.1 C₀.1.2.1 dX9_bestBehind_33 rfl (lv_at hl₀ 0 rfl) ?_
          refine xw_get C₀ hH₀ 0 rfl rfl 1 (by decide) iw_X9_bestBehind_X9 (by decide +kernel) (v := .ref (q₀ 1)) rfl dX9_bestBehind_34 ?_
          refine lv_iconst (v := iI 1) C₀.1.1 C₀.1.2.1 dX9_bestBehind_37 (by decide) ?_
          refine xw_ild C₀ hH₀ 1 0 rfl rfl (z := 1) (by omega) (by omega) (by decide) dX9_bestBehind_38 ?_
          refine xi_cge (tgt := 91) C₀.1.1 C₀.1.2.1 dX9_bestBehind_39 (by decide) (by omega) (by omega) (fun h_2₀ => ?_) (fun h_2₀ => ?_)
          · refine lv_iload C₀.1.1 C₀.1.2.1 dX9_bestBehind_91 (lv_at hl₀ 4 rfl) ?_
            exact xr_i C₀ hH₀ hlk₀ hr₀ hQ₀ rfl hAe₀ () trivial (by unfold mBB; rw [i1₀, if_pos (by omega), if_pos (by omega)]) rfl dX9_bestBehind_93
          · have hcz₀ := hco₀ (y₀ + 1) z₀ (by omega) (by omega) (by omega) (by omega) (by omega)
            have hcr₀ := mCst_rg hs0₀ hs1₀ (y₀ + 1) z₀ (by omega)
            refine lv_aload_n C₀.1.1 C₀.1.2.1 dX9_bestBehind_42 rfl (lv_at hl₀ 0 rfl) ?_
            refine xw_get C₀ hH₀ 0 rfl rfl 18 (by decide) iw_X9_bestBehind_X9 (by decide +kernel) (v := .ref (q₀ 18)) rfl dX9_bestBehind_43 ?_
            refine lv_sipush (v := iI 256) C₀.1.1 C₀.1.2.1 dX9_bestBehind_46 (by decide) ?_
            refine lv_iload_n C₀.1.1 C₀.1.2.1 dX9_bestBehind_49 rfl (lv_at hl₀ 1 rfl) ?_
            refine lv_iconst (v := iI 1) C₀.1.1 C₀.1.2.1 dX9_bestBehind_50 (by decide) ?_
            refine xi_add C₀.1.1 C₀.1.2.1 dX9_bestBehind_51 ?_
            refine xi_mul C₀.1.1 C₀.1.2.1 dX9_bestBehind_52 ?_
            refine lv_iload C₀.1.1 C₀.1.2.1 dX9_bestBehind_53 (lv_at hl₀ 5 rfl) ?_
            refine xi_add C₀.1.1 C₀.1.2.1 dX9_bestBehind_55 ?_
            refine xw_ild C₀ hH₀ 2 0 rfl rfl (z := 256 * (y₀ + 1) + z₀) (by omega) (by omega) (by decide) dX9_bestBehind_56 ?_
            refine xt_i (y := (iI (mCst s₀ (y₀ + 1) z₀))) (by rw [hcz₀]) ?_
            refine lv_istore (lv' := [(6, .int (iI (mCst s₀ (y₀ + 1) z₀))), (0, .ref a₀), (1, .int (iI y₀)), (2, .int (iI row₀)), (3, .int (iI rows₀)), (4, .int (iI l₀)), (5, .int (iI z₀))]) C₀.1.1 C₀.1.2.1 dX9_bestBehind_57 hl₀ (by decide) rfl (fun ls₀ hl₀ => ?_)
            have L83₀ : ∀ (v₀ : Int), (v₀ = if mCst s₀ (y₀ + 1) z₀ < l₀ ∧ mFit (s₀ 0) row₀ z₀ = true then mCst s₀ (y₀ + 1) z₀ else l₀) → ∀ (H₀ : Heap) (locs₀ : List Loc) (ls₀ : Array Slot), Hp D₀ A₀ sT₀.heap [mO a₀ q₀ th₀ un₀ mf₀ ty₀ fr₀ tt₀ tk₀ fa₀ (bz hf₀) (bz ho₀) km₀, (q₀ 1, .inl (k₀ 0, 51, .inl (ia s₀))), (q₀ 18, .inl (k₀ 0, 1536, .inl (ia co₀)))] H₀ locs₀ → lv_has ls₀ 7 [(0, .ref a₀), (1, .int (iI y₀)), (2, .int (iI row₀)), (3, .int (iI rows₀)), (4, .int (iI l₀)), (5, .int (iI z₀)), (6, .int (iI (mCst s₀ (y₀ + 1) z₀)))] → W pP₀ lL₀ eN₀ rmX9_bestBehind sT₀ mI₀ args₀ below₀ meth₀ cD₀ H₀ locs₀ 0 0 QQ₀ (F0 mI₀ 83 ls₀ [.int (iI v₀)]) := by
              intro v₀ jv₀ H₀ locs₀ ls₀ hH₀ hl₀
              refine lv_istore (lv' := [(4, .int (iI v₀)), (0, .ref a₀), (1, .int (iI y₀)), (2, .int (iI row₀)), (3, .int (iI rows₀)), (5, .int (iI z₀)), (6, .int (iI (mCst s₀ (y₀ + 1) z₀)))]) C₀.1.1 C₀.1.2.1 dX9_bestBehind_83 hl₀ (by decide) rfl (fun ls₀ hl₀ => ?_)
              refine lv_iinc (v := iI (z₀ + 1)) (lv' := [(5, .int (iI (z₀ + 1))), (4, .int (iI v₀)), (0, .ref a₀), (1, .int (iI y₀)), (2, .int (iI row₀)), (3, .int (iI rows₀)), (6, .int (iI (mCst s₀ (y₀ + 1) z₀)))]) C₀.1.1 C₀.1.2.1 dX9_bestBehind_85 hl₀ (k := 5) rfl (iI_add _ (1)) (by decide) rfl (fun ls₀ hl₀ => ?_)
              refine lv_goto (tgt := 24) C₀.1.1 C₀.1.2.1 dX9_bestBehind_88 (by decide) ?_
              exact ih24₀ v₀ (z₀ + 1) ((by rw [if_neg (by omega)] at i1₀ ⊢; rw [lsI_s i2₀.1, ← i1₀, jv₀])) (by omega) ((by rw [jv₀]; split <;> omega)) (by omega) _ _ _ hH₀ (lv_sub hl₀ [2, 3, 4, 5, 1, 0] rfl)
            refine lv_iload C₀.1.1 C₀.1.2.1 dX9_bestBehind_59 (lv_at hl₀ 0 rfl) ?_
            refine lv_iload C₀.1.1 C₀.1.2.1 dX9_bestBehind_61 (lv_at hl₀ 5 rfl) ?_
            refine xi_cge (tgt := 81) C₀.1.1 C₀.1.2.1 dX9_bestBehind_63 (by decide) (by omega) (by omega) (fun h_3₀ => ?_) (fun h_3₀ => ?_)
            · refine lv_iload C₀.1.1 C₀.1.2.1 dX9_bestBehind_81 (lv_at hl₀ 5 rfl) ?_
              exact L83₀ l₀ ((by rw [if_neg (by rintro ⟨q1₀, q2₀⟩; first | omega | simp_all)])) _ _ _ hH₀ (lv_sub hl₀ [1, 2, 3, 4, 5, 6, 0] rfl)
            · refine lv_aload_n C₀.1.1 C₀.1.2.1 dX9_bestBehind_66 rfl (lv_at hl₀ 1 rfl) ?_
              refine lv_iload_n C₀.1.1 C₀.1.2.1 dX9_bestBehind_67 rfl (lv_at hl₀ 3 rfl) ?_
              refine lv_iload C₀.1.1 C₀.1.2.1 dX9_bestBehind_68 (lv_at hl₀ 6 rfl) ?_
              refine xc_Vi (wr := [(q₀ 18, .inl (k₀ 0, 1536, .inl (ia co₀)))]) (ws' := fun _ => [mO a₀ q₀ th₀ un₀ mf₀ ty₀ fr₀ tt₀ tk₀ fa₀ (bz hf₀) (bz ho₀) km₀, (q₀ 1, .inl (k₀ 0, 51, .inl (ia s₀))), (q₀ 18, .inl (k₀ 0, 1536, .inl (ia co₀)))]) (As := [.int (iI row₀), .int (iI z₀)]) (rest := []) C₀ hH₀ (c_X9_fit lL₀ D₀ k₀ H₀.size a₀ q₀ th₀ un₀ mf₀ ty₀ fr₀ tt₀ tk₀ fa₀ hf₀ ho₀ km₀ s₀ row₀ z₀ (by omega) (by omega) (by omega)) ZT_b (fun _ _ _ => trivial) (cwV 2 C₀.1.2.2.2.2 gX9_bestBehind_X9_fit rfl rfl rfl (by decide +kernel) ⟨Nat.le_of_ble_eq_true rfl, Nat.le_of_ble_eq_true rfl⟩) [0, 1] [2] [1, 2, 0] rfl rfl (by decide) (by decide) (by decide) (fun _ => rfl) (by decide) (q0 := 0) rfl rfl rfl hl₀.1 rfl (Nat.le_of_ble_eq_true rfl) dX9_bestBehind_70 ⟨Nat.le_of_ble_eq_true rfl, Nat.le_of_ble_eq_true rfl⟩ (fun _ _ H₀ locs₀ hH₀ => ?_)
              refine xb_eq (tgt := 81) C₀.1.1 C₀.1.2.1 dX9_bestBehind_73 (by decide) (fun h_4₀ => ?_) (fun h_4₀ => ?_)
              · refine lv_iload C₀.1.1 C₀.1.2.1 dX9_bestBehind_81 (lv_at hl₀ 5 rfl) ?_
                exact L83₀ l₀ ((by rw [if_neg (by rintro ⟨q1₀, q2₀⟩; first | omega | simp_all)])) _ _ _ hH₀ (lv_sub hl₀ [1, 2, 3, 4, 5, 6, 0] rfl)
              · refine lv_iload C₀.1.1 C₀.1.2.1 dX9_bestBehind_76 (lv_at hl₀ 0 rfl) ?_
                refine lv_goto (tgt := 83) C₀.1.1 C₀.1.2.1 dX9_bestBehind_78 (by decide) ?_
                exact L83₀ (mCst s₀ (y₀ + 1) z₀) ((by rw [if_pos ⟨by omega, by assumption⟩])) _ _ _ hH₀ (lv_sub hl₀ [1, 2, 3, 4, 5, 6, 0] rfl)
    exact L24₀ (((mPow (s₀ 0) - 0) : Int).toNat + 1) l0₀ 0 (jl₀) (by omega) ((by rw [jl₀]; split <;> omega)) (by omega) _ _ _ hH₀ (lv_sub hl₀ [2, 3, 4, 5, 1, 0] rfl)
  refine lv_iload_n C₀.1.1 C₀.1.2.1 dX9_bestBehind_0 rfl (lv_at hl₀ 1 rfl) ?_
  refine lv_iconst (v := iI 1) C₀.1.1 C₀.1.2.1 dX9_bestBehind_1 (by decide) ?_
  refine xi_add C₀.1.1 C₀.1.2.1 dX9_bestBehind_2 ?_
  refine lv_aload_n C₀.1.1 C₀.1.2.1 dX9_bestBehind_3 rfl (lv_at hl₀ 0 rfl) ?_
  refine xw_get C₀ hH₀ 0 rfl rfl 1 (by decide) iw_X9_bestBehind_X9 (by decide +kernel) (v := .ref (q₀ 1)) rfl dX9_bestBehind_4 ?_
  refine lv_iconst (v := iI 1) C₀.1.1 C₀.1.2.1 dX9_bestBehind_7 (by decide) ?_
  refine xw_ild C₀ hH₀ 1 0 rfl rfl (z := 1) (by omega) (by omega) (by decide) dX9_bestBehind_8 ?_
  refine xi_cne (tgt := 16) C₀.1.1 C₀.1.2.1 dX9_bestBehind_9 (by decide) (by omega) (by omega) (fun h_5₀ => ?_) (fun h_5₀ => ?_)
  · refine lv_sipush (v := iI 1000) C₀.1.1 C₀.1.2.1 dX9_bestBehind_16 (by decide) ?_
    exact L19₀ 1000 ((by simp (disch := omega) only [if_pos, if_neg])) _ _ _ hH₀ (lv_sub hl₀ [0, 1, 2, 3] rfl)
  · refine lv_iconst (v := iI 0) C₀.1.1 C₀.1.2.1 dX9_bestBehind_12 (by decide) ?_
    refine lv_goto (tgt := 19) C₀.1.1 C₀.1.2.1 dX9_bestBehind_13 (by decide) ?_
    exact L19₀ 0 ((by simp (disch := omega) only [if_pos, if_neg])) _ _ _ hH₀ (lv_sub hl₀ [0, 1, 2, 3] rfl)
theorem iw_X9_laysCosts_X9 : ∀ w₀ ∈ u_ws RX9 TX9 24, w₀ ∈ wsX9_laysCosts := (fun w₀ h₀ => List.mem_cons_of_mem _ (List.mem_append_right _ h₀))
abbrev rmX9_laysCosts : Room := { frames := 4, cells := 0, slots := 0, locals := 94 }
set_option maxHeartbeats 4000000 in
set_option maxRecDepth 100000 in
/-- laysCosts -/
theorem c_X9_laysCosts (lL₀ : Launch) (D₀ : va_G) (k₀ : Nat → ClassId) (sz₀ : Nat) (a₀ : Nat) (q₀ : Nat → Nat) (th₀ : Int) (un₀ : Int) (mf₀ : Int) (ty₀ : Int) (fr₀ : Int) (tt₀ : Int) (tk₀ : Int) (fa₀ : Int) (hf₀ : Bool) (ho₀ : Bool) (km₀ : Int) (s₀ : Int → Int) (co₀ : Int → Int) (hS₀ : mS s₀) : Met lL₀ yX9_laysCosts wsX9_laysCosts rmX9_laysCosts (gPc ZT D₀ (tyk k₀) [.ref a₀] sz₀ [mO a₀ q₀ th₀ un₀ mf₀ ty₀ fr₀ tt₀ tk₀ fa₀ (bz hf₀) (bz ho₀) km₀, (q₀ 1, .inl (k₀ 0, 51, .inl (ia s₀))), (q₀ 18, .inl (k₀ 0, 1536, .inl (ia co₀)))]) (gQv D₀ (tyk k₀) [mO a₀ q₀ th₀ un₀ mf₀ ty₀ fr₀ tt₀ tk₀ fa₀ (bz hf₀) (bz ho₀) km₀, (q₀ 1, .inl (k₀ 0, 51, .inl (ia s₀))), (q₀ 18, .inl (k₀ 0, 1536, .inl (ia co₀)))] sz₀ (fun (c9₀ : Int → Int) => mCoOk s₀ c9₀ 0) (fun (c9₀ : Int → Int) => [mO a₀ q₀ th₀ un₀ mf₀ ty₀ fr₀ tt₀ tk₀ fa₀ (bz hf₀) (bz ho₀) km₀, (q₀ 1, .inl (k₀ 0, 51, .inl (ia s₀))), (q₀ 18, .inl (k₀ 0, 1536, .inl (ia c9₀)))])) 0 0 (va_A [mO a₀ q₀ th₀ un₀ mf₀ ty₀ fr₀ tt₀ tk₀ fa₀ (bz hf₀) (bz ho₀) km₀, (q₀ 1, .inl (k₀ 0, 51, .inl (ia s₀))), (q₀ 18, .inl (k₀ 0, 1536, .inl (ia co₀)))] sz₀) := by
  refine xs_met (cc := cX9_laysCosts) (maxL := 5) (ret := none) (by decide) rfl (Nat.le_of_ble_eq_true rfl) ?_
  intro pP₀ eN₀ sT₀ mI₀ below₀ meth₀ cD₀ hsz₀ args₀ QQ₀ C₀ hr₀ hlk₀ hnm₀ hQ₀ ls₀ H₀ locs₀ hl₀ hH₀
  subst hsz₀
  have hl₀ : lv_has ls₀ 5 [(0, .ref a₀)] := hl₀
  generalize hAe₀ : va_A [mO a₀ q₀ th₀ un₀ mf₀ ty₀ fr₀ tt₀ tk₀ fa₀ (bz hf₀) (bz ho₀) km₀, (q₀ 1, .inl (k₀ 0, 51, .inl (ia s₀))), (q₀ 18, .inl (k₀ 0, 1536, .inl (ia co₀)))] sT₀.heap.size = A₀ at C₀ hH₀ hQ₀
  obtain ⟨hs0₀, hs1₀, hs2₀, hsh₀, hsf₀⟩ := id hS₀
  have hcl₀ := cells_rg hs0₀ hs1₀
  have hpw₀ := mPow_rg hs0₀
  refine lv_iconst (v := iI 1) C₀.1.1 C₀.1.2.1 dX9_laysCosts_0 (by decide) ?_
  refine lv_iconst (v := iI 2) C₀.1.1 C₀.1.2.1 dX9_laysCosts_1 (by decide) ?_
  refine lv_aload_n C₀.1.1 C₀.1.2.1 dX9_laysCosts_2 rfl (lv_at hl₀ 0 rfl) ?_
  refine xw_get C₀ hH₀ 0 rfl rfl 1 (by decide) iw_X9_laysCosts_X9 (by decide +kernel) (v := .ref (q₀ 1)) rfl dX9_laysCosts_3 ?_
  refine lv_iconst (v := iI 0) C₀.1.1 C₀.1.2.1 dX9_laysCosts_6 (by decide) ?_
  refine xw_ild C₀ hH₀ 1 0 rfl rfl (z := 0) (by omega) (by omega) (by decide) dX9_laysCosts_7 ?_
  refine xi_mul C₀.1.1 C₀.1.2.1 dX9_laysCosts_8 ?_
  refine lv_ishl C₀.1.1 C₀.1.2.1 dX9_laysCosts_9 ?_
  refine xt_i (y := (iI (mPow (s₀ 0)))) (mPow_eq hs0₀) ?_
  refine lv_istore_n (lv' := [(1, .int (iI (mPow (s₀ 0)))), (0, .ref a₀)]) C₀.1.1 C₀.1.2.1 dX9_laysCosts_10 rfl hl₀ (by decide) rfl (fun ls₀ hl₀ => ?_)
  refine lv_aload_n C₀.1.1 C₀.1.2.1 dX9_laysCosts_11 rfl (lv_at hl₀ 1 rfl) ?_
  refine xw_get C₀ hH₀ 0 rfl rfl 1 (by decide) iw_X9_laysCosts_X9 (by decide +kernel) (v := .ref (q₀ 1)) rfl dX9_laysCosts_12 ?_
  refine lv_iconst (v := iI 1) C₀.1.1 C₀.1.2.1 dX9_laysCosts_15 (by decide) ?_
  refine xw_ild C₀ hH₀ 1 0 rfl rfl (z := 1) (by omega) (by omega) (by decide) dX9_laysCosts_16 ?_
  refine lv_iconst (v := iI 1) C₀.1.1 C₀.1.2.1 dX9_laysCosts_17 (by decide) ?_
  refine xi_sub C₀.1.1 C₀.1.2.1 dX9_laysCosts_18 ?_
  refine lv_istore_n (lv' := [(2, .int (iI (s₀ 1 - 1))), (1, .int (iI (mPow (s₀ 0)))), (0, .ref a₀)]) C₀.1.1 C₀.1.2.1 dX9_laysCosts_19 rfl hl₀ (by decide) rfl (fun ls₀ hl₀ => ?_)
  have L20₀ : ∀ (nn₀ : Nat), ∀ (y₀ : Int) (c1₀ : Int → Int), (mCoOk s₀ c1₀ (y₀ + 1)) → (-1 ≤ y₀ ∧ y₀ < s₀ 1) → ((y₀ + 1) < (nn₀ : Int)) → ∀ (H₀ : Heap) (locs₀ : List Loc) (ls₀ : Array Slot), Hp D₀ A₀ sT₀.heap [mO a₀ q₀ th₀ un₀ mf₀ ty₀ fr₀ tt₀ tk₀ fa₀ (bz hf₀) (bz ho₀) km₀, (q₀ 1, .inl (k₀ 0, 51, .inl (ia s₀))), (q₀ 18, .inl (k₀ 0, 1536, .inl (ia c1₀)))] H₀ locs₀ → lv_has ls₀ 5 [(0, .ref a₀), (1, .int (iI (mPow (s₀ 0)))), (2, .int (iI y₀))] → W pP₀ lL₀ eN₀ rmX9_laysCosts sT₀ mI₀ args₀ below₀ meth₀ cD₀ H₀ locs₀ 0 0 QQ₀ (F0 mI₀ 20 ls₀ []) := by
    intro nn₀
    induction nn₀ with
    | zero => intro y₀ c1₀ i1₀ i2₀ hm₀; exact absurd hm₀ (by omega)
    | succ nn₀ ih20₀ =>
      intro y₀ c1₀ i1₀ i2₀ hm20₀ H₀ locs₀ ls₀ hH₀ hl₀
      refine lv_iload_n C₀.1.1 C₀.1.2.1 dX9_laysCosts_20 rfl (lv_at hl₀ 2 rfl) ?_
      refine xi_zlt (tgt := 102) C₀.1.1 C₀.1.2.1 dX9_laysCosts_21 (by decide) (by omega) (fun h_1₀ => ?_) (fun h_1₀ => ?_)
      · exact xr_v C₀ hH₀ hlk₀ hr₀ hQ₀ hAe₀ (c1₀) (fun y'₀ r₀ a₀ b₀ c₀ d₀ e₀ => i1₀ y'₀ r₀ (by omega) b₀ c₀ d₀ e₀) rfl dX9_laysCosts_102
      · refine lv_iconst (v := iI 0) C₀.1.1 C₀.1.2.1 dX9_laysCosts_24 (by decide) ?_
        refine lv_istore_n (lv' := [(3, .int (iI 0)), (0, .ref a₀), (1, .int (iI (mPow (s₀ 0)))), (2, .int (iI y₀))]) C₀.1.1 C₀.1.2.1 dX9_laysCosts_25 rfl hl₀ (by decide) rfl (fun ls₀ hl₀ => ?_)
        have L26₀ : ∀ (nn₀ : Nat), ∀ (z₀ : Int) (c2₀ : Int → Int), (mCoOk s₀ c2₀ (y₀ + 1)) → (∀ r₀, 0 ≤ r₀ → r₀ < z₀ → c2₀ (256 * y₀ + r₀) = mCst s₀ y₀ r₀) → (0 ≤ z₀ ∧ z₀ ≤ mPow (s₀ 0)) → ((mPow (s₀ 0) - z₀) < (nn₀ : Int)) → ∀ (H₀ : Heap) (locs₀ : List Loc) (ls₀ : Array Slot), Hp D₀ A₀ sT₀.heap [mO a₀ q₀ th₀ un₀ mf₀ ty₀ fr₀ tt₀ tk₀ fa₀ (bz hf₀) (bz ho₀) km₀, (q₀ 1, .inl (k₀ 0, 51, .inl (ia s₀))), (q₀ 18, .inl (k₀ 0, 1536, .inl (ia c2₀)))] H₀ locs₀ → lv_has ls₀ 5 [(0, .ref a₀), (1, .int (iI (mPow (s₀ 0)))), (2, .int (iI y₀)), (3, .int (iI z₀))] → W pP₀ lL₀ eN₀ rmX9_laysCosts sT₀ mI₀ args₀ below₀ meth₀ cD₀ H₀ locs₀ 0 0 QQ₀ (F0 mI₀ 26 ls₀ []) := by
          intro nn₀
          induction nn₀ with
          | zero => intro z₀ c2₀ j1₀ j2₀ j3₀ hm₀; exact absurd hm₀ (by omega)
          | succ nn₀ ih26₀ =>
            intro z₀ c2₀ j1₀ j2₀ j3₀ hm26₀ H₀ locs₀ ls₀ hH₀ hl₀
            refine lv_iload_n C₀.1.1 C₀.1.2.1 dX9_laysCosts_26 rfl (lv_at hl₀ 3 rfl) ?_
            refine lv_iload_n C₀.1.1 C₀.1.2.1 dX9_laysCosts_27 rfl (lv_at hl₀ 1 rfl) ?_
            refine xi_cge (tgt := 96) C₀.1.1 C₀.1.2.1 dX9_laysCosts_28 (by decide) (by omega) (by omega) (fun h_2₀ => ?_) (fun h_2₀ => ?_)
            · refine lv_iinc (v := iI (y₀ + (-1))) (lv' := [(2, .int (iI (y₀ + (-1)))), (0, .ref a₀), (1, .int (iI (mPow (s₀ 0)))), (3, .int (iI z₀))]) C₀.1.1 C₀.1.2.1 dX9_laysCosts_96 hl₀ (k := 2) rfl (iI_add _ (-1)) (by decide) rfl (fun ls₀ hl₀ => ?_)
              refine lv_goto (tgt := 20) C₀.1.1 C₀.1.2.1 dX9_laysCosts_99 (by decide) ?_
              exact ih20₀ (y₀ + (-1)) c2₀ (by rw [show y₀ + (-1) + 1 = y₀ by omega]; intro y'₀ r₀ a₀ b₀ c₀ d₀ e₀; by_cases hyy₀ : y'₀ = y₀; (subst hyy₀; exact j2₀ r₀ d₀ (by omega)); (exact j1₀ y'₀ r₀ (by omega) b₀ c₀ d₀ e₀)) (by omega) (by omega) _ _ _ hH₀ (lv_sub hl₀ [1, 2, 0] rfl)
            · have hbr₀ := mBB_rg hs0₀ hs1₀ y₀ z₀ (by omega)
              have hgr₀ := mChg_rg hs0₀ y₀ z₀
              have L53₀ : ∀ (t₀ : Int), (t₀ = if mMay s₀ y₀ z₀ = true then mBB s₀ y₀ z₀ else 1000) → (0 ≤ t₀ ∧ t₀ ≤ 1000) → ∀ (H₀ : Heap) (locs₀ : List Loc) (ls₀ : Array Slot), Hp D₀ A₀ sT₀.heap [mO a₀ q₀ th₀ un₀ mf₀ ty₀ fr₀ tt₀ tk₀ fa₀ (bz hf₀) (bz ho₀) km₀, (q₀ 1, .inl (k₀ 0, 51, .inl (ia s₀))), (q₀ 18, .inl (k₀ 0, 1536, .inl (ia c2₀)))] H₀ locs₀ → lv_has ls₀ 5 [(0, .ref a₀), (1, .int (iI (mPow (s₀ 0)))), (2, .int (iI y₀)), (3, .int (iI z₀))] → W pP₀ lL₀ eN₀ rmX9_laysCosts sT₀ mI₀ args₀ below₀ meth₀ cD₀ H₀ locs₀ 0 0 QQ₀ (F0 mI₀ 53 ls₀ [.int (iI t₀)]) := by
                intro t₀ jt₀ jtr₀ H₀ locs₀ ls₀ hH₀ hl₀
                refine lv_istore (lv' := [(4, .int (iI t₀)), (0, .ref a₀), (1, .int (iI (mPow (s₀ 0)))), (2, .int (iI y₀)), (3, .int (iI z₀))]) C₀.1.1 C₀.1.2.1 dX9_laysCosts_53 hl₀ (by decide) rfl (fun ls₀ hl₀ => ?_)
                refine lv_aload_n C₀.1.1 C₀.1.2.1 dX9_laysCosts_55 rfl (lv_at hl₀ 1 rfl) ?_
                refine xw_get C₀ hH₀ 0 rfl rfl 18 (by decide) iw_X9_laysCosts_X9 (by decide +kernel) (v := .ref (q₀ 18)) rfl dX9_laysCosts_56 ?_
                refine lv_sipush (v := iI 256) C₀.1.1 C₀.1.2.1 dX9_laysCosts_59 (by decide) ?_
                refine lv_iload_n C₀.1.1 C₀.1.2.1 dX9_laysCosts_62 rfl (lv_at hl₀ 3 rfl) ?_
                refine xi_mul C₀.1.1 C₀.1.2.1 dX9_laysCosts_63 ?_
                refine lv_iload_n C₀.1.1 C₀.1.2.1 dX9_laysCosts_64 rfl (lv_at hl₀ 4 rfl) ?_
                refine xi_add C₀.1.1 C₀.1.2.1 dX9_laysCosts_65 ?_
                have L89₀ : ∀ (v₀ : Int), (v₀ = mCst s₀ y₀ z₀) → ∀ (H₀ : Heap) (locs₀ : List Loc) (ls₀ : Array Slot), Hp D₀ A₀ sT₀.heap [mO a₀ q₀ th₀ un₀ mf₀ ty₀ fr₀ tt₀ tk₀ fa₀ (bz hf₀) (bz ho₀) km₀, (q₀ 1, .inl (k₀ 0, 51, .inl (ia s₀))), (q₀ 18, .inl (k₀ 0, 1536, .inl (ia c2₀)))] H₀ locs₀ → lv_has ls₀ 5 [(0, .ref a₀), (1, .int (iI (mPow (s₀ 0)))), (2, .int (iI y₀)), (3, .int (iI z₀)), (4, .int (iI t₀))] → W pP₀ lL₀ eN₀ rmX9_laysCosts sT₀ mI₀ args₀ below₀ meth₀ cD₀ H₀ locs₀ 0 0 QQ₀ (F0 mI₀ 89 ls₀ [.int (iI v₀), .int (iI (256 * y₀ + z₀)), .ref (q₀ 18)]) := by
                  intro v₀ jv₀ H₀ locs₀ ls₀ hH₀ hl₀
                  refine xw_ist (ws' := [mO a₀ q₀ th₀ un₀ mf₀ ty₀ fr₀ tt₀ tk₀ fa₀ (bz hf₀) (bz ho₀) km₀, (q₀ 1, .inl (k₀ 0, 51, .inl (ia s₀))), (q₀ 18, .inl (k₀ 0, 1536, .inl (ia (uz c2₀ (256 * y₀ + z₀) v₀))))]) C₀ hH₀ 2 0 rfl rfl (z := 256 * y₀ + z₀) (v := v₀) (by omega) (by omega) (by decide) dX9_laysCosts_89 rfl (fun H₀ locs₀ hH₀ => ?_)
                  refine lv_iinc (v := iI (z₀ + 1)) (lv' := [(3, .int (iI (z₀ + 1))), (0, .ref a₀), (1, .int (iI (mPow (s₀ 0)))), (2, .int (iI y₀)), (4, .int (iI t₀))]) C₀.1.1 C₀.1.2.1 dX9_laysCosts_90 hl₀ (k := 3) rfl (iI_add _ (1)) (by decide) rfl (fun ls₀ hl₀ => ?_)
                  refine lv_goto (tgt := 26) C₀.1.1 C₀.1.2.1 dX9_laysCosts_93 (by decide) ?_
                  exact ih26₀ (z₀ + 1) (uz c2₀ (256 * y₀ + z₀) v₀) (by intro y'₀ r₀ a₀ b₀ c₀ d₀ e₀; rw [uz_n (by omega)]; exact j1₀ y'₀ r₀ a₀ b₀ c₀ d₀ e₀) (by intro r₀ a₀ b₀; by_cases hr2₀ : r₀ = z₀; (subst hr2₀; rw [uz_s]; exact jv₀); (rw [uz_n (by omega)]; exact j2₀ r₀ a₀ (by omega))) (by omega) (by omega) _ _ _ hH₀ (lv_sub hl₀ [1, 2, 3, 0] rfl)
                refine lv_iload C₀.1.1 C₀.1.2.1 dX9_laysCosts_66 (lv_at hl₀ 0 rfl) ?_
                refine lv_sipush (v := iI 1000) C₀.1.1 C₀.1.2.1 dX9_laysCosts_68 (by decide) ?_
                refine xi_cne (tgt := 80) C₀.1.1 C₀.1.2.1 dX9_laysCosts_71 (by decide) (by omega) (by omega) (fun h_3₀ => ?_) (fun h_3₀ => ?_)
                · refine lv_iload C₀.1.1 C₀.1.2.1 dX9_laysCosts_80 (lv_at hl₀ 0 rfl) ?_
                  refine lv_aload_n C₀.1.1 C₀.1.2.1 dX9_laysCosts_82 rfl (lv_at hl₀ 1 rfl) ?_
                  refine lv_iload_n C₀.1.1 C₀.1.2.1 dX9_laysCosts_83 rfl (lv_at hl₀ 3 rfl) ?_
                  refine lv_iload_n C₀.1.1 C₀.1.2.1 dX9_laysCosts_84 rfl (lv_at hl₀ 4 rfl) ?_
                  refine xc_Vi (wr := [(q₀ 18, .inl (k₀ 0, 1536, .inl (ia c2₀)))]) (ws' := fun _ => [mO a₀ q₀ th₀ un₀ mf₀ ty₀ fr₀ tt₀ tk₀ fa₀ (bz hf₀) (bz ho₀) km₀, (q₀ 1, .inl (k₀ 0, 51, .inl (ia s₀))), (q₀ 18, .inl (k₀ 0, 1536, .inl (ia c2₀)))]) (As := [.int (iI y₀), .int (iI z₀)]) (rest := [.int (iI t₀), .int (iI (256 * y₀ + z₀)), .ref (q₀ 18)]) C₀ hH₀ (c_X9_changedBy lL₀ D₀ k₀ H₀.size a₀ q₀ th₀ un₀ mf₀ ty₀ fr₀ tt₀ tk₀ fa₀ hf₀ ho₀ km₀ s₀ y₀ z₀ (hS₀) (by omega) (by omega)) ZT_b (fun _ _ _ => trivial) (cwV 2 C₀.1.2.2.2.2 gX9_laysCosts_X9_changedBy rfl rfl rfl (by decide +kernel) ⟨Nat.le_of_ble_eq_true rfl, Nat.le_of_ble_eq_true rfl⟩) [0, 1] [2] [1, 2, 0] rfl rfl (by decide) (by decide) (by decide) (fun _ => rfl) (by decide) (q0 := 0) rfl rfl rfl hl₀.1 rfl (Nat.le_of_ble_eq_true rfl) dX9_laysCosts_85 ⟨Nat.le_of_ble_eq_true rfl, Nat.le_of_ble_eq_true rfl⟩ (fun _ _ H₀ locs₀ hH₀ => ?_)
                  refine xi_add C₀.1.1 C₀.1.2.1 dX9_laysCosts_88 ?_
                  exact L89₀ (t₀ + (mChg s₀ y₀ z₀)) ((by rw [mCst_eq (by omega)]; by_cases hm2₀ : mMay s₀ y₀ z₀ = true; (rw [if_pos hm2₀] at jt₀ ⊢; rw [← jt₀]; simp (disch := omega) only [if_pos, if_neg]); (rw [if_neg hm2₀] at jt₀ ⊢ <;> omega))) _ _ _ hH₀ (lv_sub hl₀ [1, 2, 3, 4, 0] rfl)
                · refine lv_sipush (v := iI 1000) C₀.1.1 C₀.1.2.1 dX9_laysCosts_74 (by decide) ?_
                  refine lv_goto (tgt := 89) C₀.1.1 C₀.1.2.1 dX9_laysCosts_77 (by decide) ?_
                  exact L89₀ 1000 ((by rw [mCst_eq (by omega)]; by_cases hm2₀ : mMay s₀ y₀ z₀ = true; (rw [if_pos hm2₀] at jt₀ ⊢; rw [← jt₀]; simp (disch := omega) only [if_pos, if_neg]); (rw [if_neg hm2₀] at jt₀ ⊢ <;> omega))) _ _ _ hH₀ (lv_sub hl₀ [1, 2, 3, 4, 0] rfl)
              refine lv_aload_n C₀.1.1 C₀.1.2.1 dX9_laysCosts_31 rfl (lv_at hl₀ 0 rfl) ?_
              refine lv_iload_n C₀.1.1 C₀.1.2.1 dX9_laysCosts_32 rfl (lv_at hl₀ 2 rfl) ?_
              refine lv_iload_n C₀.1.1 C₀.1.2.1 dX9_laysCosts_33 rfl (lv_at hl₀ 3 rfl) ?_
              refine xc_Vi (wr := [(q₀ 18, .inl (k₀ 0, 1536, .inl (ia c2₀)))]) (ws' := fun _ => [mO a₀ q₀ th₀ un₀ mf₀ ty₀ fr₀ tt₀ tk₀ fa₀ (bz hf₀) (bz ho₀) km₀, (q₀ 1, .inl (k₀ 0, 51, .inl (ia s₀))), (q₀ 18, .inl (k₀ 0, 1536, .inl (ia c2₀)))]) (As := [.int (iI y₀), .int (iI z₀)]) (rest := []) C₀ hH₀ (c_X9_mayBe lL₀ D₀ k₀ H₀.size a₀ q₀ th₀ un₀ mf₀ ty₀ fr₀ tt₀ tk₀ fa₀ hf₀ ho₀ km₀ s₀ y₀ z₀ (hS₀) (by omega) (by omega)) ZT_b (fun _ _ _ => trivial) (cwV 2 C₀.1.2.2.2.2 gX9_laysCosts_X9_mayBe rfl rfl rfl (by decide +kernel) ⟨Nat.le_of_ble_eq_true rfl, Nat.le_of_ble_eq_true rfl⟩) [0, 1] [2] [1, 2, 0] rfl rfl (by decide) (by decide) (by decide) (fun _ => rfl) (by decide) (q0 := 0) rfl rfl rfl hl₀.1 rfl (Nat.le_of_ble_eq_true rfl) dX9_laysCosts_34 ⟨Nat.le_of_ble_eq_true rfl, Nat.le_of_ble_eq_true rfl⟩ (fun _ _ H₀ locs₀ hH₀ => ?_)
              refine xb_eq (tgt := 50) C₀.1.1 C₀.1.2.1 dX9_laysCosts_37 (by decide) (fun h_4₀ => ?_) (fun h_4₀ => ?_)
              · refine lv_sipush (v := iI 1000) C₀.1.1 C₀.1.2.1 dX9_laysCosts_50 (by decide) ?_
                exact L53₀ 1000 ((by simp_all)) (by omega) _ _ _ hH₀ (lv_sub hl₀ [0, 1, 2, 3] rfl)
              · refine lv_aload_n C₀.1.1 C₀.1.2.1 dX9_laysCosts_40 rfl (lv_at hl₀ 0 rfl) ?_
                refine lv_iload_n C₀.1.1 C₀.1.2.1 dX9_laysCosts_41 rfl (lv_at hl₀ 2 rfl) ?_
                refine lv_iload_n C₀.1.1 C₀.1.2.1 dX9_laysCosts_42 rfl (lv_at hl₀ 3 rfl) ?_
                refine lv_iload_n C₀.1.1 C₀.1.2.1 dX9_laysCosts_43 rfl (lv_at hl₀ 1 rfl) ?_
                refine xc_Vi (wr := []) (ws' := fun _ => [mO a₀ q₀ th₀ un₀ mf₀ ty₀ fr₀ tt₀ tk₀ fa₀ (bz hf₀) (bz ho₀) km₀, (q₀ 1, .inl (k₀ 0, 51, .inl (ia s₀))), (q₀ 18, .inl (k₀ 0, 1536, .inl (ia c2₀)))]) (As := [.int (iI y₀), .int (iI z₀), .int (iI (mPow (s₀ 0)))]) (rest := []) C₀ hH₀ (c_X9_bestBehind lL₀ D₀ k₀ H₀.size a₀ q₀ th₀ un₀ mf₀ ty₀ fr₀ tt₀ tk₀ fa₀ hf₀ ho₀ km₀ s₀ c2₀ y₀ z₀ (mPow (s₀ 0)) (hS₀) (by omega) (by omega) (rfl) (j1₀)) ZT_b (fun _ _ _ => trivial) (cwV 3 C₀.1.2.2.2.2 gX9_laysCosts_X9_bestBehind rfl rfl rfl (by decide +kernel) ⟨Nat.le_of_ble_eq_true rfl, Nat.le_of_ble_eq_true rfl⟩) [0, 1, 2] [] [0, 1, 2] rfl rfl (by decide) (by decide) (by decide) (fun _ => rfl) (by decide) (q0 := 0) rfl rfl rfl hl₀.1 rfl (Nat.le_of_ble_eq_true rfl) dX9_laysCosts_44 ⟨Nat.le_of_ble_eq_true rfl, Nat.le_of_ble_eq_true rfl⟩ (fun _ _ H₀ locs₀ hH₀ => ?_)
                refine lv_goto (tgt := 53) C₀.1.1 C₀.1.2.1 dX9_laysCosts_47 (by decide) ?_
                exact L53₀ (mBB s₀ y₀ z₀) ((by simp_all)) (by omega) _ _ _ hH₀ (lv_sub hl₀ [0, 1, 2, 3] rfl)
        exact L26₀ (((mPow (s₀ 0) - 0) : Int).toNat + 1) 0 c1₀ (i1₀) (fun r₀ a₀ b₀ => absurd b₀ (by omega)) (by omega) (by omega) _ _ _ hH₀ (lv_sub hl₀ [1, 2, 3, 0] rfl)
  exact L20₀ ((((s₀ 1 - 1) + 1) : Int).toNat + 1) (s₀ 1 - 1) co₀ (fun y₀ r₀ a₀ b₀ c₀ d₀ e₀ => absurd c₀ (by omega)) (by omega) (by omega) _ _ _ hH₀ (lv_sub hl₀ [2, 1, 0] rfl)
theorem iw_X9_change_X9 : ∀ w₀ ∈ u_ws RX9 TX9 24, w₀ ∈ wsX9_change := (fun w₀ h₀ => List.mem_cons_of_mem _ (List.mem_append_right _ h₀))
abbrev rmX9_change : Room := { frames := 5, cells := 0, slots := 0, locals := 118 }
set_option maxHeartbeats 4000000 in
set_option maxRecDepth 100000 in
/-- change -/
theorem c_X9_change (lL₀ : Launch) (D₀ : va_G) (k₀ : Nat → ClassId) (sz₀ : Nat) (a₀ : Nat) (q₀ : Nat → Nat) (th₀ : Int) (un₀ : Int) (mf₀ : Int) (ty₀ : Int) (fr₀ : Int) (tt₀ : Int) (tk₀ : Int) (fa₀ : Int) (hf₀ : Bool) (ho₀ : Bool) (km₀ : Int) (s₀ : Int → Int) (co₀ : Int → Int) (be₀ : Int → Int) (hS₀ : mS s₀) : Met lL₀ yX9_change wsX9_change rmX9_change (gPc ZT D₀ (tyk k₀) [.ref a₀] sz₀ [mO a₀ q₀ th₀ un₀ mf₀ ty₀ fr₀ tt₀ tk₀ fa₀ (bz hf₀) (bz ho₀) km₀, (q₀ 1, .inl (k₀ 0, 51, .inl (ia s₀))), (q₀ 18, .inl (k₀ 0, 1536, .inl (ia co₀))), (q₀ 19, .inl (k₀ 0, 24, .inl (ia be₀)))]) (gQi D₀ (tyk k₀) [mO a₀ q₀ th₀ un₀ mf₀ ty₀ fr₀ tt₀ tk₀ fa₀ (bz hf₀) (bz ho₀) km₀, (q₀ 1, .inl (k₀ 0, 51, .inl (ia s₀))), (q₀ 18, .inl (k₀ 0, 1536, .inl (ia co₀))), (q₀ 19, .inl (k₀ 0, 24, .inl (ia be₀)))] sz₀ (fun (u₀ : (Int → Int) × (Int → Int)) => match u₀ with | (c9₀, b9₀) => mBeOk s₀ b9₀) (fun (u₀ : (Int → Int) × (Int → Int)) => match u₀ with | (c9₀, b9₀) => (iI (mChange s₀))) (fun (u₀ : (Int → Int) × (Int → Int)) => match u₀ with | (c9₀, b9₀) => [mO a₀ q₀ th₀ un₀ mf₀ ty₀ fr₀ tt₀ tk₀ fa₀ (bz hf₀) (bz ho₀) km₀, (q₀ 1, .inl (k₀ 0, 51, .inl (ia s₀))), (q₀ 18, .inl (k₀ 0, 1536, .inl (ia c9₀))), (q₀ 19, .inl (k₀ 0, 24, .inl (ia b9₀)))])) 0 0 (va_A [mO a₀ q₀ th₀ un₀ mf₀ ty₀ fr₀ tt₀ tk₀ fa₀ (bz hf₀) (bz ho₀) km₀, (q₀ 1, .inl (k₀ 0, 51, .inl (ia s₀))), (q₀ 18, .inl (k₀ 0, 1536, .inl (ia co₀))), (q₀ 19, .inl (k₀ 0, 24, .inl (ia be₀)))] sz₀) := by
  refine xs_met (cc := cX9_change) (maxL := 8) (ret := some .int) (by decide) rfl (Nat.le_of_ble_eq_true rfl) ?_
  intro pP₀ eN₀ sT₀ mI₀ below₀ meth₀ cD₀ hsz₀ args₀ QQ₀ C₀ hr₀ hlk₀ hnm₀ hQ₀ ls₀ H₀ locs₀ hl₀ hH₀
  subst hsz₀
  have hl₀ : lv_has ls₀ 8 [(0, .ref a₀)] := hl₀
  generalize hAe₀ : va_A [mO a₀ q₀ th₀ un₀ mf₀ ty₀ fr₀ tt₀ tk₀ fa₀ (bz hf₀) (bz ho₀) km₀, (q₀ 1, .inl (k₀ 0, 51, .inl (ia s₀))), (q₀ 18, .inl (k₀ 0, 1536, .inl (ia co₀))), (q₀ 19, .inl (k₀ 0, 24, .inl (ia be₀)))] sT₀.heap.size = A₀ at C₀ hH₀ hQ₀
  obtain ⟨hs0₀, hs1₀, hs2₀, hsh₀, hsf₀⟩ := id hS₀
  have hcl₀ := cells_rg hs0₀ hs1₀
  have hpw₀ := mPow_rg hs0₀
  have har₀ := mAll_rg hs0₀ hs1₀
  refine lv_aload_n C₀.1.1 C₀.1.2.1 dX9_change_0 rfl (lv_at hl₀ 0 rfl) ?_
  refine xc_Vv (wr := [(q₀ 19, .inl (k₀ 0, 24, .inl (ia be₀)))]) (ws' := fun c9_1₀ => [mO a₀ q₀ th₀ un₀ mf₀ ty₀ fr₀ tt₀ tk₀ fa₀ (bz hf₀) (bz ho₀) km₀, (q₀ 1, .inl (k₀ 0, 51, .inl (ia s₀))), (q₀ 18, .inl (k₀ 0, 1536, .inl (ia c9_1₀))), (q₀ 19, .inl (k₀ 0, 24, .inl (ia be₀)))]) (As := []) (rest := []) C₀ hH₀ (c_X9_laysCosts lL₀ D₀ k₀ H₀.size a₀ q₀ th₀ un₀ mf₀ ty₀ fr₀ tt₀ tk₀ fa₀ hf₀ ho₀ km₀ s₀ co₀ (hS₀)) ZT_b (fun _ _ _ => trivial) (cwV 0 C₀.1.2.2.2.2 gX9_change_X9_laysCosts rfl rfl rfl (by decide +kernel) ⟨Nat.le_of_ble_eq_true rfl, Nat.le_of_ble_eq_true rfl⟩) [0, 1, 2] [3] [1, 2, 3, 0] rfl rfl (by decide) (by decide) (by decide) (fun _ => rfl) (by decide) (q0 := 0) rfl rfl rfl hl₀.1 rfl (Nat.le_of_ble_eq_true rfl) dX9_change_1 ⟨Nat.le_of_ble_eq_true rfl, Nat.le_of_ble_eq_true rfl⟩ (fun c9_1₀ hu₀ H₀ locs₀ hH₀ => ?_)
  refine lv_iconst (v := iI 1) C₀.1.1 C₀.1.2.1 dX9_change_4 (by decide) ?_
  refine lv_iconst (v := iI 2) C₀.1.1 C₀.1.2.1 dX9_change_5 (by decide) ?_
  refine lv_aload_n C₀.1.1 C₀.1.2.1 dX9_change_6 rfl (lv_at hl₀ 0 rfl) ?_
  refine xw_get C₀ hH₀ 0 rfl rfl 1 (by decide) iw_X9_change_X9 (by decide +kernel) (v := .ref (q₀ 1)) rfl dX9_change_7 ?_
  refine lv_iconst (v := iI 0) C₀.1.1 C₀.1.2.1 dX9_change_10 (by decide) ?_
  refine xw_ild C₀ hH₀ 1 0 rfl rfl (z := 0) (by omega) (by omega) (by decide) dX9_change_11 ?_
  refine xi_mul C₀.1.1 C₀.1.2.1 dX9_change_12 ?_
  refine lv_ishl C₀.1.1 C₀.1.2.1 dX9_change_13 ?_
  refine xt_i (y := (iI (mPow (s₀ 0)))) (mPow_eq hs0₀) ?_
  refine lv_istore_n (lv' := [(1, .int (iI (mPow (s₀ 0)))), (0, .ref a₀)]) C₀.1.1 C₀.1.2.1 dX9_change_14 rfl hl₀ (by decide) rfl (fun ls₀ hl₀ => ?_)
  refine lv_sipush (v := iI 1000) C₀.1.1 C₀.1.2.1 dX9_change_15 (by decide) ?_
  refine lv_istore_n (lv' := [(2, .int (iI 1000)), (1, .int (iI (mPow (s₀ 0)))), (0, .ref a₀)]) C₀.1.1 C₀.1.2.1 dX9_change_18 rfl hl₀ (by decide) rfl (fun ls₀ hl₀ => ?_)
  refine lv_iconst (v := iI 0) C₀.1.1 C₀.1.2.1 dX9_change_19 (by decide) ?_
  refine lv_istore_n (lv' := [(3, .int (iI 0)), (2, .int (iI 1000)), (1, .int (iI (mPow (s₀ 0)))), (0, .ref a₀)]) C₀.1.1 C₀.1.2.1 dX9_change_20 rfl hl₀ (by decide) rfl (fun ls₀ hl₀ => ?_)
  have L21₀ : ∀ (nn₀ : Nat), ∀ (m₀ : Int) (z₀ : Int), (m₀ = lsI (mCst s₀ 0) (fun _ => true) z₀) → (0 ≤ z₀ ∧ z₀ ≤ mPow (s₀ 0)) → (0 ≤ m₀ ∧ m₀ ≤ 1000) → ((mPow (s₀ 0) - z₀) < (nn₀ : Int)) → ∀ (H₀ : Heap) (locs₀ : List Loc) (ls₀ : Array Slot), Hp D₀ A₀ sT₀.heap [mO a₀ q₀ th₀ un₀ mf₀ ty₀ fr₀ tt₀ tk₀ fa₀ (bz hf₀) (bz ho₀) km₀, (q₀ 1, .inl (k₀ 0, 51, .inl (ia s₀))), (q₀ 18, .inl (k₀ 0, 1536, .inl (ia c9_1₀))), (q₀ 19, .inl (k₀ 0, 24, .inl (ia be₀)))] H₀ locs₀ → lv_has ls₀ 8 [(0, .ref a₀), (1, .int (iI (mPow (s₀ 0)))), (2, .int (iI m₀)), (3, .int (iI z₀))] → W pP₀ lL₀ eN₀ rmX9_change sT₀ mI₀ args₀ below₀ meth₀ cD₀ H₀ locs₀ 0 0 QQ₀ (F0 mI₀ 21 ls₀ []) := by
    intro nn₀
    induction nn₀ with
    | zero => intro m₀ z₀ i1₀ i2₀ i3₀ hm₀; exact absurd hm₀ (by omega)
    | succ nn₀ ih21₀ =>
      intro m₀ z₀ i1₀ i2₀ i3₀ hm21₀ H₀ locs₀ ls₀ hH₀ hl₀
      refine lv_iload_n C₀.1.1 C₀.1.2.1 dX9_change_21 rfl (lv_at hl₀ 3 rfl) ?_
      refine lv_iload_n C₀.1.1 C₀.1.2.1 dX9_change_22 rfl (lv_at hl₀ 1 rfl) ?_
      refine xi_cge (tgt := 53) C₀.1.1 C₀.1.2.1 dX9_change_23 (by decide) (by omega) (by omega) (fun h_2₀ => ?_) (fun h_2₀ => ?_)
      · have hma₀ : m₀ = mAll s₀ := by rw [i1₀, show z₀ = mPow (s₀ 0) by omega]; rfl
        refine lv_iload_n C₀.1.1 C₀.1.2.1 dX9_change_53 rfl (lv_at hl₀ 2 rfl) ?_
        refine lv_sipush (v := iI 1000) C₀.1.1 C₀.1.2.1 dX9_change_54 (by decide) ?_
        refine xi_cne (tgt := 63) C₀.1.1 C₀.1.2.1 dX9_change_57 (by decide) (by omega) (by omega) (fun h_3₀ => ?_) (fun h_3₀ => ?_)
        · refine lv_iload_n C₀.1.1 C₀.1.2.1 dX9_change_63 rfl (lv_at hl₀ 2 rfl) ?_
          refine lv_istore_n (lv' := [(3, .int (iI m₀)), (0, .ref a₀), (1, .int (iI (mPow (s₀ 0)))), (2, .int (iI m₀))]) C₀.1.1 C₀.1.2.1 dX9_change_64 rfl hl₀ (by decide) rfl (fun ls₀ hl₀ => ?_)
          refine lv_bipush (v := iI (-9)) C₀.1.1 C₀.1.2.1 dX9_change_65 (by decide) ?_
          refine lv_istore (lv' := [(4, .int (iI (-9))), (3, .int (iI m₀)), (0, .ref a₀), (1, .int (iI (mPow (s₀ 0)))), (2, .int (iI m₀))]) C₀.1.1 C₀.1.2.1 dX9_change_67 hl₀ (by decide) rfl (fun ls₀ hl₀ => ?_)
          refine lv_iconst (v := iI 0) C₀.1.1 C₀.1.2.1 dX9_change_69 (by decide) ?_
          refine lv_istore (lv' := [(5, .int (iI 0)), (4, .int (iI (-9))), (3, .int (iI m₀)), (0, .ref a₀), (1, .int (iI (mPow (s₀ 0)))), (2, .int (iI m₀))]) C₀.1.1 C₀.1.2.1 dX9_change_70 hl₀ (by decide) rfl (fun ls₀ hl₀ => ?_)
          have L72₀ : ∀ (nn₀ : Nat), ∀ (due₀ : Int) (ah₀ : Int) (y₀ : Int) (b1₀ : Int → Int) (yy₀ : Nat), (y₀ = (yy₀ : Int)) → (due₀ = (mCh s₀ yy₀).1) → (ah₀ = (mCh s₀ yy₀).2) → ((yy₀ : Int) ≤ s₀ 1) → (∀ (t₀ : Nat) (x : Int), t₀ < yy₀ → 0 ≤ x → x < s₀ 0 → b1₀ (s₀ 0 * t₀ + x) = mFig (s₀ 0) (mPick s₀ t₀) x) → ((s₀ 1 - y₀) < (nn₀ : Int)) → ∀ (H₀ : Heap) (locs₀ : List Loc) (ls₀ : Array Slot), Hp D₀ A₀ sT₀.heap [mO a₀ q₀ th₀ un₀ mf₀ ty₀ fr₀ tt₀ tk₀ fa₀ (bz hf₀) (bz ho₀) km₀, (q₀ 1, .inl (k₀ 0, 51, .inl (ia s₀))), (q₀ 18, .inl (k₀ 0, 1536, .inl (ia c9_1₀))), (q₀ 19, .inl (k₀ 0, 24, .inl (ia b1₀)))] H₀ locs₀ → lv_has ls₀ 8 [(0, .ref a₀), (1, .int (iI (mPow (s₀ 0)))), (2, .int (iI m₀)), (3, .int (iI due₀)), (4, .int (iI ah₀)), (5, .int (iI y₀))] → W pP₀ lL₀ eN₀ rmX9_change sT₀ mI₀ args₀ below₀ meth₀ cD₀ H₀ locs₀ 0 0 QQ₀ (F0 mI₀ 72 ls₀ []) := by
            intro nn₀
            induction nn₀ with
            | zero => intro due₀ ah₀ y₀ b1₀ yy₀ j0₀ j1₀ j2₀ j3₀ j4₀ hm₀; exact absurd hm₀ (by omega)
            | succ nn₀ ih72₀ =>
              intro due₀ ah₀ y₀ b1₀ yy₀ j0₀ j1₀ j2₀ j3₀ j4₀ hm72₀ H₀ locs₀ ls₀ hH₀ hl₀
              refine lv_iload C₀.1.1 C₀.1.2.1 dX9_change_72 (lv_at hl₀ 5 rfl) ?_
              refine lv_aload_n C₀.1.1 C₀.1.2.1 dX9_change_74 rfl (lv_at hl₀ 0 rfl) ?_
              refine xw_get C₀ hH₀ 0 rfl rfl 1 (by decide) iw_X9_change_X9 (by decide +kernel) (v := .ref (q₀ 1)) rfl dX9_change_75 ?_
              refine lv_iconst (v := iI 1) C₀.1.1 C₀.1.2.1 dX9_change_78 (by decide) ?_
              refine xw_ild C₀ hH₀ 1 0 rfl rfl (z := 1) (by omega) (by omega) (by decide) dX9_change_79 ?_
              refine xi_cge (tgt := 194) C₀.1.1 C₀.1.2.1 dX9_change_80 (by decide) (by omega) (by omega) (fun h_4₀ => ?_) (fun h_4₀ => ?_)
              · refine lv_iload_n C₀.1.1 C₀.1.2.1 dX9_change_194 rfl (lv_at hl₀ 2 rfl) ?_
                exact xr_i C₀ hH₀ hlk₀ hr₀ hQ₀ rfl hAe₀ (c9_1₀, b1₀) (fun _ t₀ x a₀ b₀ c₀ => j4₀ t₀ x (by omega) b₀ c₀) (by unfold mChange; rw [if_neg (by omega), hma₀]) rfl dX9_change_195
              · have hlt₀ : mAll s₀ < 1000 := by omega
                obtain ⟨o1₀, o2₀, ro₀, r1₀, r2₀, r3₀, r4₀⟩ := mCh_ok hs0₀ hs1₀ hlt₀ yy₀ (by omega)
                rw [← j1₀] at o1₀
                rw [← j2₀] at o2₀
                rw [← j0₀, ← j1₀] at r3₀
                rw [← j2₀, Bool.or_eq_true, decide_eq_true_eq] at r4₀
                have hPro₀ : mPkP s₀ y₀ due₀ ah₀ ro₀ = true := mPkP_iff.mpr ⟨r3₀, r4₀⟩
                have hdr₀ := mCst_rg hs0₀ hs1₀ y₀ ro₀ (by omega)
                refine lv_iconst (v := iI 0) C₀.1.1 C₀.1.2.1 dX9_change_83 (by decide) ?_
                refine lv_istore (lv' := [(6, .int (iI 0)), (0, .ref a₀), (1, .int (iI (mPow (s₀ 0)))), (2, .int (iI m₀)), (3, .int (iI due₀)), (4, .int (iI ah₀)), (5, .int (iI y₀))]) C₀.1.1 C₀.1.2.1 dX9_change_84 hl₀ (by decide) rfl (fun ls₀ hl₀ => ?_)
                have L86₀ : ∀ (nn₀ : Nat), ∀ (z₀ : Int), (fdI (mPkP s₀ y₀ due₀ ah₀) (mPow (s₀ 0)) z₀ = fdI (mPkP s₀ y₀ due₀ ah₀) (mPow (s₀ 0)) 0) → (0 ≤ z₀ ∧ z₀ ≤ ro₀) → ((ro₀ - z₀) < (nn₀ : Int)) → ∀ (H₀ : Heap) (locs₀ : List Loc) (ls₀ : Array Slot), Hp D₀ A₀ sT₀.heap [mO a₀ q₀ th₀ un₀ mf₀ ty₀ fr₀ tt₀ tk₀ fa₀ (bz hf₀) (bz ho₀) km₀, (q₀ 1, .inl (k₀ 0, 51, .inl (ia s₀))), (q₀ 18, .inl (k₀ 0, 1536, .inl (ia c9_1₀))), (q₀ 19, .inl (k₀ 0, 24, .inl (ia b1₀)))] H₀ locs₀ → lv_has ls₀ 8 [(0, .ref a₀), (1, .int (iI (mPow (s₀ 0)))), (2, .int (iI m₀)), (3, .int (iI due₀)), (4, .int (iI ah₀)), (5, .int (iI y₀)), (6, .int (iI z₀))] → W pP₀ lL₀ eN₀ rmX9_change sT₀ mI₀ args₀ below₀ meth₀ cD₀ H₀ locs₀ 0 0 QQ₀ (F0 mI₀ 86 ls₀ []) := by
                  intro nn₀
                  induction nn₀ with
                  | zero => intro z₀ k1₀ k2₀ hm₀; exact absurd hm₀ (by omega)
                  | succ nn₀ ih86₀ =>
                    intro z₀ k1₀ k2₀ hm86₀ H₀ locs₀ ls₀ hH₀ hl₀
                    have hcz2₀ := hu₀ y₀ z₀ (by omega) (by omega) (by omega) (by omega) (by omega)
                    have hcr2₀ := mCst_rg hs0₀ hs1₀ y₀ z₀ (by omega)
                    have L128₀ : (z₀ = mPick s₀ yy₀) → ∀ (H₀ : Heap) (locs₀ : List Loc) (ls₀ : Array Slot), Hp D₀ A₀ sT₀.heap [mO a₀ q₀ th₀ un₀ mf₀ ty₀ fr₀ tt₀ tk₀ fa₀ (bz hf₀) (bz ho₀) km₀, (q₀ 1, .inl (k₀ 0, 51, .inl (ia s₀))), (q₀ 18, .inl (k₀ 0, 1536, .inl (ia c9_1₀))), (q₀ 19, .inl (k₀ 0, 24, .inl (ia b1₀)))] H₀ locs₀ → lv_has ls₀ 8 [(0, .ref a₀), (1, .int (iI (mPow (s₀ 0)))), (2, .int (iI m₀)), (3, .int (iI due₀)), (4, .int (iI ah₀)), (5, .int (iI y₀)), (6, .int (iI z₀))] → W pP₀ lL₀ eN₀ rmX9_change sT₀ mI₀ args₀ below₀ meth₀ cD₀ H₀ locs₀ 0 0 QQ₀ (F0 mI₀ 128 ls₀ []) := by
                      intro  ez₀ H₀ locs₀ ls₀ hH₀ hl₀
                      refine lv_iconst (v := iI 0) C₀.1.1 C₀.1.2.1 dX9_change_128 (by decide) ?_
                      refine lv_istore (lv' := [(7, .int (iI 0)), (0, .ref a₀), (1, .int (iI (mPow (s₀ 0)))), (2, .int (iI m₀)), (3, .int (iI due₀)), (4, .int (iI ah₀)), (5, .int (iI y₀)), (6, .int (iI z₀))]) C₀.1.1 C₀.1.2.1 dX9_change_129 hl₀ (by decide) rfl (fun ls₀ hl₀ => ?_)
                      have L131₀ : ∀ (nn₀ : Nat), ∀ (x : Int) (b2₀ : Int → Int), (∀ (t₀ : Nat) (x : Int), t₀ < yy₀ → 0 ≤ x → x < s₀ 0 → b2₀ (s₀ 0 * t₀ + x) = mFig (s₀ 0) (mPick s₀ t₀) x) → (∀ x2₀, 0 ≤ x2₀ → x2₀ < x → b2₀ (s₀ 0 * y₀ + x2₀) = mFig (s₀ 0) z₀ x2₀) → (0 ≤ x ∧ x ≤ s₀ 0) → ((s₀ 0 - x) < (nn₀ : Int)) → ∀ (H₀ : Heap) (locs₀ : List Loc) (ls₀ : Array Slot), Hp D₀ A₀ sT₀.heap [mO a₀ q₀ th₀ un₀ mf₀ ty₀ fr₀ tt₀ tk₀ fa₀ (bz hf₀) (bz ho₀) km₀, (q₀ 1, .inl (k₀ 0, 51, .inl (ia s₀))), (q₀ 18, .inl (k₀ 0, 1536, .inl (ia c9_1₀))), (q₀ 19, .inl (k₀ 0, 24, .inl (ia b2₀)))] H₀ locs₀ → lv_has ls₀ 8 [(0, .ref a₀), (1, .int (iI (mPow (s₀ 0)))), (2, .int (iI m₀)), (3, .int (iI due₀)), (4, .int (iI ah₀)), (5, .int (iI y₀)), (6, .int (iI z₀)), (7, .int (iI x))] → W pP₀ lL₀ eN₀ rmX9_change sT₀ mI₀ args₀ below₀ meth₀ cD₀ H₀ locs₀ 0 0 QQ₀ (F0 mI₀ 131 ls₀ []) := by
                        intro nn₀
                        induction nn₀ with
                        | zero => intro x b2₀ l1₀ l2₀ l3₀ hm₀; exact absurd hm₀ (by omega)
                        | succ nn₀ ih131₀ =>
                          intro x b2₀ l1₀ l2₀ l3₀ hm131₀ H₀ locs₀ ls₀ hH₀ hl₀
                          refine lv_iload C₀.1.1 C₀.1.2.1 dX9_change_131 (lv_at hl₀ 7 rfl) ?_
                          refine lv_aload_n C₀.1.1 C₀.1.2.1 dX9_change_133 rfl (lv_at hl₀ 0 rfl) ?_
                          refine xw_get C₀ hH₀ 0 rfl rfl 1 (by decide) iw_X9_change_X9 (by decide +kernel) (v := .ref (q₀ 1)) rfl dX9_change_134 ?_
                          refine lv_iconst (v := iI 0) C₀.1.1 C₀.1.2.1 dX9_change_137 (by decide) ?_
                          refine xw_ild C₀ hH₀ 1 0 rfl rfl (z := 0) (by omega) (by omega) (by decide) dX9_change_138 ?_
                          refine xi_cge (tgt := 173) C₀.1.1 C₀.1.2.1 dX9_change_139 (by decide) (by omega) (by omega) (fun h_5₀ => ?_) (fun h_5₀ => ?_)
                          · have hgr₀ := mChg_rg hs0₀ y₀ z₀
                            refine lv_iload_n C₀.1.1 C₀.1.2.1 dX9_change_173 rfl (lv_at hl₀ 3 rfl) ?_
                            refine lv_aload_n C₀.1.1 C₀.1.2.1 dX9_change_174 rfl (lv_at hl₀ 0 rfl) ?_
                            refine lv_iload C₀.1.1 C₀.1.2.1 dX9_change_175 (lv_at hl₀ 5 rfl) ?_
                            refine lv_iload C₀.1.1 C₀.1.2.1 dX9_change_177 (lv_at hl₀ 6 rfl) ?_
                            refine xc_Vi (wr := [(q₀ 18, .inl (k₀ 0, 1536, .inl (ia c9_1₀))), (q₀ 19, .inl (k₀ 0, 24, .inl (ia b2₀)))]) (ws' := fun _ => [mO a₀ q₀ th₀ un₀ mf₀ ty₀ fr₀ tt₀ tk₀ fa₀ (bz hf₀) (bz ho₀) km₀, (q₀ 1, .inl (k₀ 0, 51, .inl (ia s₀))), (q₀ 18, .inl (k₀ 0, 1536, .inl (ia c9_1₀))), (q₀ 19, .inl (k₀ 0, 24, .inl (ia b2₀)))]) (As := [.int (iI y₀), .int (iI z₀)]) (rest := [.int (iI due₀)]) C₀ hH₀ (c_X9_changedBy lL₀ D₀ k₀ H₀.size a₀ q₀ th₀ un₀ mf₀ ty₀ fr₀ tt₀ tk₀ fa₀ hf₀ ho₀ km₀ s₀ y₀ z₀ (hS₀) (by omega) (by omega)) ZT_b (fun _ _ _ => trivial) (cwV 2 C₀.1.2.2.2.2 gX9_change_X9_changedBy rfl rfl rfl (by decide +kernel) ⟨Nat.le_of_ble_eq_true rfl, Nat.le_of_ble_eq_true rfl⟩) [0, 1] [2, 3] [2, 3, 0, 1] rfl rfl (by decide) (by decide) (by decide) (fun _ => rfl) (by decide) (q0 := 0) rfl rfl rfl hl₀.1 rfl (Nat.le_of_ble_eq_true rfl) dX9_change_179 ⟨Nat.le_of_ble_eq_true rfl, Nat.le_of_ble_eq_true rfl⟩ (fun _ _ H₀ locs₀ hH₀ => ?_)
                            refine xi_sub C₀.1.1 C₀.1.2.1 dX9_change_182 ?_
                            refine lv_istore_n (lv' := [(3, .int (iI (due₀ - (mChg s₀ y₀ z₀)))), (0, .ref a₀), (1, .int (iI (mPow (s₀ 0)))), (2, .int (iI m₀)), (4, .int (iI ah₀)), (5, .int (iI y₀)), (6, .int (iI z₀)), (7, .int (iI x))]) C₀.1.1 C₀.1.2.1 dX9_change_183 rfl hl₀ (by decide) rfl (fun ls₀ hl₀ => ?_)
                            refine lv_iload C₀.1.1 C₀.1.2.1 dX9_change_184 (lv_at hl₀ 6 rfl) ?_
                            refine lv_istore (lv' := [(4, .int (iI z₀)), (3, .int (iI (due₀ - (mChg s₀ y₀ z₀)))), (0, .ref a₀), (1, .int (iI (mPow (s₀ 0)))), (2, .int (iI m₀)), (5, .int (iI y₀)), (6, .int (iI z₀)), (7, .int (iI x))]) C₀.1.1 C₀.1.2.1 dX9_change_186 hl₀ (by decide) rfl (fun ls₀ hl₀ => ?_)
                            refine lv_iinc (v := iI (y₀ + 1)) (lv' := [(5, .int (iI (y₀ + 1))), (4, .int (iI z₀)), (3, .int (iI (due₀ - (mChg s₀ y₀ z₀)))), (0, .ref a₀), (1, .int (iI (mPow (s₀ 0)))), (2, .int (iI m₀)), (6, .int (iI z₀)), (7, .int (iI x))]) C₀.1.1 C₀.1.2.1 dX9_change_188 hl₀ (k := 5) rfl (iI_add _ (1)) (by decide) rfl (fun ls₀ hl₀ => ?_)
                            refine lv_goto (tgt := 72) C₀.1.1 C₀.1.2.1 dX9_change_191 (by decide) ?_
                            exact ih72₀ (due₀ - (mChg s₀ y₀ z₀)) z₀ (y₀ + 1) b2₀ (yy₀ + 1) (by omega) ((by rw [mCh_s1, ← j1₀, ← ez₀, ← j0₀])) ((by rw [mCh_s2]; exact ez₀)) (by omega) ((by intro t₀ x2₀ a₀ b₀ c₀; by_cases ht₀ : t₀ = yy₀; (subst ht₀; rw [← ez₀, ← j0₀]; exact l2₀ x2₀ b₀ (by omega)); (exact l1₀ t₀ x2₀ (by omega) b₀ c₀))) (by omega) _ _ _ hH₀ (lv_sub hl₀ [3, 4, 5, 2, 1, 0] rfl)
                          · have hcc₀ := cell_rg hs0₀ (show 0 ≤ x ∧ x < s₀ 0 by omega) (show 0 ≤ y₀ ∧ y₀ < s₀ 1 by omega)
                            refine lv_aload_n C₀.1.1 C₀.1.2.1 dX9_change_142 rfl (lv_at hl₀ 0 rfl) ?_
                            refine xw_get C₀ hH₀ 0 rfl rfl 19 (by decide) iw_X9_change_X9 (by decide +kernel) (v := .ref (q₀ 19)) rfl dX9_change_143 ?_
                            refine lv_aload_n C₀.1.1 C₀.1.2.1 dX9_change_146 rfl (lv_at hl₀ 0 rfl) ?_
                            refine xw_get C₀ hH₀ 0 rfl rfl 1 (by decide) iw_X9_change_X9 (by decide +kernel) (v := .ref (q₀ 1)) rfl dX9_change_147 ?_
                            refine lv_iconst (v := iI 0) C₀.1.1 C₀.1.2.1 dX9_change_150 (by decide) ?_
                            refine xw_ild C₀ hH₀ 1 0 rfl rfl (z := 0) (by omega) (by omega) (by decide) dX9_change_151 ?_
                            refine lv_iload C₀.1.1 C₀.1.2.1 dX9_change_152 (lv_at hl₀ 5 rfl) ?_
                            refine xi_mul C₀.1.1 C₀.1.2.1 dX9_change_154 ?_
                            refine lv_iload C₀.1.1 C₀.1.2.1 dX9_change_155 (lv_at hl₀ 7 rfl) ?_
                            refine xi_add C₀.1.1 C₀.1.2.1 dX9_change_157 ?_
                            refine lv_aload_n C₀.1.1 C₀.1.2.1 dX9_change_158 rfl (lv_at hl₀ 0 rfl) ?_
                            refine lv_iload C₀.1.1 C₀.1.2.1 dX9_change_159 (lv_at hl₀ 6 rfl) ?_
                            refine lv_iload C₀.1.1 C₀.1.2.1 dX9_change_161 (lv_at hl₀ 7 rfl) ?_
                            refine xc_Vi (wr := [(q₀ 18, .inl (k₀ 0, 1536, .inl (ia c9_1₀))), (q₀ 19, .inl (k₀ 0, 24, .inl (ia b2₀)))]) (ws' := fun _ => [mO a₀ q₀ th₀ un₀ mf₀ ty₀ fr₀ tt₀ tk₀ fa₀ (bz hf₀) (bz ho₀) km₀, (q₀ 1, .inl (k₀ 0, 51, .inl (ia s₀))), (q₀ 18, .inl (k₀ 0, 1536, .inl (ia c9_1₀))), (q₀ 19, .inl (k₀ 0, 24, .inl (ia b2₀)))]) (As := [.int (iI z₀), .int (iI x)]) (rest := [.int (iI ((s₀ 0) * y₀ + x)), .ref (q₀ 19)]) C₀ hH₀ (c_X9_figureOf lL₀ D₀ k₀ H₀.size a₀ q₀ th₀ un₀ mf₀ ty₀ fr₀ tt₀ tk₀ fa₀ hf₀ ho₀ km₀ s₀ z₀ x (by omega) (by omega) (by omega)) ZT_b (fun _ _ _ => trivial) (cwV 2 C₀.1.2.2.2.2 gX9_change_X9_figureOf rfl rfl rfl (by decide +kernel) ⟨Nat.le_of_ble_eq_true rfl, Nat.le_of_ble_eq_true rfl⟩) [0, 1] [2, 3] [2, 3, 0, 1] rfl rfl (by decide) (by decide) (by decide) (fun _ => rfl) (by decide) (q0 := 0) rfl rfl rfl hl₀.1 rfl (Nat.le_of_ble_eq_true rfl) dX9_change_163 ⟨Nat.le_of_ble_eq_true rfl, Nat.le_of_ble_eq_true rfl⟩ (fun _ _ H₀ locs₀ hH₀ => ?_)
                            refine xw_ist (ws' := [mO a₀ q₀ th₀ un₀ mf₀ ty₀ fr₀ tt₀ tk₀ fa₀ (bz hf₀) (bz ho₀) km₀, (q₀ 1, .inl (k₀ 0, 51, .inl (ia s₀))), (q₀ 18, .inl (k₀ 0, 1536, .inl (ia c9_1₀))), (q₀ 19, .inl (k₀ 0, 24, .inl (ia (uz b2₀ ((s₀ 0) * y₀ + x) (mFig (s₀ 0) z₀ x)))))]) C₀ hH₀ 3 0 rfl rfl (z := (s₀ 0) * y₀ + x) (v := mFig (s₀ 0) z₀ x) (by omega) (by omega) (by decide) dX9_change_166 rfl (fun H₀ locs₀ hH₀ => ?_)
                            refine lv_iinc (v := iI (x + 1)) (lv' := [(7, .int (iI (x + 1))), (0, .ref a₀), (1, .int (iI (mPow (s₀ 0)))), (2, .int (iI m₀)), (3, .int (iI due₀)), (4, .int (iI ah₀)), (5, .int (iI y₀)), (6, .int (iI z₀))]) C₀.1.1 C₀.1.2.1 dX9_change_167 hl₀ (k := 7) rfl (iI_add _ (1)) (by decide) rfl (fun ls₀ hl₀ => ?_)
                            refine lv_goto (tgt := 131) C₀.1.1 C₀.1.2.1 dX9_change_170 (by decide) ?_
                            exact ih131₀ (x + 1) (uz b2₀ ((s₀ 0) * y₀ + x) (mFig (s₀ 0) z₀ x)) ((by intro t₀ x2₀ a₀ b₀ c₀; have hne₀ := cell_ne hs0₀ (x := x2₀) (y := (t₀ : Int)) (x2 := x) (y2 := y₀) ⟨b₀, c₀⟩ (by omega) (by omega); rw [uz_n (by omega)]; exact l1₀ t₀ x2₀ a₀ b₀ c₀)) ((by intro x2₀ a₀ b₀; by_cases hx2₀ : x2₀ = x; (subst hx2₀; rw [uz_s]); (rw [uz_n (by omega)]; exact l2₀ x2₀ a₀ (by omega)))) (by omega) (by omega) _ _ _ hH₀ (lv_sub hl₀ [1, 2, 3, 4, 5, 6, 7, 0] rfl)
                      exact L131₀ (((s₀ 0 - 0) : Int).toNat + 1) 0 b1₀ (j4₀) (fun x2₀ a₀ b₀ => absurd b₀ (by omega)) (by omega) (by omega) _ _ _ hH₀ (lv_sub hl₀ [1, 2, 3, 4, 5, 6, 7, 0] rfl)
                    refine lv_aload_n C₀.1.1 C₀.1.2.1 dX9_change_86 rfl (lv_at hl₀ 0 rfl) ?_
                    refine xw_get C₀ hH₀ 0 rfl rfl 18 (by decide) iw_X9_change_X9 (by decide +kernel) (v := .ref (q₀ 18)) rfl dX9_change_87 ?_
                    refine lv_sipush (v := iI 256) C₀.1.1 C₀.1.2.1 dX9_change_90 (by decide) ?_
                    refine lv_iload C₀.1.1 C₀.1.2.1 dX9_change_93 (lv_at hl₀ 5 rfl) ?_
                    refine xi_mul C₀.1.1 C₀.1.2.1 dX9_change_95 ?_
                    refine lv_iload C₀.1.1 C₀.1.2.1 dX9_change_96 (lv_at hl₀ 6 rfl) ?_
                    refine xi_add C₀.1.1 C₀.1.2.1 dX9_change_98 ?_
                    refine xw_ild C₀ hH₀ 2 0 rfl rfl (z := 256 * y₀ + z₀) (by omega) (by omega) (by decide) dX9_change_99 ?_
                    refine lv_iload_n C₀.1.1 C₀.1.2.1 dX9_change_100 rfl (lv_at hl₀ 3 rfl) ?_
                    refine xi_cne (tgt := 122) C₀.1.1 C₀.1.2.1 dX9_change_101 (by decide) (by omega) (by omega) (fun h_6₀ => ?_) (fun h_6₀ => ?_)
                    · have hPz₀ : ¬ mPkP s₀ y₀ due₀ ah₀ z₀ = true := fun q₀ => absurd (mPkP_iff.mp q₀).1 (by omega)
                      refine lv_iinc (v := iI (z₀ + 1)) (lv' := [(6, .int (iI (z₀ + 1))), (0, .ref a₀), (1, .int (iI (mPow (s₀ 0)))), (2, .int (iI m₀)), (3, .int (iI due₀)), (4, .int (iI ah₀)), (5, .int (iI y₀))]) C₀.1.1 C₀.1.2.1 dX9_change_122 hl₀ (k := 6) rfl (iI_add _ (1)) (by decide) rfl (fun ls₀ hl₀ => ?_)
                      refine lv_goto (tgt := 86) C₀.1.1 C₀.1.2.1 dX9_change_125 (by decide) ?_
                      exact ih86₀ (z₀ + 1) ((by rw [← k1₀, fdI_eq (j := z₀), if_pos ⟨by omega, hPz₀⟩])) ((by have hne₀ : z₀ ≠ ro₀ := fun e₀ => hPz₀ (by rw [e₀]; exact hPro₀); omega)) (by omega) _ _ _ hH₀ (lv_sub hl₀ [1, 2, 3, 4, 5, 6, 0] rfl)
                    · refine lv_iload C₀.1.1 C₀.1.2.1 dX9_change_104 (lv_at hl₀ 4 rfl) ?_
                      refine lv_bipush (v := iI (-9)) C₀.1.1 C₀.1.2.1 dX9_change_106 (by decide) ?_
                      refine xi_ceq (tgt := 128) C₀.1.1 C₀.1.2.1 dX9_change_108 (by decide) (by omega) (by omega) (fun h_7₀ => ?_) (fun h_7₀ => ?_)
                      · exact L128₀  ((by rw [mPick_eq, ← j1₀, ← j2₀, ← j0₀, ← k1₀, fdI_eq (j := z₀), if_neg (fun q₀ => q₀.2 (mPkP_iff.mpr ⟨by omega, Or.inl h_7₀⟩))])) _ _ _ hH₀ (lv_sub hl₀ [0, 1, 2, 3, 4, 5, 6] rfl)
                      · refine lv_aload_n C₀.1.1 C₀.1.2.1 dX9_change_111 rfl (lv_at hl₀ 0 rfl) ?_
                        refine lv_iload C₀.1.1 C₀.1.2.1 dX9_change_112 (lv_at hl₀ 4 rfl) ?_
                        refine lv_iload C₀.1.1 C₀.1.2.1 dX9_change_114 (lv_at hl₀ 6 rfl) ?_
                        refine xc_Vi (wr := [(q₀ 18, .inl (k₀ 0, 1536, .inl (ia c9_1₀))), (q₀ 19, .inl (k₀ 0, 24, .inl (ia b1₀)))]) (ws' := fun _ => [mO a₀ q₀ th₀ un₀ mf₀ ty₀ fr₀ tt₀ tk₀ fa₀ (bz hf₀) (bz ho₀) km₀, (q₀ 1, .inl (k₀ 0, 51, .inl (ia s₀))), (q₀ 18, .inl (k₀ 0, 1536, .inl (ia c9_1₀))), (q₀ 19, .inl (k₀ 0, 24, .inl (ia b1₀)))]) (As := [.int (iI ah₀), .int (iI z₀)]) (rest := []) C₀ hH₀ (c_X9_fit lL₀ D₀ k₀ H₀.size a₀ q₀ th₀ un₀ mf₀ ty₀ fr₀ tt₀ tk₀ fa₀ hf₀ ho₀ km₀ s₀ ah₀ z₀ (by omega) (by omega) (by omega)) ZT_b (fun _ _ _ => trivial) (cwV 2 C₀.1.2.2.2.2 gX9_change_X9_fit rfl rfl rfl (by decide +kernel) ⟨Nat.le_of_ble_eq_true rfl, Nat.le_of_ble_eq_true rfl⟩) [0, 1] [2, 3] [2, 3, 0, 1] rfl rfl (by decide) (by decide) (by decide) (fun _ => rfl) (by decide) (q0 := 0) rfl rfl rfl hl₀.1 rfl (Nat.le_of_ble_eq_true rfl) dX9_change_116 ⟨Nat.le_of_ble_eq_true rfl, Nat.le_of_ble_eq_true rfl⟩ (fun _ _ H₀ locs₀ hH₀ => ?_)
                        refine xb_ne (tgt := 128) C₀.1.1 C₀.1.2.1 dX9_change_119 (by decide) (fun h_8₀ => ?_) (fun h_8₀ => ?_)
                        · exact L128₀  ((by rw [mPick_eq, ← j1₀, ← j2₀, ← j0₀, ← k1₀, fdI_eq (j := z₀), if_neg (fun q₀ => q₀.2 (mPkP_iff.mpr ⟨by omega, Or.inr h_8₀⟩))])) _ _ _ hH₀ (lv_sub hl₀ [0, 1, 2, 3, 4, 5, 6] rfl)
                        · have hPz₀ : ¬ mPkP s₀ y₀ due₀ ah₀ z₀ = true := fun q₀ => (mPkP_iff.mp q₀).2.elim (fun q2₀ => h_7₀ q2₀) (fun q2₀ => by rw [h_8₀] at q2₀; cases q2₀)
                          refine lv_iinc (v := iI (z₀ + 1)) (lv' := [(6, .int (iI (z₀ + 1))), (0, .ref a₀), (1, .int (iI (mPow (s₀ 0)))), (2, .int (iI m₀)), (3, .int (iI due₀)), (4, .int (iI ah₀)), (5, .int (iI y₀))]) C₀.1.1 C₀.1.2.1 dX9_change_122 hl₀ (k := 6) rfl (iI_add _ (1)) (by decide) rfl (fun ls₀ hl₀ => ?_)
                          refine lv_goto (tgt := 86) C₀.1.1 C₀.1.2.1 dX9_change_125 (by decide) ?_
                          exact ih86₀ (z₀ + 1) ((by rw [← k1₀, fdI_eq (j := z₀), if_pos ⟨by omega, hPz₀⟩])) ((by have hne₀ : z₀ ≠ ro₀ := fun e₀ => hPz₀ (by rw [e₀]; exact hPro₀); omega)) (by omega) _ _ _ hH₀ (lv_sub hl₀ [1, 2, 3, 4, 5, 6, 0] rfl)
                exact L86₀ (((ro₀ - 0) : Int).toNat + 1) 0 (rfl) (by omega) (by omega) _ _ _ hH₀ (lv_sub hl₀ [1, 2, 3, 4, 5, 6, 0] rfl)
          exact L72₀ (((s₀ 1 - 0) : Int).toNat + 1) m₀ (-9) 0 be₀ 0 (rfl) (hma₀) (rfl) (by omega) (fun t₀ x a₀ b₀ c₀ => absurd a₀ (by omega)) (by omega) _ _ _ hH₀ (lv_sub hl₀ [3, 4, 5, 2, 1, 0] rfl)
        · refine lv_bipush (v := iI (-9)) C₀.1.1 C₀.1.2.1 dX9_change_60 (by decide) ?_
          exact xr_i C₀ hH₀ hlk₀ hr₀ hQ₀ rfl hAe₀ (c9_1₀, be₀) (fun q₀ => absurd q₀ (by omega)) (by unfold mChange; rw [if_pos (by omega)]) rfl dX9_change_62
      · have hcz₀ := hu₀ 0 z₀ (by omega) (by omega) (by omega) (by omega) (by omega)
        rw [show 256 * 0 + z₀ = z₀ by omega] at hcz₀
        have hcr₀ := mCst_rg hs0₀ hs1₀ 0 z₀ (by omega)
        have L46₀ : ∀ (v₀ : Int), (v₀ = if mCst s₀ 0 z₀ < m₀ then mCst s₀ 0 z₀ else m₀) → ∀ (H₀ : Heap) (locs₀ : List Loc) (ls₀ : Array Slot), Hp D₀ A₀ sT₀.heap [mO a₀ q₀ th₀ un₀ mf₀ ty₀ fr₀ tt₀ tk₀ fa₀ (bz hf₀) (bz ho₀) km₀, (q₀ 1, .inl (k₀ 0, 51, .inl (ia s₀))), (q₀ 18, .inl (k₀ 0, 1536, .inl (ia c9_1₀))), (q₀ 19, .inl (k₀ 0, 24, .inl (ia be₀)))] H₀ locs₀ → lv_has ls₀ 8 [(0, .ref a₀), (1, .int (iI (mPow (s₀ 0)))), (2, .int (iI m₀)), (3, .int (iI z₀))] → W pP₀ lL₀ eN₀ rmX9_change sT₀ mI₀ args₀ below₀ meth₀ cD₀ H₀ locs₀ 0 0 QQ₀ (F0 mI₀ 46 ls₀ [.int (iI v₀)]) := by
          intro v₀ jv₀ H₀ locs₀ ls₀ hH₀ hl₀
          refine lv_istore_n (lv' := [(2, .int (iI v₀)), (0, .ref a₀), (1, .int (iI (mPow (s₀ 0)))), (3, .int (iI z₀))]) C₀.1.1 C₀.1.2.1 dX9_change_46 rfl hl₀ (by decide) rfl (fun ls₀ hl₀ => ?_)
          refine lv_iinc (v := iI (z₀ + 1)) (lv' := [(3, .int (iI (z₀ + 1))), (2, .int (iI v₀)), (0, .ref a₀), (1, .int (iI (mPow (s₀ 0))))]) C₀.1.1 C₀.1.2.1 dX9_change_47 hl₀ (k := 3) rfl (iI_add _ (1)) (by decide) rfl (fun ls₀ hl₀ => ?_)
          refine lv_goto (tgt := 21) C₀.1.1 C₀.1.2.1 dX9_change_50 (by decide) ?_
          exact ih21₀ v₀ (z₀ + 1) ((by rw [lsI_s i2₀.1, ← i1₀, jv₀]; simp only [and_true])) (by omega) ((by rw [jv₀]; split <;> omega)) (by omega) _ _ _ hH₀ (lv_sub hl₀ [2, 3, 1, 0] rfl)
        refine lv_aload_n C₀.1.1 C₀.1.2.1 dX9_change_26 rfl (lv_at hl₀ 0 rfl) ?_
        refine xw_get C₀ hH₀ 0 rfl rfl 18 (by decide) iw_X9_change_X9 (by decide +kernel) (v := .ref (q₀ 18)) rfl dX9_change_27 ?_
        refine lv_iload_n C₀.1.1 C₀.1.2.1 dX9_change_30 rfl (lv_at hl₀ 3 rfl) ?_
        refine xw_ild C₀ hH₀ 2 0 rfl rfl (z := z₀) (by omega) (by omega) (by decide) dX9_change_31 ?_
        refine lv_iload_n C₀.1.1 C₀.1.2.1 dX9_change_32 rfl (lv_at hl₀ 2 rfl) ?_
        refine xi_cge (tgt := 45) C₀.1.1 C₀.1.2.1 dX9_change_33 (by decide) (by omega) (by omega) (fun h_9₀ => ?_) (fun h_9₀ => ?_)
        · refine lv_iload_n C₀.1.1 C₀.1.2.1 dX9_change_45 rfl (lv_at hl₀ 2 rfl) ?_
          exact L46₀ m₀ ((by rw [← hcz₀, if_neg (by omega)])) _ _ _ hH₀ (lv_sub hl₀ [0, 1, 2, 3] rfl)
        · refine lv_aload_n C₀.1.1 C₀.1.2.1 dX9_change_36 rfl (lv_at hl₀ 0 rfl) ?_
          refine xw_get C₀ hH₀ 0 rfl rfl 18 (by decide) iw_X9_change_X9 (by decide +kernel) (v := .ref (q₀ 18)) rfl dX9_change_37 ?_
          refine lv_iload_n C₀.1.1 C₀.1.2.1 dX9_change_40 rfl (lv_at hl₀ 3 rfl) ?_
          refine xw_ild C₀ hH₀ 2 0 rfl rfl (z := z₀) (by omega) (by omega) (by decide) dX9_change_41 ?_
          refine lv_goto (tgt := 46) C₀.1.1 C₀.1.2.1 dX9_change_42 (by decide) ?_
          exact L46₀ (c9_1₀ z₀) ((by rw [← hcz₀, if_pos (by omega)])) _ _ _ hH₀ (lv_sub hl₀ [0, 1, 2, 3] rfl)
  exact L21₀ (((mPow (s₀ 0) - 0) : Int).toNat + 1) 1000 0 (rfl) (by omega) (by omega) (by omega) _ _ _ hH₀ (lv_sub hl₀ [3, 2, 1, 0] rfl)
