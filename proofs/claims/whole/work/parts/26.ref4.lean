theorem iw_X9_paints_X9 : ∀ w₀ ∈ u_ws RX9 TX9 24, w₀ ∈ wsX9_paints := (fun w₀ h₀ => List.mem_cons_of_mem _ (List.mem_append_right _ h₀))
abbrev rmX9_paints : Room := { frames := 2, cells := 0, slots := 0, locals := 44 }
set_option maxHeartbeats 4000000 in
set_option maxRecDepth 100000 in
/-- paints -/
theorem c_X9_paints (lL₀ : Launch) (D₀ : va_G) (k₀ : Nat → ClassId) (sz₀ : Nat) (a₀ : Nat) (q₀ : Nat → Nat) (th₀ : Int) (un₀ : Int) (mf₀ : Int) (ty₀ : Int) (fr₀ : Int) (tt₀ : Int) (tk₀ : Int) (fa₀ : Int) (hf₀ : Bool) (ho₀ : Bool) (km₀ : Int) (s₀ : Int → Int) (pa₀ : Int → Int) (x : Int) (y₀ : Int) (x2₀ : Int) (y2₀ : Int) (h₀ : Int) (hS₀ : mS s₀) (hx₀ : -2147483648 ≤ x ∧ x < 2147483648) (hy₀ : -2147483648 ≤ y₀ ∧ y₀ < 2147483648) (hx2₀ : -2147483648 ≤ x2₀ ∧ x2₀ < 2147483648) (hy2₀ : -2147483648 ≤ y2₀ ∧ y2₀ < 2147483648) (hh₀ : -2147483648 ≤ h₀ ∧ h₀ < 2147483648) (hun₀ : 0 ≤ un₀ ∧ un₀ ≤ 6) : Met lL₀ yX9_paints wsX9_paints rmX9_paints (gPc ZT D₀ (tyk k₀) [.ref a₀, .int (iI x), .int (iI y₀), .int (iI x2₀), .int (iI y2₀), .int (iI h₀)] sz₀ [mO a₀ q₀ th₀ un₀ mf₀ ty₀ fr₀ tt₀ tk₀ fa₀ (bz hf₀) (bz ho₀) km₀, (q₀ 1, .inl (k₀ 0, 51, .inl (ia s₀))), (q₀ 3, .inl (k₀ 0, 306, .inl (ia pa₀)))]) (gQi D₀ (tyk k₀) [mO a₀ q₀ th₀ un₀ mf₀ ty₀ fr₀ tt₀ tk₀ fa₀ (bz hf₀) (bz ho₀) km₀, (q₀ 1, .inl (k₀ 0, 51, .inl (ia s₀))), (q₀ 3, .inl (k₀ 0, 306, .inl (ia pa₀)))] sz₀ (fun (_ : Unit) => True) (fun (_ : Unit) => (iI (mPaintR s₀ x y₀ x2₀ y2₀ h₀))) (fun (_ : Unit) => [mO a₀ q₀ 0 (cond (mPaintC s₀ x y₀ x2₀ y2₀ h₀) (mUn un₀) un₀) mf₀ ty₀ fr₀ tt₀ tk₀ fa₀ (bz hf₀) (bz ho₀) km₀, (q₀ 1, .inl (k₀ 0, 51, .inl (ia (cond (mPaintC s₀ x y₀ x2₀ y2₀ h₀) (mPaintS s₀ x y₀ x2₀ y2₀ h₀ (s₀ 0 * s₀ 1)) s₀)))), (q₀ 3, .inl (k₀ 0, 306, .inl (ia (cond (mPaintC s₀ x y₀ x2₀ y2₀ h₀) (mPa pa₀ s₀ un₀) pa₀))))])) 0 0 (va_A [mO a₀ q₀ th₀ un₀ mf₀ ty₀ fr₀ tt₀ tk₀ fa₀ (bz hf₀) (bz ho₀) km₀, (q₀ 1, .inl (k₀ 0, 51, .inl (ia s₀))), (q₀ 3, .inl (k₀ 0, 306, .inl (ia pa₀)))] sz₀) := by
  refine xs_met (cc := cX9_paints) (maxL := 9) (ret := some .int) (by decide) rfl (Nat.le_of_ble_eq_true rfl) ?_
  intro pP₀ eN₀ sT₀ mI₀ below₀ meth₀ cD₀ hsz₀ args₀ QQ₀ C₀ hr₀ hlk₀ hnm₀ hQ₀ ls₀ H₀ locs₀ hl₀ hH₀
  subst hsz₀
  have hl₀ : lv_has ls₀ 9 [(0, .ref a₀), (1, .int (iI x)), (2, .int (iI y₀)), (3, .int (iI x2₀)), (4, .int (iI y2₀)), (5, .int (iI h₀))] := hl₀
  generalize hAe₀ : va_A [mO a₀ q₀ th₀ un₀ mf₀ ty₀ fr₀ tt₀ tk₀ fa₀ (bz hf₀) (bz ho₀) km₀, (q₀ 1, .inl (k₀ 0, 51, .inl (ia s₀))), (q₀ 3, .inl (k₀ 0, 306, .inl (ia pa₀)))] sT₀.heap.size = A₀ at C₀ hH₀ hQ₀
  obtain ⟨hs0₀, hs1₀, hs2₀, hsh₀, hsf₀⟩ := id hS₀
  have hcl₀ := cells_rg hs0₀ hs1₀
  refine lv_aload_n C₀.1.1 C₀.1.2.1 dX9_paints_0 rfl (lv_at hl₀ 0 rfl) ?_
  refine lv_iconst (v := iI 0) C₀.1.1 C₀.1.2.1 dX9_paints_1 (by decide) ?_
  refine xw_put (ws' := [mO a₀ q₀ 0 un₀ mf₀ ty₀ fr₀ tt₀ tk₀ fa₀ (bz hf₀) (bz ho₀) km₀, (q₀ 1, .inl (k₀ 0, 51, .inl (ia s₀))), (q₀ 3, .inl (k₀ 0, 306, .inl (ia pa₀)))]) (v := .int (iI 0)) C₀ hH₀ 0 rfl rfl tyX9 tyX9_ok nmX9 0 (by decide) iw_X9_paints_X9 (by decide +kernel) rfl rfl rfl (Nat.le_of_ble_eq_true rfl) dX9_paints_2 rfl (fun H₀ locs₀ hH₀ => ?_)
  have L45₀ : (¬ (0 ≤ x ∧ x ≤ x2₀ ∧ x2₀ < s₀ 0 ∧ 0 ≤ y₀ ∧ y₀ ≤ y2₀ ∧ y2₀ < s₀ 1 ∧ 0 ≤ h₀ ∧ h₀ ≤ 3)) → ∀ (H₀ : Heap) (locs₀ : List Loc) (ls₀ : Array Slot), Hp D₀ A₀ sT₀.heap [mO a₀ q₀ 0 un₀ mf₀ ty₀ fr₀ tt₀ tk₀ fa₀ (bz hf₀) (bz ho₀) km₀, (q₀ 1, .inl (k₀ 0, 51, .inl (ia s₀))), (q₀ 3, .inl (k₀ 0, 306, .inl (ia pa₀)))] H₀ locs₀ → lv_has ls₀ 9 [(0, .ref a₀), (1, .int (iI x)), (2, .int (iI y₀)), (3, .int (iI x2₀)), (4, .int (iI y2₀)), (5, .int (iI h₀))] → W pP₀ lL₀ eN₀ rmX9_paints sT₀ mI₀ args₀ below₀ meth₀ cD₀ H₀ locs₀ 0 0 QQ₀ (F0 mI₀ 45 ls₀ []) := by
    intro  hbad₀ H₀ locs₀ ls₀ hH₀ hl₀
    refine lv_iconst (v := iI (-1)) C₀.1.1 C₀.1.2.1 dX9_paints_45 (by decide) ?_
    exact xr_i C₀ hH₀ hlk₀ hr₀ hQ₀ rfl hAe₀ () trivial (by simp (disch := omega) only [mPaintR, if_pos, if_neg]) (by rw [show mPaintC s₀ x y₀ x2₀ y2₀ h₀ = false from decide_eq_false (by omega)]; rfl) dX9_paints_46
  refine lv_aload_n C₀.1.1 C₀.1.2.1 dX9_paints_5 rfl (lv_at hl₀ 0 rfl) ?_
  refine lv_iload_n C₀.1.1 C₀.1.2.1 dX9_paints_6 rfl (lv_at hl₀ 1 rfl) ?_
  refine lv_iload_n C₀.1.1 C₀.1.2.1 dX9_paints_7 rfl (lv_at hl₀ 2 rfl) ?_
  refine xc_Vi (wr := [(q₀ 3, .inl (k₀ 0, 306, .inl (ia pa₀)))]) (ws' := fun _ => [mO a₀ q₀ 0 un₀ mf₀ ty₀ fr₀ tt₀ tk₀ fa₀ (bz hf₀) (bz ho₀) km₀, (q₀ 1, .inl (k₀ 0, 51, .inl (ia s₀))), (q₀ 3, .inl (k₀ 0, 306, .inl (ia pa₀)))]) (As := [.int (iI x), .int (iI y₀)]) (rest := []) C₀ hH₀ (c_X9_isCell lL₀ D₀ k₀ H₀.size a₀ q₀ 0 un₀ mf₀ ty₀ fr₀ tt₀ tk₀ fa₀ hf₀ ho₀ km₀ s₀ x y₀ (by omega) (by omega) (by omega) (by omega)) ZT_b (fun _ _ _ => trivial) (cwV 2 C₀.1.2.2.2.2 gX9_paints_X9_isCell rfl rfl rfl (by decide +kernel) ⟨Nat.le_of_ble_eq_true rfl, Nat.le_of_ble_eq_true rfl⟩) [0, 1] [2] [1, 2, 0] rfl rfl (by decide) (by decide) (by decide) (fun _ => rfl) (by decide) (q0 := 0) rfl rfl rfl hl₀.1 rfl (Nat.le_of_ble_eq_true rfl) dX9_paints_8 ⟨Nat.le_of_ble_eq_true rfl, Nat.le_of_ble_eq_true rfl⟩ (fun _ _ H₀ locs₀ hH₀ => ?_)
  refine xp_eq (tgt := 45) C₀.1.1 C₀.1.2.1 dX9_paints_11 (by decide) (fun h_1₀ => ?_) (fun h_1₀ => ?_)
  · exact L45₀  (by omega) _ _ _ hH₀ (lv_sub hl₀ [0, 1, 2, 3, 4, 5] rfl)
  · refine lv_aload_n C₀.1.1 C₀.1.2.1 dX9_paints_14 rfl (lv_at hl₀ 0 rfl) ?_
    refine lv_iload_n C₀.1.1 C₀.1.2.1 dX9_paints_15 rfl (lv_at hl₀ 3 rfl) ?_
    refine lv_iload C₀.1.1 C₀.1.2.1 dX9_paints_16 (lv_at hl₀ 4 rfl) ?_
    refine xc_Vi (wr := [(q₀ 3, .inl (k₀ 0, 306, .inl (ia pa₀)))]) (ws' := fun _ => [mO a₀ q₀ 0 un₀ mf₀ ty₀ fr₀ tt₀ tk₀ fa₀ (bz hf₀) (bz ho₀) km₀, (q₀ 1, .inl (k₀ 0, 51, .inl (ia s₀))), (q₀ 3, .inl (k₀ 0, 306, .inl (ia pa₀)))]) (As := [.int (iI x2₀), .int (iI y2₀)]) (rest := []) C₀ hH₀ (c_X9_isCell lL₀ D₀ k₀ H₀.size a₀ q₀ 0 un₀ mf₀ ty₀ fr₀ tt₀ tk₀ fa₀ hf₀ ho₀ km₀ s₀ x2₀ y2₀ (by omega) (by omega) (by omega) (by omega)) ZT_b (fun _ _ _ => trivial) (cwV 2 C₀.1.2.2.2.2 gX9_paints_X9_isCell rfl rfl rfl (by decide +kernel) ⟨Nat.le_of_ble_eq_true rfl, Nat.le_of_ble_eq_true rfl⟩) [0, 1] [2] [1, 2, 0] rfl rfl (by decide) (by decide) (by decide) (fun _ => rfl) (by decide) (q0 := 0) rfl rfl rfl hl₀.1 rfl (Nat.le_of_ble_eq_true rfl) dX9_paints_18 ⟨Nat.le_of_ble_eq_true rfl, Nat.le_of_ble_eq_true rfl⟩ (fun _ _ H₀ locs₀ hH₀ => ?_)
    refine xp_eq (tgt := 45) C₀.1.1 C₀.1.2.1 dX9_paints_21 (by decide) (fun h_2₀ => ?_) (fun h_2₀ => ?_)
    · exact L45₀  (by omega) _ _ _ hH₀ (lv_sub hl₀ [0, 1, 2, 3, 4, 5] rfl)
    · refine lv_iload_n C₀.1.1 C₀.1.2.1 dX9_paints_24 rfl (lv_at hl₀ 3 rfl) ?_
      refine lv_iload_n C₀.1.1 C₀.1.2.1 dX9_paints_25 rfl (lv_at hl₀ 1 rfl) ?_
      refine xi_clt (tgt := 45) C₀.1.1 C₀.1.2.1 dX9_paints_26 (by decide) (by omega) (by omega) (fun h_3₀ => ?_) (fun h_3₀ => ?_)
      · exact L45₀  (by omega) _ _ _ hH₀ (lv_sub hl₀ [0, 1, 2, 3, 4, 5] rfl)
      · refine lv_iload C₀.1.1 C₀.1.2.1 dX9_paints_29 (lv_at hl₀ 4 rfl) ?_
        refine lv_iload_n C₀.1.1 C₀.1.2.1 dX9_paints_31 rfl (lv_at hl₀ 2 rfl) ?_
        refine xi_clt (tgt := 45) C₀.1.1 C₀.1.2.1 dX9_paints_32 (by decide) (by omega) (by omega) (fun h_4₀ => ?_) (fun h_4₀ => ?_)
        · exact L45₀  (by omega) _ _ _ hH₀ (lv_sub hl₀ [0, 1, 2, 3, 4, 5] rfl)
        · refine lv_iload C₀.1.1 C₀.1.2.1 dX9_paints_35 (lv_at hl₀ 5 rfl) ?_
          refine lv_iconst (v := iI 0) C₀.1.1 C₀.1.2.1 dX9_paints_37 (by decide) ?_
          refine lv_iconst (v := iI 3) C₀.1.1 C₀.1.2.1 dX9_paints_38 (by decide) ?_
          refine xc_Si (wr := [mO a₀ q₀ 0 un₀ mf₀ ty₀ fr₀ tt₀ tk₀ fa₀ (bz hf₀) (bz ho₀) km₀, (q₀ 1, .inl (k₀ 0, 51, .inl (ia s₀))), (q₀ 3, .inl (k₀ 0, 306, .inl (ia pa₀)))]) (ws' := fun _ => [mO a₀ q₀ 0 un₀ mf₀ ty₀ fr₀ tt₀ tk₀ fa₀ (bz hf₀) (bz ho₀) km₀, (q₀ 1, .inl (k₀ 0, 51, .inl (ia s₀))), (q₀ 3, .inl (k₀ 0, 306, .inl (ia pa₀)))]) (As := [.int (iI h₀), .int (iI 0), .int (iI 3)]) (rest := []) C₀ hH₀ (c_X9_in lL₀ D₀ k₀ H₀.size h₀ 0 3 (by omega) (by omega) (by omega)) ZT_b (fun _ _ _ => trivial) (va_cwS 3 C₀.1.2.2.2.2 gX9_paints_X9_in rfl rfl rfl (by decide +kernel) ⟨Nat.le_of_ble_eq_true rfl, Nat.le_of_ble_eq_true rfl⟩) [] [0, 1, 2] [0, 1, 2] rfl rfl (by decide) (by decide) (by decide) (fun _ => rfl) (by decide) rfl hl₀.1 rfl (Nat.le_of_ble_eq_true rfl) dX9_paints_39 ⟨Nat.le_of_ble_eq_true rfl, Nat.le_of_ble_eq_true rfl⟩ (fun _ _ H₀ locs₀ hH₀ => ?_)
          refine xp_ne (tgt := 47) C₀.1.1 C₀.1.2.1 dX9_paints_42 (by decide) (fun h_5₀ => ?_) (fun h_5₀ => ?_)
          · have hok₀ : 0 ≤ x ∧ x ≤ x2₀ ∧ x2₀ < s₀ 0 ∧ 0 ≤ y₀ ∧ y₀ ≤ y2₀ ∧ y2₀ < s₀ 1 ∧ 0 ≤ h₀ ∧ h₀ ≤ 3 := by omega
            refine lv_iconst (v := iI 0) C₀.1.1 C₀.1.2.1 dX9_paints_47 (by decide) ?_
            refine lv_istore (lv' := [(6, .int (iI 0)), (0, .ref a₀), (1, .int (iI x)), (2, .int (iI y₀)), (3, .int (iI x2₀)), (4, .int (iI y2₀)), (5, .int (iI h₀))]) C₀.1.1 C₀.1.2.1 dX9_paints_48 hl₀ (by decide) rfl (fun ls₀ hl₀ => ?_)
            refine lv_iconst (v := iI 0) C₀.1.1 C₀.1.2.1 dX9_paints_50 (by decide) ?_
            refine lv_istore (lv' := [(7, .int (iI 0)), (6, .int (iI 0)), (0, .ref a₀), (1, .int (iI x)), (2, .int (iI y₀)), (3, .int (iI x2₀)), (4, .int (iI y2₀)), (5, .int (iI h₀))]) C₀.1.1 C₀.1.2.1 dX9_paints_51 hl₀ (by decide) rfl (fun ls₀ hl₀ => ?_)
            have L53₀ : ∀ (nn₀ : Nat), ∀ (n₀ : Int) (c₀ : Int), (n₀ = sI (fun c₀ => bz (mRect (s₀ 0) x y₀ x2₀ y2₀ c₀ && !(decide (s₀ (3 + c₀) = h₀)))) c₀) → (0 ≤ c₀ ∧ c₀ ≤ s₀ 0 * s₀ 1) → ((s₀ 0 * s₀ 1 - c₀) < (nn₀ : Int)) → ∀ (H₀ : Heap) (locs₀ : List Loc) (ls₀ : Array Slot), Hp D₀ A₀ sT₀.heap [mO a₀ q₀ 0 un₀ mf₀ ty₀ fr₀ tt₀ tk₀ fa₀ (bz hf₀) (bz ho₀) km₀, (q₀ 1, .inl (k₀ 0, 51, .inl (ia s₀))), (q₀ 3, .inl (k₀ 0, 306, .inl (ia pa₀)))] H₀ locs₀ → lv_has ls₀ 9 [(0, .ref a₀), (1, .int (iI x)), (2, .int (iI y₀)), (3, .int (iI x2₀)), (4, .int (iI y2₀)), (5, .int (iI h₀)), (6, .int (iI n₀)), (7, .int (iI c₀))] → W pP₀ lL₀ eN₀ rmX9_paints sT₀ mI₀ args₀ below₀ meth₀ cD₀ H₀ locs₀ 0 0 QQ₀ (F0 mI₀ 53 ls₀ []) := by
              intro nn₀
              induction nn₀ with
              | zero => intro n₀ c₀ i1₀ i2₀ hm₀; exact absurd hm₀ (by omega)
              | succ nn₀ ih53₀ =>
                intro n₀ c₀ i1₀ i2₀ hm53₀ H₀ locs₀ ls₀ hH₀ hl₀
                refine lv_iload C₀.1.1 C₀.1.2.1 dX9_paints_53 (lv_at hl₀ 7 rfl) ?_
                refine lv_aload_n C₀.1.1 C₀.1.2.1 dX9_paints_55 rfl (lv_at hl₀ 0 rfl) ?_
                refine xc_Vi (wr := [(q₀ 3, .inl (k₀ 0, 306, .inl (ia pa₀)))]) (ws' := fun _ => [mO a₀ q₀ 0 un₀ mf₀ ty₀ fr₀ tt₀ tk₀ fa₀ (bz hf₀) (bz ho₀) km₀, (q₀ 1, .inl (k₀ 0, 51, .inl (ia s₀))), (q₀ 3, .inl (k₀ 0, 306, .inl (ia pa₀)))]) (As := []) (rest := [.int (iI c₀)]) C₀ hH₀ (c_X9_cells lL₀ D₀ k₀ H₀.size a₀ q₀ 0 un₀ mf₀ ty₀ fr₀ tt₀ tk₀ fa₀ hf₀ ho₀ km₀ s₀ ) ZT_b (fun _ _ _ => trivial) (cwV 0 C₀.1.2.2.2.2 gX9_paints_X9_cells rfl rfl rfl (by decide +kernel) ⟨Nat.le_of_ble_eq_true rfl, Nat.le_of_ble_eq_true rfl⟩) [0, 1] [2] [1, 2, 0] rfl rfl (by decide) (by decide) (by decide) (fun _ => rfl) (by decide) (q0 := 0) rfl rfl rfl hl₀.1 rfl (Nat.le_of_ble_eq_true rfl) dX9_paints_56 ⟨Nat.le_of_ble_eq_true rfl, Nat.le_of_ble_eq_true rfl⟩ (fun _ _ H₀ locs₀ hH₀ => ?_)
                refine xi_cge (tgt := 139) C₀.1.1 C₀.1.2.1 dX9_paints_59 (by decide) (by omega) (by omega) (fun h_6₀ => ?_) (fun h_6₀ => ?_)
                · have hc24₀ : c₀ = s₀ 0 * s₀ 1 := by omega
                  have hnn₀ : n₀ = mPaintN s₀ x y₀ x2₀ y2₀ h₀ := by rw [i1₀, hc24₀]; rfl
                  have hnr₀ := sI_rg (f := fun c₀ => bz (mRect (s₀ 0) x y₀ x2₀ y2₀ c₀ && !(decide (s₀ (3 + c₀) = h₀)))) (B := 1) i2₀.1 (fun j₀ _ _ => bz_rg _)
                  rw [← i1₀] at hnr₀
                  refine lv_iload C₀.1.1 C₀.1.2.1 dX9_paints_139 (lv_at hl₀ 6 rfl) ?_
                  refine xi_zne (tgt := 147) C₀.1.1 C₀.1.2.1 dX9_paints_141 (by decide) (by omega) (fun h_7₀ => ?_) (fun h_7₀ => ?_)
                  · refine lv_aload_n C₀.1.1 C₀.1.2.1 dX9_paints_147 rfl (lv_at hl₀ 0 rfl) ?_
                    refine xc_Vv (wr := []) (ws' := fun _ => [mO a₀ q₀ 0 (mUn un₀) mf₀ ty₀ fr₀ tt₀ tk₀ fa₀ (bz hf₀) (bz ho₀) km₀, (q₀ 1, .inl (k₀ 0, 51, .inl (ia s₀))), (q₀ 3, .inl (k₀ 0, 306, .inl (ia (mPa pa₀ s₀ un₀))))]) (As := []) (rest := []) C₀ hH₀ (c_X9_notes lL₀ D₀ k₀ H₀.size a₀ q₀ 0 un₀ mf₀ ty₀ fr₀ tt₀ tk₀ fa₀ hf₀ ho₀ km₀ s₀ pa₀ (by omega)) ZT_b (fun _ _ _ => trivial) (cwV 0 C₀.1.2.2.2.2 gX9_paints_X9_notes rfl rfl rfl (by decide +kernel) ⟨Nat.le_of_ble_eq_true rfl, Nat.le_of_ble_eq_true rfl⟩) [0, 1, 2] [] [0, 1, 2] rfl rfl (by decide) (by decide) (by decide) (fun _ => rfl) (by decide) (q0 := 0) rfl rfl rfl hl₀.1 rfl (Nat.le_of_ble_eq_true rfl) dX9_paints_148 ⟨Nat.le_of_ble_eq_true rfl, Nat.le_of_ble_eq_true rfl⟩ (fun _ _ H₀ locs₀ hH₀ => ?_)
                    refine lv_iconst (v := iI 0) C₀.1.1 C₀.1.2.1 dX9_paints_151 (by decide) ?_
                    refine lv_istore (lv' := [(7, .int (iI 0)), (0, .ref a₀), (1, .int (iI x)), (2, .int (iI y₀)), (3, .int (iI x2₀)), (4, .int (iI y2₀)), (5, .int (iI h₀)), (6, .int (iI n₀))]) C₀.1.1 C₀.1.2.1 dX9_paints_152 hl₀ (by decide) rfl (fun ls₀ hl₀ => ?_)
                    have L154₀ : ∀ (nn₀ : Nat), ∀ (c2₀ : Int) (sq₀ : Int → Int), (sq₀ = mPaintS s₀ x y₀ x2₀ y2₀ h₀ c2₀) → (0 ≤ c2₀ ∧ c2₀ ≤ s₀ 0 * s₀ 1) → ((s₀ 0 * s₀ 1 - c2₀) < (nn₀ : Int)) → ∀ (H₀ : Heap) (locs₀ : List Loc) (ls₀ : Array Slot), Hp D₀ A₀ sT₀.heap [mO a₀ q₀ 0 (mUn un₀) mf₀ ty₀ fr₀ tt₀ tk₀ fa₀ (bz hf₀) (bz ho₀) km₀, (q₀ 1, .inl (k₀ 0, 51, .inl (ia sq₀))), (q₀ 3, .inl (k₀ 0, 306, .inl (ia (mPa pa₀ s₀ un₀))))] H₀ locs₀ → lv_has ls₀ 9 [(0, .ref a₀), (1, .int (iI x)), (2, .int (iI y₀)), (3, .int (iI x2₀)), (4, .int (iI y2₀)), (5, .int (iI h₀)), (6, .int (iI n₀)), (7, .int (iI c2₀))] → W pP₀ lL₀ eN₀ rmX9_paints sT₀ mI₀ args₀ below₀ meth₀ cD₀ H₀ locs₀ 0 0 QQ₀ (F0 mI₀ 154 ls₀ []) := by
                      intro nn₀
                      induction nn₀ with
                      | zero => intro c2₀ sq₀ j1₀ j2₀ hm₀; exact absurd hm₀ (by omega)
                      | succ nn₀ ih154₀ =>
                        intro c2₀ sq₀ j1₀ j2₀ hm154₀ H₀ locs₀ ls₀ hH₀ hl₀
                        have e0₀ : sq₀ 0 = s₀ 0 := by rw [j1₀]; exact mPaintS_lo (by decide)
                        have e1₀ : sq₀ 1 = s₀ 1 := by rw [j1₀]; exact mPaintS_lo (by decide)
                        have e01₀ : sq₀ 0 * sq₀ 1 = s₀ 0 * s₀ 1 := by rw [e0₀, e1₀]
                        have e2₀ : c2₀ % sq₀ 0 = c2₀ % s₀ 0 := by rw [e0₀]
                        have e3₀ : c2₀ / sq₀ 0 = c2₀ / s₀ 0 := by rw [e0₀]
                        have e4₀ : sq₀ (3 + c2₀) = s₀ (3 + c2₀) := by rw [j1₀]; exact mPaintS_hi
                        refine lv_iload C₀.1.1 C₀.1.2.1 dX9_paints_154 (lv_at hl₀ 7 rfl) ?_
                        refine lv_aload_n C₀.1.1 C₀.1.2.1 dX9_paints_156 rfl (lv_at hl₀ 0 rfl) ?_
                        refine xc_Vi (wr := [(q₀ 3, .inl (k₀ 0, 306, .inl (ia (mPa pa₀ s₀ un₀))))]) (ws' := fun _ => [mO a₀ q₀ 0 (mUn un₀) mf₀ ty₀ fr₀ tt₀ tk₀ fa₀ (bz hf₀) (bz ho₀) km₀, (q₀ 1, .inl (k₀ 0, 51, .inl (ia sq₀))), (q₀ 3, .inl (k₀ 0, 306, .inl (ia (mPa pa₀ s₀ un₀))))]) (As := []) (rest := [.int (iI c2₀)]) C₀ hH₀ (c_X9_cells lL₀ D₀ k₀ H₀.size a₀ q₀ 0 (mUn un₀) mf₀ ty₀ fr₀ tt₀ tk₀ fa₀ hf₀ ho₀ km₀ sq₀ ) ZT_b (fun _ _ _ => trivial) (cwV 0 C₀.1.2.2.2.2 gX9_paints_X9_cells rfl rfl rfl (by decide +kernel) ⟨Nat.le_of_ble_eq_true rfl, Nat.le_of_ble_eq_true rfl⟩) [0, 1] [2] [1, 2, 0] rfl rfl (by decide) (by decide) (by decide) (fun _ => rfl) (by decide) (q0 := 0) rfl rfl rfl hl₀.1 rfl (Nat.le_of_ble_eq_true rfl) dX9_paints_157 ⟨Nat.le_of_ble_eq_true rfl, Nat.le_of_ble_eq_true rfl⟩ (fun _ _ H₀ locs₀ hH₀ => ?_)
                        refine xi_cge (tgt := 239) C₀.1.1 C₀.1.2.1 dX9_paints_160 (by decide) (by omega) (by omega) (fun h_8₀ => ?_) (fun h_8₀ => ?_)
                        · have hc2₀ : c2₀ = s₀ 0 * s₀ 1 := by omega
                          refine lv_iload C₀.1.1 C₀.1.2.1 dX9_paints_239 (lv_at hl₀ 6 rfl) ?_
                          exact xr_i C₀ hH₀ hlk₀ hr₀ hQ₀ rfl hAe₀ () trivial (by unfold mPaintR; rw [if_pos hok₀, if_neg (by omega), hnn₀]) (by rw [show mPaintC s₀ x y₀ x2₀ y2₀ h₀ = true from decide_eq_true (by omega), j1₀, hc2₀]; rfl) dX9_paints_241
                        · have hdm2₀ := dm_rg hs0₀ (show 0 ≤ c2₀ ∧ c2₀ < s₀ 0 * s₀ 1 by omega)
                          have L203₀ : ∀ (b2₀ : Bool), (b2₀ = mRect (s₀ 0) x y₀ x2₀ y2₀ c2₀) → ∀ (H₀ : Heap) (locs₀ : List Loc) (ls₀ : Array Slot), Hp D₀ A₀ sT₀.heap [mO a₀ q₀ 0 (mUn un₀) mf₀ ty₀ fr₀ tt₀ tk₀ fa₀ (bz hf₀) (bz ho₀) km₀, (q₀ 1, .inl (k₀ 0, 51, .inl (ia sq₀))), (q₀ 3, .inl (k₀ 0, 306, .inl (ia (mPa pa₀ s₀ un₀))))] H₀ locs₀ → lv_has ls₀ 9 [(0, .ref a₀), (1, .int (iI x)), (2, .int (iI y₀)), (3, .int (iI x2₀)), (4, .int (iI y2₀)), (5, .int (iI h₀)), (6, .int (iI n₀)), (7, .int (iI c2₀))] → W pP₀ lL₀ eN₀ rmX9_paints sT₀ mI₀ args₀ below₀ meth₀ cD₀ H₀ locs₀ 0 0 QQ₀ (F0 mI₀ 203 ls₀ [.int (iI (bz b2₀))]) := by
                            intro b2₀ jb2₀ H₀ locs₀ ls₀ hH₀ hl₀
                            refine lv_istore (lv' := [(8, .int (iI (bz b2₀))), (0, .ref a₀), (1, .int (iI x)), (2, .int (iI y₀)), (3, .int (iI x2₀)), (4, .int (iI y2₀)), (5, .int (iI h₀)), (6, .int (iI n₀)), (7, .int (iI c2₀))]) C₀.1.1 C₀.1.2.1 dX9_paints_203 hl₀ (by decide) rfl (fun ls₀ hl₀ => ?_)
                            refine lv_aload_n C₀.1.1 C₀.1.2.1 dX9_paints_205 rfl (lv_at hl₀ 1 rfl) ?_
                            refine xw_get C₀ hH₀ 0 rfl rfl 1 (by decide) iw_X9_paints_X9 (by decide +kernel) (v := .ref (q₀ 1)) rfl dX9_paints_206 ?_
                            refine lv_iconst (v := iI 3) C₀.1.1 C₀.1.2.1 dX9_paints_209 (by decide) ?_
                            refine lv_iload C₀.1.1 C₀.1.2.1 dX9_paints_210 (lv_at hl₀ 8 rfl) ?_
                            refine xi_add C₀.1.1 C₀.1.2.1 dX9_paints_212 ?_
                            have L232₀ : ∀ (v₀ : Int), (v₀ = if mRect (s₀ 0) x y₀ x2₀ y2₀ c2₀ = true then h₀ else s₀ (3 + c2₀)) → ∀ (H₀ : Heap) (locs₀ : List Loc) (ls₀ : Array Slot), Hp D₀ A₀ sT₀.heap [mO a₀ q₀ 0 (mUn un₀) mf₀ ty₀ fr₀ tt₀ tk₀ fa₀ (bz hf₀) (bz ho₀) km₀, (q₀ 1, .inl (k₀ 0, 51, .inl (ia sq₀))), (q₀ 3, .inl (k₀ 0, 306, .inl (ia (mPa pa₀ s₀ un₀))))] H₀ locs₀ → lv_has ls₀ 9 [(0, .ref a₀), (1, .int (iI x)), (2, .int (iI y₀)), (3, .int (iI x2₀)), (4, .int (iI y2₀)), (5, .int (iI h₀)), (6, .int (iI n₀)), (7, .int (iI c2₀)), (8, .int (iI (bz b2₀)))] → W pP₀ lL₀ eN₀ rmX9_paints sT₀ mI₀ args₀ below₀ meth₀ cD₀ H₀ locs₀ 0 0 QQ₀ (F0 mI₀ 232 ls₀ [.int (iI v₀), .int (iI (3 + c2₀)), .ref (q₀ 1)]) := by
                              intro v₀ jv₀ H₀ locs₀ ls₀ hH₀ hl₀
                              refine xw_ist (ws' := [mO a₀ q₀ 0 (mUn un₀) mf₀ ty₀ fr₀ tt₀ tk₀ fa₀ (bz hf₀) (bz ho₀) km₀, (q₀ 1, .inl (k₀ 0, 51, .inl (ia (uz sq₀ (3 + c2₀) v₀)))), (q₀ 3, .inl (k₀ 0, 306, .inl (ia (mPa pa₀ s₀ un₀))))]) C₀ hH₀ 1 0 rfl rfl (z := 3 + c2₀) (v := v₀) (by omega) (by omega) (by decide) dX9_paints_232 rfl (fun H₀ locs₀ hH₀ => ?_)
                              refine lv_iinc (v := iI (c2₀ + 1)) (lv' := [(7, .int (iI (c2₀ + 1))), (0, .ref a₀), (1, .int (iI x)), (2, .int (iI y₀)), (3, .int (iI x2₀)), (4, .int (iI y2₀)), (5, .int (iI h₀)), (6, .int (iI n₀)), (8, .int (iI (bz b2₀)))]) C₀.1.1 C₀.1.2.1 dX9_paints_233 hl₀ (k := 7) rfl (iI_add _ (1)) (by decide) rfl (fun ls₀ hl₀ => ?_)
                              refine lv_goto (tgt := 154) C₀.1.1 C₀.1.2.1 dX9_paints_236 (by decide) ?_
                              exact ih154₀ (c2₀ + 1) (uz sq₀ (3 + c2₀) v₀) (by rw [j1₀]; exact mPaintS_s j2₀.1 jv₀) (by omega) (by omega) _ _ _ hH₀ (lv_sub hl₀ [1, 2, 3, 4, 5, 6, 7, 0] rfl)
                            refine lv_iload C₀.1.1 C₀.1.2.1 dX9_paints_213 (lv_at hl₀ 0 rfl) ?_
                            refine xb_eq (tgt := 223) C₀.1.1 C₀.1.2.1 dX9_paints_215 (by decide) (fun h_9₀ => ?_) (fun h_9₀ => ?_)
                            · refine lv_aload_n C₀.1.1 C₀.1.2.1 dX9_paints_223 rfl (lv_at hl₀ 1 rfl) ?_
                              refine xw_get C₀ hH₀ 0 rfl rfl 1 (by decide) iw_X9_paints_X9 (by decide +kernel) (v := .ref (q₀ 1)) rfl dX9_paints_224 ?_
                              refine lv_iconst (v := iI 3) C₀.1.1 C₀.1.2.1 dX9_paints_227 (by decide) ?_
                              refine lv_iload C₀.1.1 C₀.1.2.1 dX9_paints_228 (lv_at hl₀ 8 rfl) ?_
                              refine xi_add C₀.1.1 C₀.1.2.1 dX9_paints_230 ?_
                              refine xw_ild C₀ hH₀ 1 0 rfl rfl (z := 3 + c2₀) (by omega) (by omega) (by decide) dX9_paints_231 ?_
                              exact L232₀ (sq₀ (3 + c2₀)) ((by simp_all)) _ _ _ hH₀ (lv_sub hl₀ [1, 2, 3, 4, 5, 6, 7, 8, 0] rfl)
                            · refine lv_iload C₀.1.1 C₀.1.2.1 dX9_paints_218 (lv_at hl₀ 6 rfl) ?_
                              refine lv_goto (tgt := 232) C₀.1.1 C₀.1.2.1 dX9_paints_220 (by decide) ?_
                              exact L232₀ h₀ ((by simp_all)) _ _ _ hH₀ (lv_sub hl₀ [1, 2, 3, 4, 5, 6, 7, 8, 0] rfl)
                          refine lv_iload C₀.1.1 C₀.1.2.1 dX9_paints_163 (lv_at hl₀ 7 rfl) ?_
                          refine lv_aload_n C₀.1.1 C₀.1.2.1 dX9_paints_165 rfl (lv_at hl₀ 0 rfl) ?_
                          refine xw_get C₀ hH₀ 0 rfl rfl 1 (by decide) iw_X9_paints_X9 (by decide +kernel) (v := .ref (q₀ 1)) rfl dX9_paints_166 ?_
                          refine lv_iconst (v := iI 0) C₀.1.1 C₀.1.2.1 dX9_paints_169 (by decide) ?_
                          refine xw_ild C₀ hH₀ 1 0 rfl rfl (z := 0) (by omega) (by omega) (by decide) dX9_paints_170 ?_
                          refine xi_rem C₀.1.1 C₀.1.2.1 dX9_paints_171 (by omega) (by omega) ?_
                          refine lv_iload_n C₀.1.1 C₀.1.2.1 dX9_paints_172 rfl (lv_at hl₀ 1 rfl) ?_
                          refine lv_iload_n C₀.1.1 C₀.1.2.1 dX9_paints_173 rfl (lv_at hl₀ 3 rfl) ?_
                          refine xc_Si (wr := [mO a₀ q₀ 0 (mUn un₀) mf₀ ty₀ fr₀ tt₀ tk₀ fa₀ (bz hf₀) (bz ho₀) km₀, (q₀ 1, .inl (k₀ 0, 51, .inl (ia sq₀))), (q₀ 3, .inl (k₀ 0, 306, .inl (ia (mPa pa₀ s₀ un₀))))]) (ws' := fun _ => [mO a₀ q₀ 0 (mUn un₀) mf₀ ty₀ fr₀ tt₀ tk₀ fa₀ (bz hf₀) (bz ho₀) km₀, (q₀ 1, .inl (k₀ 0, 51, .inl (ia sq₀))), (q₀ 3, .inl (k₀ 0, 306, .inl (ia (mPa pa₀ s₀ un₀))))]) (As := [.int (iI (c2₀ % (sq₀ 0))), .int (iI x), .int (iI x2₀)]) (rest := []) C₀ hH₀ (c_X9_in lL₀ D₀ k₀ H₀.size (c2₀ % (sq₀ 0)) x x2₀ (by omega) (by omega) (by omega)) ZT_b (fun _ _ _ => trivial) (va_cwS 3 C₀.1.2.2.2.2 gX9_paints_X9_in rfl rfl rfl (by decide +kernel) ⟨Nat.le_of_ble_eq_true rfl, Nat.le_of_ble_eq_true rfl⟩) [] [0, 1, 2] [0, 1, 2] rfl rfl (by decide) (by decide) (by decide) (fun _ => rfl) (by decide) rfl hl₀.1 rfl (Nat.le_of_ble_eq_true rfl) dX9_paints_174 ⟨Nat.le_of_ble_eq_true rfl, Nat.le_of_ble_eq_true rfl⟩ (fun _ _ H₀ locs₀ hH₀ => ?_)
                          refine xp_eq (tgt := 202) C₀.1.1 C₀.1.2.1 dX9_paints_177 (by decide) (fun h_10₀ => ?_) (fun h_10₀ => ?_)
                          · refine lv_iconst (v := iI 0) C₀.1.1 C₀.1.2.1 dX9_paints_202 (by decide) ?_
                            exact L203₀ false ((by unfold mRect; exact (decide_eq_false (by omega)).symm)) _ _ _ hH₀ (lv_sub hl₀ [0, 1, 2, 3, 4, 5, 6, 7] rfl)
                          · refine lv_iload C₀.1.1 C₀.1.2.1 dX9_paints_180 (lv_at hl₀ 7 rfl) ?_
                            refine lv_aload_n C₀.1.1 C₀.1.2.1 dX9_paints_182 rfl (lv_at hl₀ 0 rfl) ?_
                            refine xw_get C₀ hH₀ 0 rfl rfl 1 (by decide) iw_X9_paints_X9 (by decide +kernel) (v := .ref (q₀ 1)) rfl dX9_paints_183 ?_
                            refine lv_iconst (v := iI 0) C₀.1.1 C₀.1.2.1 dX9_paints_186 (by decide) ?_
                            refine xw_ild C₀ hH₀ 1 0 rfl rfl (z := 0) (by omega) (by omega) (by decide) dX9_paints_187 ?_
                            refine xi_div C₀.1.1 C₀.1.2.1 dX9_paints_188 (by omega) (by omega) ?_
                            refine lv_iload_n C₀.1.1 C₀.1.2.1 dX9_paints_189 rfl (lv_at hl₀ 2 rfl) ?_
                            refine lv_iload C₀.1.1 C₀.1.2.1 dX9_paints_190 (lv_at hl₀ 4 rfl) ?_
                            refine xc_Si (wr := [mO a₀ q₀ 0 (mUn un₀) mf₀ ty₀ fr₀ tt₀ tk₀ fa₀ (bz hf₀) (bz ho₀) km₀, (q₀ 1, .inl (k₀ 0, 51, .inl (ia sq₀))), (q₀ 3, .inl (k₀ 0, 306, .inl (ia (mPa pa₀ s₀ un₀))))]) (ws' := fun _ => [mO a₀ q₀ 0 (mUn un₀) mf₀ ty₀ fr₀ tt₀ tk₀ fa₀ (bz hf₀) (bz ho₀) km₀, (q₀ 1, .inl (k₀ 0, 51, .inl (ia sq₀))), (q₀ 3, .inl (k₀ 0, 306, .inl (ia (mPa pa₀ s₀ un₀))))]) (As := [.int (iI (c2₀ / (sq₀ 0))), .int (iI y₀), .int (iI y2₀)]) (rest := []) C₀ hH₀ (c_X9_in lL₀ D₀ k₀ H₀.size (c2₀ / (sq₀ 0)) y₀ y2₀ (by omega) (by omega) (by omega)) ZT_b (fun _ _ _ => trivial) (va_cwS 3 C₀.1.2.2.2.2 gX9_paints_X9_in rfl rfl rfl (by decide +kernel) ⟨Nat.le_of_ble_eq_true rfl, Nat.le_of_ble_eq_true rfl⟩) [] [0, 1, 2] [0, 1, 2] rfl rfl (by decide) (by decide) (by decide) (fun _ => rfl) (by decide) rfl hl₀.1 rfl (Nat.le_of_ble_eq_true rfl) dX9_paints_192 ⟨Nat.le_of_ble_eq_true rfl, Nat.le_of_ble_eq_true rfl⟩ (fun _ _ H₀ locs₀ hH₀ => ?_)
                            refine xp_eq (tgt := 202) C₀.1.1 C₀.1.2.1 dX9_paints_195 (by decide) (fun h_11₀ => ?_) (fun h_11₀ => ?_)
                            · refine lv_iconst (v := iI 0) C₀.1.1 C₀.1.2.1 dX9_paints_202 (by decide) ?_
                              exact L203₀ false ((by unfold mRect; exact (decide_eq_false (by omega)).symm)) _ _ _ hH₀ (lv_sub hl₀ [0, 1, 2, 3, 4, 5, 6, 7] rfl)
                            · refine lv_iconst (v := iI 1) C₀.1.1 C₀.1.2.1 dX9_paints_198 (by decide) ?_
                              refine lv_goto (tgt := 203) C₀.1.1 C₀.1.2.1 dX9_paints_199 (by decide) ?_
                              exact L203₀ true ((by unfold mRect; exact (decide_eq_true (by omega)).symm)) _ _ _ hH₀ (lv_sub hl₀ [0, 1, 2, 3, 4, 5, 6, 7] rfl)
                    exact L154₀ (((s₀ 0 * s₀ 1 - 0) : Int).toNat + 1) 0 s₀ ((mPaintS_0 s₀ x y₀ x2₀ y2₀ h₀).symm) (by omega) (by omega) _ _ _ hH₀ (lv_sub hl₀ [1, 2, 3, 4, 5, 6, 7, 0] rfl)
                  · refine lv_bipush (v := iI (-2)) C₀.1.1 C₀.1.2.1 dX9_paints_144 (by decide) ?_
                    exact xr_i C₀ hH₀ hlk₀ hr₀ hQ₀ rfl hAe₀ () trivial (by unfold mPaintR; rw [if_pos hok₀, if_pos (by omega)]) (by rw [show mPaintC s₀ x y₀ x2₀ y2₀ h₀ = false from decide_eq_false (by omega)]; rfl) dX9_paints_146
                · have hdm₀ := dm_rg hs0₀ (show 0 ≤ c₀ ∧ c₀ < s₀ 0 * s₀ 1 by omega)
                  have hh3₀ := hsh₀ (3 + c₀) (by omega) (by omega)
                  have L102₀ : ∀ (b₀ : Bool), (b₀ = mRect (s₀ 0) x y₀ x2₀ y2₀ c₀) → ∀ (H₀ : Heap) (locs₀ : List Loc) (ls₀ : Array Slot), Hp D₀ A₀ sT₀.heap [mO a₀ q₀ 0 un₀ mf₀ ty₀ fr₀ tt₀ tk₀ fa₀ (bz hf₀) (bz ho₀) km₀, (q₀ 1, .inl (k₀ 0, 51, .inl (ia s₀))), (q₀ 3, .inl (k₀ 0, 306, .inl (ia pa₀)))] H₀ locs₀ → lv_has ls₀ 9 [(0, .ref a₀), (1, .int (iI x)), (2, .int (iI y₀)), (3, .int (iI x2₀)), (4, .int (iI y2₀)), (5, .int (iI h₀)), (6, .int (iI n₀)), (7, .int (iI c₀))] → W pP₀ lL₀ eN₀ rmX9_paints sT₀ mI₀ args₀ below₀ meth₀ cD₀ H₀ locs₀ 0 0 QQ₀ (F0 mI₀ 102 ls₀ [.int (iI (bz b₀))]) := by
                    intro b₀ jb₀ H₀ locs₀ ls₀ hH₀ hl₀
                    refine lv_istore (lv' := [(8, .int (iI (bz b₀))), (0, .ref a₀), (1, .int (iI x)), (2, .int (iI y₀)), (3, .int (iI x2₀)), (4, .int (iI y2₀)), (5, .int (iI h₀)), (6, .int (iI n₀)), (7, .int (iI c₀))]) C₀.1.1 C₀.1.2.1 dX9_paints_102 hl₀ (by decide) rfl (fun ls₀ hl₀ => ?_)
                    refine lv_iload C₀.1.1 C₀.1.2.1 dX9_paints_104 (lv_at hl₀ 7 rfl) ?_
                    have L130₀ : ∀ (d₀ : Int), (d₀ = bz (mRect (s₀ 0) x y₀ x2₀ y2₀ c₀ && !(decide (s₀ (3 + c₀) = h₀)))) → ∀ (H₀ : Heap) (locs₀ : List Loc) (ls₀ : Array Slot), Hp D₀ A₀ sT₀.heap [mO a₀ q₀ 0 un₀ mf₀ ty₀ fr₀ tt₀ tk₀ fa₀ (bz hf₀) (bz ho₀) km₀, (q₀ 1, .inl (k₀ 0, 51, .inl (ia s₀))), (q₀ 3, .inl (k₀ 0, 306, .inl (ia pa₀)))] H₀ locs₀ → lv_has ls₀ 9 [(0, .ref a₀), (1, .int (iI x)), (2, .int (iI y₀)), (3, .int (iI x2₀)), (4, .int (iI y2₀)), (5, .int (iI h₀)), (6, .int (iI n₀)), (7, .int (iI c₀)), (8, .int (iI (bz b₀)))] → W pP₀ lL₀ eN₀ rmX9_paints sT₀ mI₀ args₀ below₀ meth₀ cD₀ H₀ locs₀ 0 0 QQ₀ (F0 mI₀ 130 ls₀ [.int (iI d₀), .int (iI n₀)]) := by
                      intro d₀ jd₀ H₀ locs₀ ls₀ hH₀ hl₀
                      refine xi_add C₀.1.1 C₀.1.2.1 dX9_paints_130 ?_
                      refine lv_istore (lv' := [(6, .int (iI (n₀ + d₀))), (0, .ref a₀), (1, .int (iI x)), (2, .int (iI y₀)), (3, .int (iI x2₀)), (4, .int (iI y2₀)), (5, .int (iI h₀)), (7, .int (iI c₀)), (8, .int (iI (bz b₀)))]) C₀.1.1 C₀.1.2.1 dX9_paints_131 hl₀ (by decide) rfl (fun ls₀ hl₀ => ?_)
                      refine lv_iinc (v := iI (c₀ + 1)) (lv' := [(7, .int (iI (c₀ + 1))), (6, .int (iI (n₀ + d₀))), (0, .ref a₀), (1, .int (iI x)), (2, .int (iI y₀)), (3, .int (iI x2₀)), (4, .int (iI y2₀)), (5, .int (iI h₀)), (8, .int (iI (bz b₀)))]) C₀.1.1 C₀.1.2.1 dX9_paints_133 hl₀ (k := 7) rfl (iI_add _ (1)) (by decide) rfl (fun ls₀ hl₀ => ?_)
                      refine lv_goto (tgt := 53) C₀.1.1 C₀.1.2.1 dX9_paints_136 (by decide) ?_
                      exact ih53₀ (n₀ + d₀) (c₀ + 1) (by rw [sI_s i2₀.1, ← i1₀, jd₀]) (by omega) (by omega) _ _ _ hH₀ (lv_sub hl₀ [2, 3, 4, 5, 6, 7, 1, 0] rfl)
                    refine lv_iload C₀.1.1 C₀.1.2.1 dX9_paints_106 (lv_at hl₀ 0 rfl) ?_
                    refine xb_eq (tgt := 129) C₀.1.1 C₀.1.2.1 dX9_paints_108 (by decide) (fun h_12₀ => ?_) (fun h_12₀ => ?_)
                    · refine lv_iconst (v := iI 0) C₀.1.1 C₀.1.2.1 dX9_paints_129 (by decide) ?_
                      exact L130₀ 0 ((by simp_all [bz])) _ _ _ hH₀ (lv_sub hl₀ [1, 2, 3, 4, 5, 6, 7, 8, 0] rfl)
                    · refine lv_aload_n C₀.1.1 C₀.1.2.1 dX9_paints_111 rfl (lv_at hl₀ 1 rfl) ?_
                      refine xw_get C₀ hH₀ 0 rfl rfl 1 (by decide) iw_X9_paints_X9 (by decide +kernel) (v := .ref (q₀ 1)) rfl dX9_paints_112 ?_
                      refine lv_iconst (v := iI 3) C₀.1.1 C₀.1.2.1 dX9_paints_115 (by decide) ?_
                      refine lv_iload C₀.1.1 C₀.1.2.1 dX9_paints_116 (lv_at hl₀ 8 rfl) ?_
                      refine xi_add C₀.1.1 C₀.1.2.1 dX9_paints_118 ?_
                      refine xw_ild C₀ hH₀ 1 0 rfl rfl (z := 3 + c₀) (by omega) (by omega) (by decide) dX9_paints_119 ?_
                      refine lv_iload C₀.1.1 C₀.1.2.1 dX9_paints_120 (lv_at hl₀ 6 rfl) ?_
                      refine xi_ceq (tgt := 129) C₀.1.1 C₀.1.2.1 dX9_paints_122 (by decide) (by omega) (by omega) (fun h_13₀ => ?_) (fun h_13₀ => ?_)
                      · refine lv_iconst (v := iI 0) C₀.1.1 C₀.1.2.1 dX9_paints_129 (by decide) ?_
                        exact L130₀ 0 ((by simp_all [bz])) _ _ _ hH₀ (lv_sub hl₀ [1, 2, 3, 4, 5, 6, 7, 8, 0] rfl)
                      · refine lv_iconst (v := iI 1) C₀.1.1 C₀.1.2.1 dX9_paints_125 (by decide) ?_
                        refine lv_goto (tgt := 130) C₀.1.1 C₀.1.2.1 dX9_paints_126 (by decide) ?_
                        exact L130₀ 1 ((by simp_all [bz])) _ _ _ hH₀ (lv_sub hl₀ [1, 2, 3, 4, 5, 6, 7, 8, 0] rfl)
                  refine lv_iload C₀.1.1 C₀.1.2.1 dX9_paints_62 (lv_at hl₀ 7 rfl) ?_
                  refine lv_aload_n C₀.1.1 C₀.1.2.1 dX9_paints_64 rfl (lv_at hl₀ 0 rfl) ?_
                  refine xw_get C₀ hH₀ 0 rfl rfl 1 (by decide) iw_X9_paints_X9 (by decide +kernel) (v := .ref (q₀ 1)) rfl dX9_paints_65 ?_
                  refine lv_iconst (v := iI 0) C₀.1.1 C₀.1.2.1 dX9_paints_68 (by decide) ?_
                  refine xw_ild C₀ hH₀ 1 0 rfl rfl (z := 0) (by omega) (by omega) (by decide) dX9_paints_69 ?_
                  refine xi_rem C₀.1.1 C₀.1.2.1 dX9_paints_70 (by omega) (by omega) ?_
                  refine lv_iload_n C₀.1.1 C₀.1.2.1 dX9_paints_71 rfl (lv_at hl₀ 1 rfl) ?_
                  refine lv_iload_n C₀.1.1 C₀.1.2.1 dX9_paints_72 rfl (lv_at hl₀ 3 rfl) ?_
                  refine xc_Si (wr := [mO a₀ q₀ 0 un₀ mf₀ ty₀ fr₀ tt₀ tk₀ fa₀ (bz hf₀) (bz ho₀) km₀, (q₀ 1, .inl (k₀ 0, 51, .inl (ia s₀))), (q₀ 3, .inl (k₀ 0, 306, .inl (ia pa₀)))]) (ws' := fun _ => [mO a₀ q₀ 0 un₀ mf₀ ty₀ fr₀ tt₀ tk₀ fa₀ (bz hf₀) (bz ho₀) km₀, (q₀ 1, .inl (k₀ 0, 51, .inl (ia s₀))), (q₀ 3, .inl (k₀ 0, 306, .inl (ia pa₀)))]) (As := [.int (iI (c₀ % (s₀ 0))), .int (iI x), .int (iI x2₀)]) (rest := []) C₀ hH₀ (c_X9_in lL₀ D₀ k₀ H₀.size (c₀ % (s₀ 0)) x x2₀ (by omega) (by omega) (by omega)) ZT_b (fun _ _ _ => trivial) (va_cwS 3 C₀.1.2.2.2.2 gX9_paints_X9_in rfl rfl rfl (by decide +kernel) ⟨Nat.le_of_ble_eq_true rfl, Nat.le_of_ble_eq_true rfl⟩) [] [0, 1, 2] [0, 1, 2] rfl rfl (by decide) (by decide) (by decide) (fun _ => rfl) (by decide) rfl hl₀.1 rfl (Nat.le_of_ble_eq_true rfl) dX9_paints_73 ⟨Nat.le_of_ble_eq_true rfl, Nat.le_of_ble_eq_true rfl⟩ (fun _ _ H₀ locs₀ hH₀ => ?_)
                  refine xp_eq (tgt := 101) C₀.1.1 C₀.1.2.1 dX9_paints_76 (by decide) (fun h_14₀ => ?_) (fun h_14₀ => ?_)
                  · refine lv_iconst (v := iI 0) C₀.1.1 C₀.1.2.1 dX9_paints_101 (by decide) ?_
                    exact L102₀ false ((by unfold mRect; exact (decide_eq_false (by omega)).symm)) _ _ _ hH₀ (lv_sub hl₀ [0, 1, 2, 3, 4, 5, 6, 7] rfl)
                  · refine lv_iload C₀.1.1 C₀.1.2.1 dX9_paints_79 (lv_at hl₀ 7 rfl) ?_
                    refine lv_aload_n C₀.1.1 C₀.1.2.1 dX9_paints_81 rfl (lv_at hl₀ 0 rfl) ?_
                    refine xw_get C₀ hH₀ 0 rfl rfl 1 (by decide) iw_X9_paints_X9 (by decide +kernel) (v := .ref (q₀ 1)) rfl dX9_paints_82 ?_
                    refine lv_iconst (v := iI 0) C₀.1.1 C₀.1.2.1 dX9_paints_85 (by decide) ?_
                    refine xw_ild C₀ hH₀ 1 0 rfl rfl (z := 0) (by omega) (by omega) (by decide) dX9_paints_86 ?_
                    refine xi_div C₀.1.1 C₀.1.2.1 dX9_paints_87 (by omega) (by omega) ?_
                    refine lv_iload_n C₀.1.1 C₀.1.2.1 dX9_paints_88 rfl (lv_at hl₀ 2 rfl) ?_
                    refine lv_iload C₀.1.1 C₀.1.2.1 dX9_paints_89 (lv_at hl₀ 4 rfl) ?_
                    refine xc_Si (wr := [mO a₀ q₀ 0 un₀ mf₀ ty₀ fr₀ tt₀ tk₀ fa₀ (bz hf₀) (bz ho₀) km₀, (q₀ 1, .inl (k₀ 0, 51, .inl (ia s₀))), (q₀ 3, .inl (k₀ 0, 306, .inl (ia pa₀)))]) (ws' := fun _ => [mO a₀ q₀ 0 un₀ mf₀ ty₀ fr₀ tt₀ tk₀ fa₀ (bz hf₀) (bz ho₀) km₀, (q₀ 1, .inl (k₀ 0, 51, .inl (ia s₀))), (q₀ 3, .inl (k₀ 0, 306, .inl (ia pa₀)))]) (As := [.int (iI (c₀ / (s₀ 0))), .int (iI y₀), .int (iI y2₀)]) (rest := []) C₀ hH₀ (c_X9_in lL₀ D₀ k₀ H₀.size (c₀ / (s₀ 0)) y₀ y2₀ (by omega) (by omega) (by omega)) ZT_b (fun _ _ _ => trivial) (va_cwS 3 C₀.1.2.2.2.2 gX9_paints_X9_in rfl rfl rfl (by decide +kernel) ⟨Nat.le_of_ble_eq_true rfl, Nat.le_of_ble_eq_true rfl⟩) [] [0, 1, 2] [0, 1, 2] rfl rfl (by decide) (by decide) (by decide) (fun _ => rfl) (by decide) rfl hl₀.1 rfl (Nat.le_of_ble_eq_true rfl) dX9_paints_91 ⟨Nat.le_of_ble_eq_true rfl, Nat.le_of_ble_eq_true rfl⟩ (fun _ _ H₀ locs₀ hH₀ => ?_)
                    refine xp_eq (tgt := 101) C₀.1.1 C₀.1.2.1 dX9_paints_94 (by decide) (fun h_15₀ => ?_) (fun h_15₀ => ?_)
                    · refine lv_iconst (v := iI 0) C₀.1.1 C₀.1.2.1 dX9_paints_101 (by decide) ?_
                      exact L102₀ false ((by unfold mRect; exact (decide_eq_false (by omega)).symm)) _ _ _ hH₀ (lv_sub hl₀ [0, 1, 2, 3, 4, 5, 6, 7] rfl)
                    · refine lv_iconst (v := iI 1) C₀.1.1 C₀.1.2.1 dX9_paints_97 (by decide) ?_
                      refine lv_goto (tgt := 102) C₀.1.1 C₀.1.2.1 dX9_paints_98 (by decide) ?_
                      exact L102₀ true ((by unfold mRect; exact (decide_eq_true (by omega)).symm)) _ _ _ hH₀ (lv_sub hl₀ [0, 1, 2, 3, 4, 5, 6, 7] rfl)
            exact L53₀ (((s₀ 0 * s₀ 1 - 0) : Int).toNat + 1) 0 0 (rfl) (by omega) (by omega) _ _ _ hH₀ (lv_sub hl₀ [2, 3, 4, 5, 6, 7, 1, 0] rfl)
          · exact L45₀  (by omega) _ _ _ hH₀ (lv_sub hl₀ [0, 1, 2, 3, 4, 5] rfl)
