abbrev rmX9_toRight : Room := { frames := 1, cells := 0, slots := 0, locals := 22 }
set_option maxHeartbeats 4000000 in
set_option maxRecDepth 100000 in
/-- toRight -/
theorem c_X9_toRight (lL₀ : Launch) (D₀ : va_G) (k₀ : Nat → ClassId) (sz₀ : Nat) (z₀ : Int) (hz₀ : 0 ≤ z₀ ∧ z₀ < 8) : Met lL₀ yX9_toRight wsX9_toRight rmX9_toRight (gPc ZT D₀ (tyk k₀) [.int (iI z₀)] sz₀ []) (gQi D₀ (tyk k₀) [] sz₀ (fun (_ : Unit) => True) (fun (_ : Unit) => (iI (mDx z₀))) (fun (_ : Unit) => [])) 0 0 (va_A [] sz₀) := by
  refine xs_met (cc := cX9_toRight) (maxL := 1) (ret := some .int) (by decide) rfl (Nat.le_of_ble_eq_true rfl) ?_
  intro pP₀ eN₀ sT₀ mI₀ below₀ meth₀ cD₀ hsz₀ args₀ QQ₀ C₀ hr₀ hlk₀ hnm₀ hQ₀ ls₀ H₀ locs₀ hl₀ hH₀
  subst hsz₀
  have hl₀ : lv_has ls₀ 1 [(0, .int (iI z₀))] := hl₀
  generalize hAe₀ : va_A [] sT₀.heap.size = A₀ at C₀ hH₀ hQ₀
  refine lv_iload_n C₀.1.1 C₀.1.2.1 dX9_toRight_0 rfl (lv_at hl₀ 0 rfl) ?_
  refine lv_iconst (v := iI 1) C₀.1.1 C₀.1.2.1 dX9_toRight_1 (by decide) ?_
  refine lv_iconst (v := iI 3) C₀.1.1 C₀.1.2.1 dX9_toRight_2 (by decide) ?_
  refine xc_Si (wr := []) (ws' := fun _ => []) (As := [.int (iI z₀), .int (iI 1), .int (iI 3)]) (rest := []) C₀ hH₀ (c_X9_in lL₀ D₀ k₀ H₀.size z₀ 1 3 (by omega) (by omega) (by omega)) ZT_b (fun _ _ _ => trivial) (va_cwS 3 C₀.1.2.2.2.2 gX9_toRight_X9_in rfl rfl rfl (by decide +kernel) ⟨Nat.le_of_ble_eq_true rfl, Nat.le_of_ble_eq_true rfl⟩) [] [] [] rfl rfl (by decide) (by decide) (by decide) (fun _ => rfl) (by decide) rfl hl₀.1 rfl (Nat.le_of_ble_eq_true rfl) dX9_toRight_3 ⟨Nat.le_of_ble_eq_true rfl, Nat.le_of_ble_eq_true rfl⟩ (fun _ _ H₀ locs₀ hH₀ => ?_)
  refine xp_eq (tgt := 13) C₀.1.1 C₀.1.2.1 dX9_toRight_6 (by decide) (fun h_1₀ => ?_) (fun h_1₀ => ?_)
  · refine lv_iload_n C₀.1.1 C₀.1.2.1 dX9_toRight_13 rfl (lv_at hl₀ 0 rfl) ?_
    refine lv_iconst (v := iI 5) C₀.1.1 C₀.1.2.1 dX9_toRight_14 (by decide) ?_
    refine lv_bipush (v := iI 7) C₀.1.1 C₀.1.2.1 dX9_toRight_15 (by decide) ?_
    refine xc_Si (wr := []) (ws' := fun _ => []) (As := [.int (iI z₀), .int (iI 5), .int (iI 7)]) (rest := []) C₀ hH₀ (c_X9_in lL₀ D₀ k₀ H₀.size z₀ 5 7 (by omega) (by omega) (by omega)) ZT_b (fun _ _ _ => trivial) (va_cwS 3 C₀.1.2.2.2.2 gX9_toRight_X9_in rfl rfl rfl (by decide +kernel) ⟨Nat.le_of_ble_eq_true rfl, Nat.le_of_ble_eq_true rfl⟩) [] [] [] rfl rfl (by decide) (by decide) (by decide) (fun _ => rfl) (by decide) rfl hl₀.1 rfl (Nat.le_of_ble_eq_true rfl) dX9_toRight_17 ⟨Nat.le_of_ble_eq_true rfl, Nat.le_of_ble_eq_true rfl⟩ (fun _ _ H₀ locs₀ hH₀ => ?_)
    refine xp_eq (tgt := 27) C₀.1.1 C₀.1.2.1 dX9_toRight_20 (by decide) (fun h_2₀ => ?_) (fun h_2₀ => ?_)
    · refine lv_iconst (v := iI 0) C₀.1.1 C₀.1.2.1 dX9_toRight_27 (by decide) ?_
      exact xr_i C₀ hH₀ hlk₀ hr₀ hQ₀ rfl hAe₀ () trivial (by simp (disch := omega) only [mDx, if_pos, if_neg]) rfl dX9_toRight_28
    · refine lv_iconst (v := iI (-1)) C₀.1.1 C₀.1.2.1 dX9_toRight_23 (by decide) ?_
      refine lv_goto (tgt := 28) C₀.1.1 C₀.1.2.1 dX9_toRight_24 (by decide) ?_
      exact xr_i C₀ hH₀ hlk₀ hr₀ hQ₀ rfl hAe₀ () trivial (by simp (disch := omega) only [mDx, if_pos, if_neg]) rfl dX9_toRight_28
  · refine lv_iconst (v := iI 1) C₀.1.1 C₀.1.2.1 dX9_toRight_9 (by decide) ?_
    refine lv_goto (tgt := 28) C₀.1.1 C₀.1.2.1 dX9_toRight_10 (by decide) ?_
    exact xr_i C₀ hH₀ hlk₀ hr₀ hQ₀ rfl hAe₀ () trivial (by simp (disch := omega) only [mDx, if_pos, if_neg]) rfl dX9_toRight_28
abbrev rmX9_toDown : Room := { frames := 1, cells := 0, slots := 0, locals := 22 }
set_option maxHeartbeats 4000000 in
set_option maxRecDepth 100000 in
/-- toDown -/
theorem c_X9_toDown (lL₀ : Launch) (D₀ : va_G) (k₀ : Nat → ClassId) (sz₀ : Nat) (z₀ : Int) (hz₀ : 0 ≤ z₀ ∧ z₀ < 8) : Met lL₀ yX9_toDown wsX9_toDown rmX9_toDown (gPc ZT D₀ (tyk k₀) [.int (iI z₀)] sz₀ []) (gQi D₀ (tyk k₀) [] sz₀ (fun (_ : Unit) => True) (fun (_ : Unit) => (iI (mDy z₀))) (fun (_ : Unit) => [])) 0 0 (va_A [] sz₀) := by
  refine xs_met (cc := cX9_toDown) (maxL := 1) (ret := some .int) (by decide) rfl (Nat.le_of_ble_eq_true rfl) ?_
  intro pP₀ eN₀ sT₀ mI₀ below₀ meth₀ cD₀ hsz₀ args₀ QQ₀ C₀ hr₀ hlk₀ hnm₀ hQ₀ ls₀ H₀ locs₀ hl₀ hH₀
  subst hsz₀
  have hl₀ : lv_has ls₀ 1 [(0, .int (iI z₀))] := hl₀
  generalize hAe₀ : va_A [] sT₀.heap.size = A₀ at C₀ hH₀ hQ₀
  refine lv_iload_n C₀.1.1 C₀.1.2.1 dX9_toDown_0 rfl (lv_at hl₀ 0 rfl) ?_
  refine lv_iconst (v := iI 3) C₀.1.1 C₀.1.2.1 dX9_toDown_1 (by decide) ?_
  refine lv_iconst (v := iI 5) C₀.1.1 C₀.1.2.1 dX9_toDown_2 (by decide) ?_
  refine xc_Si (wr := []) (ws' := fun _ => []) (As := [.int (iI z₀), .int (iI 3), .int (iI 5)]) (rest := []) C₀ hH₀ (c_X9_in lL₀ D₀ k₀ H₀.size z₀ 3 5 (by omega) (by omega) (by omega)) ZT_b (fun _ _ _ => trivial) (va_cwS 3 C₀.1.2.2.2.2 gX9_toDown_X9_in rfl rfl rfl (by decide +kernel) ⟨Nat.le_of_ble_eq_true rfl, Nat.le_of_ble_eq_true rfl⟩) [] [] [] rfl rfl (by decide) (by decide) (by decide) (fun _ => rfl) (by decide) rfl hl₀.1 rfl (Nat.le_of_ble_eq_true rfl) dX9_toDown_3 ⟨Nat.le_of_ble_eq_true rfl, Nat.le_of_ble_eq_true rfl⟩ (fun _ _ H₀ locs₀ hH₀ => ?_)
  refine xp_eq (tgt := 13) C₀.1.1 C₀.1.2.1 dX9_toDown_6 (by decide) (fun h_1₀ => ?_) (fun h_1₀ => ?_)
  · refine lv_iload_n C₀.1.1 C₀.1.2.1 dX9_toDown_13 rfl (lv_at hl₀ 0 rfl) ?_
    refine lv_iconst (v := iI 2) C₀.1.1 C₀.1.2.1 dX9_toDown_14 (by decide) ?_
    refine xi_ceq (tgt := 24) C₀.1.1 C₀.1.2.1 dX9_toDown_15 (by decide) (by omega) (by omega) (fun h_2₀ => ?_) (fun h_2₀ => ?_)
    · refine lv_iconst (v := iI 0) C₀.1.1 C₀.1.2.1 dX9_toDown_24 (by decide) ?_
      refine lv_goto (tgt := 29) C₀.1.1 C₀.1.2.1 dX9_toDown_25 (by decide) ?_
      exact xr_i C₀ hH₀ hlk₀ hr₀ hQ₀ rfl hAe₀ () trivial (by simp (disch := omega) only [mDy, if_pos, if_neg]) rfl dX9_toDown_29
    · refine lv_iload_n C₀.1.1 C₀.1.2.1 dX9_toDown_18 rfl (lv_at hl₀ 0 rfl) ?_
      refine lv_bipush (v := iI 6) C₀.1.1 C₀.1.2.1 dX9_toDown_19 (by decide) ?_
      refine xi_cne (tgt := 28) C₀.1.1 C₀.1.2.1 dX9_toDown_21 (by decide) (by omega) (by omega) (fun h_3₀ => ?_) (fun h_3₀ => ?_)
      · refine lv_iconst (v := iI (-1)) C₀.1.1 C₀.1.2.1 dX9_toDown_28 (by decide) ?_
        exact xr_i C₀ hH₀ hlk₀ hr₀ hQ₀ rfl hAe₀ () trivial (by simp (disch := omega) only [mDy, if_pos, if_neg]) rfl dX9_toDown_29
      · refine lv_iconst (v := iI 0) C₀.1.1 C₀.1.2.1 dX9_toDown_24 (by decide) ?_
        refine lv_goto (tgt := 29) C₀.1.1 C₀.1.2.1 dX9_toDown_25 (by decide) ?_
        exact xr_i C₀ hH₀ hlk₀ hr₀ hQ₀ rfl hAe₀ () trivial (by simp (disch := omega) only [mDy, if_pos, if_neg]) rfl dX9_toDown_29
  · refine lv_iconst (v := iI 1) C₀.1.1 C₀.1.2.1 dX9_toDown_9 (by decide) ?_
    refine lv_goto (tgt := 29) C₀.1.1 C₀.1.2.1 dX9_toDown_10 (by decide) ?_
    exact xr_i C₀ hH₀ hlk₀ hr₀ hQ₀ rfl hAe₀ () trivial (by simp (disch := omega) only [mDy, if_pos, if_neg]) rfl dX9_toDown_29
abbrev rmX9_has : Room := { frames := 0, cells := 0, slots := 0, locals := 0 }
set_option maxHeartbeats 4000000 in
set_option maxRecDepth 100000 in
/-- has -/
theorem c_X9_has (lL₀ : Launch) (D₀ : va_G) (k₀ : Nat → ClassId) (sz₀ : Nat) (n₀ : Int) (z₀ : Int) (hn₀ : 0 ≤ n₀ ∧ n₀ < 2147483648) (hz₀ : 0 ≤ z₀ ∧ z₀ < 32) : Met lL₀ yX9_has wsX9_has rmX9_has (gPc ZT D₀ (tyk k₀) [.int (iI n₀), .int (iI z₀)] sz₀ []) (gQi D₀ (tyk k₀) [] sz₀ (fun (_ : Unit) => True) (fun (_ : Unit) => (iI (bz (mBit n₀ z₀)))) (fun (_ : Unit) => [])) 0 0 (va_A [] sz₀) := by
  refine xs_met (cc := cX9_has) (maxL := 2) (ret := some .boolean) (by decide) rfl (Nat.le_of_ble_eq_true rfl) ?_
  intro pP₀ eN₀ sT₀ mI₀ below₀ meth₀ cD₀ hsz₀ args₀ QQ₀ C₀ hr₀ hlk₀ hnm₀ hQ₀ ls₀ H₀ locs₀ hl₀ hH₀
  subst hsz₀
  have hl₀ : lv_has ls₀ 2 [(0, .int (iI n₀)), (1, .int (iI z₀))] := hl₀
  generalize hAe₀ : va_A [] sT₀.heap.size = A₀ at C₀ hH₀ hQ₀
  refine lv_iload_n C₀.1.1 C₀.1.2.1 dX9_has_0 rfl (lv_at hl₀ 0 rfl) ?_
  refine lv_iload_n C₀.1.1 C₀.1.2.1 dX9_has_1 rfl (lv_at hl₀ 1 rfl) ?_
  refine lv_ishr C₀.1.1 C₀.1.2.1 dX9_has_2 ?_
  refine lv_iconst (v := iI 1) C₀.1.1 C₀.1.2.1 dX9_has_3 (by decide) ?_
  refine lv_iand C₀.1.1 C₀.1.2.1 dX9_has_4 ?_
  refine xt_i (y := (iI (n₀ / (2 : Int) ^ z₀.toNat % 2))) (mBit_eq hn₀ hz₀) ?_
  refine lv_iconst (v := iI 1) C₀.1.1 C₀.1.2.1 dX9_has_5 (by decide) ?_
  refine xi_cne (tgt := 13) C₀.1.1 C₀.1.2.1 dX9_has_6 (by decide) (by omega) (by omega) (fun h_1₀ => ?_) (fun h_1₀ => ?_)
  · refine lv_iconst (v := iI 0) C₀.1.1 C₀.1.2.1 dX9_has_13 (by decide) ?_
    exact xr_i C₀ hH₀ hlk₀ hr₀ hQ₀ rfl hAe₀ () trivial (by unfold mBit; exact bF (by omega)) rfl dX9_has_14
  · refine lv_iconst (v := iI 1) C₀.1.1 C₀.1.2.1 dX9_has_9 (by decide) ?_
    refine lv_goto (tgt := 14) C₀.1.1 C₀.1.2.1 dX9_has_10 (by decide) ?_
    exact xr_i C₀ hH₀ hlk₀ hr₀ hQ₀ rfl hAe₀ () trivial (by unfold mBit; exact bT (by omega)) rfl dX9_has_14
theorem iw_X9_heightAt_X9 : ∀ w₀ ∈ u_ws RX9 TX9 24, w₀ ∈ wsX9_heightAt := (fun w₀ h₀ => List.mem_cons_of_mem _ (List.mem_append_right _ h₀))
abbrev rmX9_heightAt : Room := { frames := 2, cells := 0, slots := 0, locals := 44 }
set_option maxHeartbeats 4000000 in
set_option maxRecDepth 100000 in
/-- heightAt -/
theorem c_X9_heightAt (lL₀ : Launch) (D₀ : va_G) (k₀ : Nat → ClassId) (sz₀ : Nat) (a₀ : Nat) (q₀ : Nat → Nat) (th₀ : Int) (un₀ : Int) (mf₀ : Int) (ty₀ : Int) (fr₀ : Int) (tt₀ : Int) (tk₀ : Int) (fa₀ : Int) (hf₀ : Bool) (ho₀ : Bool) (km₀ : Int) (s₀ : Int → Int) (x : Int) (y₀ : Int) (hS₀ : mS s₀) (hx₀ : -2147483648 ≤ x ∧ x < 2147483648) (hy₀ : -2147483648 ≤ y₀ ∧ y₀ < 2147483648) : Met lL₀ yX9_heightAt wsX9_heightAt rmX9_heightAt (gPc ZT D₀ (tyk k₀) [.ref a₀, .int (iI x), .int (iI y₀)] sz₀ [mO a₀ q₀ th₀ un₀ mf₀ ty₀ fr₀ tt₀ tk₀ fa₀ (bz hf₀) (bz ho₀) km₀, (q₀ 1, .inl (k₀ 0, 51, .inl (ia s₀)))]) (gQi D₀ (tyk k₀) [mO a₀ q₀ th₀ un₀ mf₀ ty₀ fr₀ tt₀ tk₀ fa₀ (bz hf₀) (bz ho₀) km₀, (q₀ 1, .inl (k₀ 0, 51, .inl (ia s₀)))] sz₀ (fun (_ : Unit) => True) (fun (_ : Unit) => (iI (mHAt s₀ x y₀))) (fun (_ : Unit) => [mO a₀ q₀ th₀ un₀ mf₀ ty₀ fr₀ tt₀ tk₀ fa₀ (bz hf₀) (bz ho₀) km₀, (q₀ 1, .inl (k₀ 0, 51, .inl (ia s₀)))])) 0 0 (va_A [mO a₀ q₀ th₀ un₀ mf₀ ty₀ fr₀ tt₀ tk₀ fa₀ (bz hf₀) (bz ho₀) km₀, (q₀ 1, .inl (k₀ 0, 51, .inl (ia s₀)))] sz₀) := by
  refine xs_met (cc := cX9_heightAt) (maxL := 5) (ret := some .int) (by decide) rfl (Nat.le_of_ble_eq_true rfl) ?_
  intro pP₀ eN₀ sT₀ mI₀ below₀ meth₀ cD₀ hsz₀ args₀ QQ₀ C₀ hr₀ hlk₀ hnm₀ hQ₀ ls₀ H₀ locs₀ hl₀ hH₀
  subst hsz₀
  have hl₀ : lv_has ls₀ 5 [(0, .ref a₀), (1, .int (iI x)), (2, .int (iI y₀))] := hl₀
  generalize hAe₀ : va_A [mO a₀ q₀ th₀ un₀ mf₀ ty₀ fr₀ tt₀ tk₀ fa₀ (bz hf₀) (bz ho₀) km₀, (q₀ 1, .inl (k₀ 0, 51, .inl (ia s₀)))] sT₀.heap.size = A₀ at C₀ hH₀ hQ₀
  obtain ⟨hs0₀, hs1₀, hs2₀, hsh₀, hsf₀⟩ := id hS₀
  have hcl₀ := cells_rg hs0₀ hs1₀
  refine lv_aload_n C₀.1.1 C₀.1.2.1 dX9_heightAt_0 rfl (lv_at hl₀ 0 rfl) ?_
  refine lv_iload_n C₀.1.1 C₀.1.2.1 dX9_heightAt_1 rfl (lv_at hl₀ 1 rfl) ?_
  refine lv_iload_n C₀.1.1 C₀.1.2.1 dX9_heightAt_2 rfl (lv_at hl₀ 2 rfl) ?_
  refine xc_Vi (wr := []) (ws' := fun _ => [mO a₀ q₀ th₀ un₀ mf₀ ty₀ fr₀ tt₀ tk₀ fa₀ (bz hf₀) (bz ho₀) km₀, (q₀ 1, .inl (k₀ 0, 51, .inl (ia s₀)))]) (As := [.int (iI x), .int (iI y₀)]) (rest := []) C₀ hH₀ (c_X9_isCell lL₀ D₀ k₀ H₀.size a₀ q₀ th₀ un₀ mf₀ ty₀ fr₀ tt₀ tk₀ fa₀ hf₀ ho₀ km₀ s₀ x y₀ (by omega) (by omega) (by omega) (by omega)) ZT_b (fun _ _ _ => trivial) (cwV 2 C₀.1.2.2.2.2 gX9_heightAt_X9_isCell rfl rfl rfl (by decide +kernel) ⟨Nat.le_of_ble_eq_true rfl, Nat.le_of_ble_eq_true rfl⟩) [0, 1] [] [0, 1] rfl rfl (by decide) (by decide) (by decide) (fun _ => rfl) (by decide) (q0 := 0) rfl rfl rfl hl₀.1 rfl (Nat.le_of_ble_eq_true rfl) dX9_heightAt_3 ⟨Nat.le_of_ble_eq_true rfl, Nat.le_of_ble_eq_true rfl⟩ (fun _ _ H₀ locs₀ hH₀ => ?_)
  refine xp_eq (tgt := 16) C₀.1.1 C₀.1.2.1 dX9_heightAt_6 (by decide) (fun h_1₀ => ?_) (fun h_1₀ => ?_)
  · refine lv_aload_n C₀.1.1 C₀.1.2.1 dX9_heightAt_16 rfl (lv_at hl₀ 0 rfl) ?_
    refine xw_get C₀ hH₀ 0 rfl rfl 1 (by decide) iw_X9_heightAt_X9 (by decide +kernel) (v := .ref (q₀ 1)) rfl dX9_heightAt_17 ?_
    refine lv_iconst (v := iI 2) C₀.1.1 C₀.1.2.1 dX9_heightAt_20 (by decide) ?_
    refine xw_ild C₀ hH₀ 1 0 rfl rfl (z := 2) (by omega) (by omega) (by decide) dX9_heightAt_21 ?_
    refine lv_bipush (v := iI (-9)) C₀.1.1 C₀.1.2.1 dX9_heightAt_22 (by decide) ?_
    refine xi_ceq (tgt := 34) C₀.1.1 C₀.1.2.1 dX9_heightAt_24 (by decide) (by omega) (by omega) (fun h_2₀ => ?_) (fun h_2₀ => ?_)
    · have L64₀ : ∀ (cx₀ : Int), (cx₀ = if x < 0 then 0 else if s₀ 0 ≤ x then s₀ 0 - 1 else x) → (0 ≤ cx₀ ∧ cx₀ < s₀ 0) → ∀ (H₀ : Heap) (locs₀ : List Loc) (ls₀ : Array Slot), Hp D₀ A₀ sT₀.heap [mO a₀ q₀ th₀ un₀ mf₀ ty₀ fr₀ tt₀ tk₀ fa₀ (bz hf₀) (bz ho₀) km₀, (q₀ 1, .inl (k₀ 0, 51, .inl (ia s₀)))] H₀ locs₀ → lv_has ls₀ 5 [(0, .ref a₀), (1, .int (iI x)), (2, .int (iI y₀))] → W pP₀ lL₀ eN₀ rmX9_heightAt sT₀ mI₀ args₀ below₀ meth₀ cD₀ H₀ locs₀ 0 0 QQ₀ (F0 mI₀ 64 ls₀ [.int (iI cx₀)]) := by
        intro cx₀ jx₀ jxr₀ H₀ locs₀ ls₀ hH₀ hl₀
        refine lv_istore_n (lv' := [(3, .int (iI cx₀)), (0, .ref a₀), (1, .int (iI x)), (2, .int (iI y₀))]) C₀.1.1 C₀.1.2.1 dX9_heightAt_64 rfl hl₀ (by decide) rfl (fun ls₀ hl₀ => ?_)
        have L95₀ : ∀ (cy₀ : Int), (cy₀ = if y₀ < 0 then 0 else if s₀ 1 ≤ y₀ then s₀ 1 - 1 else y₀) → (0 ≤ cy₀ ∧ cy₀ < s₀ 1) → ∀ (H₀ : Heap) (locs₀ : List Loc) (ls₀ : Array Slot), Hp D₀ A₀ sT₀.heap [mO a₀ q₀ th₀ un₀ mf₀ ty₀ fr₀ tt₀ tk₀ fa₀ (bz hf₀) (bz ho₀) km₀, (q₀ 1, .inl (k₀ 0, 51, .inl (ia s₀)))] H₀ locs₀ → lv_has ls₀ 5 [(0, .ref a₀), (1, .int (iI x)), (2, .int (iI y₀)), (3, .int (iI cx₀))] → W pP₀ lL₀ eN₀ rmX9_heightAt sT₀ mI₀ args₀ below₀ meth₀ cD₀ H₀ locs₀ 0 0 QQ₀ (F0 mI₀ 95 ls₀ [.int (iI cy₀)]) := by
          intro cy₀ jy₀ jyr₀ H₀ locs₀ ls₀ hH₀ hl₀
          refine lv_istore (lv' := [(4, .int (iI cy₀)), (0, .ref a₀), (1, .int (iI x)), (2, .int (iI y₀)), (3, .int (iI cx₀))]) C₀.1.1 C₀.1.2.1 dX9_heightAt_95 hl₀ (by decide) rfl (fun ls₀ hl₀ => ?_)
          have hc₀ := cell_rg hs0₀ jxr₀ jyr₀
          refine lv_aload_n C₀.1.1 C₀.1.2.1 dX9_heightAt_97 rfl (lv_at hl₀ 1 rfl) ?_
          refine lv_iload_n C₀.1.1 C₀.1.2.1 dX9_heightAt_98 rfl (lv_at hl₀ 4 rfl) ?_
          refine lv_iload C₀.1.1 C₀.1.2.1 dX9_heightAt_99 (lv_at hl₀ 0 rfl) ?_
          refine xc_Vi (wr := []) (ws' := fun _ => [mO a₀ q₀ th₀ un₀ mf₀ ty₀ fr₀ tt₀ tk₀ fa₀ (bz hf₀) (bz ho₀) km₀, (q₀ 1, .inl (k₀ 0, 51, .inl (ia s₀)))]) (As := [.int (iI cx₀), .int (iI cy₀)]) (rest := []) C₀ hH₀ (c_X9_height lL₀ D₀ k₀ H₀.size a₀ q₀ th₀ un₀ mf₀ ty₀ fr₀ tt₀ tk₀ fa₀ hf₀ ho₀ km₀ s₀ cx₀ cy₀ (by omega)) ZT_b (fun _ _ _ => trivial) (cwV 2 C₀.1.2.2.2.2 gX9_heightAt_X9_height rfl rfl rfl (by decide +kernel) ⟨Nat.le_of_ble_eq_true rfl, Nat.le_of_ble_eq_true rfl⟩) [0, 1] [] [0, 1] rfl rfl (by decide) (by decide) (by decide) (fun _ => rfl) (by decide) (q0 := 0) rfl rfl rfl hl₀.1 rfl (Nat.le_of_ble_eq_true rfl) dX9_heightAt_101 ⟨Nat.le_of_ble_eq_true rfl, Nat.le_of_ble_eq_true rfl⟩ (fun _ _ H₀ locs₀ hH₀ => ?_)
          exact xr_i C₀ hH₀ hlk₀ hr₀ hQ₀ rfl hAe₀ () trivial (by unfold mHAt; rw [if_neg (by omega), if_pos (by omega), jx₀, jy₀]) rfl dX9_heightAt_104
        refine lv_iload_n C₀.1.1 C₀.1.2.1 dX9_heightAt_65 rfl (lv_at hl₀ 3 rfl) ?_
        refine xi_zge (tgt := 73) C₀.1.1 C₀.1.2.1 dX9_heightAt_66 (by decide) (by omega) (fun h_3₀ => ?_) (fun h_3₀ => ?_)
        · refine lv_iload_n C₀.1.1 C₀.1.2.1 dX9_heightAt_73 rfl (lv_at hl₀ 3 rfl) ?_
          refine lv_aload_n C₀.1.1 C₀.1.2.1 dX9_heightAt_74 rfl (lv_at hl₀ 1 rfl) ?_
          refine xw_get C₀ hH₀ 0 rfl rfl 1 (by decide) iw_X9_heightAt_X9 (by decide +kernel) (v := .ref (q₀ 1)) rfl dX9_heightAt_75 ?_
          refine lv_iconst (v := iI 1) C₀.1.1 C₀.1.2.1 dX9_heightAt_78 (by decide) ?_
          refine xw_ild C₀ hH₀ 1 0 rfl rfl (z := 1) (by omega) (by omega) (by decide) dX9_heightAt_79 ?_
          refine xi_clt (tgt := 94) C₀.1.1 C₀.1.2.1 dX9_heightAt_80 (by decide) (by omega) (by omega) (fun h_4₀ => ?_) (fun h_4₀ => ?_)
          · refine lv_iload_n C₀.1.1 C₀.1.2.1 dX9_heightAt_94 rfl (lv_at hl₀ 3 rfl) ?_
            exact L95₀ y₀ ((by simp (disch := omega) only [if_pos, if_neg])) (by omega) _ _ _ hH₀ (lv_sub hl₀ [1, 2, 3, 0] rfl)
          · refine lv_aload_n C₀.1.1 C₀.1.2.1 dX9_heightAt_83 rfl (lv_at hl₀ 1 rfl) ?_
            refine xw_get C₀ hH₀ 0 rfl rfl 1 (by decide) iw_X9_heightAt_X9 (by decide +kernel) (v := .ref (q₀ 1)) rfl dX9_heightAt_84 ?_
            refine lv_iconst (v := iI 1) C₀.1.1 C₀.1.2.1 dX9_heightAt_87 (by decide) ?_
            refine xw_ild C₀ hH₀ 1 0 rfl rfl (z := 1) (by omega) (by omega) (by decide) dX9_heightAt_88 ?_
            refine lv_iconst (v := iI 1) C₀.1.1 C₀.1.2.1 dX9_heightAt_89 (by decide) ?_
            refine xi_sub C₀.1.1 C₀.1.2.1 dX9_heightAt_90 ?_
            refine lv_goto (tgt := 95) C₀.1.1 C₀.1.2.1 dX9_heightAt_91 (by decide) ?_
            exact L95₀ (s₀ 1 - 1) ((by simp (disch := omega) only [if_pos, if_neg])) (by omega) _ _ _ hH₀ (lv_sub hl₀ [1, 2, 3, 0] rfl)
        · refine lv_iconst (v := iI 0) C₀.1.1 C₀.1.2.1 dX9_heightAt_69 (by decide) ?_
          refine lv_goto (tgt := 95) C₀.1.1 C₀.1.2.1 dX9_heightAt_70 (by decide) ?_
          exact L95₀ 0 ((by simp (disch := omega) only [if_pos, if_neg])) (by omega) _ _ _ hH₀ (lv_sub hl₀ [1, 2, 3, 0] rfl)
      refine lv_iload_n C₀.1.1 C₀.1.2.1 dX9_heightAt_34 rfl (lv_at hl₀ 1 rfl) ?_
      refine xi_zge (tgt := 42) C₀.1.1 C₀.1.2.1 dX9_heightAt_35 (by decide) (by omega) (fun h_5₀ => ?_) (fun h_5₀ => ?_)
      · refine lv_iload_n C₀.1.1 C₀.1.2.1 dX9_heightAt_42 rfl (lv_at hl₀ 1 rfl) ?_
        refine lv_aload_n C₀.1.1 C₀.1.2.1 dX9_heightAt_43 rfl (lv_at hl₀ 0 rfl) ?_
        refine xw_get C₀ hH₀ 0 rfl rfl 1 (by decide) iw_X9_heightAt_X9 (by decide +kernel) (v := .ref (q₀ 1)) rfl dX9_heightAt_44 ?_
        refine lv_iconst (v := iI 0) C₀.1.1 C₀.1.2.1 dX9_heightAt_47 (by decide) ?_
        refine xw_ild C₀ hH₀ 1 0 rfl rfl (z := 0) (by omega) (by omega) (by decide) dX9_heightAt_48 ?_
        refine xi_clt (tgt := 63) C₀.1.1 C₀.1.2.1 dX9_heightAt_49 (by decide) (by omega) (by omega) (fun h_6₀ => ?_) (fun h_6₀ => ?_)
        · refine lv_iload_n C₀.1.1 C₀.1.2.1 dX9_heightAt_63 rfl (lv_at hl₀ 1 rfl) ?_
          exact L64₀ x ((by simp (disch := omega) only [if_pos, if_neg])) (by omega) _ _ _ hH₀ (lv_sub hl₀ [0, 1, 2] rfl)
        · refine lv_aload_n C₀.1.1 C₀.1.2.1 dX9_heightAt_52 rfl (lv_at hl₀ 0 rfl) ?_
          refine xw_get C₀ hH₀ 0 rfl rfl 1 (by decide) iw_X9_heightAt_X9 (by decide +kernel) (v := .ref (q₀ 1)) rfl dX9_heightAt_53 ?_
          refine lv_iconst (v := iI 0) C₀.1.1 C₀.1.2.1 dX9_heightAt_56 (by decide) ?_
          refine xw_ild C₀ hH₀ 1 0 rfl rfl (z := 0) (by omega) (by omega) (by decide) dX9_heightAt_57 ?_
          refine lv_iconst (v := iI 1) C₀.1.1 C₀.1.2.1 dX9_heightAt_58 (by decide) ?_
          refine xi_sub C₀.1.1 C₀.1.2.1 dX9_heightAt_59 ?_
          refine lv_goto (tgt := 64) C₀.1.1 C₀.1.2.1 dX9_heightAt_60 (by decide) ?_
          exact L64₀ (s₀ 0 - 1) ((by simp (disch := omega) only [if_pos, if_neg])) (by omega) _ _ _ hH₀ (lv_sub hl₀ [0, 1, 2] rfl)
      · refine lv_iconst (v := iI 0) C₀.1.1 C₀.1.2.1 dX9_heightAt_38 (by decide) ?_
        refine lv_goto (tgt := 64) C₀.1.1 C₀.1.2.1 dX9_heightAt_39 (by decide) ?_
        exact L64₀ 0 ((by simp (disch := omega) only [if_pos, if_neg])) (by omega) _ _ _ hH₀ (lv_sub hl₀ [0, 1, 2] rfl)
    · refine lv_aload_n C₀.1.1 C₀.1.2.1 dX9_heightAt_27 rfl (lv_at hl₀ 0 rfl) ?_
      refine xw_get C₀ hH₀ 0 rfl rfl 1 (by decide) iw_X9_heightAt_X9 (by decide +kernel) (v := .ref (q₀ 1)) rfl dX9_heightAt_28 ?_
      refine lv_iconst (v := iI 2) C₀.1.1 C₀.1.2.1 dX9_heightAt_31 (by decide) ?_
      refine xw_ild C₀ hH₀ 1 0 rfl rfl (z := 2) (by omega) (by omega) (by decide) dX9_heightAt_32 ?_
      exact xr_i C₀ hH₀ hlk₀ hr₀ hQ₀ rfl hAe₀ () trivial (by unfold mHAt; rw [if_neg (by omega), if_neg (by omega)]) rfl dX9_heightAt_33
  · have hc₀ := cell_rg hs0₀ (show 0 ≤ x ∧ x < s₀ 0 by omega) (show 0 ≤ y₀ ∧ y₀ < s₀ 1 by omega)
    refine lv_aload_n C₀.1.1 C₀.1.2.1 dX9_heightAt_9 rfl (lv_at hl₀ 0 rfl) ?_
    refine lv_iload_n C₀.1.1 C₀.1.2.1 dX9_heightAt_10 rfl (lv_at hl₀ 1 rfl) ?_
    refine lv_iload_n C₀.1.1 C₀.1.2.1 dX9_heightAt_11 rfl (lv_at hl₀ 2 rfl) ?_
    refine xc_Vi (wr := []) (ws' := fun _ => [mO a₀ q₀ th₀ un₀ mf₀ ty₀ fr₀ tt₀ tk₀ fa₀ (bz hf₀) (bz ho₀) km₀, (q₀ 1, .inl (k₀ 0, 51, .inl (ia s₀)))]) (As := [.int (iI x), .int (iI y₀)]) (rest := []) C₀ hH₀ (c_X9_height lL₀ D₀ k₀ H₀.size a₀ q₀ th₀ un₀ mf₀ ty₀ fr₀ tt₀ tk₀ fa₀ hf₀ ho₀ km₀ s₀ x y₀ (by omega)) ZT_b (fun _ _ _ => trivial) (cwV 2 C₀.1.2.2.2.2 gX9_heightAt_X9_height rfl rfl rfl (by decide +kernel) ⟨Nat.le_of_ble_eq_true rfl, Nat.le_of_ble_eq_true rfl⟩) [0, 1] [] [0, 1] rfl rfl (by decide) (by decide) (by decide) (fun _ => rfl) (by decide) (q0 := 0) rfl rfl rfl hl₀.1 rfl (Nat.le_of_ble_eq_true rfl) dX9_heightAt_12 ⟨Nat.le_of_ble_eq_true rfl, Nat.le_of_ble_eq_true rfl⟩ (fun _ _ H₀ locs₀ hH₀ => ?_)
    exact xr_i C₀ hH₀ hlk₀ hr₀ hQ₀ rfl hAe₀ () trivial (by unfold mHAt; rw [if_pos (by omega)]) rfl dX9_heightAt_15
abbrev rmX9_maskOf : Room := { frames := 3, cells := 0, slots := 0, locals := 68 }
set_option maxHeartbeats 4000000 in
set_option maxRecDepth 100000 in
/-- maskOf -/
theorem c_X9_maskOf (lL₀ : Launch) (D₀ : va_G) (k₀ : Nat → ClassId) (sz₀ : Nat) (a₀ : Nat) (q₀ : Nat → Nat) (th₀ : Int) (un₀ : Int) (mf₀ : Int) (ty₀ : Int) (fr₀ : Int) (tt₀ : Int) (tk₀ : Int) (fa₀ : Int) (hf₀ : Bool) (ho₀ : Bool) (km₀ : Int) (s₀ : Int → Int) (x : Int) (y₀ : Int) (la₀ : Int) (hS₀ : mS s₀) (hx₀ : 0 ≤ x ∧ x < s₀ 0) (hy₀ : 0 ≤ y₀ ∧ y₀ < s₀ 1) (hla₀ : 1 ≤ la₀ ∧ la₀ ≤ 3) : Met lL₀ yX9_maskOf wsX9_maskOf rmX9_maskOf (gPc ZT D₀ (tyk k₀) [.ref a₀, .int (iI x), .int (iI y₀), .int (iI la₀)] sz₀ [mO a₀ q₀ th₀ un₀ mf₀ ty₀ fr₀ tt₀ tk₀ fa₀ (bz hf₀) (bz ho₀) km₀, (q₀ 1, .inl (k₀ 0, 51, .inl (ia s₀)))]) (gQi D₀ (tyk k₀) [mO a₀ q₀ th₀ un₀ mf₀ ty₀ fr₀ tt₀ tk₀ fa₀ (bz hf₀) (bz ho₀) km₀, (q₀ 1, .inl (k₀ 0, 51, .inl (ia s₀)))] sz₀ (fun (_ : Unit) => True) (fun (_ : Unit) => (iI (mMask s₀ x y₀ la₀))) (fun (_ : Unit) => [mO a₀ q₀ th₀ un₀ mf₀ ty₀ fr₀ tt₀ tk₀ fa₀ (bz hf₀) (bz ho₀) km₀, (q₀ 1, .inl (k₀ 0, 51, .inl (ia s₀)))])) 0 0 (va_A [mO a₀ q₀ th₀ un₀ mf₀ ty₀ fr₀ tt₀ tk₀ fa₀ (bz hf₀) (bz ho₀) km₀, (q₀ 1, .inl (k₀ 0, 51, .inl (ia s₀)))] sz₀) := by
  refine xs_met (cc := cX9_maskOf) (maxL := 7) (ret := some .int) (by decide) rfl (Nat.le_of_ble_eq_true rfl) ?_
  intro pP₀ eN₀ sT₀ mI₀ below₀ meth₀ cD₀ hsz₀ args₀ QQ₀ C₀ hr₀ hlk₀ hnm₀ hQ₀ ls₀ H₀ locs₀ hl₀ hH₀
  subst hsz₀
  have hl₀ : lv_has ls₀ 7 [(0, .ref a₀), (1, .int (iI x)), (2, .int (iI y₀)), (3, .int (iI la₀))] := hl₀
  generalize hAe₀ : va_A [mO a₀ q₀ th₀ un₀ mf₀ ty₀ fr₀ tt₀ tk₀ fa₀ (bz hf₀) (bz ho₀) km₀, (q₀ 1, .inl (k₀ 0, 51, .inl (ia s₀)))] sT₀.heap.size = A₀ at C₀ hH₀ hQ₀
  obtain ⟨hs0₀, hs1₀, hs2₀, hsh₀, hsf₀⟩ := id hS₀
  have hcl₀ := cells_rg hs0₀ hs1₀
  refine lv_iconst (v := iI 0) C₀.1.1 C₀.1.2.1 dX9_maskOf_0 (by decide) ?_
  refine lv_istore (lv' := [(4, .int (iI 0)), (0, .ref a₀), (1, .int (iI x)), (2, .int (iI y₀)), (3, .int (iI la₀))]) C₀.1.1 C₀.1.2.1 dX9_maskOf_1 hl₀ (by decide) rfl (fun ls₀ hl₀ => ?_)
  refine lv_iconst (v := iI 0) C₀.1.1 C₀.1.2.1 dX9_maskOf_3 (by decide) ?_
  refine lv_istore (lv' := [(5, .int (iI 0)), (4, .int (iI 0)), (0, .ref a₀), (1, .int (iI x)), (2, .int (iI y₀)), (3, .int (iI la₀))]) C₀.1.1 C₀.1.2.1 dX9_maskOf_4 hl₀ (by decide) rfl (fun ls₀ hl₀ => ?_)
  have L6₀ : ∀ (nn₀ : Nat), ∀ (n₀ : Int) (z₀ : Int), (n₀ = sI (mSetX s₀ x y₀ la₀) z₀) → (0 ≤ z₀ ∧ z₀ ≤ 8) → ((8 - z₀) < (nn₀ : Int)) → ∀ (H₀ : Heap) (locs₀ : List Loc) (ls₀ : Array Slot), Hp D₀ A₀ sT₀.heap [mO a₀ q₀ th₀ un₀ mf₀ ty₀ fr₀ tt₀ tk₀ fa₀ (bz hf₀) (bz ho₀) km₀, (q₀ 1, .inl (k₀ 0, 51, .inl (ia s₀)))] H₀ locs₀ → lv_has ls₀ 7 [(0, .ref a₀), (1, .int (iI x)), (2, .int (iI y₀)), (3, .int (iI la₀)), (4, .int (iI n₀)), (5, .int (iI z₀))] → W pP₀ lL₀ eN₀ rmX9_maskOf sT₀ mI₀ args₀ below₀ meth₀ cD₀ H₀ locs₀ 0 0 QQ₀ (F0 mI₀ 6 ls₀ []) := by
    intro nn₀
    induction nn₀ with
    | zero => intro n₀ z₀ i1₀ i2₀ hm₀; exact absurd hm₀ (by omega)
    | succ nn₀ ih6₀ =>
      intro n₀ z₀ i1₀ i2₀ hm6₀ H₀ locs₀ ls₀ hH₀ hl₀
      refine lv_iload C₀.1.1 C₀.1.2.1 dX9_maskOf_6 (lv_at hl₀ 5 rfl) ?_
      refine lv_bipush (v := iI 8) C₀.1.1 C₀.1.2.1 dX9_maskOf_8 (by decide) ?_
      refine xi_cge (tgt := 54) C₀.1.1 C₀.1.2.1 dX9_maskOf_10 (by decide) (by omega) (by omega) (fun h_1₀ => ?_) (fun h_1₀ => ?_)
      · have ez8₀ : z₀ = 8 := by omega
        subst ez8₀
        have hn8₀ := mSet_256 s₀ x y₀ la₀
        have en8₀ : n₀ = mSet s₀ x y₀ la₀ := i1₀
        refine lv_iload C₀.1.1 C₀.1.2.1 dX9_maskOf_54 (lv_at hl₀ 4 rfl) ?_
        refine lv_istore (lv' := [(5, .int (iI n₀)), (0, .ref a₀), (1, .int (iI x)), (2, .int (iI y₀)), (3, .int (iI la₀)), (4, .int (iI n₀))]) C₀.1.1 C₀.1.2.1 dX9_maskOf_56 hl₀ (by decide) rfl (fun ls₀ hl₀ => ?_)
        refine lv_iconst (v := iI 1) C₀.1.1 C₀.1.2.1 dX9_maskOf_58 (by decide) ?_
        refine lv_istore (lv' := [(6, .int (iI 1)), (5, .int (iI n₀)), (0, .ref a₀), (1, .int (iI x)), (2, .int (iI y₀)), (3, .int (iI la₀)), (4, .int (iI n₀))]) C₀.1.1 C₀.1.2.1 dX9_maskOf_59 hl₀ (by decide) rfl (fun ls₀ hl₀ => ?_)
        have L61₀ : ∀ (nn₀ : Nat), ∀ (m2₀ : Int) (z2₀ : Int) (jj₀ : Nat), (m2₀ = mMsk n₀ jj₀) → (z2₀ = 2 * (jj₀ : Int) + 1) → (jj₀ ≤ 4) → ((9 - z2₀) < (nn₀ : Int)) → ∀ (H₀ : Heap) (locs₀ : List Loc) (ls₀ : Array Slot), Hp D₀ A₀ sT₀.heap [mO a₀ q₀ th₀ un₀ mf₀ ty₀ fr₀ tt₀ tk₀ fa₀ (bz hf₀) (bz ho₀) km₀, (q₀ 1, .inl (k₀ 0, 51, .inl (ia s₀)))] H₀ locs₀ → lv_has ls₀ 7 [(0, .ref a₀), (1, .int (iI x)), (2, .int (iI y₀)), (3, .int (iI la₀)), (4, .int (iI n₀)), (5, .int (iI m2₀)), (6, .int (iI z2₀))] → W pP₀ lL₀ eN₀ rmX9_maskOf sT₀ mI₀ args₀ below₀ meth₀ cD₀ H₀ locs₀ 0 0 QQ₀ (F0 mI₀ 61 ls₀ []) := by
          intro nn₀
          induction nn₀ with
          | zero => intro m2₀ z2₀ jj₀ j1₀ j2₀ j3₀ hm₀; exact absurd hm₀ (by omega)
          | succ nn₀ ih61₀ =>
            intro m2₀ z2₀ jj₀ j1₀ j2₀ j3₀ hm61₀ H₀ locs₀ ls₀ hH₀ hl₀
            refine lv_iload C₀.1.1 C₀.1.2.1 dX9_maskOf_61 (lv_at hl₀ 6 rfl) ?_
            refine lv_bipush (v := iI 8) C₀.1.1 C₀.1.2.1 dX9_maskOf_63 (by decide) ?_
            refine xi_cge (tgt := 118) C₀.1.1 C₀.1.2.1 dX9_maskOf_65 (by decide) (by omega) (by omega) (fun h_2₀ => ?_) (fun h_2₀ => ?_)
            · refine lv_iload C₀.1.1 C₀.1.2.1 dX9_maskOf_118 (lv_at hl₀ 5 rfl) ?_
              exact xr_i C₀ hH₀ hlk₀ hr₀ hQ₀ rfl hAe₀ () trivial (by unfold mMask mMaskN; rw [j1₀, ← en8₀, show jj₀ = 4 by omega]) rfl dX9_maskOf_120
            · have hm2₀ := mMsk_rg (n := n₀) (by omega) (j := jj₀) (by omega)
              rw [← j1₀] at hm2₀
              have hj3₀ : jj₀ < 4 := by omega
              have L110₀ : ∀ (m3₀ : Int), (m3₀ = mMsk n₀ (jj₀ + 1)) → ∀ (H₀ : Heap) (locs₀ : List Loc) (ls₀ : Array Slot), Hp D₀ A₀ sT₀.heap [mO a₀ q₀ th₀ un₀ mf₀ ty₀ fr₀ tt₀ tk₀ fa₀ (bz hf₀) (bz ho₀) km₀, (q₀ 1, .inl (k₀ 0, 51, .inl (ia s₀)))] H₀ locs₀ → lv_has ls₀ 7 [(0, .ref a₀), (1, .int (iI x)), (2, .int (iI y₀)), (3, .int (iI la₀)), (4, .int (iI n₀)), (5, .int (iI m2₀)), (6, .int (iI z2₀))] → W pP₀ lL₀ eN₀ rmX9_maskOf sT₀ mI₀ args₀ below₀ meth₀ cD₀ H₀ locs₀ 0 0 QQ₀ (F0 mI₀ 110 ls₀ [.int (iI m3₀)]) := by
                intro m3₀ je₀ H₀ locs₀ ls₀ hH₀ hl₀
                refine lv_istore (lv' := [(5, .int (iI m3₀)), (0, .ref a₀), (1, .int (iI x)), (2, .int (iI y₀)), (3, .int (iI la₀)), (4, .int (iI n₀)), (6, .int (iI z2₀))]) C₀.1.1 C₀.1.2.1 dX9_maskOf_110 hl₀ (by decide) rfl (fun ls₀ hl₀ => ?_)
                refine lv_iinc (v := iI (z2₀ + 2)) (lv' := [(6, .int (iI (z2₀ + 2))), (5, .int (iI m3₀)), (0, .ref a₀), (1, .int (iI x)), (2, .int (iI y₀)), (3, .int (iI la₀)), (4, .int (iI n₀))]) C₀.1.1 C₀.1.2.1 dX9_maskOf_112 hl₀ (k := 6) rfl (iI_add _ (2)) (by decide) rfl (fun ls₀ hl₀ => ?_)
                refine lv_goto (tgt := 61) C₀.1.1 C₀.1.2.1 dX9_maskOf_115 (by decide) ?_
                exact ih61₀ m3₀ (z2₀ + 2) (jj₀ + 1) (je₀) (by omega) (by omega) (by omega) _ _ _ hH₀ (lv_sub hl₀ [2, 3, 4, 5, 6, 1, 0] rfl)
              refine lv_iload C₀.1.1 C₀.1.2.1 dX9_maskOf_68 (lv_at hl₀ 5 rfl) ?_
              refine lv_iload C₀.1.1 C₀.1.2.1 dX9_maskOf_70 (lv_at hl₀ 4 rfl) ?_
              refine lv_iload C₀.1.1 C₀.1.2.1 dX9_maskOf_72 (lv_at hl₀ 6 rfl) ?_
              refine lv_iconst (v := iI 1) C₀.1.1 C₀.1.2.1 dX9_maskOf_74 (by decide) ?_
              refine xi_sub C₀.1.1 C₀.1.2.1 dX9_maskOf_75 ?_
              refine xc_Si (wr := [mO a₀ q₀ th₀ un₀ mf₀ ty₀ fr₀ tt₀ tk₀ fa₀ (bz hf₀) (bz ho₀) km₀, (q₀ 1, .inl (k₀ 0, 51, .inl (ia s₀)))]) (ws' := fun _ => [mO a₀ q₀ th₀ un₀ mf₀ ty₀ fr₀ tt₀ tk₀ fa₀ (bz hf₀) (bz ho₀) km₀, (q₀ 1, .inl (k₀ 0, 51, .inl (ia s₀)))]) (As := [.int (iI n₀), .int (iI (z2₀ - 1))]) (rest := [.int (iI m2₀)]) C₀ hH₀ (c_X9_has lL₀ D₀ k₀ H₀.size n₀ (z2₀ - 1) (by omega) (by omega)) ZT_b (fun _ _ _ => trivial) (va_cwS 2 C₀.1.2.2.2.2 gX9_maskOf_X9_has rfl rfl rfl (by decide +kernel) ⟨Nat.le_of_ble_eq_true rfl, Nat.le_of_ble_eq_true rfl⟩) [] [0, 1] [0, 1] rfl rfl (by decide) (by decide) (by decide) (fun _ => rfl) (by decide) rfl hl₀.1 rfl (Nat.le_of_ble_eq_true rfl) dX9_maskOf_76 ⟨Nat.le_of_ble_eq_true rfl, Nat.le_of_ble_eq_true rfl⟩ (fun _ _ H₀ locs₀ hH₀ => ?_)
              refine xb_eq (tgt := 103) C₀.1.1 C₀.1.2.1 dX9_maskOf_79 (by decide) (fun h_3₀ => ?_) (fun h_3₀ => ?_)
              · refine lv_iconst (v := iI 1) C₀.1.1 C₀.1.2.1 dX9_maskOf_103 (by decide) ?_
                refine lv_iload C₀.1.1 C₀.1.2.1 dX9_maskOf_104 (lv_at hl₀ 6 rfl) ?_
                refine lv_ishl C₀.1.1 C₀.1.2.1 dX9_maskOf_106 ?_
                refine xt_i (y := (iI ((2 : Int) ^ z2₀.toNat))) (shl_eq (by omega)) ?_
                refine lv_iconst (v := iI (-1)) C₀.1.1 C₀.1.2.1 dX9_maskOf_107 (by decide) ?_
                refine lv_ixor C₀.1.1 C₀.1.2.1 dX9_maskOf_108 ?_
                refine lv_iand C₀.1.1 C₀.1.2.1 dX9_maskOf_109 ?_
                refine xt_i (y := (iI (m2₀ - (2 : Int) ^ (2 * jj₀ + 1) * (m2₀ / (2 : Int) ^ (2 * jj₀ + 1) % 2)))) (by rw [show z2₀.toNat = 2 * jj₀ + 1 by omega]; exact clr_eq (by omega) (by omega)) ?_
                exact L110₀ (m2₀ - (2 : Int) ^ (2 * jj₀ + 1) * (m2₀ / (2 : Int) ^ (2 * jj₀ + 1) % 2)) ((by show _ = if mBit n₀ (2 * (jj₀ : Int)) = true ∧ mBit n₀ ((2 * (jj₀ : Int) + 2) % 8) = true then mMsk n₀ jj₀ else mMsk n₀ jj₀ - (2 : Int) ^ (2 * jj₀ + 1) * (mMsk n₀ jj₀ / (2 : Int) ^ (2 * jj₀ + 1) % 2); rw [if_neg (by simp_all [show (2 * (jj₀ : Int) + 1 - 1) = 2 * (jj₀ : Int) by omega, show (2 * (jj₀ : Int) + 1 + 1) = 2 * (jj₀ : Int) + 2 by omega]), j1₀])) _ _ _ hH₀ (lv_sub hl₀ [0, 1, 2, 3, 4, 5, 6] rfl)
              · refine lv_iload C₀.1.1 C₀.1.2.1 dX9_maskOf_82 (lv_at hl₀ 4 rfl) ?_
                refine lv_iload C₀.1.1 C₀.1.2.1 dX9_maskOf_84 (lv_at hl₀ 6 rfl) ?_
                refine lv_iconst (v := iI 1) C₀.1.1 C₀.1.2.1 dX9_maskOf_86 (by decide) ?_
                refine xi_add C₀.1.1 C₀.1.2.1 dX9_maskOf_87 ?_
                refine lv_bipush (v := iI 8) C₀.1.1 C₀.1.2.1 dX9_maskOf_88 (by decide) ?_
                refine xi_rem C₀.1.1 C₀.1.2.1 dX9_maskOf_90 (by omega) (by omega) ?_
                refine xc_Si (wr := [mO a₀ q₀ th₀ un₀ mf₀ ty₀ fr₀ tt₀ tk₀ fa₀ (bz hf₀) (bz ho₀) km₀, (q₀ 1, .inl (k₀ 0, 51, .inl (ia s₀)))]) (ws' := fun _ => [mO a₀ q₀ th₀ un₀ mf₀ ty₀ fr₀ tt₀ tk₀ fa₀ (bz hf₀) (bz ho₀) km₀, (q₀ 1, .inl (k₀ 0, 51, .inl (ia s₀)))]) (As := [.int (iI n₀), .int (iI ((z2₀ + 1) % 8))]) (rest := [.int (iI m2₀)]) C₀ hH₀ (c_X9_has lL₀ D₀ k₀ H₀.size n₀ ((z2₀ + 1) % 8) (by omega) (by omega)) ZT_b (fun _ _ _ => trivial) (va_cwS 2 C₀.1.2.2.2.2 gX9_maskOf_X9_has rfl rfl rfl (by decide +kernel) ⟨Nat.le_of_ble_eq_true rfl, Nat.le_of_ble_eq_true rfl⟩) [] [0, 1] [0, 1] rfl rfl (by decide) (by decide) (by decide) (fun _ => rfl) (by decide) rfl hl₀.1 rfl (Nat.le_of_ble_eq_true rfl) dX9_maskOf_91 ⟨Nat.le_of_ble_eq_true rfl, Nat.le_of_ble_eq_true rfl⟩ (fun _ _ H₀ locs₀ hH₀ => ?_)
                refine xb_eq (tgt := 103) C₀.1.1 C₀.1.2.1 dX9_maskOf_94 (by decide) (fun h_4₀ => ?_) (fun h_4₀ => ?_)
                · refine lv_iconst (v := iI 1) C₀.1.1 C₀.1.2.1 dX9_maskOf_103 (by decide) ?_
                  refine lv_iload C₀.1.1 C₀.1.2.1 dX9_maskOf_104 (lv_at hl₀ 6 rfl) ?_
                  refine lv_ishl C₀.1.1 C₀.1.2.1 dX9_maskOf_106 ?_
                  refine xt_i (y := (iI ((2 : Int) ^ z2₀.toNat))) (shl_eq (by omega)) ?_
                  refine lv_iconst (v := iI (-1)) C₀.1.1 C₀.1.2.1 dX9_maskOf_107 (by decide) ?_
                  refine lv_ixor C₀.1.1 C₀.1.2.1 dX9_maskOf_108 ?_
                  refine lv_iand C₀.1.1 C₀.1.2.1 dX9_maskOf_109 ?_
                  refine xt_i (y := (iI (m2₀ - (2 : Int) ^ (2 * jj₀ + 1) * (m2₀ / (2 : Int) ^ (2 * jj₀ + 1) % 2)))) (by rw [show z2₀.toNat = 2 * jj₀ + 1 by omega]; exact clr_eq (by omega) (by omega)) ?_
                  exact L110₀ (m2₀ - (2 : Int) ^ (2 * jj₀ + 1) * (m2₀ / (2 : Int) ^ (2 * jj₀ + 1) % 2)) ((by show _ = if mBit n₀ (2 * (jj₀ : Int)) = true ∧ mBit n₀ ((2 * (jj₀ : Int) + 2) % 8) = true then mMsk n₀ jj₀ else mMsk n₀ jj₀ - (2 : Int) ^ (2 * jj₀ + 1) * (mMsk n₀ jj₀ / (2 : Int) ^ (2 * jj₀ + 1) % 2); rw [if_neg (by simp_all [show (2 * (jj₀ : Int) + 1 - 1) = 2 * (jj₀ : Int) by omega, show (2 * (jj₀ : Int) + 1 + 1) = 2 * (jj₀ : Int) + 2 by omega]), j1₀])) _ _ _ hH₀ (lv_sub hl₀ [0, 1, 2, 3, 4, 5, 6] rfl)
                · refine lv_sipush (v := iI 255) C₀.1.1 C₀.1.2.1 dX9_maskOf_97 (by decide) ?_
                  refine lv_goto (tgt := 109) C₀.1.1 C₀.1.2.1 dX9_maskOf_100 (by decide) ?_
                  refine lv_iand C₀.1.1 C₀.1.2.1 dX9_maskOf_109 ?_
                  refine xt_i (y := (iI m2₀)) (and255 (by omega)) ?_
                  exact L110₀ m2₀ ((by show _ = if mBit n₀ (2 * (jj₀ : Int)) = true ∧ mBit n₀ ((2 * (jj₀ : Int) + 2) % 8) = true then mMsk n₀ jj₀ else mMsk n₀ jj₀ - (2 : Int) ^ (2 * jj₀ + 1) * (mMsk n₀ jj₀ / (2 : Int) ^ (2 * jj₀ + 1) % 2); rw [if_pos (by simp_all [show (2 * (jj₀ : Int) + 1 - 1) = 2 * (jj₀ : Int) by omega, show (2 * (jj₀ : Int) + 1 + 1) = 2 * (jj₀ : Int) + 2 by omega]), j1₀])) _ _ _ hH₀ (lv_sub hl₀ [0, 1, 2, 3, 4, 5, 6] rfl)
        exact L61₀ (((9 - 1) : Int).toNat + 1) n₀ 1 0 (rfl) (rfl) (by omega) (by omega) _ _ _ hH₀ (lv_sub hl₀ [2, 3, 4, 5, 6, 1, 0] rfl)
      · have hr1₀ := mSet_rg (s := s₀) (x := x) (y := y₀) (l := la₀) z₀
        rw [← i1₀] at hr1₀
        have hr2₀ := mDx_rg z₀
        have hr3₀ := mDy_rg z₀
        have hr4₀ := mHAt_rg hS₀ (x + mDx z₀) (y₀ + mDy z₀)
        have hr5₀ := p2_8 (k := z₀) (by omega)
        refine lv_iload C₀.1.1 C₀.1.2.1 dX9_maskOf_13 (lv_at hl₀ 4 rfl) ?_
        have L45₀ : ∀ (d₀ : Int), (d₀ = mSetX s₀ x y₀ la₀ z₀) → ∀ (H₀ : Heap) (locs₀ : List Loc) (ls₀ : Array Slot), Hp D₀ A₀ sT₀.heap [mO a₀ q₀ th₀ un₀ mf₀ ty₀ fr₀ tt₀ tk₀ fa₀ (bz hf₀) (bz ho₀) km₀, (q₀ 1, .inl (k₀ 0, 51, .inl (ia s₀)))] H₀ locs₀ → lv_has ls₀ 7 [(0, .ref a₀), (1, .int (iI x)), (2, .int (iI y₀)), (3, .int (iI la₀)), (4, .int (iI n₀)), (5, .int (iI z₀))] → W pP₀ lL₀ eN₀ rmX9_maskOf sT₀ mI₀ args₀ below₀ meth₀ cD₀ H₀ locs₀ 0 0 QQ₀ (F0 mI₀ 45 ls₀ [.int (iI d₀), .int (iI n₀)]) := by
          intro d₀ jd₀ H₀ locs₀ ls₀ hH₀ hl₀
          refine lv_ior C₀.1.1 C₀.1.2.1 dX9_maskOf_45 ?_
          refine xt_i (y := (iI (n₀ + d₀))) (or_add (k := z₀) (by omega) hr1₀ (by rw [jd₀]; unfold mSetX; split <;> simp)) ?_
          refine lv_istore (lv' := [(4, .int (iI (n₀ + d₀))), (0, .ref a₀), (1, .int (iI x)), (2, .int (iI y₀)), (3, .int (iI la₀)), (5, .int (iI z₀))]) C₀.1.1 C₀.1.2.1 dX9_maskOf_46 hl₀ (by decide) rfl (fun ls₀ hl₀ => ?_)
          refine lv_iinc (v := iI (z₀ + 1)) (lv' := [(5, .int (iI (z₀ + 1))), (4, .int (iI (n₀ + d₀))), (0, .ref a₀), (1, .int (iI x)), (2, .int (iI y₀)), (3, .int (iI la₀))]) C₀.1.1 C₀.1.2.1 dX9_maskOf_48 hl₀ (k := 5) rfl (iI_add _ (1)) (by decide) rfl (fun ls₀ hl₀ => ?_)
          refine lv_goto (tgt := 6) C₀.1.1 C₀.1.2.1 dX9_maskOf_51 (by decide) ?_
          exact ih6₀ (n₀ + d₀) (z₀ + 1) (by rw [sI_s i2₀.1, ← i1₀, jd₀]) (by omega) (by omega) _ _ _ hH₀ (lv_sub hl₀ [2, 3, 4, 5, 1, 0] rfl)
        refine lv_aload_n C₀.1.1 C₀.1.2.1 dX9_maskOf_15 rfl (lv_at hl₀ 0 rfl) ?_
        refine lv_iload_n C₀.1.1 C₀.1.2.1 dX9_maskOf_16 rfl (lv_at hl₀ 1 rfl) ?_
        refine lv_iload C₀.1.1 C₀.1.2.1 dX9_maskOf_17 (lv_at hl₀ 5 rfl) ?_
        refine xc_Si (wr := [mO a₀ q₀ th₀ un₀ mf₀ ty₀ fr₀ tt₀ tk₀ fa₀ (bz hf₀) (bz ho₀) km₀, (q₀ 1, .inl (k₀ 0, 51, .inl (ia s₀)))]) (ws' := fun _ => [mO a₀ q₀ th₀ un₀ mf₀ ty₀ fr₀ tt₀ tk₀ fa₀ (bz hf₀) (bz ho₀) km₀, (q₀ 1, .inl (k₀ 0, 51, .inl (ia s₀)))]) (As := [.int (iI z₀)]) (rest := [.int (iI x), .ref a₀, .int (iI n₀)]) C₀ hH₀ (c_X9_toRight lL₀ D₀ k₀ H₀.size z₀ (by omega)) ZT_b (fun _ _ _ => trivial) (va_cwS 1 C₀.1.2.2.2.2 gX9_maskOf_X9_toRight rfl rfl rfl (by decide +kernel) ⟨Nat.le_of_ble_eq_true rfl, Nat.le_of_ble_eq_true rfl⟩) [] [0, 1] [0, 1] rfl rfl (by decide) (by decide) (by decide) (fun _ => rfl) (by decide) rfl hl₀.1 rfl (Nat.le_of_ble_eq_true rfl) dX9_maskOf_19 ⟨Nat.le_of_ble_eq_true rfl, Nat.le_of_ble_eq_true rfl⟩ (fun _ _ H₀ locs₀ hH₀ => ?_)
        refine xi_add C₀.1.1 C₀.1.2.1 dX9_maskOf_22 ?_
        refine lv_iload_n C₀.1.1 C₀.1.2.1 dX9_maskOf_23 rfl (lv_at hl₀ 2 rfl) ?_
        refine lv_iload C₀.1.1 C₀.1.2.1 dX9_maskOf_24 (lv_at hl₀ 5 rfl) ?_
        refine xc_Si (wr := [mO a₀ q₀ th₀ un₀ mf₀ ty₀ fr₀ tt₀ tk₀ fa₀ (bz hf₀) (bz ho₀) km₀, (q₀ 1, .inl (k₀ 0, 51, .inl (ia s₀)))]) (ws' := fun _ => [mO a₀ q₀ th₀ un₀ mf₀ ty₀ fr₀ tt₀ tk₀ fa₀ (bz hf₀) (bz ho₀) km₀, (q₀ 1, .inl (k₀ 0, 51, .inl (ia s₀)))]) (As := [.int (iI z₀)]) (rest := [.int (iI y₀), .int (iI (x + (mDx z₀))), .ref a₀, .int (iI n₀)]) C₀ hH₀ (c_X9_toDown lL₀ D₀ k₀ H₀.size z₀ (by omega)) ZT_b (fun _ _ _ => trivial) (va_cwS 1 C₀.1.2.2.2.2 gX9_maskOf_X9_toDown rfl rfl rfl (by decide +kernel) ⟨Nat.le_of_ble_eq_true rfl, Nat.le_of_ble_eq_true rfl⟩) [] [0, 1] [0, 1] rfl rfl (by decide) (by decide) (by decide) (fun _ => rfl) (by decide) rfl hl₀.1 rfl (Nat.le_of_ble_eq_true rfl) dX9_maskOf_26 ⟨Nat.le_of_ble_eq_true rfl, Nat.le_of_ble_eq_true rfl⟩ (fun _ _ H₀ locs₀ hH₀ => ?_)
        refine xi_add C₀.1.1 C₀.1.2.1 dX9_maskOf_29 ?_
        refine xc_Vi (wr := []) (ws' := fun _ => [mO a₀ q₀ th₀ un₀ mf₀ ty₀ fr₀ tt₀ tk₀ fa₀ (bz hf₀) (bz ho₀) km₀, (q₀ 1, .inl (k₀ 0, 51, .inl (ia s₀)))]) (As := [.int (iI (x + (mDx z₀))), .int (iI (y₀ + (mDy z₀)))]) (rest := [.int (iI n₀)]) C₀ hH₀ (c_X9_heightAt lL₀ D₀ k₀ H₀.size a₀ q₀ th₀ un₀ mf₀ ty₀ fr₀ tt₀ tk₀ fa₀ hf₀ ho₀ km₀ s₀ (x + (mDx z₀)) (y₀ + (mDy z₀)) (hS₀) (by omega) (by omega)) ZT_b (fun _ _ _ => trivial) (cwV 2 C₀.1.2.2.2.2 gX9_maskOf_X9_heightAt rfl rfl rfl (by decide +kernel) ⟨Nat.le_of_ble_eq_true rfl, Nat.le_of_ble_eq_true rfl⟩) [0, 1] [] [0, 1] rfl rfl (by decide) (by decide) (by decide) (fun _ => rfl) (by decide) (q0 := 0) rfl rfl rfl hl₀.1 rfl (Nat.le_of_ble_eq_true rfl) dX9_maskOf_30 ⟨Nat.le_of_ble_eq_true rfl, Nat.le_of_ble_eq_true rfl⟩ (fun _ _ H₀ locs₀ hH₀ => ?_)
        refine lv_iload_n C₀.1.1 C₀.1.2.1 dX9_maskOf_33 rfl (lv_at hl₀ 3 rfl) ?_
        refine xi_clt (tgt := 44) C₀.1.1 C₀.1.2.1 dX9_maskOf_34 (by decide) (by omega) (by omega) (fun h_5₀ => ?_) (fun h_5₀ => ?_)
        · refine lv_iconst (v := iI 0) C₀.1.1 C₀.1.2.1 dX9_maskOf_44 (by decide) ?_
          exact L45₀ 0 ((by unfold mSetX; rw [if_neg (by omega)])) _ _ _ hH₀ (lv_sub hl₀ [0, 1, 2, 3, 4, 5] rfl)
        · refine lv_iconst (v := iI 1) C₀.1.1 C₀.1.2.1 dX9_maskOf_37 (by decide) ?_
          refine lv_iload C₀.1.1 C₀.1.2.1 dX9_maskOf_38 (lv_at hl₀ 5 rfl) ?_
          refine lv_ishl C₀.1.1 C₀.1.2.1 dX9_maskOf_40 ?_
          refine xt_i (y := (iI ((2 : Int) ^ z₀.toNat))) (shl_eq (by omega)) ?_
          refine lv_goto (tgt := 45) C₀.1.1 C₀.1.2.1 dX9_maskOf_41 (by decide) ?_
          exact L45₀ ((2 : Int) ^ z₀.toNat) ((by unfold mSetX; rw [if_pos (by omega)])) _ _ _ hH₀ (lv_sub hl₀ [0, 1, 2, 3, 4, 5] rfl)
  exact L6₀ (((8 - 0) : Int).toNat + 1) 0 0 (rfl) (by omega) (by omega) _ _ _ hH₀ (lv_sub hl₀ [2, 3, 4, 5, 1, 0] rfl)
abbrev rmX9_isMask : Room := { frames := 1, cells := 0, slots := 0, locals := 21 }
set_option maxHeartbeats 4000000 in
set_option maxRecDepth 100000 in
/-- isMask -/
theorem c_X9_isMask (lL₀ : Launch) (D₀ : va_G) (k₀ : Nat → ClassId) (sz₀ : Nat) (n₀ : Int) (hn₀ : 0 ≤ n₀ ∧ n₀ < 2147483648) : Met lL₀ yX9_isMask wsX9_isMask rmX9_isMask (gPc ZT D₀ (tyk k₀) [.int (iI n₀)] sz₀ []) (gQi D₀ (tyk k₀) [] sz₀ (fun (_ : Unit) => True) (fun (_ : Unit) => (iI (bz (mIsMask n₀)))) (fun (_ : Unit) => [])) 0 0 (va_A [] sz₀) := by
  refine xs_met (cc := cX9_isMask) (maxL := 3) (ret := some .boolean) (by decide) rfl (Nat.le_of_ble_eq_true rfl) ?_
  intro pP₀ eN₀ sT₀ mI₀ below₀ meth₀ cD₀ hsz₀ args₀ QQ₀ C₀ hr₀ hlk₀ hnm₀ hQ₀ ls₀ H₀ locs₀ hl₀ hH₀
  subst hsz₀
  have hl₀ : lv_has ls₀ 3 [(0, .int (iI n₀))] := hl₀
  generalize hAe₀ : va_A [] sT₀.heap.size = A₀ at C₀ hH₀ hQ₀
  refine lv_iconst (v := iI 1) C₀.1.1 C₀.1.2.1 dX9_isMask_0 (by decide) ?_
  refine lv_istore_n (lv' := [(1, .int (iI 1)), (0, .int (iI n₀))]) C₀.1.1 C₀.1.2.1 dX9_isMask_1 rfl hl₀ (by decide) rfl (fun ls₀ hl₀ => ?_)
  refine lv_iconst (v := iI 1) C₀.1.1 C₀.1.2.1 dX9_isMask_2 (by decide) ?_
  refine lv_istore_n (lv' := [(2, .int (iI 1)), (1, .int (iI 1)), (0, .int (iI n₀))]) C₀.1.1 C₀.1.2.1 dX9_isMask_3 rfl hl₀ (by decide) rfl (fun ls₀ hl₀ => ?_)
  have L4₀ : ∀ (nn₀ : Nat), ∀ (t₀ : Bool) (z₀ : Int) (jj₀ : Nat), (t₀ = mIsM n₀ jj₀) → (z₀ = 2 * (jj₀ : Int) + 1) → (jj₀ ≤ 4) → ((9 - z₀) < (nn₀ : Int)) → ∀ (H₀ : Heap) (locs₀ : List Loc) (ls₀ : Array Slot), Hp D₀ A₀ sT₀.heap [] H₀ locs₀ → lv_has ls₀ 3 [(0, .int (iI n₀)), (1, .int (iI (bz t₀))), (2, .int (iI z₀))] → W pP₀ lL₀ eN₀ rmX9_isMask sT₀ mI₀ args₀ below₀ meth₀ cD₀ H₀ locs₀ 0 0 QQ₀ (F0 mI₀ 4 ls₀ []) := by
    intro nn₀
    induction nn₀ with
    | zero => intro t₀ z₀ jj₀ i1₀ i2₀ i3₀ hm₀; exact absurd hm₀ (by omega)
    | succ nn₀ ih4₀ =>
      intro t₀ z₀ jj₀ i1₀ i2₀ i3₀ hm4₀ H₀ locs₀ ls₀ hH₀ hl₀
      refine lv_iload_n C₀.1.1 C₀.1.2.1 dX9_isMask_4 rfl (lv_at hl₀ 2 rfl) ?_
      refine lv_bipush (v := iI 8) C₀.1.1 C₀.1.2.1 dX9_isMask_5 (by decide) ?_
      refine xi_cge (tgt := 57) C₀.1.1 C₀.1.2.1 dX9_isMask_7 (by decide) (by omega) (by omega) (fun h_1₀ => ?_) (fun h_1₀ => ?_)
      · refine lv_iload_n C₀.1.1 C₀.1.2.1 dX9_isMask_57 rfl (lv_at hl₀ 1 rfl) ?_
        exact xr_i C₀ hH₀ hlk₀ hr₀ hQ₀ (nar_bz _) hAe₀ () trivial (by unfold mIsMask; rw [i1₀, show jj₀ = 4 by omega]) rfl dX9_isMask_58
      · have L50₀ : ∀ (d₀ : Bool), (d₀ = mIsM n₀ (jj₀ + 1)) → ∀ (H₀ : Heap) (locs₀ : List Loc) (ls₀ : Array Slot), Hp D₀ A₀ sT₀.heap [] H₀ locs₀ → lv_has ls₀ 3 [(0, .int (iI n₀)), (1, .int (iI (bz t₀))), (2, .int (iI z₀))] → W pP₀ lL₀ eN₀ rmX9_isMask sT₀ mI₀ args₀ below₀ meth₀ cD₀ H₀ locs₀ 0 0 QQ₀ (F0 mI₀ 50 ls₀ [.int (iI (bz d₀))]) := by
          intro d₀ jd₀ H₀ locs₀ ls₀ hH₀ hl₀
          refine lv_istore_n (lv' := [(1, .int (iI (bz d₀))), (0, .int (iI n₀)), (2, .int (iI z₀))]) C₀.1.1 C₀.1.2.1 dX9_isMask_50 rfl hl₀ (by decide) rfl (fun ls₀ hl₀ => ?_)
          refine lv_iinc (v := iI (z₀ + 2)) (lv' := [(2, .int (iI (z₀ + 2))), (1, .int (iI (bz d₀))), (0, .int (iI n₀))]) C₀.1.1 C₀.1.2.1 dX9_isMask_51 hl₀ (k := 2) rfl (iI_add _ (2)) (by decide) rfl (fun ls₀ hl₀ => ?_)
          refine lv_goto (tgt := 4) C₀.1.1 C₀.1.2.1 dX9_isMask_54 (by decide) ?_
          exact ih4₀ d₀ (z₀ + 2) (jj₀ + 1) (jd₀) (by omega) (by omega) (by omega) _ _ _ hH₀ (lv_sub hl₀ [2, 1, 0] rfl)
        refine lv_iload_n C₀.1.1 C₀.1.2.1 dX9_isMask_10 rfl (lv_at hl₀ 1 rfl) ?_
        refine xb_eq (tgt := 49) C₀.1.1 C₀.1.2.1 dX9_isMask_11 (by decide) (fun h_2₀ => ?_) (fun h_2₀ => ?_)
        · refine lv_iconst (v := iI 0) C₀.1.1 C₀.1.2.1 dX9_isMask_49 (by decide) ?_
          exact L50₀ false ((by show _ = (mIsM n₀ jj₀ && (!(mBit n₀ (2 * (jj₀ : Int) + 1)) || (mBit n₀ (2 * (jj₀ : Int)) && mBit n₀ ((2 * (jj₀ : Int) + 2) % 8)))); simp_all [show (2 * (jj₀ : Int) + 1 - 1) = 2 * (jj₀ : Int) by omega, show (2 * (jj₀ : Int) + 1 + 1) = 2 * (jj₀ : Int) + 2 by omega])) _ _ _ hH₀ (lv_sub hl₀ [0, 1, 2] rfl)
        · refine lv_iload_n C₀.1.1 C₀.1.2.1 dX9_isMask_14 rfl (lv_at hl₀ 0 rfl) ?_
          refine lv_iload_n C₀.1.1 C₀.1.2.1 dX9_isMask_15 rfl (lv_at hl₀ 2 rfl) ?_
          refine xc_Si (wr := []) (ws' := fun _ => []) (As := [.int (iI n₀), .int (iI z₀)]) (rest := []) C₀ hH₀ (c_X9_has lL₀ D₀ k₀ H₀.size n₀ z₀ (by omega) (by omega)) ZT_b (fun _ _ _ => trivial) (va_cwS 2 C₀.1.2.2.2.2 gX9_isMask_X9_has rfl rfl rfl (by decide +kernel) ⟨Nat.le_of_ble_eq_true rfl, Nat.le_of_ble_eq_true rfl⟩) [] [] [] rfl rfl (by decide) (by decide) (by decide) (fun _ => rfl) (by decide) rfl hl₀.1 rfl (Nat.le_of_ble_eq_true rfl) dX9_isMask_16 ⟨Nat.le_of_ble_eq_true rfl, Nat.le_of_ble_eq_true rfl⟩ (fun _ _ H₀ locs₀ hH₀ => ?_)
          refine xb_eq (tgt := 45) C₀.1.1 C₀.1.2.1 dX9_isMask_19 (by decide) (fun h_3₀ => ?_) (fun h_3₀ => ?_)
          · refine lv_iconst (v := iI 1) C₀.1.1 C₀.1.2.1 dX9_isMask_45 (by decide) ?_
            refine lv_goto (tgt := 50) C₀.1.1 C₀.1.2.1 dX9_isMask_46 (by decide) ?_
            exact L50₀ true ((by show _ = (mIsM n₀ jj₀ && (!(mBit n₀ (2 * (jj₀ : Int) + 1)) || (mBit n₀ (2 * (jj₀ : Int)) && mBit n₀ ((2 * (jj₀ : Int) + 2) % 8)))); simp_all [show (2 * (jj₀ : Int) + 1 - 1) = 2 * (jj₀ : Int) by omega, show (2 * (jj₀ : Int) + 1 + 1) = 2 * (jj₀ : Int) + 2 by omega])) _ _ _ hH₀ (lv_sub hl₀ [0, 1, 2] rfl)
          · refine lv_iload_n C₀.1.1 C₀.1.2.1 dX9_isMask_22 rfl (lv_at hl₀ 0 rfl) ?_
            refine lv_iload_n C₀.1.1 C₀.1.2.1 dX9_isMask_23 rfl (lv_at hl₀ 2 rfl) ?_
            refine lv_iconst (v := iI 1) C₀.1.1 C₀.1.2.1 dX9_isMask_24 (by decide) ?_
            refine xi_sub C₀.1.1 C₀.1.2.1 dX9_isMask_25 ?_
            refine xc_Si (wr := []) (ws' := fun _ => []) (As := [.int (iI n₀), .int (iI (z₀ - 1))]) (rest := []) C₀ hH₀ (c_X9_has lL₀ D₀ k₀ H₀.size n₀ (z₀ - 1) (by omega) (by omega)) ZT_b (fun _ _ _ => trivial) (va_cwS 2 C₀.1.2.2.2.2 gX9_isMask_X9_has rfl rfl rfl (by decide +kernel) ⟨Nat.le_of_ble_eq_true rfl, Nat.le_of_ble_eq_true rfl⟩) [] [] [] rfl rfl (by decide) (by decide) (by decide) (fun _ => rfl) (by decide) rfl hl₀.1 rfl (Nat.le_of_ble_eq_true rfl) dX9_isMask_26 ⟨Nat.le_of_ble_eq_true rfl, Nat.le_of_ble_eq_true rfl⟩ (fun _ _ H₀ locs₀ hH₀ => ?_)
            refine xb_eq (tgt := 49) C₀.1.1 C₀.1.2.1 dX9_isMask_29 (by decide) (fun h_4₀ => ?_) (fun h_4₀ => ?_)
            · refine lv_iconst (v := iI 0) C₀.1.1 C₀.1.2.1 dX9_isMask_49 (by decide) ?_
              exact L50₀ false ((by show _ = (mIsM n₀ jj₀ && (!(mBit n₀ (2 * (jj₀ : Int) + 1)) || (mBit n₀ (2 * (jj₀ : Int)) && mBit n₀ ((2 * (jj₀ : Int) + 2) % 8)))); simp_all [show (2 * (jj₀ : Int) + 1 - 1) = 2 * (jj₀ : Int) by omega, show (2 * (jj₀ : Int) + 1 + 1) = 2 * (jj₀ : Int) + 2 by omega])) _ _ _ hH₀ (lv_sub hl₀ [0, 1, 2] rfl)
            · refine lv_iload_n C₀.1.1 C₀.1.2.1 dX9_isMask_32 rfl (lv_at hl₀ 0 rfl) ?_
              refine lv_iload_n C₀.1.1 C₀.1.2.1 dX9_isMask_33 rfl (lv_at hl₀ 2 rfl) ?_
              refine lv_iconst (v := iI 1) C₀.1.1 C₀.1.2.1 dX9_isMask_34 (by decide) ?_
              refine xi_add C₀.1.1 C₀.1.2.1 dX9_isMask_35 ?_
              refine lv_bipush (v := iI 8) C₀.1.1 C₀.1.2.1 dX9_isMask_36 (by decide) ?_
              refine xi_rem C₀.1.1 C₀.1.2.1 dX9_isMask_38 (by omega) (by omega) ?_
              refine xc_Si (wr := []) (ws' := fun _ => []) (As := [.int (iI n₀), .int (iI ((z₀ + 1) % 8))]) (rest := []) C₀ hH₀ (c_X9_has lL₀ D₀ k₀ H₀.size n₀ ((z₀ + 1) % 8) (by omega) (by omega)) ZT_b (fun _ _ _ => trivial) (va_cwS 2 C₀.1.2.2.2.2 gX9_isMask_X9_has rfl rfl rfl (by decide +kernel) ⟨Nat.le_of_ble_eq_true rfl, Nat.le_of_ble_eq_true rfl⟩) [] [] [] rfl rfl (by decide) (by decide) (by decide) (fun _ => rfl) (by decide) rfl hl₀.1 rfl (Nat.le_of_ble_eq_true rfl) dX9_isMask_39 ⟨Nat.le_of_ble_eq_true rfl, Nat.le_of_ble_eq_true rfl⟩ (fun _ _ H₀ locs₀ hH₀ => ?_)
              refine xb_eq (tgt := 49) C₀.1.1 C₀.1.2.1 dX9_isMask_42 (by decide) (fun h_5₀ => ?_) (fun h_5₀ => ?_)
              · refine lv_iconst (v := iI 0) C₀.1.1 C₀.1.2.1 dX9_isMask_49 (by decide) ?_
                exact L50₀ false ((by show _ = (mIsM n₀ jj₀ && (!(mBit n₀ (2 * (jj₀ : Int) + 1)) || (mBit n₀ (2 * (jj₀ : Int)) && mBit n₀ ((2 * (jj₀ : Int) + 2) % 8)))); simp_all [show (2 * (jj₀ : Int) + 1 - 1) = 2 * (jj₀ : Int) by omega, show (2 * (jj₀ : Int) + 1 + 1) = 2 * (jj₀ : Int) + 2 by omega])) _ _ _ hH₀ (lv_sub hl₀ [0, 1, 2] rfl)
              · refine lv_iconst (v := iI 1) C₀.1.1 C₀.1.2.1 dX9_isMask_45 (by decide) ?_
                refine lv_goto (tgt := 50) C₀.1.1 C₀.1.2.1 dX9_isMask_46 (by decide) ?_
                exact L50₀ true ((by show _ = (mIsM n₀ jj₀ && (!(mBit n₀ (2 * (jj₀ : Int) + 1)) || (mBit n₀ (2 * (jj₀ : Int)) && mBit n₀ ((2 * (jj₀ : Int) + 2) % 8)))); simp_all [show (2 * (jj₀ : Int) + 1 - 1) = 2 * (jj₀ : Int) by omega, show (2 * (jj₀ : Int) + 1 + 1) = 2 * (jj₀ : Int) + 2 by omega])) _ _ _ hH₀ (lv_sub hl₀ [0, 1, 2] rfl)
  exact L4₀ (((9 - 1) : Int).toNat + 1) true 1 0 (rfl) (rfl) (by omega) (by omega) _ _ _ hH₀ (lv_sub hl₀ [2, 1, 0] rfl)
abbrev rmX9_squareOf : Room := { frames := 4, cells := 0, slots := 0, locals := 94 }
set_option maxHeartbeats 4000000 in
set_option maxRecDepth 100000 in
/-- squareOf -/
theorem c_X9_squareOf (lL₀ : Launch) (D₀ : va_G) (k₀ : Nat → ClassId) (sz₀ : Nat) (a₀ : Nat) (q₀ : Nat → Nat) (th₀ : Int) (un₀ : Int) (mf₀ : Int) (ty₀ : Int) (fr₀ : Int) (tt₀ : Int) (tk₀ : Int) (fa₀ : Int) (hf₀ : Bool) (ho₀ : Bool) (km₀ : Int) (s₀ : Int → Int) (x : Int) (y₀ : Int) (la₀ : Int) (hS₀ : mS s₀) (hx₀ : 0 ≤ x ∧ x < s₀ 0) (hy₀ : 0 ≤ y₀ ∧ y₀ < s₀ 1) (hla₀ : 1 ≤ la₀ ∧ la₀ ≤ 3) : Met lL₀ yX9_squareOf wsX9_squareOf rmX9_squareOf (gPc ZT D₀ (tyk k₀) [.ref a₀, .int (iI x), .int (iI y₀), .int (iI la₀)] sz₀ [mO a₀ q₀ th₀ un₀ mf₀ ty₀ fr₀ tt₀ tk₀ fa₀ (bz hf₀) (bz ho₀) km₀, (q₀ 1, .inl (k₀ 0, 51, .inl (ia s₀)))]) (gQi D₀ (tyk k₀) [mO a₀ q₀ th₀ un₀ mf₀ ty₀ fr₀ tt₀ tk₀ fa₀ (bz hf₀) (bz ho₀) km₀, (q₀ 1, .inl (k₀ 0, 51, .inl (ia s₀)))] sz₀ (fun (_ : Unit) => True) (fun (_ : Unit) => (iI (mSq s₀ x y₀ la₀))) (fun (_ : Unit) => [mO a₀ q₀ th₀ un₀ mf₀ ty₀ fr₀ tt₀ tk₀ fa₀ (bz hf₀) (bz ho₀) km₀, (q₀ 1, .inl (k₀ 0, 51, .inl (ia s₀)))])) 0 0 (va_A [mO a₀ q₀ th₀ un₀ mf₀ ty₀ fr₀ tt₀ tk₀ fa₀ (bz hf₀) (bz ho₀) km₀, (q₀ 1, .inl (k₀ 0, 51, .inl (ia s₀)))] sz₀) := by
  refine xs_met (cc := cX9_squareOf) (maxL := 7) (ret := some .int) (by decide) rfl (Nat.le_of_ble_eq_true rfl) ?_
  intro pP₀ eN₀ sT₀ mI₀ below₀ meth₀ cD₀ hsz₀ args₀ QQ₀ C₀ hr₀ hlk₀ hnm₀ hQ₀ ls₀ H₀ locs₀ hl₀ hH₀
  subst hsz₀
  have hl₀ : lv_has ls₀ 7 [(0, .ref a₀), (1, .int (iI x)), (2, .int (iI y₀)), (3, .int (iI la₀))] := hl₀
  generalize hAe₀ : va_A [mO a₀ q₀ th₀ un₀ mf₀ ty₀ fr₀ tt₀ tk₀ fa₀ (bz hf₀) (bz ho₀) km₀, (q₀ 1, .inl (k₀ 0, 51, .inl (ia s₀)))] sT₀.heap.size = A₀ at C₀ hH₀ hQ₀
  obtain ⟨hs0₀, hs1₀, hs2₀, hsh₀, hsf₀⟩ := id hS₀
  have hcl₀ := cells_rg hs0₀ hs1₀
  have hc₀ := cell_rg hs0₀ hx₀ hy₀
  have hh₀ := hsh₀ (3 + s₀ 0 * y₀ + x) (by omega) (by omega)
  have hmk₀ := mMask_rg s₀ x y₀ la₀
  refine lv_aload_n C₀.1.1 C₀.1.2.1 dX9_squareOf_0 rfl (lv_at hl₀ 0 rfl) ?_
  refine lv_iload_n C₀.1.1 C₀.1.2.1 dX9_squareOf_1 rfl (lv_at hl₀ 1 rfl) ?_
  refine lv_iload_n C₀.1.1 C₀.1.2.1 dX9_squareOf_2 rfl (lv_at hl₀ 2 rfl) ?_
  refine xc_Vi (wr := []) (ws' := fun _ => [mO a₀ q₀ th₀ un₀ mf₀ ty₀ fr₀ tt₀ tk₀ fa₀ (bz hf₀) (bz ho₀) km₀, (q₀ 1, .inl (k₀ 0, 51, .inl (ia s₀)))]) (As := [.int (iI x), .int (iI y₀)]) (rest := []) C₀ hH₀ (c_X9_height lL₀ D₀ k₀ H₀.size a₀ q₀ th₀ un₀ mf₀ ty₀ fr₀ tt₀ tk₀ fa₀ hf₀ ho₀ km₀ s₀ x y₀ (by omega)) ZT_b (fun _ _ _ => trivial) (cwV 2 C₀.1.2.2.2.2 gX9_squareOf_X9_height rfl rfl rfl (by decide +kernel) ⟨Nat.le_of_ble_eq_true rfl, Nat.le_of_ble_eq_true rfl⟩) [0, 1] [] [0, 1] rfl rfl (by decide) (by decide) (by decide) (fun _ => rfl) (by decide) (q0 := 0) rfl rfl rfl hl₀.1 rfl (Nat.le_of_ble_eq_true rfl) dX9_squareOf_3 ⟨Nat.le_of_ble_eq_true rfl, Nat.le_of_ble_eq_true rfl⟩ (fun _ _ H₀ locs₀ hH₀ => ?_)
  refine lv_iload_n C₀.1.1 C₀.1.2.1 dX9_squareOf_6 rfl (lv_at hl₀ 3 rfl) ?_
  refine xi_cge (tgt := 13) C₀.1.1 C₀.1.2.1 dX9_squareOf_7 (by decide) (by omega) (by omega) (fun h_1₀ => ?_) (fun h_1₀ => ?_)
  · refine lv_aload_n C₀.1.1 C₀.1.2.1 dX9_squareOf_13 rfl (lv_at hl₀ 0 rfl) ?_
    refine lv_iload_n C₀.1.1 C₀.1.2.1 dX9_squareOf_14 rfl (lv_at hl₀ 1 rfl) ?_
    refine lv_iload_n C₀.1.1 C₀.1.2.1 dX9_squareOf_15 rfl (lv_at hl₀ 2 rfl) ?_
    refine lv_iload_n C₀.1.1 C₀.1.2.1 dX9_squareOf_16 rfl (lv_at hl₀ 3 rfl) ?_
    refine xc_Vi (wr := []) (ws' := fun _ => [mO a₀ q₀ th₀ un₀ mf₀ ty₀ fr₀ tt₀ tk₀ fa₀ (bz hf₀) (bz ho₀) km₀, (q₀ 1, .inl (k₀ 0, 51, .inl (ia s₀)))]) (As := [.int (iI x), .int (iI y₀), .int (iI la₀)]) (rest := []) C₀ hH₀ (c_X9_maskOf lL₀ D₀ k₀ H₀.size a₀ q₀ th₀ un₀ mf₀ ty₀ fr₀ tt₀ tk₀ fa₀ hf₀ ho₀ km₀ s₀ x y₀ la₀ (hS₀) (by omega) (by omega) (by omega)) ZT_b (fun _ _ _ => trivial) (cwV 3 C₀.1.2.2.2.2 gX9_squareOf_X9_maskOf rfl rfl rfl (by decide +kernel) ⟨Nat.le_of_ble_eq_true rfl, Nat.le_of_ble_eq_true rfl⟩) [0, 1] [] [0, 1] rfl rfl (by decide) (by decide) (by decide) (fun _ => rfl) (by decide) (q0 := 0) rfl rfl rfl hl₀.1 rfl (Nat.le_of_ble_eq_true rfl) dX9_squareOf_17 ⟨Nat.le_of_ble_eq_true rfl, Nat.le_of_ble_eq_true rfl⟩ (fun _ _ H₀ locs₀ hH₀ => ?_)
    refine lv_istore (lv' := [(4, .int (iI (mMask s₀ x y₀ la₀))), (0, .ref a₀), (1, .int (iI x)), (2, .int (iI y₀)), (3, .int (iI la₀))]) C₀.1.1 C₀.1.2.1 dX9_squareOf_20 hl₀ (by decide) rfl (fun ls₀ hl₀ => ?_)
    refine lv_iconst (v := iI 0) C₀.1.1 C₀.1.2.1 dX9_squareOf_22 (by decide) ?_
    refine lv_istore (lv' := [(5, .int (iI 0)), (4, .int (iI (mMask s₀ x y₀ la₀))), (0, .ref a₀), (1, .int (iI x)), (2, .int (iI y₀)), (3, .int (iI la₀))]) C₀.1.1 C₀.1.2.1 dX9_squareOf_23 hl₀ (by decide) rfl (fun ls₀ hl₀ => ?_)
    refine lv_iconst (v := iI 0) C₀.1.1 C₀.1.2.1 dX9_squareOf_25 (by decide) ?_
    refine lv_istore (lv' := [(6, .int (iI 0)), (5, .int (iI 0)), (4, .int (iI (mMask s₀ x y₀ la₀))), (0, .ref a₀), (1, .int (iI x)), (2, .int (iI y₀)), (3, .int (iI la₀))]) C₀.1.1 C₀.1.2.1 dX9_squareOf_26 hl₀ (by decide) rfl (fun ls₀ hl₀ => ?_)
    have L28₀ : ∀ (nn₀ : Nat), ∀ (n₀ : Int) (z₀ : Int), (n₀ = sI (fun k₀ => bz (mIsMask k₀)) z₀) → (0 ≤ z₀ ∧ z₀ ≤ mMask s₀ x y₀ la₀) → ((mMask s₀ x y₀ la₀ - z₀) < (nn₀ : Int)) → ∀ (H₀ : Heap) (locs₀ : List Loc) (ls₀ : Array Slot), Hp D₀ A₀ sT₀.heap [mO a₀ q₀ th₀ un₀ mf₀ ty₀ fr₀ tt₀ tk₀ fa₀ (bz hf₀) (bz ho₀) km₀, (q₀ 1, .inl (k₀ 0, 51, .inl (ia s₀)))] H₀ locs₀ → lv_has ls₀ 7 [(0, .ref a₀), (1, .int (iI x)), (2, .int (iI y₀)), (3, .int (iI la₀)), (4, .int (iI (mMask s₀ x y₀ la₀))), (5, .int (iI n₀)), (6, .int (iI z₀))] → W pP₀ lL₀ eN₀ rmX9_squareOf sT₀ mI₀ args₀ below₀ meth₀ cD₀ H₀ locs₀ 0 0 QQ₀ (F0 mI₀ 28 ls₀ []) := by
      intro nn₀
      induction nn₀ with
      | zero => intro n₀ z₀ i1₀ i2₀ hm₀; exact absurd hm₀ (by omega)
      | succ nn₀ ih28₀ =>
        intro n₀ z₀ i1₀ i2₀ hm28₀ H₀ locs₀ ls₀ hH₀ hl₀
        refine lv_iload C₀.1.1 C₀.1.2.1 dX9_squareOf_28 (lv_at hl₀ 6 rfl) ?_
        refine lv_iload C₀.1.1 C₀.1.2.1 dX9_squareOf_30 (lv_at hl₀ 4 rfl) ?_
        refine xi_cge (tgt := 59) C₀.1.1 C₀.1.2.1 dX9_squareOf_32 (by decide) (by omega) (by omega) (fun h_2₀ => ?_) (fun h_2₀ => ?_)
        · refine lv_iload C₀.1.1 C₀.1.2.1 dX9_squareOf_59 (lv_at hl₀ 5 rfl) ?_
          exact xr_i C₀ hH₀ hlk₀ hr₀ hQ₀ rfl hAe₀ () trivial (by unfold mSq mSqN; rw [if_neg (by omega), i1₀, show z₀ = mMask s₀ x y₀ la₀ by omega]) rfl dX9_squareOf_61
        · refine lv_iload C₀.1.1 C₀.1.2.1 dX9_squareOf_35 (lv_at hl₀ 5 rfl) ?_
          have L50₀ : ∀ (d₀ : Int), (d₀ = bz (mIsMask z₀)) → ∀ (H₀ : Heap) (locs₀ : List Loc) (ls₀ : Array Slot), Hp D₀ A₀ sT₀.heap [mO a₀ q₀ th₀ un₀ mf₀ ty₀ fr₀ tt₀ tk₀ fa₀ (bz hf₀) (bz ho₀) km₀, (q₀ 1, .inl (k₀ 0, 51, .inl (ia s₀)))] H₀ locs₀ → lv_has ls₀ 7 [(0, .ref a₀), (1, .int (iI x)), (2, .int (iI y₀)), (3, .int (iI la₀)), (4, .int (iI (mMask s₀ x y₀ la₀))), (5, .int (iI n₀)), (6, .int (iI z₀))] → W pP₀ lL₀ eN₀ rmX9_squareOf sT₀ mI₀ args₀ below₀ meth₀ cD₀ H₀ locs₀ 0 0 QQ₀ (F0 mI₀ 50 ls₀ [.int (iI d₀), .int (iI n₀)]) := by
            intro d₀ jd₀ H₀ locs₀ ls₀ hH₀ hl₀
            refine xi_add C₀.1.1 C₀.1.2.1 dX9_squareOf_50 ?_
            refine lv_istore (lv' := [(5, .int (iI (n₀ + d₀))), (0, .ref a₀), (1, .int (iI x)), (2, .int (iI y₀)), (3, .int (iI la₀)), (4, .int (iI (mMask s₀ x y₀ la₀))), (6, .int (iI z₀))]) C₀.1.1 C₀.1.2.1 dX9_squareOf_51 hl₀ (by decide) rfl (fun ls₀ hl₀ => ?_)
            refine lv_iinc (v := iI (z₀ + 1)) (lv' := [(6, .int (iI (z₀ + 1))), (5, .int (iI (n₀ + d₀))), (0, .ref a₀), (1, .int (iI x)), (2, .int (iI y₀)), (3, .int (iI la₀)), (4, .int (iI (mMask s₀ x y₀ la₀)))]) C₀.1.1 C₀.1.2.1 dX9_squareOf_53 hl₀ (k := 6) rfl (iI_add _ (1)) (by decide) rfl (fun ls₀ hl₀ => ?_)
            refine lv_goto (tgt := 28) C₀.1.1 C₀.1.2.1 dX9_squareOf_56 (by decide) ?_
            exact ih28₀ (n₀ + d₀) (z₀ + 1) (by rw [sI_s i2₀.1, ← i1₀, jd₀]) (by omega) (by omega) _ _ _ hH₀ (lv_sub hl₀ [2, 3, 4, 5, 6, 1, 0] rfl)
          refine lv_iload C₀.1.1 C₀.1.2.1 dX9_squareOf_37 (lv_at hl₀ 6 rfl) ?_
          refine xc_Si (wr := [mO a₀ q₀ th₀ un₀ mf₀ ty₀ fr₀ tt₀ tk₀ fa₀ (bz hf₀) (bz ho₀) km₀, (q₀ 1, .inl (k₀ 0, 51, .inl (ia s₀)))]) (ws' := fun _ => [mO a₀ q₀ th₀ un₀ mf₀ ty₀ fr₀ tt₀ tk₀ fa₀ (bz hf₀) (bz ho₀) km₀, (q₀ 1, .inl (k₀ 0, 51, .inl (ia s₀)))]) (As := [.int (iI z₀)]) (rest := [.int (iI n₀)]) C₀ hH₀ (c_X9_isMask lL₀ D₀ k₀ H₀.size z₀ (by omega)) ZT_b (fun _ _ _ => trivial) (va_cwS 1 C₀.1.2.2.2.2 gX9_squareOf_X9_isMask rfl rfl rfl (by decide +kernel) ⟨Nat.le_of_ble_eq_true rfl, Nat.le_of_ble_eq_true rfl⟩) [] [0, 1] [0, 1] rfl rfl (by decide) (by decide) (by decide) (fun _ => rfl) (by decide) rfl hl₀.1 rfl (Nat.le_of_ble_eq_true rfl) dX9_squareOf_39 ⟨Nat.le_of_ble_eq_true rfl, Nat.le_of_ble_eq_true rfl⟩ (fun _ _ H₀ locs₀ hH₀ => ?_)
          refine xb_eq (tgt := 49) C₀.1.1 C₀.1.2.1 dX9_squareOf_42 (by decide) (fun h_3₀ => ?_) (fun h_3₀ => ?_)
          · refine lv_iconst (v := iI 0) C₀.1.1 C₀.1.2.1 dX9_squareOf_49 (by decide) ?_
            exact L50₀ 0 ((by simp_all [bz])) _ _ _ hH₀ (lv_sub hl₀ [0, 1, 2, 3, 4, 5, 6] rfl)
          · refine lv_iconst (v := iI 1) C₀.1.1 C₀.1.2.1 dX9_squareOf_45 (by decide) ?_
            refine lv_goto (tgt := 50) C₀.1.1 C₀.1.2.1 dX9_squareOf_46 (by decide) ?_
            exact L50₀ 1 ((by simp_all [bz])) _ _ _ hH₀ (lv_sub hl₀ [0, 1, 2, 3, 4, 5, 6] rfl)
    exact L28₀ (((mMask s₀ x y₀ la₀ - 0) : Int).toNat + 1) 0 0 (rfl) (by omega) (by omega) _ _ _ hH₀ (lv_sub hl₀ [3, 4, 5, 6, 2, 1, 0] rfl)
  · refine lv_bipush (v := iI (-9)) C₀.1.1 C₀.1.2.1 dX9_squareOf_10 (by decide) ?_
    exact xr_i C₀ hH₀ hlk₀ hr₀ hQ₀ rfl hAe₀ () trivial (by unfold mSq; rw [if_pos (by omega)]) rfl dX9_squareOf_12
theorem iw_X9_jarring_X9 : ∀ w₀ ∈ u_ws RX9 TX9 24, w₀ ∈ wsX9_jarring := (fun w₀ h₀ => List.mem_cons_of_mem _ (List.mem_append_right _ h₀))
abbrev rmX9_jarring : Room := { frames := 2, cells := 0, slots := 0, locals := 43 }
set_option maxHeartbeats 4000000 in
set_option maxRecDepth 100000 in
/-- jarring -/
theorem c_X9_jarring (lL₀ : Launch) (D₀ : va_G) (k₀ : Nat → ClassId) (sz₀ : Nat) (a₀ : Nat) (q₀ : Nat → Nat) (th₀ : Int) (un₀ : Int) (mf₀ : Int) (ty₀ : Int) (fr₀ : Int) (tt₀ : Int) (tk₀ : Int) (fa₀ : Int) (hf₀ : Bool) (ho₀ : Bool) (km₀ : Int) (s₀ : Int → Int) (hS₀ : mS s₀) : Met lL₀ yX9_jarring wsX9_jarring rmX9_jarring (gPc ZT D₀ (tyk k₀) [.ref a₀] sz₀ [mO a₀ q₀ th₀ un₀ mf₀ ty₀ fr₀ tt₀ tk₀ fa₀ (bz hf₀) (bz ho₀) km₀, (q₀ 1, .inl (k₀ 0, 51, .inl (ia s₀)))]) (gQi D₀ (tyk k₀) [mO a₀ q₀ th₀ un₀ mf₀ ty₀ fr₀ tt₀ tk₀ fa₀ (bz hf₀) (bz ho₀) km₀, (q₀ 1, .inl (k₀ 0, 51, .inl (ia s₀)))] sz₀ (fun (_ : Unit) => True) (fun (_ : Unit) => (iI (mJar s₀))) (fun (_ : Unit) => [mO a₀ q₀ th₀ un₀ mf₀ ty₀ fr₀ tt₀ tk₀ fa₀ (bz hf₀) (bz ho₀) km₀, (q₀ 1, .inl (k₀ 0, 51, .inl (ia s₀)))])) 0 0 (va_A [mO a₀ q₀ th₀ un₀ mf₀ ty₀ fr₀ tt₀ tk₀ fa₀ (bz hf₀) (bz ho₀) km₀, (q₀ 1, .inl (k₀ 0, 51, .inl (ia s₀)))] sz₀) := by
  refine xs_met (cc := cX9_jarring) (maxL := 5) (ret := some .int) (by decide) rfl (Nat.le_of_ble_eq_true rfl) ?_
  intro pP₀ eN₀ sT₀ mI₀ below₀ meth₀ cD₀ hsz₀ args₀ QQ₀ C₀ hr₀ hlk₀ hnm₀ hQ₀ ls₀ H₀ locs₀ hl₀ hH₀
  subst hsz₀
  have hl₀ : lv_has ls₀ 5 [(0, .ref a₀)] := hl₀
  generalize hAe₀ : va_A [mO a₀ q₀ th₀ un₀ mf₀ ty₀ fr₀ tt₀ tk₀ fa₀ (bz hf₀) (bz ho₀) km₀, (q₀ 1, .inl (k₀ 0, 51, .inl (ia s₀)))] sT₀.heap.size = A₀ at C₀ hH₀ hQ₀
  obtain ⟨hs0₀, hs1₀, hs2₀, hsh₀, hsf₀⟩ := id hS₀
  have hcl₀ := cells_rg hs0₀ hs1₀
  refine lv_iconst (v := iI 0) C₀.1.1 C₀.1.2.1 dX9_jarring_0 (by decide) ?_
  refine lv_istore_n (lv' := [(1, .int (iI 0)), (0, .ref a₀)]) C₀.1.1 C₀.1.2.1 dX9_jarring_1 rfl hl₀ (by decide) rfl (fun ls₀ hl₀ => ?_)
  refine lv_iconst (v := iI 0) C₀.1.1 C₀.1.2.1 dX9_jarring_2 (by decide) ?_
  refine lv_istore_n (lv' := [(2, .int (iI 0)), (1, .int (iI 0)), (0, .ref a₀)]) C₀.1.1 C₀.1.2.1 dX9_jarring_3 rfl hl₀ (by decide) rfl (fun ls₀ hl₀ => ?_)
  have L4₀ : ∀ (nn₀ : Nat), ∀ (n₀ : Int) (z₀ : Int), (n₀ = sI (fun i₀ => sI (mJarX s₀ i₀) i₀) z₀) → (0 ≤ z₀ ∧ z₀ ≤ s₀ 0 * s₀ 1) → ((s₀ 0 * s₀ 1 - z₀) < (nn₀ : Int)) → ∀ (H₀ : Heap) (locs₀ : List Loc) (ls₀ : Array Slot), Hp D₀ A₀ sT₀.heap [mO a₀ q₀ th₀ un₀ mf₀ ty₀ fr₀ tt₀ tk₀ fa₀ (bz hf₀) (bz ho₀) km₀, (q₀ 1, .inl (k₀ 0, 51, .inl (ia s₀)))] H₀ locs₀ → lv_has ls₀ 5 [(0, .ref a₀), (1, .int (iI n₀)), (2, .int (iI z₀))] → W pP₀ lL₀ eN₀ rmX9_jarring sT₀ mI₀ args₀ below₀ meth₀ cD₀ H₀ locs₀ 0 0 QQ₀ (F0 mI₀ 4 ls₀ []) := by
    intro nn₀
    induction nn₀ with
    | zero => intro n₀ z₀ i1₀ i2₀ hm₀; exact absurd hm₀ (by omega)
    | succ nn₀ ih4₀ =>
      intro n₀ z₀ i1₀ i2₀ hm4₀ H₀ locs₀ ls₀ hH₀ hl₀
      refine lv_iload_n C₀.1.1 C₀.1.2.1 dX9_jarring_4 rfl (lv_at hl₀ 2 rfl) ?_
      refine lv_aload_n C₀.1.1 C₀.1.2.1 dX9_jarring_5 rfl (lv_at hl₀ 0 rfl) ?_
      refine xc_Vi (wr := []) (ws' := fun _ => [mO a₀ q₀ th₀ un₀ mf₀ ty₀ fr₀ tt₀ tk₀ fa₀ (bz hf₀) (bz ho₀) km₀, (q₀ 1, .inl (k₀ 0, 51, .inl (ia s₀)))]) (As := []) (rest := [.int (iI z₀)]) C₀ hH₀ (c_X9_cells lL₀ D₀ k₀ H₀.size a₀ q₀ th₀ un₀ mf₀ ty₀ fr₀ tt₀ tk₀ fa₀ hf₀ ho₀ km₀ s₀ ) ZT_b (fun _ _ _ => trivial) (cwV 0 C₀.1.2.2.2.2 gX9_jarring_X9_cells rfl rfl rfl (by decide +kernel) ⟨Nat.le_of_ble_eq_true rfl, Nat.le_of_ble_eq_true rfl⟩) [0, 1] [] [0, 1] rfl rfl (by decide) (by decide) (by decide) (fun _ => rfl) (by decide) (q0 := 0) rfl rfl rfl hl₀.1 rfl (Nat.le_of_ble_eq_true rfl) dX9_jarring_6 ⟨Nat.le_of_ble_eq_true rfl, Nat.le_of_ble_eq_true rfl⟩ (fun _ _ H₀ locs₀ hH₀ => ?_)
      refine xi_cge (tgt := 123) C₀.1.1 C₀.1.2.1 dX9_jarring_9 (by decide) (by omega) (by omega) (fun h_1₀ => ?_) (fun h_1₀ => ?_)
      · refine lv_iload_n C₀.1.1 C₀.1.2.1 dX9_jarring_123 rfl (lv_at hl₀ 1 rfl) ?_
        exact xr_i C₀ hH₀ hlk₀ hr₀ hQ₀ rfl hAe₀ () trivial (by unfold mJar; rw [i1₀, show z₀ = s₀ 0 * s₀ 1 by omega]) rfl dX9_jarring_124
      · have hz1₀ := dm_rg hs0₀ (show 0 ≤ z₀ ∧ z₀ < s₀ 0 * s₀ 1 by omega)
        have hz2₀ := hsh₀ (3 + z₀) (by omega) (by omega)
        refine lv_iconst (v := iI 0) C₀.1.1 C₀.1.2.1 dX9_jarring_12 (by decide) ?_
        refine lv_istore_n (lv' := [(3, .int (iI 0)), (0, .ref a₀), (1, .int (iI n₀)), (2, .int (iI z₀))]) C₀.1.1 C₀.1.2.1 dX9_jarring_13 rfl hl₀ (by decide) rfl (fun ls₀ hl₀ => ?_)
        have L14₀ : ∀ (nn₀ : Nat), ∀ (n2₀ : Int) (y₀ : Int), (n2₀ = sI (fun i₀ => sI (mJarX s₀ i₀) i₀) z₀ + sI (mJarX s₀ z₀) y₀) → (0 ≤ y₀ ∧ y₀ ≤ z₀) → ((z₀ - y₀) < (nn₀ : Int)) → ∀ (H₀ : Heap) (locs₀ : List Loc) (ls₀ : Array Slot), Hp D₀ A₀ sT₀.heap [mO a₀ q₀ th₀ un₀ mf₀ ty₀ fr₀ tt₀ tk₀ fa₀ (bz hf₀) (bz ho₀) km₀, (q₀ 1, .inl (k₀ 0, 51, .inl (ia s₀)))] H₀ locs₀ → lv_has ls₀ 5 [(0, .ref a₀), (1, .int (iI n2₀)), (2, .int (iI z₀)), (3, .int (iI y₀))] → W pP₀ lL₀ eN₀ rmX9_jarring sT₀ mI₀ args₀ below₀ meth₀ cD₀ H₀ locs₀ 0 0 QQ₀ (F0 mI₀ 14 ls₀ []) := by
          intro nn₀
          induction nn₀ with
          | zero => intro n2₀ y₀ j1₀ j2₀ hm₀; exact absurd hm₀ (by omega)
          | succ nn₀ ih14₀ =>
            intro n2₀ y₀ j1₀ j2₀ hm14₀ H₀ locs₀ ls₀ hH₀ hl₀
            refine lv_iload_n C₀.1.1 C₀.1.2.1 dX9_jarring_14 rfl (lv_at hl₀ 3 rfl) ?_
            refine lv_iload_n C₀.1.1 C₀.1.2.1 dX9_jarring_15 rfl (lv_at hl₀ 2 rfl) ?_
            refine xi_cge (tgt := 117) C₀.1.1 C₀.1.2.1 dX9_jarring_16 (by decide) (by omega) (by omega) (fun h_2₀ => ?_) (fun h_2₀ => ?_)
            · refine lv_iinc (v := iI (z₀ + 1)) (lv' := [(2, .int (iI (z₀ + 1))), (0, .ref a₀), (1, .int (iI n2₀)), (3, .int (iI y₀))]) C₀.1.1 C₀.1.2.1 dX9_jarring_117 hl₀ (k := 2) rfl (iI_add _ (1)) (by decide) rfl (fun ls₀ hl₀ => ?_)
              refine lv_goto (tgt := 4) C₀.1.1 C₀.1.2.1 dX9_jarring_120 (by decide) ?_
              exact ih4₀ n2₀ (z₀ + 1) (by rw [sI_s i2₀.1, j1₀, show y₀ = z₀ by omega]) (by omega) (by omega) _ _ _ hH₀ (lv_sub hl₀ [1, 2, 0] rfl)
            · have hy1₀ := dm_rg hs0₀ (show 0 ≤ y₀ ∧ y₀ < s₀ 0 * s₀ 1 by omega)
              have hy2₀ := hsh₀ (3 + y₀) (by omega) (by omega)
              have L74₀ : ∀ (b₀ : Bool), (b₀ = mBes (s₀ 0) z₀ y₀) → ∀ (H₀ : Heap) (locs₀ : List Loc) (ls₀ : Array Slot), Hp D₀ A₀ sT₀.heap [mO a₀ q₀ th₀ un₀ mf₀ ty₀ fr₀ tt₀ tk₀ fa₀ (bz hf₀) (bz ho₀) km₀, (q₀ 1, .inl (k₀ 0, 51, .inl (ia s₀)))] H₀ locs₀ → lv_has ls₀ 5 [(0, .ref a₀), (1, .int (iI n2₀)), (2, .int (iI z₀)), (3, .int (iI y₀))] → W pP₀ lL₀ eN₀ rmX9_jarring sT₀ mI₀ args₀ below₀ meth₀ cD₀ H₀ locs₀ 0 0 QQ₀ (F0 mI₀ 74 ls₀ [.int (iI (bz b₀))]) := by
                intro b₀ jb₀ H₀ locs₀ ls₀ hH₀ hl₀
                refine lv_istore (lv' := [(4, .int (iI (bz b₀))), (0, .ref a₀), (1, .int (iI n2₀)), (2, .int (iI z₀)), (3, .int (iI y₀))]) C₀.1.1 C₀.1.2.1 dX9_jarring_74 hl₀ (by decide) rfl (fun ls₀ hl₀ => ?_)
                refine lv_iload_n C₀.1.1 C₀.1.2.1 dX9_jarring_76 rfl (lv_at hl₀ 2 rfl) ?_
                have L109₀ : ∀ (d₀ : Int), (d₀ = mJarX s₀ z₀ y₀) → ∀ (H₀ : Heap) (locs₀ : List Loc) (ls₀ : Array Slot), Hp D₀ A₀ sT₀.heap [mO a₀ q₀ th₀ un₀ mf₀ ty₀ fr₀ tt₀ tk₀ fa₀ (bz hf₀) (bz ho₀) km₀, (q₀ 1, .inl (k₀ 0, 51, .inl (ia s₀)))] H₀ locs₀ → lv_has ls₀ 5 [(0, .ref a₀), (1, .int (iI n2₀)), (2, .int (iI z₀)), (3, .int (iI y₀)), (4, .int (iI (bz b₀)))] → W pP₀ lL₀ eN₀ rmX9_jarring sT₀ mI₀ args₀ below₀ meth₀ cD₀ H₀ locs₀ 0 0 QQ₀ (F0 mI₀ 109 ls₀ [.int (iI d₀), .int (iI n2₀)]) := by
                  intro d₀ jd₀ H₀ locs₀ ls₀ hH₀ hl₀
                  refine xi_add C₀.1.1 C₀.1.2.1 dX9_jarring_109 ?_
                  refine lv_istore_n (lv' := [(1, .int (iI (n2₀ + d₀))), (0, .ref a₀), (2, .int (iI z₀)), (3, .int (iI y₀)), (4, .int (iI (bz b₀)))]) C₀.1.1 C₀.1.2.1 dX9_jarring_110 rfl hl₀ (by decide) rfl (fun ls₀ hl₀ => ?_)
                  refine lv_iinc (v := iI (y₀ + 1)) (lv' := [(3, .int (iI (y₀ + 1))), (1, .int (iI (n2₀ + d₀))), (0, .ref a₀), (2, .int (iI z₀)), (4, .int (iI (bz b₀)))]) C₀.1.1 C₀.1.2.1 dX9_jarring_111 hl₀ (k := 3) rfl (iI_add _ (1)) (by decide) rfl (fun ls₀ hl₀ => ?_)
                  refine lv_goto (tgt := 14) C₀.1.1 C₀.1.2.1 dX9_jarring_114 (by decide) ?_
                  exact ih14₀ (n2₀ + d₀) (y₀ + 1) (by rw [sI_s j2₀.1, j1₀, jd₀, Int.add_assoc]) (by omega) (by omega) _ _ _ hH₀ (lv_sub hl₀ [2, 1, 3, 0] rfl)
                refine lv_iload C₀.1.1 C₀.1.2.1 dX9_jarring_77 (lv_at hl₀ 0 rfl) ?_
                refine xb_eq (tgt := 108) C₀.1.1 C₀.1.2.1 dX9_jarring_79 (by decide) (fun h_3₀ => ?_) (fun h_3₀ => ?_)
                · refine lv_iconst (v := iI 0) C₀.1.1 C₀.1.2.1 dX9_jarring_108 (by decide) ?_
                  exact L109₀ 0 ((by unfold mJarX mNear; rw [← jb₀]; first | (rw [decide_eq_false (by omega)]; simp_all [bz]; done) | (simp_all [bz]; done))) _ _ _ hH₀ (lv_sub hl₀ [1, 2, 3, 4, 0] rfl)
                · refine lv_aload_n C₀.1.1 C₀.1.2.1 dX9_jarring_82 rfl (lv_at hl₀ 1 rfl) ?_
                  refine xw_get C₀ hH₀ 0 rfl rfl 1 (by decide) iw_X9_jarring_X9 (by decide +kernel) (v := .ref (q₀ 1)) rfl dX9_jarring_83 ?_
                  refine lv_iconst (v := iI 3) C₀.1.1 C₀.1.2.1 dX9_jarring_86 (by decide) ?_
                  refine lv_iload_n C₀.1.1 C₀.1.2.1 dX9_jarring_87 rfl (lv_at hl₀ 3 rfl) ?_
                  refine xi_add C₀.1.1 C₀.1.2.1 dX9_jarring_88 ?_
                  refine xw_ild C₀ hH₀ 1 0 rfl rfl (z := 3 + z₀) (by omega) (by omega) (by decide) dX9_jarring_89 ?_
                  refine lv_aload_n C₀.1.1 C₀.1.2.1 dX9_jarring_90 rfl (lv_at hl₀ 1 rfl) ?_
                  refine xw_get C₀ hH₀ 0 rfl rfl 1 (by decide) iw_X9_jarring_X9 (by decide +kernel) (v := .ref (q₀ 1)) rfl dX9_jarring_91 ?_
                  refine lv_iconst (v := iI 3) C₀.1.1 C₀.1.2.1 dX9_jarring_94 (by decide) ?_
                  refine lv_iload_n C₀.1.1 C₀.1.2.1 dX9_jarring_95 rfl (lv_at hl₀ 4 rfl) ?_
                  refine xi_add C₀.1.1 C₀.1.2.1 dX9_jarring_96 ?_
                  refine xw_ild C₀ hH₀ 1 0 rfl rfl (z := 3 + y₀) (by omega) (by omega) (by decide) dX9_jarring_97 ?_
                  refine xc_Si (wr := [mO a₀ q₀ th₀ un₀ mf₀ ty₀ fr₀ tt₀ tk₀ fa₀ (bz hf₀) (bz ho₀) km₀, (q₀ 1, .inl (k₀ 0, 51, .inl (ia s₀)))]) (ws' := fun _ => [mO a₀ q₀ th₀ un₀ mf₀ ty₀ fr₀ tt₀ tk₀ fa₀ (bz hf₀) (bz ho₀) km₀, (q₀ 1, .inl (k₀ 0, 51, .inl (ia s₀)))]) (As := [.int (iI (s₀ (3 + z₀))), .int (iI (s₀ (3 + y₀)))]) (rest := [.int (iI n2₀)]) C₀ hH₀ (c_X9_isNear lL₀ D₀ k₀ H₀.size (s₀ (3 + z₀)) (s₀ (3 + y₀)) (by omega)) ZT_b (fun _ _ _ => trivial) (va_cwS 2 C₀.1.2.2.2.2 gX9_jarring_X9_isNear rfl rfl rfl (by decide +kernel) ⟨Nat.le_of_ble_eq_true rfl, Nat.le_of_ble_eq_true rfl⟩) [] [0, 1] [0, 1] rfl rfl (by decide) (by decide) (by decide) (fun _ => rfl) (by decide) rfl hl₀.1 rfl (Nat.le_of_ble_eq_true rfl) dX9_jarring_98 ⟨Nat.le_of_ble_eq_true rfl, Nat.le_of_ble_eq_true rfl⟩ (fun _ _ H₀ locs₀ hH₀ => ?_)
                  refine xp_ne (tgt := 108) C₀.1.1 C₀.1.2.1 dX9_jarring_101 (by decide) (fun h_4₀ => ?_) (fun h_4₀ => ?_)
                  · refine lv_iconst (v := iI 0) C₀.1.1 C₀.1.2.1 dX9_jarring_108 (by decide) ?_
                    exact L109₀ 0 ((by unfold mJarX mNear; rw [← jb₀]; first | (rw [decide_eq_false (by omega)]; simp_all [bz]; done) | (simp_all [bz]; done))) _ _ _ hH₀ (lv_sub hl₀ [1, 2, 3, 4, 0] rfl)
                  · refine lv_iconst (v := iI 1) C₀.1.1 C₀.1.2.1 dX9_jarring_104 (by decide) ?_
                    refine lv_goto (tgt := 109) C₀.1.1 C₀.1.2.1 dX9_jarring_105 (by decide) ?_
                    exact L109₀ 1 ((by unfold mJarX mNear; rw [← jb₀]; first | (rw [decide_eq_false (by omega)]; simp_all [bz]; done) | (simp_all [bz]; done))) _ _ _ hH₀ (lv_sub hl₀ [1, 2, 3, 4, 0] rfl)
              refine lv_iload_n C₀.1.1 C₀.1.2.1 dX9_jarring_19 rfl (lv_at hl₀ 2 rfl) ?_
              refine lv_aload_n C₀.1.1 C₀.1.2.1 dX9_jarring_20 rfl (lv_at hl₀ 0 rfl) ?_
              refine xw_get C₀ hH₀ 0 rfl rfl 1 (by decide) iw_X9_jarring_X9 (by decide +kernel) (v := .ref (q₀ 1)) rfl dX9_jarring_21 ?_
              refine lv_iconst (v := iI 0) C₀.1.1 C₀.1.2.1 dX9_jarring_24 (by decide) ?_
              refine xw_ild C₀ hH₀ 1 0 rfl rfl (z := 0) (by omega) (by omega) (by decide) dX9_jarring_25 ?_
              refine xi_rem C₀.1.1 C₀.1.2.1 dX9_jarring_26 (by omega) (by omega) ?_
              refine lv_iload_n C₀.1.1 C₀.1.2.1 dX9_jarring_27 rfl (lv_at hl₀ 3 rfl) ?_
              refine lv_aload_n C₀.1.1 C₀.1.2.1 dX9_jarring_28 rfl (lv_at hl₀ 0 rfl) ?_
              refine xw_get C₀ hH₀ 0 rfl rfl 1 (by decide) iw_X9_jarring_X9 (by decide +kernel) (v := .ref (q₀ 1)) rfl dX9_jarring_29 ?_
              refine lv_iconst (v := iI 0) C₀.1.1 C₀.1.2.1 dX9_jarring_32 (by decide) ?_
              refine xw_ild C₀ hH₀ 1 0 rfl rfl (z := 0) (by omega) (by omega) (by decide) dX9_jarring_33 ?_
              refine xi_rem C₀.1.1 C₀.1.2.1 dX9_jarring_34 (by omega) (by omega) ?_
              refine xi_sub C₀.1.1 C₀.1.2.1 dX9_jarring_35 ?_
              refine lv_iconst (v := iI (-1)) C₀.1.1 C₀.1.2.1 dX9_jarring_36 (by decide) ?_
              refine lv_iconst (v := iI 1) C₀.1.1 C₀.1.2.1 dX9_jarring_37 (by decide) ?_
              refine xc_Si (wr := [mO a₀ q₀ th₀ un₀ mf₀ ty₀ fr₀ tt₀ tk₀ fa₀ (bz hf₀) (bz ho₀) km₀, (q₀ 1, .inl (k₀ 0, 51, .inl (ia s₀)))]) (ws' := fun _ => [mO a₀ q₀ th₀ un₀ mf₀ ty₀ fr₀ tt₀ tk₀ fa₀ (bz hf₀) (bz ho₀) km₀, (q₀ 1, .inl (k₀ 0, 51, .inl (ia s₀)))]) (As := [.int (iI (z₀ % (s₀ 0) - (y₀ % (s₀ 0)))), .int (iI (-1)), .int (iI 1)]) (rest := []) C₀ hH₀ (c_X9_in lL₀ D₀ k₀ H₀.size (z₀ % (s₀ 0) - (y₀ % (s₀ 0))) (-1) 1 (by omega) (by omega) (by omega)) ZT_b (fun _ _ _ => trivial) (va_cwS 3 C₀.1.2.2.2.2 gX9_jarring_X9_in rfl rfl rfl (by decide +kernel) ⟨Nat.le_of_ble_eq_true rfl, Nat.le_of_ble_eq_true rfl⟩) [] [0, 1] [0, 1] rfl rfl (by decide) (by decide) (by decide) (fun _ => rfl) (by decide) rfl hl₀.1 rfl (Nat.le_of_ble_eq_true rfl) dX9_jarring_38 ⟨Nat.le_of_ble_eq_true rfl, Nat.le_of_ble_eq_true rfl⟩ (fun _ _ H₀ locs₀ hH₀ => ?_)
              refine xp_eq (tgt := 73) C₀.1.1 C₀.1.2.1 dX9_jarring_41 (by decide) (fun h_5₀ => ?_) (fun h_5₀ => ?_)
              · refine lv_iconst (v := iI 0) C₀.1.1 C₀.1.2.1 dX9_jarring_73 (by decide) ?_
                exact L74₀ false ((by unfold mBes; exact (decide_eq_false (by omega)).symm)) _ _ _ hH₀ (lv_sub hl₀ [0, 1, 2, 3] rfl)
              · refine lv_iload_n C₀.1.1 C₀.1.2.1 dX9_jarring_44 rfl (lv_at hl₀ 2 rfl) ?_
                refine lv_aload_n C₀.1.1 C₀.1.2.1 dX9_jarring_45 rfl (lv_at hl₀ 0 rfl) ?_
                refine xw_get C₀ hH₀ 0 rfl rfl 1 (by decide) iw_X9_jarring_X9 (by decide +kernel) (v := .ref (q₀ 1)) rfl dX9_jarring_46 ?_
                refine lv_iconst (v := iI 0) C₀.1.1 C₀.1.2.1 dX9_jarring_49 (by decide) ?_
                refine xw_ild C₀ hH₀ 1 0 rfl rfl (z := 0) (by omega) (by omega) (by decide) dX9_jarring_50 ?_
                refine xi_div C₀.1.1 C₀.1.2.1 dX9_jarring_51 (by omega) (by omega) ?_
                refine lv_iload_n C₀.1.1 C₀.1.2.1 dX9_jarring_52 rfl (lv_at hl₀ 3 rfl) ?_
                refine lv_aload_n C₀.1.1 C₀.1.2.1 dX9_jarring_53 rfl (lv_at hl₀ 0 rfl) ?_
                refine xw_get C₀ hH₀ 0 rfl rfl 1 (by decide) iw_X9_jarring_X9 (by decide +kernel) (v := .ref (q₀ 1)) rfl dX9_jarring_54 ?_
                refine lv_iconst (v := iI 0) C₀.1.1 C₀.1.2.1 dX9_jarring_57 (by decide) ?_
                refine xw_ild C₀ hH₀ 1 0 rfl rfl (z := 0) (by omega) (by omega) (by decide) dX9_jarring_58 ?_
                refine xi_div C₀.1.1 C₀.1.2.1 dX9_jarring_59 (by omega) (by omega) ?_
                refine xi_sub C₀.1.1 C₀.1.2.1 dX9_jarring_60 ?_
                refine lv_iconst (v := iI (-1)) C₀.1.1 C₀.1.2.1 dX9_jarring_61 (by decide) ?_
                refine lv_iconst (v := iI 1) C₀.1.1 C₀.1.2.1 dX9_jarring_62 (by decide) ?_
                refine xc_Si (wr := [mO a₀ q₀ th₀ un₀ mf₀ ty₀ fr₀ tt₀ tk₀ fa₀ (bz hf₀) (bz ho₀) km₀, (q₀ 1, .inl (k₀ 0, 51, .inl (ia s₀)))]) (ws' := fun _ => [mO a₀ q₀ th₀ un₀ mf₀ ty₀ fr₀ tt₀ tk₀ fa₀ (bz hf₀) (bz ho₀) km₀, (q₀ 1, .inl (k₀ 0, 51, .inl (ia s₀)))]) (As := [.int (iI (z₀ / (s₀ 0) - (y₀ / (s₀ 0)))), .int (iI (-1)), .int (iI 1)]) (rest := []) C₀ hH₀ (c_X9_in lL₀ D₀ k₀ H₀.size (z₀ / (s₀ 0) - (y₀ / (s₀ 0))) (-1) 1 (by omega) (by omega) (by omega)) ZT_b (fun _ _ _ => trivial) (va_cwS 3 C₀.1.2.2.2.2 gX9_jarring_X9_in rfl rfl rfl (by decide +kernel) ⟨Nat.le_of_ble_eq_true rfl, Nat.le_of_ble_eq_true rfl⟩) [] [0, 1] [0, 1] rfl rfl (by decide) (by decide) (by decide) (fun _ => rfl) (by decide) rfl hl₀.1 rfl (Nat.le_of_ble_eq_true rfl) dX9_jarring_63 ⟨Nat.le_of_ble_eq_true rfl, Nat.le_of_ble_eq_true rfl⟩ (fun _ _ H₀ locs₀ hH₀ => ?_)
                refine xp_eq (tgt := 73) C₀.1.1 C₀.1.2.1 dX9_jarring_66 (by decide) (fun h_6₀ => ?_) (fun h_6₀ => ?_)
                · refine lv_iconst (v := iI 0) C₀.1.1 C₀.1.2.1 dX9_jarring_73 (by decide) ?_
                  exact L74₀ false ((by unfold mBes; exact (decide_eq_false (by omega)).symm)) _ _ _ hH₀ (lv_sub hl₀ [0, 1, 2, 3] rfl)
                · refine lv_iconst (v := iI 1) C₀.1.1 C₀.1.2.1 dX9_jarring_69 (by decide) ?_
                  refine lv_goto (tgt := 74) C₀.1.1 C₀.1.2.1 dX9_jarring_70 (by decide) ?_
                  exact L74₀ true ((by unfold mBes; exact (decide_eq_true (by omega)).symm)) _ _ _ hH₀ (lv_sub hl₀ [0, 1, 2, 3] rfl)
        exact L14₀ (((z₀ - 0) : Int).toNat + 1) n₀ 0 (by rw [sI_0, Int.add_zero]; exact i1₀) (by omega) (by omega) _ _ _ hH₀ (lv_sub hl₀ [1, 2, 3, 0] rfl)
  exact L4₀ (((s₀ 0 * s₀ 1 - 0) : Int).toNat + 1) 0 0 (rfl) (by omega) (by omega) _ _ _ hH₀ (lv_sub hl₀ [2, 1, 0] rfl)
theorem iw_X9_jars_X9 : ∀ w₀ ∈ u_ws RX9 TX9 24, w₀ ∈ wsX9_jars := (fun w₀ h₀ => List.mem_cons_of_mem _ (List.mem_append_right _ h₀))
abbrev rmX9_jars : Room := { frames := 3, cells := 0, slots := 0, locals := 67 }
set_option maxHeartbeats 4000000 in
set_option maxRecDepth 100000 in
/-- jars -/
theorem c_X9_jars (lL₀ : Launch) (D₀ : va_G) (k₀ : Nat → ClassId) (sz₀ : Nat) (a₀ : Nat) (q₀ : Nat → Nat) (th₀ : Int) (un₀ : Int) (mf₀ : Int) (ty₀ : Int) (fr₀ : Int) (tt₀ : Int) (tk₀ : Int) (fa₀ : Int) (hf₀ : Bool) (ho₀ : Bool) (km₀ : Int) (s₀ : Int → Int) (hS₀ : mS s₀) : Met lL₀ yX9_jars wsX9_jars rmX9_jars (gPc ZT D₀ (tyk k₀) [.ref a₀] sz₀ [mO a₀ q₀ th₀ un₀ mf₀ ty₀ fr₀ tt₀ tk₀ fa₀ (bz hf₀) (bz ho₀) km₀, (q₀ 1, .inl (k₀ 0, 51, .inl (ia s₀)))]) (gQi D₀ (tyk k₀) [mO a₀ q₀ th₀ un₀ mf₀ ty₀ fr₀ tt₀ tk₀ fa₀ (bz hf₀) (bz ho₀) km₀, (q₀ 1, .inl (k₀ 0, 51, .inl (ia s₀)))] sz₀ (fun (_ : Unit) => True) (fun (_ : Unit) => (iI (mJar s₀))) (fun (_ : Unit) => [mO a₀ q₀ 0 un₀ mf₀ ty₀ fr₀ tt₀ tk₀ fa₀ (bz hf₀) (bz ho₀) km₀, (q₀ 1, .inl (k₀ 0, 51, .inl (ia s₀)))])) 0 0 (va_A [mO a₀ q₀ th₀ un₀ mf₀ ty₀ fr₀ tt₀ tk₀ fa₀ (bz hf₀) (bz ho₀) km₀, (q₀ 1, .inl (k₀ 0, 51, .inl (ia s₀)))] sz₀) := by
  refine xs_met (cc := cX9_jars) (maxL := 1) (ret := some .int) (by decide) rfl (Nat.le_of_ble_eq_true rfl) ?_
  intro pP₀ eN₀ sT₀ mI₀ below₀ meth₀ cD₀ hsz₀ args₀ QQ₀ C₀ hr₀ hlk₀ hnm₀ hQ₀ ls₀ H₀ locs₀ hl₀ hH₀
  subst hsz₀
  have hl₀ : lv_has ls₀ 1 [(0, .ref a₀)] := hl₀
  generalize hAe₀ : va_A [mO a₀ q₀ th₀ un₀ mf₀ ty₀ fr₀ tt₀ tk₀ fa₀ (bz hf₀) (bz ho₀) km₀, (q₀ 1, .inl (k₀ 0, 51, .inl (ia s₀)))] sT₀.heap.size = A₀ at C₀ hH₀ hQ₀
  refine lv_aload_n C₀.1.1 C₀.1.2.1 dX9_jars_0 rfl (lv_at hl₀ 0 rfl) ?_
  refine lv_iconst (v := iI 0) C₀.1.1 C₀.1.2.1 dX9_jars_1 (by decide) ?_
  refine xw_put (ws' := [mO a₀ q₀ 0 un₀ mf₀ ty₀ fr₀ tt₀ tk₀ fa₀ (bz hf₀) (bz ho₀) km₀, (q₀ 1, .inl (k₀ 0, 51, .inl (ia s₀)))]) (v := .int (iI 0)) C₀ hH₀ 0 rfl rfl tyX9 tyX9_ok nmX9 0 (by decide) iw_X9_jars_X9 (by decide +kernel) rfl rfl rfl (Nat.le_of_ble_eq_true rfl) dX9_jars_2 rfl (fun H₀ locs₀ hH₀ => ?_)
  refine lv_aload_n C₀.1.1 C₀.1.2.1 dX9_jars_5 rfl (lv_at hl₀ 0 rfl) ?_
  refine xc_Vi (wr := []) (ws' := fun _ => [mO a₀ q₀ 0 un₀ mf₀ ty₀ fr₀ tt₀ tk₀ fa₀ (bz hf₀) (bz ho₀) km₀, (q₀ 1, .inl (k₀ 0, 51, .inl (ia s₀)))]) (As := []) (rest := []) C₀ hH₀ (c_X9_jarring lL₀ D₀ k₀ H₀.size a₀ q₀ 0 un₀ mf₀ ty₀ fr₀ tt₀ tk₀ fa₀ hf₀ ho₀ km₀ s₀ (hS₀)) ZT_b (fun _ _ _ => trivial) (cwV 0 C₀.1.2.2.2.2 gX9_jars_X9_jarring rfl rfl rfl (by decide +kernel) ⟨Nat.le_of_ble_eq_true rfl, Nat.le_of_ble_eq_true rfl⟩) [0, 1] [] [0, 1] rfl rfl (by decide) (by decide) (by decide) (fun _ => rfl) (by decide) (q0 := 0) rfl rfl rfl hl₀.1 rfl (Nat.le_of_ble_eq_true rfl) dX9_jars_6 ⟨Nat.le_of_ble_eq_true rfl, Nat.le_of_ble_eq_true rfl⟩ (fun _ _ H₀ locs₀ hH₀ => ?_)
  exact xr_i C₀ hH₀ hlk₀ hr₀ hQ₀ rfl hAe₀ () trivial rfl rfl dX9_jars_9
theorem iw_X9_keep_X9 : ∀ w₀ ∈ u_ws RX9 TX9 24, w₀ ∈ wsX9_keep := (fun w₀ h₀ => List.mem_cons_of_mem _ (List.mem_append_right _ h₀))
abbrev rmX9_keep : Room := { frames := 1, cells := 0, slots := 0, locals := 22 }
set_option maxHeartbeats 4000000 in
set_option maxRecDepth 100000 in
/-- keep -/
theorem c_X9_keep (lL₀ : Launch) (D₀ : va_G) (k₀ : Nat → ClassId) (sz₀ : Nat) (a₀ : Nat) (q₀ : Nat → Nat) (th₀ : Int) (un₀ : Int) (mf₀ : Int) (ty₀ : Int) (fr₀ : Int) (tt₀ : Int) (tk₀ : Int) (fa₀ : Int) (hf₀ : Bool) (ho₀ : Bool) (km₀ : Int) (s₀ : Int → Int) (ke₀ : Int → Int) (ik₀ : Int → Int) (x : Int) (hx₀ : -2147483648 ≤ x ∧ x < 2147483648) : Met lL₀ yX9_keep wsX9_keep rmX9_keep (gPc ZT D₀ (tyk k₀) [.ref a₀, .int (iI x)] sz₀ [mO a₀ q₀ th₀ un₀ mf₀ ty₀ fr₀ tt₀ tk₀ fa₀ (bz hf₀) (bz ho₀) km₀, (q₀ 1, .inl (k₀ 0, 51, .inl (ia s₀))), (q₀ 5, .inl (k₀ 0, 102, .inl (ia ke₀))), (q₀ 6, .inl (k₀ 2, 2, .inl (ia ik₀)))]) (gQi D₀ (tyk k₀) [mO a₀ q₀ th₀ un₀ mf₀ ty₀ fr₀ tt₀ tk₀ fa₀ (bz hf₀) (bz ho₀) km₀, (q₀ 1, .inl (k₀ 0, 51, .inl (ia s₀))), (q₀ 5, .inl (k₀ 0, 102, .inl (ia ke₀))), (q₀ 6, .inl (k₀ 2, 2, .inl (ia ik₀)))] sz₀ (fun (_ : Unit) => True) (fun (_ : Unit) => (iI (mKeepR s₀ x))) (fun (_ : Unit) => [mO a₀ q₀ 0 un₀ mf₀ ty₀ fr₀ tt₀ tk₀ fa₀ (bz hf₀) (bz ho₀) km₀, (q₀ 1, .inl (k₀ 0, 51, .inl (ia s₀))), (q₀ 5, .inl (k₀ 0, 102, .inl (ia (mKeepK s₀ ke₀ x)))), (q₀ 6, .inl (k₀ 2, 2, .inl (ia (mKeepI ik₀ x))))])) 0 0 (va_A [mO a₀ q₀ th₀ un₀ mf₀ ty₀ fr₀ tt₀ tk₀ fa₀ (bz hf₀) (bz ho₀) km₀, (q₀ 1, .inl (k₀ 0, 51, .inl (ia s₀))), (q₀ 5, .inl (k₀ 0, 102, .inl (ia ke₀))), (q₀ 6, .inl (k₀ 2, 2, .inl (ia ik₀)))] sz₀) := by
  refine xs_met (cc := cX9_keep) (maxL := 3) (ret := some .int) (by decide) rfl (Nat.le_of_ble_eq_true rfl) ?_
  intro pP₀ eN₀ sT₀ mI₀ below₀ meth₀ cD₀ hsz₀ args₀ QQ₀ C₀ hr₀ hlk₀ hnm₀ hQ₀ ls₀ H₀ locs₀ hl₀ hH₀
  subst hsz₀
  have hl₀ : lv_has ls₀ 3 [(0, .ref a₀), (1, .int (iI x))] := hl₀
  generalize hAe₀ : va_A [mO a₀ q₀ th₀ un₀ mf₀ ty₀ fr₀ tt₀ tk₀ fa₀ (bz hf₀) (bz ho₀) km₀, (q₀ 1, .inl (k₀ 0, 51, .inl (ia s₀))), (q₀ 5, .inl (k₀ 0, 102, .inl (ia ke₀))), (q₀ 6, .inl (k₀ 2, 2, .inl (ia ik₀)))] sT₀.heap.size = A₀ at C₀ hH₀ hQ₀
  refine lv_aload_n C₀.1.1 C₀.1.2.1 dX9_keep_0 rfl (lv_at hl₀ 0 rfl) ?_
  refine lv_iconst (v := iI 0) C₀.1.1 C₀.1.2.1 dX9_keep_1 (by decide) ?_
  refine xw_put (ws' := [mO a₀ q₀ 0 un₀ mf₀ ty₀ fr₀ tt₀ tk₀ fa₀ (bz hf₀) (bz ho₀) km₀, (q₀ 1, .inl (k₀ 0, 51, .inl (ia s₀))), (q₀ 5, .inl (k₀ 0, 102, .inl (ia ke₀))), (q₀ 6, .inl (k₀ 2, 2, .inl (ia ik₀)))]) (v := .int (iI 0)) C₀ hH₀ 0 rfl rfl tyX9 tyX9_ok nmX9 0 (by decide) iw_X9_keep_X9 (by decide +kernel) rfl rfl rfl (Nat.le_of_ble_eq_true rfl) dX9_keep_2 rfl (fun H₀ locs₀ hH₀ => ?_)
  refine lv_iload_n C₀.1.1 C₀.1.2.1 dX9_keep_5 rfl (lv_at hl₀ 1 rfl) ?_
  refine lv_iconst (v := iI 0) C₀.1.1 C₀.1.2.1 dX9_keep_6 (by decide) ?_
  refine lv_iconst (v := iI 1) C₀.1.1 C₀.1.2.1 dX9_keep_7 (by decide) ?_
  refine xc_Si (wr := [mO a₀ q₀ 0 un₀ mf₀ ty₀ fr₀ tt₀ tk₀ fa₀ (bz hf₀) (bz ho₀) km₀, (q₀ 1, .inl (k₀ 0, 51, .inl (ia s₀))), (q₀ 5, .inl (k₀ 0, 102, .inl (ia ke₀))), (q₀ 6, .inl (k₀ 2, 2, .inl (ia ik₀)))]) (ws' := fun _ => [mO a₀ q₀ 0 un₀ mf₀ ty₀ fr₀ tt₀ tk₀ fa₀ (bz hf₀) (bz ho₀) km₀, (q₀ 1, .inl (k₀ 0, 51, .inl (ia s₀))), (q₀ 5, .inl (k₀ 0, 102, .inl (ia ke₀))), (q₀ 6, .inl (k₀ 2, 2, .inl (ia ik₀)))]) (As := [.int (iI x), .int (iI 0), .int (iI 1)]) (rest := []) C₀ hH₀ (c_X9_in lL₀ D₀ k₀ H₀.size x 0 1 (by omega) (by omega) (by omega)) ZT_b (fun _ _ _ => trivial) (va_cwS 3 C₀.1.2.2.2.2 gX9_keep_X9_in rfl rfl rfl (by decide +kernel) ⟨Nat.le_of_ble_eq_true rfl, Nat.le_of_ble_eq_true rfl⟩) [] [0, 1, 2, 3] [0, 1, 2, 3] rfl rfl (by decide) (by decide) (by decide) (fun _ => rfl) (by decide) rfl hl₀.1 rfl (Nat.le_of_ble_eq_true rfl) dX9_keep_8 ⟨Nat.le_of_ble_eq_true rfl, Nat.le_of_ble_eq_true rfl⟩ (fun _ _ H₀ locs₀ hH₀ => ?_)
  refine xp_ne (tgt := 16) C₀.1.1 C₀.1.2.1 dX9_keep_11 (by decide) (fun h_1₀ => ?_) (fun h_1₀ => ?_)
  · refine lv_iconst (v := iI 0) C₀.1.1 C₀.1.2.1 dX9_keep_16 (by decide) ?_
    refine lv_istore_n (lv' := [(2, .int (iI 0)), (0, .ref a₀), (1, .int (iI x))]) C₀.1.1 C₀.1.2.1 dX9_keep_17 rfl hl₀ (by decide) rfl (fun ls₀ hl₀ => ?_)
    have L18₀ : ∀ (nn₀ : Nat), ∀ (c₀ : Int) (kq₀ : Int → Int), (kq₀ = cpz s₀ ke₀ 0 (51 * x) c₀) → (0 ≤ c₀ ∧ c₀ ≤ 51) → ((51 - c₀) < (nn₀ : Int)) → ∀ (H₀ : Heap) (locs₀ : List Loc) (ls₀ : Array Slot), Hp D₀ A₀ sT₀.heap [mO a₀ q₀ 0 un₀ mf₀ ty₀ fr₀ tt₀ tk₀ fa₀ (bz hf₀) (bz ho₀) km₀, (q₀ 1, .inl (k₀ 0, 51, .inl (ia s₀))), (q₀ 5, .inl (k₀ 0, 102, .inl (ia kq₀))), (q₀ 6, .inl (k₀ 2, 2, .inl (ia ik₀)))] H₀ locs₀ → lv_has ls₀ 3 [(0, .ref a₀), (1, .int (iI x)), (2, .int (iI c₀))] → W pP₀ lL₀ eN₀ rmX9_keep sT₀ mI₀ args₀ below₀ meth₀ cD₀ H₀ locs₀ 0 0 QQ₀ (F0 mI₀ 18 ls₀ []) := by
      intro nn₀
      induction nn₀ with
      | zero => intro c₀ kq₀ i1₀ i2₀ hm₀; exact absurd hm₀ (by omega)
      | succ nn₀ ih18₀ =>
        intro c₀ kq₀ i1₀ i2₀ hm18₀ H₀ locs₀ ls₀ hH₀ hl₀
        refine lv_iload_n C₀.1.1 C₀.1.2.1 dX9_keep_18 rfl (lv_at hl₀ 2 rfl) ?_
        refine lv_bipush (v := iI 51) C₀.1.1 C₀.1.2.1 dX9_keep_19 (by decide) ?_
        refine xi_cge (tgt := 47) C₀.1.1 C₀.1.2.1 dX9_keep_21 (by decide) (by omega) (by omega) (fun h_2₀ => ?_) (fun h_2₀ => ?_)
        · have ec₀ : c₀ = 51 := by omega
          subst ec₀
          refine lv_aload_n C₀.1.1 C₀.1.2.1 dX9_keep_47 rfl (lv_at hl₀ 0 rfl) ?_
          refine xw_get C₀ hH₀ 0 rfl rfl 6 (by decide) iw_X9_keep_X9 (by decide +kernel) (v := .ref (q₀ 6)) rfl dX9_keep_48 ?_
          refine lv_iload_n C₀.1.1 C₀.1.2.1 dX9_keep_51 rfl (lv_at hl₀ 1 rfl) ?_
          refine lv_iconst (v := iI 1) C₀.1.1 C₀.1.2.1 dX9_keep_52 (by decide) ?_
          refine xw_zst (ws' := [mO a₀ q₀ 0 un₀ mf₀ ty₀ fr₀ tt₀ tk₀ fa₀ (bz hf₀) (bz ho₀) km₀, (q₀ 1, .inl (k₀ 0, 51, .inl (ia s₀))), (q₀ 5, .inl (k₀ 0, 102, .inl (ia kq₀))), (q₀ 6, .inl (k₀ 2, 2, .inl (ia (uz ik₀ x 1))))]) C₀ hH₀ 3 2 rfl rfl (z := x) (v := 1) (by omega) (by omega) (by decide) rfl dX9_keep_53 rfl (fun H₀ locs₀ hH₀ => ?_)
          refine lv_aload_n C₀.1.1 C₀.1.2.1 dX9_keep_54 rfl (lv_at hl₀ 0 rfl) ?_
          refine xc_Vi (wr := [(q₀ 5, .inl (k₀ 0, 102, .inl (ia kq₀))), (q₀ 6, .inl (k₀ 2, 2, .inl (ia (uz ik₀ x 1))))]) (ws' := fun _ => [mO a₀ q₀ 0 un₀ mf₀ ty₀ fr₀ tt₀ tk₀ fa₀ (bz hf₀) (bz ho₀) km₀, (q₀ 1, .inl (k₀ 0, 51, .inl (ia s₀))), (q₀ 5, .inl (k₀ 0, 102, .inl (ia kq₀))), (q₀ 6, .inl (k₀ 2, 2, .inl (ia (uz ik₀ x 1))))]) (As := []) (rest := []) C₀ hH₀ (c_X9_cells lL₀ D₀ k₀ H₀.size a₀ q₀ 0 un₀ mf₀ ty₀ fr₀ tt₀ tk₀ fa₀ hf₀ ho₀ km₀ s₀ ) ZT_b (fun _ _ _ => trivial) (cwV 0 C₀.1.2.2.2.2 gX9_keep_X9_cells rfl rfl rfl (by decide +kernel) ⟨Nat.le_of_ble_eq_true rfl, Nat.le_of_ble_eq_true rfl⟩) [0, 1] [2, 3] [2, 3, 0, 1] rfl rfl (by decide) (by decide) (by decide) (fun _ => rfl) (by decide) (q0 := 0) rfl rfl rfl hl₀.1 rfl (Nat.le_of_ble_eq_true rfl) dX9_keep_55 ⟨Nat.le_of_ble_eq_true rfl, Nat.le_of_ble_eq_true rfl⟩ (fun _ _ H₀ locs₀ hH₀ => ?_)
          exact xr_i C₀ hH₀ hlk₀ hr₀ hQ₀ rfl hAe₀ () trivial (by simp (disch := omega) only [mKeepR, if_pos, if_neg]) (by simp (disch := omega) only [mKeepK, mKeepI, if_pos, if_neg] <;> rw [i1₀]) dX9_keep_58
        · refine lv_aload_n C₀.1.1 C₀.1.2.1 dX9_keep_24 rfl (lv_at hl₀ 0 rfl) ?_
          refine xw_get C₀ hH₀ 0 rfl rfl 5 (by decide) iw_X9_keep_X9 (by decide +kernel) (v := .ref (q₀ 5)) rfl dX9_keep_25 ?_
          refine lv_bipush (v := iI 51) C₀.1.1 C₀.1.2.1 dX9_keep_28 (by decide) ?_
          refine lv_iload_n C₀.1.1 C₀.1.2.1 dX9_keep_30 rfl (lv_at hl₀ 1 rfl) ?_
          refine xi_mul C₀.1.1 C₀.1.2.1 dX9_keep_31 ?_
          refine lv_iload_n C₀.1.1 C₀.1.2.1 dX9_keep_32 rfl (lv_at hl₀ 2 rfl) ?_
          refine xi_add C₀.1.1 C₀.1.2.1 dX9_keep_33 ?_
          refine lv_aload_n C₀.1.1 C₀.1.2.1 dX9_keep_34 rfl (lv_at hl₀ 0 rfl) ?_
          refine xw_get C₀ hH₀ 0 rfl rfl 1 (by decide) iw_X9_keep_X9 (by decide +kernel) (v := .ref (q₀ 1)) rfl dX9_keep_35 ?_
          refine lv_iload_n C₀.1.1 C₀.1.2.1 dX9_keep_38 rfl (lv_at hl₀ 2 rfl) ?_
          refine xw_ild C₀ hH₀ 1 0 rfl rfl (z := c₀) (by omega) (by omega) (by decide) dX9_keep_39 ?_
          refine xw_ist (ws' := [mO a₀ q₀ 0 un₀ mf₀ ty₀ fr₀ tt₀ tk₀ fa₀ (bz hf₀) (bz ho₀) km₀, (q₀ 1, .inl (k₀ 0, 51, .inl (ia s₀))), (q₀ 5, .inl (k₀ 0, 102, .inl (ia (uz kq₀ (51 * x + c₀) (s₀ c₀))))), (q₀ 6, .inl (k₀ 2, 2, .inl (ia ik₀)))]) C₀ hH₀ 2 0 rfl rfl (z := 51 * x + c₀) (v := s₀ c₀) (by omega) (by omega) (by decide) dX9_keep_40 rfl (fun H₀ locs₀ hH₀ => ?_)
          refine lv_iinc (v := iI (c₀ + 1)) (lv' := [(2, .int (iI (c₀ + 1))), (0, .ref a₀), (1, .int (iI x))]) C₀.1.1 C₀.1.2.1 dX9_keep_41 hl₀ (k := 2) rfl (iI_add _ (1)) (by decide) rfl (fun ls₀ hl₀ => ?_)
          refine lv_goto (tgt := 18) C₀.1.1 C₀.1.2.1 dX9_keep_44 (by decide) ?_
          exact ih18₀ (c₀ + 1) (uz kq₀ (51 * x + c₀) (s₀ c₀)) (by rw [i1₀]; exact cpz_s (by omega) (by omega) (by first | rfl | (congr 1; omega))) (by omega) (by omega) _ _ _ hH₀ (lv_sub hl₀ [1, 2, 0] rfl)
    exact L18₀ (((51 - 0) : Int).toNat + 1) 0 ke₀ ((cpz_0 _ _ _ _).symm) (by omega) (by omega) _ _ _ hH₀ (lv_sub hl₀ [1, 2, 0] rfl)
  · refine lv_iconst (v := iI (-1)) C₀.1.1 C₀.1.2.1 dX9_keep_14 (by decide) ?_
    exact xr_i C₀ hH₀ hlk₀ hr₀ hQ₀ rfl hAe₀ () trivial (by simp (disch := omega) only [mKeepR, if_pos, if_neg]) (by simp (disch := omega) only [mKeepK, mKeepI, if_pos, if_neg]) dX9_keep_15
theorem iw_X9_back_X9 : ∀ w₀ ∈ u_ws RX9 TX9 24, w₀ ∈ wsX9_back := (fun w₀ h₀ => List.mem_cons_of_mem _ (List.mem_append_right _ h₀))
abbrev rmX9_back : Room := { frames := 1, cells := 0, slots := 0, locals := 22 }
set_option maxHeartbeats 4000000 in
set_option maxRecDepth 100000 in
/-- back -/
theorem c_X9_back (lL₀ : Launch) (D₀ : va_G) (k₀ : Nat → ClassId) (sz₀ : Nat) (a₀ : Nat) (q₀ : Nat → Nat) (th₀ : Int) (un₀ : Int) (mf₀ : Int) (ty₀ : Int) (fr₀ : Int) (tt₀ : Int) (tk₀ : Int) (fa₀ : Int) (hf₀ : Bool) (ho₀ : Bool) (km₀ : Int) (s₀ : Int → Int) (ke₀ : Int → Int) (ik₀ : Int → Int) (x : Int) (hx₀ : -2147483648 ≤ x ∧ x < 2147483648) (hik₀ : ∀ j₀, 0 ≤ ik₀ j₀ ∧ ik₀ j₀ ≤ 1) : Met lL₀ yX9_back wsX9_back rmX9_back (gPc ZT D₀ (tyk k₀) [.ref a₀, .int (iI x)] sz₀ [mO a₀ q₀ th₀ un₀ mf₀ ty₀ fr₀ tt₀ tk₀ fa₀ (bz hf₀) (bz ho₀) km₀, (q₀ 1, .inl (k₀ 0, 51, .inl (ia s₀))), (q₀ 5, .inl (k₀ 0, 102, .inl (ia ke₀))), (q₀ 6, .inl (k₀ 2, 2, .inl (ia ik₀)))]) (gQi D₀ (tyk k₀) [mO a₀ q₀ th₀ un₀ mf₀ ty₀ fr₀ tt₀ tk₀ fa₀ (bz hf₀) (bz ho₀) km₀, (q₀ 1, .inl (k₀ 0, 51, .inl (ia s₀))), (q₀ 5, .inl (k₀ 0, 102, .inl (ia ke₀))), (q₀ 6, .inl (k₀ 2, 2, .inl (ia ik₀)))] sz₀ (fun (_ : Unit) => True) (fun (_ : Unit) => (iI (mBackR ke₀ ik₀ x))) (fun (_ : Unit) => [mO a₀ q₀ 0 (mBackU ik₀ un₀ x) mf₀ ty₀ fr₀ tt₀ tk₀ fa₀ (bz hf₀) (bz ho₀) km₀, (q₀ 1, .inl (k₀ 0, 51, .inl (ia (mBackS s₀ ke₀ ik₀ x)))), (q₀ 5, .inl (k₀ 0, 102, .inl (ia ke₀))), (q₀ 6, .inl (k₀ 2, 2, .inl (ia ik₀)))])) 0 0 (va_A [mO a₀ q₀ th₀ un₀ mf₀ ty₀ fr₀ tt₀ tk₀ fa₀ (bz hf₀) (bz ho₀) km₀, (q₀ 1, .inl (k₀ 0, 51, .inl (ia s₀))), (q₀ 5, .inl (k₀ 0, 102, .inl (ia ke₀))), (q₀ 6, .inl (k₀ 2, 2, .inl (ia ik₀)))] sz₀) := by
  refine xs_met (cc := cX9_back) (maxL := 3) (ret := some .int) (by decide) rfl (Nat.le_of_ble_eq_true rfl) ?_
  intro pP₀ eN₀ sT₀ mI₀ below₀ meth₀ cD₀ hsz₀ args₀ QQ₀ C₀ hr₀ hlk₀ hnm₀ hQ₀ ls₀ H₀ locs₀ hl₀ hH₀
  subst hsz₀
  have hl₀ : lv_has ls₀ 3 [(0, .ref a₀), (1, .int (iI x))] := hl₀
  generalize hAe₀ : va_A [mO a₀ q₀ th₀ un₀ mf₀ ty₀ fr₀ tt₀ tk₀ fa₀ (bz hf₀) (bz ho₀) km₀, (q₀ 1, .inl (k₀ 0, 51, .inl (ia s₀))), (q₀ 5, .inl (k₀ 0, 102, .inl (ia ke₀))), (q₀ 6, .inl (k₀ 2, 2, .inl (ia ik₀)))] sT₀.heap.size = A₀ at C₀ hH₀ hQ₀
  refine lv_aload_n C₀.1.1 C₀.1.2.1 dX9_back_0 rfl (lv_at hl₀ 0 rfl) ?_
  refine lv_iconst (v := iI 0) C₀.1.1 C₀.1.2.1 dX9_back_1 (by decide) ?_
  refine xw_put (ws' := [mO a₀ q₀ 0 un₀ mf₀ ty₀ fr₀ tt₀ tk₀ fa₀ (bz hf₀) (bz ho₀) km₀, (q₀ 1, .inl (k₀ 0, 51, .inl (ia s₀))), (q₀ 5, .inl (k₀ 0, 102, .inl (ia ke₀))), (q₀ 6, .inl (k₀ 2, 2, .inl (ia ik₀)))]) (v := .int (iI 0)) C₀ hH₀ 0 rfl rfl tyX9 tyX9_ok nmX9 0 (by decide) iw_X9_back_X9 (by decide +kernel) rfl rfl rfl (Nat.le_of_ble_eq_true rfl) dX9_back_2 rfl (fun H₀ locs₀ hH₀ => ?_)
  refine lv_iload_n C₀.1.1 C₀.1.2.1 dX9_back_5 rfl (lv_at hl₀ 1 rfl) ?_
  refine lv_iconst (v := iI 0) C₀.1.1 C₀.1.2.1 dX9_back_6 (by decide) ?_
  refine lv_iconst (v := iI 1) C₀.1.1 C₀.1.2.1 dX9_back_7 (by decide) ?_
  refine xc_Si (wr := [mO a₀ q₀ 0 un₀ mf₀ ty₀ fr₀ tt₀ tk₀ fa₀ (bz hf₀) (bz ho₀) km₀, (q₀ 1, .inl (k₀ 0, 51, .inl (ia s₀))), (q₀ 5, .inl (k₀ 0, 102, .inl (ia ke₀))), (q₀ 6, .inl (k₀ 2, 2, .inl (ia ik₀)))]) (ws' := fun _ => [mO a₀ q₀ 0 un₀ mf₀ ty₀ fr₀ tt₀ tk₀ fa₀ (bz hf₀) (bz ho₀) km₀, (q₀ 1, .inl (k₀ 0, 51, .inl (ia s₀))), (q₀ 5, .inl (k₀ 0, 102, .inl (ia ke₀))), (q₀ 6, .inl (k₀ 2, 2, .inl (ia ik₀)))]) (As := [.int (iI x), .int (iI 0), .int (iI 1)]) (rest := []) C₀ hH₀ (c_X9_in lL₀ D₀ k₀ H₀.size x 0 1 (by omega) (by omega) (by omega)) ZT_b (fun _ _ _ => trivial) (va_cwS 3 C₀.1.2.2.2.2 gX9_back_X9_in rfl rfl rfl (by decide +kernel) ⟨Nat.le_of_ble_eq_true rfl, Nat.le_of_ble_eq_true rfl⟩) [] [0, 1, 2, 3] [0, 1, 2, 3] rfl rfl (by decide) (by decide) (by decide) (fun _ => rfl) (by decide) rfl hl₀.1 rfl (Nat.le_of_ble_eq_true rfl) dX9_back_8 ⟨Nat.le_of_ble_eq_true rfl, Nat.le_of_ble_eq_true rfl⟩ (fun _ _ H₀ locs₀ hH₀ => ?_)
  refine xp_ne (tgt := 16) C₀.1.1 C₀.1.2.1 dX9_back_11 (by decide) (fun h_1₀ => ?_) (fun h_1₀ => ?_)
  · have hk1₀ := hik₀ x
    refine lv_aload_n C₀.1.1 C₀.1.2.1 dX9_back_16 rfl (lv_at hl₀ 0 rfl) ?_
    refine xw_get C₀ hH₀ 0 rfl rfl 6 (by decide) iw_X9_back_X9 (by decide +kernel) (v := .ref (q₀ 6)) rfl dX9_back_17 ?_
    refine lv_iload_n C₀.1.1 C₀.1.2.1 dX9_back_20 rfl (lv_at hl₀ 1 rfl) ?_
    refine xw_zld C₀ hH₀ 3 2 rfl rfl (z := x) (by omega) (by omega) (by decide) dX9_back_21 ?_
    refine xi_zne (tgt := 28) C₀.1.1 C₀.1.2.1 dX9_back_22 (by decide) (by omega) (fun h_2₀ => ?_) (fun h_2₀ => ?_)
    · refine lv_iconst (v := iI 0) C₀.1.1 C₀.1.2.1 dX9_back_28 (by decide) ?_
      refine lv_istore_n (lv' := [(2, .int (iI 0)), (0, .ref a₀), (1, .int (iI x))]) C₀.1.1 C₀.1.2.1 dX9_back_29 rfl hl₀ (by decide) rfl (fun ls₀ hl₀ => ?_)
      have L30₀ : ∀ (nn₀ : Nat), ∀ (c₀ : Int) (sq₀ : Int → Int), (sq₀ = cpz ke₀ s₀ (51 * x) 0 c₀) → (0 ≤ c₀ ∧ c₀ ≤ 51) → ((51 - c₀) < (nn₀ : Int)) → ∀ (H₀ : Heap) (locs₀ : List Loc) (ls₀ : Array Slot), Hp D₀ A₀ sT₀.heap [mO a₀ q₀ 0 un₀ mf₀ ty₀ fr₀ tt₀ tk₀ fa₀ (bz hf₀) (bz ho₀) km₀, (q₀ 1, .inl (k₀ 0, 51, .inl (ia sq₀))), (q₀ 5, .inl (k₀ 0, 102, .inl (ia ke₀))), (q₀ 6, .inl (k₀ 2, 2, .inl (ia ik₀)))] H₀ locs₀ → lv_has ls₀ 3 [(0, .ref a₀), (1, .int (iI x)), (2, .int (iI c₀))] → W pP₀ lL₀ eN₀ rmX9_back sT₀ mI₀ args₀ below₀ meth₀ cD₀ H₀ locs₀ 0 0 QQ₀ (F0 mI₀ 30 ls₀ []) := by
        intro nn₀
        induction nn₀ with
        | zero => intro c₀ sq₀ i1₀ i2₀ hm₀; exact absurd hm₀ (by omega)
        | succ nn₀ ih30₀ =>
          intro c₀ sq₀ i1₀ i2₀ hm30₀ H₀ locs₀ ls₀ hH₀ hl₀
          refine lv_iload_n C₀.1.1 C₀.1.2.1 dX9_back_30 rfl (lv_at hl₀ 2 rfl) ?_
          refine lv_bipush (v := iI 51) C₀.1.1 C₀.1.2.1 dX9_back_31 (by decide) ?_
          refine xi_cge (tgt := 59) C₀.1.1 C₀.1.2.1 dX9_back_33 (by decide) (by omega) (by omega) (fun h_3₀ => ?_) (fun h_3₀ => ?_)
          · have ec₀ : c₀ = 51 := by omega
            subst ec₀
            have e0₀ : sq₀ 0 = ke₀ (51 * x) := by rw [i1₀, cpz_in (by omega)]; congr 1; omega
            have e1₀ : sq₀ 1 = ke₀ (51 * x + 1) := by rw [i1₀, cpz_in (by omega)]; congr 1; omega
            refine lv_aload_n C₀.1.1 C₀.1.2.1 dX9_back_59 rfl (lv_at hl₀ 0 rfl) ?_
            refine lv_iconst (v := iI 0) C₀.1.1 C₀.1.2.1 dX9_back_60 (by decide) ?_
            refine xw_put (ws' := [mO a₀ q₀ 0 0 mf₀ ty₀ fr₀ tt₀ tk₀ fa₀ (bz hf₀) (bz ho₀) km₀, (q₀ 1, .inl (k₀ 0, 51, .inl (ia sq₀))), (q₀ 5, .inl (k₀ 0, 102, .inl (ia ke₀))), (q₀ 6, .inl (k₀ 2, 2, .inl (ia ik₀)))]) (v := .int (iI 0)) C₀ hH₀ 0 rfl rfl tyX9 tyX9_ok nmX9 4 (by decide) iw_X9_back_X9 (by decide +kernel) rfl rfl rfl (Nat.le_of_ble_eq_true rfl) dX9_back_61 rfl (fun H₀ locs₀ hH₀ => ?_)
            refine lv_aload_n C₀.1.1 C₀.1.2.1 dX9_back_64 rfl (lv_at hl₀ 0 rfl) ?_
            refine xc_Vi (wr := [(q₀ 5, .inl (k₀ 0, 102, .inl (ia ke₀))), (q₀ 6, .inl (k₀ 2, 2, .inl (ia ik₀)))]) (ws' := fun _ => [mO a₀ q₀ 0 0 mf₀ ty₀ fr₀ tt₀ tk₀ fa₀ (bz hf₀) (bz ho₀) km₀, (q₀ 1, .inl (k₀ 0, 51, .inl (ia sq₀))), (q₀ 5, .inl (k₀ 0, 102, .inl (ia ke₀))), (q₀ 6, .inl (k₀ 2, 2, .inl (ia ik₀)))]) (As := []) (rest := []) C₀ hH₀ (c_X9_cells lL₀ D₀ k₀ H₀.size a₀ q₀ 0 0 mf₀ ty₀ fr₀ tt₀ tk₀ fa₀ hf₀ ho₀ km₀ sq₀ ) ZT_b (fun _ _ _ => trivial) (cwV 0 C₀.1.2.2.2.2 gX9_back_X9_cells rfl rfl rfl (by decide +kernel) ⟨Nat.le_of_ble_eq_true rfl, Nat.le_of_ble_eq_true rfl⟩) [0, 1] [2, 3] [2, 3, 0, 1] rfl rfl (by decide) (by decide) (by decide) (fun _ => rfl) (by decide) (q0 := 0) rfl rfl rfl hl₀.1 rfl (Nat.le_of_ble_eq_true rfl) dX9_back_65 ⟨Nat.le_of_ble_eq_true rfl, Nat.le_of_ble_eq_true rfl⟩ (fun _ _ H₀ locs₀ hH₀ => ?_)
            exact xr_i C₀ hH₀ hlk₀ hr₀ hQ₀ rfl hAe₀ () trivial (by simp (disch := omega) only [mBackR, if_pos, if_neg] <;> rw [e0₀, e1₀]) (by simp (disch := omega) only [mBackU, mBackS, if_pos, if_neg] <;> rw [i1₀]) dX9_back_68
          · refine lv_aload_n C₀.1.1 C₀.1.2.1 dX9_back_36 rfl (lv_at hl₀ 0 rfl) ?_
            refine xw_get C₀ hH₀ 0 rfl rfl 1 (by decide) iw_X9_back_X9 (by decide +kernel) (v := .ref (q₀ 1)) rfl dX9_back_37 ?_
            refine lv_iload_n C₀.1.1 C₀.1.2.1 dX9_back_40 rfl (lv_at hl₀ 2 rfl) ?_
            refine lv_aload_n C₀.1.1 C₀.1.2.1 dX9_back_41 rfl (lv_at hl₀ 0 rfl) ?_
            refine xw_get C₀ hH₀ 0 rfl rfl 5 (by decide) iw_X9_back_X9 (by decide +kernel) (v := .ref (q₀ 5)) rfl dX9_back_42 ?_
            refine lv_bipush (v := iI 51) C₀.1.1 C₀.1.2.1 dX9_back_45 (by decide) ?_
            refine lv_iload_n C₀.1.1 C₀.1.2.1 dX9_back_47 rfl (lv_at hl₀ 1 rfl) ?_
            refine xi_mul C₀.1.1 C₀.1.2.1 dX9_back_48 ?_
            refine lv_iload_n C₀.1.1 C₀.1.2.1 dX9_back_49 rfl (lv_at hl₀ 2 rfl) ?_
            refine xi_add C₀.1.1 C₀.1.2.1 dX9_back_50 ?_
            refine xw_ild C₀ hH₀ 2 0 rfl rfl (z := 51 * x + c₀) (by omega) (by omega) (by decide) dX9_back_51 ?_
            refine xw_ist (ws' := [mO a₀ q₀ 0 un₀ mf₀ ty₀ fr₀ tt₀ tk₀ fa₀ (bz hf₀) (bz ho₀) km₀, (q₀ 1, .inl (k₀ 0, 51, .inl (ia (uz sq₀ c₀ (ke₀ (51 * x + c₀)))))), (q₀ 5, .inl (k₀ 0, 102, .inl (ia ke₀))), (q₀ 6, .inl (k₀ 2, 2, .inl (ia ik₀)))]) C₀ hH₀ 1 0 rfl rfl (z := c₀) (v := ke₀ (51 * x + c₀)) (by omega) (by omega) (by decide) dX9_back_52 rfl (fun H₀ locs₀ hH₀ => ?_)
            refine lv_iinc (v := iI (c₀ + 1)) (lv' := [(2, .int (iI (c₀ + 1))), (0, .ref a₀), (1, .int (iI x))]) C₀.1.1 C₀.1.2.1 dX9_back_53 hl₀ (k := 2) rfl (iI_add _ (1)) (by decide) rfl (fun ls₀ hl₀ => ?_)
            refine lv_goto (tgt := 30) C₀.1.1 C₀.1.2.1 dX9_back_56 (by decide) ?_
            exact ih30₀ (c₀ + 1) (uz sq₀ c₀ (ke₀ (51 * x + c₀))) (by rw [i1₀]; exact cpz_s (by omega) (by omega) (by first | rfl | (congr 1; omega))) (by omega) (by omega) _ _ _ hH₀ (lv_sub hl₀ [1, 2, 0] rfl)
      exact L30₀ (((51 - 0) : Int).toNat + 1) 0 s₀ ((cpz_0 _ _ _ _).symm) (by omega) (by omega) _ _ _ hH₀ (lv_sub hl₀ [1, 2, 0] rfl)
    · refine lv_bipush (v := iI (-2)) C₀.1.1 C₀.1.2.1 dX9_back_25 (by decide) ?_
      exact xr_i C₀ hH₀ hlk₀ hr₀ hQ₀ rfl hAe₀ () trivial (by simp (disch := omega) only [mBackR, if_pos, if_neg]) (by simp (disch := omega) only [mBackU, mBackS, if_pos, if_neg]) dX9_back_27
  · refine lv_iconst (v := iI (-1)) C₀.1.1 C₀.1.2.1 dX9_back_14 (by decide) ?_
    exact xr_i C₀ hH₀ hlk₀ hr₀ hQ₀ rfl hAe₀ () trivial (by simp (disch := omega) only [mBackR, if_pos, if_neg]) (by simp (disch := omega) only [mBackU, mBackS, if_pos, if_neg]) dX9_back_15
theorem iw_X9_fixes_X9 : ∀ w₀ ∈ u_ws RX9 TX9 24, w₀ ∈ wsX9_fixes := (fun w₀ h₀ => List.mem_cons_of_mem _ (List.mem_append_right _ h₀))
abbrev rmX9_fixes : Room := { frames := 2, cells := 0, slots := 0, locals := 44 }
set_option maxHeartbeats 4000000 in
set_option maxRecDepth 100000 in
/-- fixes -/
theorem c_X9_fixes (lL₀ : Launch) (D₀ : va_G) (k₀ : Nat → ClassId) (sz₀ : Nat) (a₀ : Nat) (q₀ : Nat → Nat) (th₀ : Int) (un₀ : Int) (mf₀ : Int) (ty₀ : Int) (fr₀ : Int) (tt₀ : Int) (tk₀ : Int) (fa₀ : Int) (hf₀ : Bool) (ho₀ : Bool) (km₀ : Int) (s₀ : Int → Int) (pa₀ : Int → Int) (x : Int) (y₀ : Int) (i₀ : Int) (hS₀ : mS s₀) (hx₀ : -2147483648 ≤ x ∧ x < 2147483648) (hy₀ : -2147483648 ≤ y₀ ∧ y₀ < 2147483648) (hi₀ : -2147483648 ≤ i₀ ∧ i₀ < 2147483648) (hun₀ : 0 ≤ un₀ ∧ un₀ ≤ 6) : Met lL₀ yX9_fixes wsX9_fixes rmX9_fixes (gPc ZT D₀ (tyk k₀) [.ref a₀, .int (iI x), .int (iI y₀), .int (iI i₀)] sz₀ [mO a₀ q₀ th₀ un₀ mf₀ ty₀ fr₀ tt₀ tk₀ fa₀ (bz hf₀) (bz ho₀) km₀, (q₀ 1, .inl (k₀ 0, 51, .inl (ia s₀))), (q₀ 3, .inl (k₀ 0, 306, .inl (ia pa₀)))]) (gQi D₀ (tyk k₀) [mO a₀ q₀ th₀ un₀ mf₀ ty₀ fr₀ tt₀ tk₀ fa₀ (bz hf₀) (bz ho₀) km₀, (q₀ 1, .inl (k₀ 0, 51, .inl (ia s₀))), (q₀ 3, .inl (k₀ 0, 306, .inl (ia pa₀)))] sz₀ (fun (_ : Unit) => True) (fun (_ : Unit) => (iI (mFixesR s₀ x y₀ i₀))) (fun (_ : Unit) => [mO a₀ q₀ 0 (cond (mFixesC s₀ x y₀ i₀) (mUn un₀) un₀) mf₀ ty₀ fr₀ tt₀ tk₀ fa₀ (bz hf₀) (bz ho₀) km₀, (q₀ 1, .inl (k₀ 0, 51, .inl (ia (cond (mFixesC s₀ x y₀ i₀) (uz s₀ (27 + s₀ 0 * y₀ + x) i₀) s₀)))), (q₀ 3, .inl (k₀ 0, 306, .inl (ia (cond (mFixesC s₀ x y₀ i₀) (mPa pa₀ s₀ un₀) pa₀))))])) 0 0 (va_A [mO a₀ q₀ th₀ un₀ mf₀ ty₀ fr₀ tt₀ tk₀ fa₀ (bz hf₀) (bz ho₀) km₀, (q₀ 1, .inl (k₀ 0, 51, .inl (ia s₀))), (q₀ 3, .inl (k₀ 0, 306, .inl (ia pa₀)))] sz₀) := by
  refine xs_met (cc := cX9_fixes) (maxL := 5) (ret := some .int) (by decide) rfl (Nat.le_of_ble_eq_true rfl) ?_
  intro pP₀ eN₀ sT₀ mI₀ below₀ meth₀ cD₀ hsz₀ args₀ QQ₀ C₀ hr₀ hlk₀ hnm₀ hQ₀ ls₀ H₀ locs₀ hl₀ hH₀
  subst hsz₀
  have hl₀ : lv_has ls₀ 5 [(0, .ref a₀), (1, .int (iI x)), (2, .int (iI y₀)), (3, .int (iI i₀))] := hl₀
  generalize hAe₀ : va_A [mO a₀ q₀ th₀ un₀ mf₀ ty₀ fr₀ tt₀ tk₀ fa₀ (bz hf₀) (bz ho₀) km₀, (q₀ 1, .inl (k₀ 0, 51, .inl (ia s₀))), (q₀ 3, .inl (k₀ 0, 306, .inl (ia pa₀)))] sT₀.heap.size = A₀ at C₀ hH₀ hQ₀
  obtain ⟨hs0₀, hs1₀, hs2₀, hsh₀, hsf₀⟩ := id hS₀
  have hcl₀ := cells_rg hs0₀ hs1₀
  refine lv_aload_n C₀.1.1 C₀.1.2.1 dX9_fixes_0 rfl (lv_at hl₀ 0 rfl) ?_
  refine lv_iconst (v := iI 0) C₀.1.1 C₀.1.2.1 dX9_fixes_1 (by decide) ?_
  refine xw_put (ws' := [mO a₀ q₀ 0 un₀ mf₀ ty₀ fr₀ tt₀ tk₀ fa₀ (bz hf₀) (bz ho₀) km₀, (q₀ 1, .inl (k₀ 0, 51, .inl (ia s₀))), (q₀ 3, .inl (k₀ 0, 306, .inl (ia pa₀)))]) (v := .int (iI 0)) C₀ hH₀ 0 rfl rfl tyX9 tyX9_ok nmX9 0 (by decide) iw_X9_fixes_X9 (by decide +kernel) rfl rfl rfl (Nat.le_of_ble_eq_true rfl) dX9_fixes_2 rfl (fun H₀ locs₀ hH₀ => ?_)
  refine lv_aload_n C₀.1.1 C₀.1.2.1 dX9_fixes_5 rfl (lv_at hl₀ 0 rfl) ?_
  refine lv_iload_n C₀.1.1 C₀.1.2.1 dX9_fixes_6 rfl (lv_at hl₀ 1 rfl) ?_
  refine lv_iload_n C₀.1.1 C₀.1.2.1 dX9_fixes_7 rfl (lv_at hl₀ 2 rfl) ?_
  refine xc_Vi (wr := [(q₀ 3, .inl (k₀ 0, 306, .inl (ia pa₀)))]) (ws' := fun _ => [mO a₀ q₀ 0 un₀ mf₀ ty₀ fr₀ tt₀ tk₀ fa₀ (bz hf₀) (bz ho₀) km₀, (q₀ 1, .inl (k₀ 0, 51, .inl (ia s₀))), (q₀ 3, .inl (k₀ 0, 306, .inl (ia pa₀)))]) (As := [.int (iI x), .int (iI y₀)]) (rest := []) C₀ hH₀ (c_X9_isCell lL₀ D₀ k₀ H₀.size a₀ q₀ 0 un₀ mf₀ ty₀ fr₀ tt₀ tk₀ fa₀ hf₀ ho₀ km₀ s₀ x y₀ (by omega) (by omega) (by omega) (by omega)) ZT_b (fun _ _ _ => trivial) (cwV 2 C₀.1.2.2.2.2 gX9_fixes_X9_isCell rfl rfl rfl (by decide +kernel) ⟨Nat.le_of_ble_eq_true rfl, Nat.le_of_ble_eq_true rfl⟩) [0, 1] [2] [1, 2, 0] rfl rfl (by decide) (by decide) (by decide) (fun _ => rfl) (by decide) (q0 := 0) rfl rfl rfl hl₀.1 rfl (Nat.le_of_ble_eq_true rfl) dX9_fixes_8 ⟨Nat.le_of_ble_eq_true rfl, Nat.le_of_ble_eq_true rfl⟩ (fun _ _ H₀ locs₀ hH₀ => ?_)
  refine xp_eq (tgt := 23) C₀.1.1 C₀.1.2.1 dX9_fixes_11 (by decide) (fun h_1₀ => ?_) (fun h_1₀ => ?_)
  · refine lv_iconst (v := iI (-1)) C₀.1.1 C₀.1.2.1 dX9_fixes_23 (by decide) ?_
    exact xr_i C₀ hH₀ hlk₀ hr₀ hQ₀ rfl hAe₀ () trivial (by simp (disch := omega) only [mFixesR, if_pos, if_neg]) (by rw [show mFixesC s₀ x y₀ i₀ = false from decide_eq_false (by omega)]; rfl) dX9_fixes_24
  · refine lv_iload_n C₀.1.1 C₀.1.2.1 dX9_fixes_14 rfl (lv_at hl₀ 3 rfl) ?_
    refine lv_iconst (v := iI 0) C₀.1.1 C₀.1.2.1 dX9_fixes_15 (by decide) ?_
    refine lv_iconst (v := iI 1) C₀.1.1 C₀.1.2.1 dX9_fixes_16 (by decide) ?_
    refine xc_Si (wr := [mO a₀ q₀ 0 un₀ mf₀ ty₀ fr₀ tt₀ tk₀ fa₀ (bz hf₀) (bz ho₀) km₀, (q₀ 1, .inl (k₀ 0, 51, .inl (ia s₀))), (q₀ 3, .inl (k₀ 0, 306, .inl (ia pa₀)))]) (ws' := fun _ => [mO a₀ q₀ 0 un₀ mf₀ ty₀ fr₀ tt₀ tk₀ fa₀ (bz hf₀) (bz ho₀) km₀, (q₀ 1, .inl (k₀ 0, 51, .inl (ia s₀))), (q₀ 3, .inl (k₀ 0, 306, .inl (ia pa₀)))]) (As := [.int (iI i₀), .int (iI 0), .int (iI 1)]) (rest := []) C₀ hH₀ (c_X9_in lL₀ D₀ k₀ H₀.size i₀ 0 1 (by omega) (by omega) (by omega)) ZT_b (fun _ _ _ => trivial) (va_cwS 3 C₀.1.2.2.2.2 gX9_fixes_X9_in rfl rfl rfl (by decide +kernel) ⟨Nat.le_of_ble_eq_true rfl, Nat.le_of_ble_eq_true rfl⟩) [] [0, 1, 2] [0, 1, 2] rfl rfl (by decide) (by decide) (by decide) (fun _ => rfl) (by decide) rfl hl₀.1 rfl (Nat.le_of_ble_eq_true rfl) dX9_fixes_17 ⟨Nat.le_of_ble_eq_true rfl, Nat.le_of_ble_eq_true rfl⟩ (fun _ _ H₀ locs₀ hH₀ => ?_)
    refine xp_ne (tgt := 25) C₀.1.1 C₀.1.2.1 dX9_fixes_20 (by decide) (fun h_2₀ => ?_) (fun h_2₀ => ?_)
    · have hc₀ := cell_rg hs0₀ (show 0 ≤ x ∧ x < s₀ 0 by omega) (show 0 ≤ y₀ ∧ y₀ < s₀ 1 by omega)
      have hff₀ := hsf₀ (27 + s₀ 0 * y₀ + x) (by omega) (by omega)
      refine lv_bipush (v := iI 27) C₀.1.1 C₀.1.2.1 dX9_fixes_25 (by decide) ?_
      refine lv_aload_n C₀.1.1 C₀.1.2.1 dX9_fixes_27 rfl (lv_at hl₀ 0 rfl) ?_
      refine xw_get C₀ hH₀ 0 rfl rfl 1 (by decide) iw_X9_fixes_X9 (by decide +kernel) (v := .ref (q₀ 1)) rfl dX9_fixes_28 ?_
      refine lv_iconst (v := iI 0) C₀.1.1 C₀.1.2.1 dX9_fixes_31 (by decide) ?_
      refine xw_ild C₀ hH₀ 1 0 rfl rfl (z := 0) (by omega) (by omega) (by decide) dX9_fixes_32 ?_
      refine lv_iload_n C₀.1.1 C₀.1.2.1 dX9_fixes_33 rfl (lv_at hl₀ 2 rfl) ?_
      refine xi_mul C₀.1.1 C₀.1.2.1 dX9_fixes_34 ?_
      refine xi_add C₀.1.1 C₀.1.2.1 dX9_fixes_35 ?_
      refine lv_iload_n C₀.1.1 C₀.1.2.1 dX9_fixes_36 rfl (lv_at hl₀ 1 rfl) ?_
      refine xi_add C₀.1.1 C₀.1.2.1 dX9_fixes_37 ?_
      refine lv_istore (lv' := [(4, .int (iI (27 + ((s₀ 0) * y₀) + x))), (0, .ref a₀), (1, .int (iI x)), (2, .int (iI y₀)), (3, .int (iI i₀))]) C₀.1.1 C₀.1.2.1 dX9_fixes_38 hl₀ (by decide) rfl (fun ls₀ hl₀ => ?_)
      refine lv_aload_n C₀.1.1 C₀.1.2.1 dX9_fixes_40 rfl (lv_at hl₀ 1 rfl) ?_
      refine xw_get C₀ hH₀ 0 rfl rfl 1 (by decide) iw_X9_fixes_X9 (by decide +kernel) (v := .ref (q₀ 1)) rfl dX9_fixes_41 ?_
      refine lv_iload C₀.1.1 C₀.1.2.1 dX9_fixes_44 (lv_at hl₀ 0 rfl) ?_
      refine xw_ild C₀ hH₀ 1 0 rfl rfl (z := 27 + ((s₀ 0) * y₀) + x) (by omega) (by omega) (by decide) dX9_fixes_46 ?_
      refine lv_iload_n C₀.1.1 C₀.1.2.1 dX9_fixes_47 rfl (lv_at hl₀ 4 rfl) ?_
      refine xi_cne (tgt := 54) C₀.1.1 C₀.1.2.1 dX9_fixes_48 (by decide) (by omega) (by omega) (fun h_3₀ => ?_) (fun h_3₀ => ?_)
      · refine lv_aload_n C₀.1.1 C₀.1.2.1 dX9_fixes_54 rfl (lv_at hl₀ 1 rfl) ?_
        refine xc_Vv (wr := []) (ws' := fun _ => [mO a₀ q₀ 0 (mUn un₀) mf₀ ty₀ fr₀ tt₀ tk₀ fa₀ (bz hf₀) (bz ho₀) km₀, (q₀ 1, .inl (k₀ 0, 51, .inl (ia s₀))), (q₀ 3, .inl (k₀ 0, 306, .inl (ia (mPa pa₀ s₀ un₀))))]) (As := []) (rest := []) C₀ hH₀ (c_X9_notes lL₀ D₀ k₀ H₀.size a₀ q₀ 0 un₀ mf₀ ty₀ fr₀ tt₀ tk₀ fa₀ hf₀ ho₀ km₀ s₀ pa₀ (by omega)) ZT_b (fun _ _ _ => trivial) (cwV 0 C₀.1.2.2.2.2 gX9_fixes_X9_notes rfl rfl rfl (by decide +kernel) ⟨Nat.le_of_ble_eq_true rfl, Nat.le_of_ble_eq_true rfl⟩) [0, 1, 2] [] [0, 1, 2] rfl rfl (by decide) (by decide) (by decide) (fun _ => rfl) (by decide) (q0 := 0) rfl rfl rfl hl₀.1 rfl (Nat.le_of_ble_eq_true rfl) dX9_fixes_55 ⟨Nat.le_of_ble_eq_true rfl, Nat.le_of_ble_eq_true rfl⟩ (fun _ _ H₀ locs₀ hH₀ => ?_)
        refine lv_aload_n C₀.1.1 C₀.1.2.1 dX9_fixes_58 rfl (lv_at hl₀ 1 rfl) ?_
        refine xw_get C₀ hH₀ 0 rfl rfl 1 (by decide) iw_X9_fixes_X9 (by decide +kernel) (v := .ref (q₀ 1)) rfl dX9_fixes_59 ?_
        refine lv_iload C₀.1.1 C₀.1.2.1 dX9_fixes_62 (lv_at hl₀ 0 rfl) ?_
        refine lv_iload_n C₀.1.1 C₀.1.2.1 dX9_fixes_64 rfl (lv_at hl₀ 4 rfl) ?_
        refine xw_ist (ws' := [mO a₀ q₀ 0 (mUn un₀) mf₀ ty₀ fr₀ tt₀ tk₀ fa₀ (bz hf₀) (bz ho₀) km₀, (q₀ 1, .inl (k₀ 0, 51, .inl (ia (uz s₀ (27 + ((s₀ 0) * y₀) + x) i₀)))), (q₀ 3, .inl (k₀ 0, 306, .inl (ia (mPa pa₀ s₀ un₀))))]) C₀ hH₀ 1 0 rfl rfl (z := 27 + ((s₀ 0) * y₀) + x) (v := i₀) (by omega) (by omega) (by decide) dX9_fixes_65 rfl (fun H₀ locs₀ hH₀ => ?_)
        refine lv_aload_n C₀.1.1 C₀.1.2.1 dX9_fixes_66 rfl (lv_at hl₀ 1 rfl) ?_
        refine xc_Vi (wr := [(q₀ 3, .inl (k₀ 0, 306, .inl (ia (mPa pa₀ s₀ un₀))))]) (ws' := fun _ => [mO a₀ q₀ 0 (mUn un₀) mf₀ ty₀ fr₀ tt₀ tk₀ fa₀ (bz hf₀) (bz ho₀) km₀, (q₀ 1, .inl (k₀ 0, 51, .inl (ia (uz s₀ (27 + ((s₀ 0) * y₀) + x) i₀)))), (q₀ 3, .inl (k₀ 0, 306, .inl (ia (mPa pa₀ s₀ un₀))))]) (As := []) (rest := []) C₀ hH₀ (c_X9_fixedMany lL₀ D₀ k₀ H₀.size a₀ q₀ 0 (mUn un₀) mf₀ ty₀ fr₀ tt₀ tk₀ fa₀ hf₀ ho₀ km₀ (uz s₀ (27 + ((s₀ 0) * y₀) + x) i₀) (mS_fix hS₀ (by omega) (by omega))) ZT_b (fun _ _ _ => trivial) (cwV 0 C₀.1.2.2.2.2 gX9_fixes_X9_fixedMany rfl rfl rfl (by decide +kernel) ⟨Nat.le_of_ble_eq_true rfl, Nat.le_of_ble_eq_true rfl⟩) [0, 1] [2] [1, 2, 0] rfl rfl (by decide) (by decide) (by decide) (fun _ => rfl) (by decide) (q0 := 0) rfl rfl rfl hl₀.1 rfl (Nat.le_of_ble_eq_true rfl) dX9_fixes_67 ⟨Nat.le_of_ble_eq_true rfl, Nat.le_of_ble_eq_true rfl⟩ (fun _ _ H₀ locs₀ hH₀ => ?_)
        exact xr_i C₀ hH₀ hlk₀ hr₀ hQ₀ rfl hAe₀ () trivial (by simp (disch := omega) only [mFixesR, if_pos, if_neg]) (by rw [show mFixesC s₀ x y₀ i₀ = true from decide_eq_true (by omega)]; rfl) dX9_fixes_70
      · refine lv_bipush (v := iI (-2)) C₀.1.1 C₀.1.2.1 dX9_fixes_51 (by decide) ?_
        exact xr_i C₀ hH₀ hlk₀ hr₀ hQ₀ rfl hAe₀ () trivial (by simp (disch := omega) only [mFixesR, if_pos, if_neg]) (by rw [show mFixesC s₀ x y₀ i₀ = false from decide_eq_false (by omega)]; rfl) dX9_fixes_53
    · refine lv_iconst (v := iI (-1)) C₀.1.1 C₀.1.2.1 dX9_fixes_23 (by decide) ?_
      exact xr_i C₀ hH₀ hlk₀ hr₀ hQ₀ rfl hAe₀ () trivial (by simp (disch := omega) only [mFixesR, if_pos, if_neg]) (by rw [show mFixesC s₀ x y₀ i₀ = false from decide_eq_false (by omega)]; rfl) dX9_fixes_24
theorem iw_X9_type_X9 : ∀ w₀ ∈ u_ws RX9 TX9 24, w₀ ∈ wsX9_type := (fun w₀ h₀ => List.mem_cons_of_mem _ (List.mem_append_right _ h₀))
abbrev rmX9_type : Room := { frames := 1, cells := 0, slots := 0, locals := 22 }
set_option maxHeartbeats 4000000 in
set_option maxRecDepth 100000 in
/-- type -/
theorem c_X9_type (lL₀ : Launch) (D₀ : va_G) (k₀ : Nat → ClassId) (sz₀ : Nat) (a₀ : Nat) (q₀ : Nat → Nat) (th₀ : Int) (un₀ : Int) (mf₀ : Int) (ty₀ : Int) (fr₀ : Int) (tt₀ : Int) (tk₀ : Int) (fa₀ : Int) (hf₀ : Bool) (ho₀ : Bool) (km₀ : Int) (tx₀ : Int → Int) (x : Int) (hx₀ : -2147483648 ≤ x ∧ x < 2147483648) (hty₀ : 0 ≤ ty₀ ∧ ty₀ ≤ 120) : Met lL₀ yX9_type wsX9_type rmX9_type (gPc ZT D₀ (tyk k₀) [.ref a₀, .int (iI x)] sz₀ [mO a₀ q₀ th₀ un₀ mf₀ ty₀ fr₀ tt₀ tk₀ fa₀ (bz hf₀) (bz ho₀) km₀, (q₀ 9, .inl (k₀ 1, 120, .inl (by8 tx₀)))]) (gQi D₀ (tyk k₀) [mO a₀ q₀ th₀ un₀ mf₀ ty₀ fr₀ tt₀ tk₀ fa₀ (bz hf₀) (bz ho₀) km₀, (q₀ 9, .inl (k₀ 1, 120, .inl (by8 tx₀)))] sz₀ (fun (_ : Unit) => True) (fun (_ : Unit) => (iI (mTypeR ty₀ x))) (fun (_ : Unit) => [mO a₀ q₀ 0 un₀ mf₀ (mTypeN ty₀ x) fr₀ tt₀ tk₀ fa₀ (bz hf₀) (bz ho₀) km₀, (q₀ 9, .inl (k₀ 1, 120, .inl (by8 (mTypeX tx₀ ty₀ x))))])) 0 0 (va_A [mO a₀ q₀ th₀ un₀ mf₀ ty₀ fr₀ tt₀ tk₀ fa₀ (bz hf₀) (bz ho₀) km₀, (q₀ 9, .inl (k₀ 1, 120, .inl (by8 tx₀)))] sz₀) := by
  refine xs_met (cc := cX9_type) (maxL := 2) (ret := some .int) (by decide) rfl (Nat.le_of_ble_eq_true rfl) ?_
  intro pP₀ eN₀ sT₀ mI₀ below₀ meth₀ cD₀ hsz₀ args₀ QQ₀ C₀ hr₀ hlk₀ hnm₀ hQ₀ ls₀ H₀ locs₀ hl₀ hH₀
  subst hsz₀
  have hl₀ : lv_has ls₀ 2 [(0, .ref a₀), (1, .int (iI x))] := hl₀
  generalize hAe₀ : va_A [mO a₀ q₀ th₀ un₀ mf₀ ty₀ fr₀ tt₀ tk₀ fa₀ (bz hf₀) (bz ho₀) km₀, (q₀ 9, .inl (k₀ 1, 120, .inl (by8 tx₀)))] sT₀.heap.size = A₀ at C₀ hH₀ hQ₀
  refine lv_aload_n C₀.1.1 C₀.1.2.1 dX9_type_0 rfl (lv_at hl₀ 0 rfl) ?_
  refine lv_iconst (v := iI 0) C₀.1.1 C₀.1.2.1 dX9_type_1 (by decide) ?_
  refine xw_put (ws' := [mO a₀ q₀ 0 un₀ mf₀ ty₀ fr₀ tt₀ tk₀ fa₀ (bz hf₀) (bz ho₀) km₀, (q₀ 9, .inl (k₀ 1, 120, .inl (by8 tx₀)))]) (v := .int (iI 0)) C₀ hH₀ 0 rfl rfl tyX9 tyX9_ok nmX9 0 (by decide) iw_X9_type_X9 (by decide +kernel) rfl rfl rfl (Nat.le_of_ble_eq_true rfl) dX9_type_2 rfl (fun H₀ locs₀ hH₀ => ?_)
  refine lv_iload_n C₀.1.1 C₀.1.2.1 dX9_type_5 rfl (lv_at hl₀ 1 rfl) ?_
  refine lv_iconst (v := iI 0) C₀.1.1 C₀.1.2.1 dX9_type_6 (by decide) ?_
  refine lv_sipush (v := iI 255) C₀.1.1 C₀.1.2.1 dX9_type_7 (by decide) ?_
  refine xc_Si (wr := [mO a₀ q₀ 0 un₀ mf₀ ty₀ fr₀ tt₀ tk₀ fa₀ (bz hf₀) (bz ho₀) km₀, (q₀ 9, .inl (k₀ 1, 120, .inl (by8 tx₀)))]) (ws' := fun _ => [mO a₀ q₀ 0 un₀ mf₀ ty₀ fr₀ tt₀ tk₀ fa₀ (bz hf₀) (bz ho₀) km₀, (q₀ 9, .inl (k₀ 1, 120, .inl (by8 tx₀)))]) (As := [.int (iI x), .int (iI 0), .int (iI 255)]) (rest := []) C₀ hH₀ (c_X9_in lL₀ D₀ k₀ H₀.size x 0 255 (by omega) (by omega) (by omega)) ZT_b (fun _ _ _ => trivial) (va_cwS 3 C₀.1.2.2.2.2 gX9_type_X9_in rfl rfl rfl (by decide +kernel) ⟨Nat.le_of_ble_eq_true rfl, Nat.le_of_ble_eq_true rfl⟩) [] [0, 1] [0, 1] rfl rfl (by decide) (by decide) (by decide) (fun _ => rfl) (by decide) rfl hl₀.1 rfl (Nat.le_of_ble_eq_true rfl) dX9_type_10 ⟨Nat.le_of_ble_eq_true rfl, Nat.le_of_ble_eq_true rfl⟩ (fun _ _ H₀ locs₀ hH₀ => ?_)
  refine xp_ne (tgt := 18) C₀.1.1 C₀.1.2.1 dX9_type_13 (by decide) (fun h_1₀ => ?_) (fun h_1₀ => ?_)
  · refine lv_aload_n C₀.1.1 C₀.1.2.1 dX9_type_18 rfl (lv_at hl₀ 0 rfl) ?_
    refine xw_get C₀ hH₀ 0 rfl rfl 10 (by decide) iw_X9_type_X9 (by decide +kernel) (v := .int (iI ty₀)) rfl dX9_type_19 ?_
    refine lv_bipush (v := iI 120) C₀.1.1 C₀.1.2.1 dX9_type_22 (by decide) ?_
    refine xi_cne (tgt := 30) C₀.1.1 C₀.1.2.1 dX9_type_24 (by decide) (by omega) (by omega) (fun h_2₀ => ?_) (fun h_2₀ => ?_)
    · refine lv_aload_n C₀.1.1 C₀.1.2.1 dX9_type_30 rfl (lv_at hl₀ 0 rfl) ?_
      refine xw_get C₀ hH₀ 0 rfl rfl 9 (by decide) iw_X9_type_X9 (by decide +kernel) (v := .ref (q₀ 9)) rfl dX9_type_31 ?_
      refine lv_aload_n C₀.1.1 C₀.1.2.1 dX9_type_34 rfl (lv_at hl₀ 0 rfl) ?_
      refine xw_get C₀ hH₀ 0 rfl rfl 10 (by decide) iw_X9_type_X9 (by decide +kernel) (v := .int (iI ty₀)) rfl dX9_type_35 ?_
      refine lv_iload_n C₀.1.1 C₀.1.2.1 dX9_type_38 rfl (lv_at hl₀ 1 rfl) ?_
      refine lv_i2b (v := (iI x).toInt8.toInt32) C₀.1.1 C₀.1.2.1 dX9_type_39 rfl ?_
      refine xw_bst (ws' := [mO a₀ q₀ 0 un₀ mf₀ ty₀ fr₀ tt₀ tk₀ fa₀ (bz hf₀) (bz ho₀) km₀, (q₀ 9, .inl (k₀ 1, 120, .inl (by8 (uz tx₀ ty₀ x))))]) C₀ hH₀ 1 1 rfl rfl (z := ty₀) (v := x) (by omega) (by omega) (by decide) dX9_type_40 rfl (fun H₀ locs₀ hH₀ => ?_)
      refine lv_aload_n C₀.1.1 C₀.1.2.1 dX9_type_41 rfl (lv_at hl₀ 0 rfl) ?_
      refine lv_dup C₀.1.1 C₀.1.2.1 dX9_type_42 rfl ?_
      refine xw_get C₀ hH₀ 0 rfl rfl 10 (by decide) iw_X9_type_X9 (by decide +kernel) (v := .int (iI ty₀)) rfl dX9_type_43 ?_
      refine lv_iconst (v := iI 1) C₀.1.1 C₀.1.2.1 dX9_type_46 (by decide) ?_
      refine xi_add C₀.1.1 C₀.1.2.1 dX9_type_47 ?_
      refine xw_put (ws' := [mO a₀ q₀ 0 un₀ mf₀ (ty₀ + 1) fr₀ tt₀ tk₀ fa₀ (bz hf₀) (bz ho₀) km₀, (q₀ 9, .inl (k₀ 1, 120, .inl (by8 (uz tx₀ ty₀ x))))]) (v := .int (iI (ty₀ + 1))) C₀ hH₀ 0 rfl rfl tyX9 tyX9_ok nmX9 10 (by decide) iw_X9_type_X9 (by decide +kernel) rfl rfl rfl (Nat.le_of_ble_eq_true rfl) dX9_type_48 rfl (fun H₀ locs₀ hH₀ => ?_)
      refine lv_aload_n C₀.1.1 C₀.1.2.1 dX9_type_51 rfl (lv_at hl₀ 0 rfl) ?_
      refine xw_get C₀ hH₀ 0 rfl rfl 10 (by decide) iw_X9_type_X9 (by decide +kernel) (v := .int (iI (ty₀ + 1))) rfl dX9_type_52 ?_
      exact xr_i C₀ hH₀ hlk₀ hr₀ hQ₀ rfl hAe₀ () trivial (by simp (disch := omega) only [mTypeR, if_pos, if_neg]) (by simp (disch := omega) only [mTypeN, mTypeX, if_pos, if_neg]) dX9_type_55
    · refine lv_bipush (v := iI (-3)) C₀.1.1 C₀.1.2.1 dX9_type_27 (by decide) ?_
      exact xr_i C₀ hH₀ hlk₀ hr₀ hQ₀ rfl hAe₀ () trivial (by simp (disch := omega) only [mTypeR, if_pos, if_neg]) (by simp (disch := omega) only [mTypeN, mTypeX, if_pos, if_neg]) dX9_type_29
  · refine lv_iconst (v := iI (-1)) C₀.1.1 C₀.1.2.1 dX9_type_16 (by decide) ?_
    exact xr_i C₀ hH₀ hlk₀ hr₀ hQ₀ rfl hAe₀ () trivial (by simp (disch := omega) only [mTypeR, if_pos, if_neg]) (by simp (disch := omega) only [mTypeN, mTypeX, if_pos, if_neg]) dX9_type_17
