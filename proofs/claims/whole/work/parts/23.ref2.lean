theorem iw_X9_figureOf_X9 : ∀ w₀ ∈ u_ws RX9 TX9 24, w₀ ∈ wsX9_figureOf := (fun w₀ h₀ => List.mem_cons_of_mem _ (List.mem_append_right _ h₀))
abbrev rmX9_figureOf : Room := { frames := 0, cells := 0, slots := 0, locals := 0 }
set_option maxHeartbeats 4000000 in
set_option maxRecDepth 100000 in
/-- figureOf -/
theorem c_X9_figureOf (lL₀ : Launch) (D₀ : va_G) (k₀ : Nat → ClassId) (sz₀ : Nat) (a₀ : Nat) (q₀ : Nat → Nat) (th₀ : Int) (un₀ : Int) (mf₀ : Int) (ty₀ : Int) (fr₀ : Int) (tt₀ : Int) (tk₀ : Int) (fa₀ : Int) (hf₀ : Bool) (ho₀ : Bool) (km₀ : Int) (s₀ : Int → Int) (row₀ : Int) (x : Int) (hs0₀ : 1 ≤ s₀ 0 ∧ s₀ 0 ≤ 4) (hrw₀ : 0 ≤ row₀ ∧ row₀ < 2147483648) (hx₀ : 0 ≤ x ∧ x < s₀ 0) : Met lL₀ yX9_figureOf wsX9_figureOf rmX9_figureOf (gPc ZT D₀ (tyk k₀) [.ref a₀, .int (iI row₀), .int (iI x)] sz₀ [mO a₀ q₀ th₀ un₀ mf₀ ty₀ fr₀ tt₀ tk₀ fa₀ (bz hf₀) (bz ho₀) km₀, (q₀ 1, .inl (k₀ 0, 51, .inl (ia s₀)))]) (gQi D₀ (tyk k₀) [mO a₀ q₀ th₀ un₀ mf₀ ty₀ fr₀ tt₀ tk₀ fa₀ (bz hf₀) (bz ho₀) km₀, (q₀ 1, .inl (k₀ 0, 51, .inl (ia s₀)))] sz₀ (fun (_ : Unit) => True) (fun (_ : Unit) => (iI (mFig (s₀ 0) row₀ x))) (fun (_ : Unit) => [mO a₀ q₀ th₀ un₀ mf₀ ty₀ fr₀ tt₀ tk₀ fa₀ (bz hf₀) (bz ho₀) km₀, (q₀ 1, .inl (k₀ 0, 51, .inl (ia s₀)))])) 0 0 (va_A [mO a₀ q₀ th₀ un₀ mf₀ ty₀ fr₀ tt₀ tk₀ fa₀ (bz hf₀) (bz ho₀) km₀, (q₀ 1, .inl (k₀ 0, 51, .inl (ia s₀)))] sz₀) := by
  refine xs_met (cc := cX9_figureOf) (maxL := 3) (ret := some .int) (by decide) rfl (Nat.le_of_ble_eq_true rfl) ?_
  intro pP₀ eN₀ sT₀ mI₀ below₀ meth₀ cD₀ hsz₀ args₀ QQ₀ C₀ hr₀ hlk₀ hnm₀ hQ₀ ls₀ H₀ locs₀ hl₀ hH₀
  subst hsz₀
  have hl₀ : lv_has ls₀ 3 [(0, .ref a₀), (1, .int (iI row₀)), (2, .int (iI x))] := hl₀
  generalize hAe₀ : va_A [mO a₀ q₀ th₀ un₀ mf₀ ty₀ fr₀ tt₀ tk₀ fa₀ (bz hf₀) (bz ho₀) km₀, (q₀ 1, .inl (k₀ 0, 51, .inl (ia s₀)))] sT₀.heap.size = A₀ at C₀ hH₀ hQ₀
  refine lv_iload_n C₀.1.1 C₀.1.2.1 dX9_figureOf_0 rfl (lv_at hl₀ 1 rfl) ?_
  refine lv_iconst (v := iI 2) C₀.1.1 C₀.1.2.1 dX9_figureOf_1 (by decide) ?_
  refine lv_aload_n C₀.1.1 C₀.1.2.1 dX9_figureOf_2 rfl (lv_at hl₀ 0 rfl) ?_
  refine xw_get C₀ hH₀ 0 rfl rfl 1 (by decide) iw_X9_figureOf_X9 (by decide +kernel) (v := .ref (q₀ 1)) rfl dX9_figureOf_3 ?_
  refine lv_iconst (v := iI 0) C₀.1.1 C₀.1.2.1 dX9_figureOf_6 (by decide) ?_
  refine xw_ild C₀ hH₀ 1 0 rfl rfl (z := 0) (by omega) (by omega) (by decide) dX9_figureOf_7 ?_
  refine lv_iconst (v := iI 1) C₀.1.1 C₀.1.2.1 dX9_figureOf_8 (by decide) ?_
  refine xi_sub C₀.1.1 C₀.1.2.1 dX9_figureOf_9 ?_
  refine lv_iload_n C₀.1.1 C₀.1.2.1 dX9_figureOf_10 rfl (lv_at hl₀ 2 rfl) ?_
  refine xi_sub C₀.1.1 C₀.1.2.1 dX9_figureOf_11 ?_
  refine xi_mul C₀.1.1 C₀.1.2.1 dX9_figureOf_12 ?_
  refine lv_ishr C₀.1.1 C₀.1.2.1 dX9_figureOf_13 ?_
  refine lv_iconst (v := iI 3) C₀.1.1 C₀.1.2.1 dX9_figureOf_14 (by decide) ?_
  refine lv_iand C₀.1.1 C₀.1.2.1 dX9_figureOf_15 ?_
  exact xr_i C₀ hH₀ hlk₀ hr₀ hQ₀ rfl hAe₀ () trivial (mFig_eq hrw₀ hs0₀ hx₀) rfl dX9_figureOf_16
theorem iw_X9_changedBy_X9 : ∀ w₀ ∈ u_ws RX9 TX9 24, w₀ ∈ wsX9_changedBy := (fun w₀ h₀ => List.mem_cons_of_mem _ (List.mem_append_right _ h₀))
abbrev rmX9_changedBy : Room := { frames := 1, cells := 0, slots := 0, locals := 22 }
set_option maxHeartbeats 4000000 in
set_option maxRecDepth 100000 in
/-- changedBy -/
theorem c_X9_changedBy (lL₀ : Launch) (D₀ : va_G) (k₀ : Nat → ClassId) (sz₀ : Nat) (a₀ : Nat) (q₀ : Nat → Nat) (th₀ : Int) (un₀ : Int) (mf₀ : Int) (ty₀ : Int) (fr₀ : Int) (tt₀ : Int) (tk₀ : Int) (fa₀ : Int) (hf₀ : Bool) (ho₀ : Bool) (km₀ : Int) (s₀ : Int → Int) (y₀ : Int) (row₀ : Int) (hS₀ : mS s₀) (hy₀ : 0 ≤ y₀ ∧ y₀ < s₀ 1) (hrw₀ : 0 ≤ row₀ ∧ row₀ < 2147483648) : Met lL₀ yX9_changedBy wsX9_changedBy rmX9_changedBy (gPc ZT D₀ (tyk k₀) [.ref a₀, .int (iI y₀), .int (iI row₀)] sz₀ [mO a₀ q₀ th₀ un₀ mf₀ ty₀ fr₀ tt₀ tk₀ fa₀ (bz hf₀) (bz ho₀) km₀, (q₀ 1, .inl (k₀ 0, 51, .inl (ia s₀)))]) (gQi D₀ (tyk k₀) [mO a₀ q₀ th₀ un₀ mf₀ ty₀ fr₀ tt₀ tk₀ fa₀ (bz hf₀) (bz ho₀) km₀, (q₀ 1, .inl (k₀ 0, 51, .inl (ia s₀)))] sz₀ (fun (_ : Unit) => True) (fun (_ : Unit) => (iI (mChg s₀ y₀ row₀))) (fun (_ : Unit) => [mO a₀ q₀ th₀ un₀ mf₀ ty₀ fr₀ tt₀ tk₀ fa₀ (bz hf₀) (bz ho₀) km₀, (q₀ 1, .inl (k₀ 0, 51, .inl (ia s₀)))])) 0 0 (va_A [mO a₀ q₀ th₀ un₀ mf₀ ty₀ fr₀ tt₀ tk₀ fa₀ (bz hf₀) (bz ho₀) km₀, (q₀ 1, .inl (k₀ 0, 51, .inl (ia s₀)))] sz₀) := by
  refine xs_met (cc := cX9_changedBy) (maxL := 5) (ret := some .int) (by decide) rfl (Nat.le_of_ble_eq_true rfl) ?_
  intro pP₀ eN₀ sT₀ mI₀ below₀ meth₀ cD₀ hsz₀ args₀ QQ₀ C₀ hr₀ hlk₀ hnm₀ hQ₀ ls₀ H₀ locs₀ hl₀ hH₀
  subst hsz₀
  have hl₀ : lv_has ls₀ 5 [(0, .ref a₀), (1, .int (iI y₀)), (2, .int (iI row₀))] := hl₀
  generalize hAe₀ : va_A [mO a₀ q₀ th₀ un₀ mf₀ ty₀ fr₀ tt₀ tk₀ fa₀ (bz hf₀) (bz ho₀) km₀, (q₀ 1, .inl (k₀ 0, 51, .inl (ia s₀)))] sT₀.heap.size = A₀ at C₀ hH₀ hQ₀
  obtain ⟨hs0₀, hs1₀, hs2₀, hsh₀, hsf₀⟩ := id hS₀
  have hcl₀ := cells_rg hs0₀ hs1₀
  refine lv_iconst (v := iI 0) C₀.1.1 C₀.1.2.1 dX9_changedBy_0 (by decide) ?_
  refine lv_istore_n (lv' := [(3, .int (iI 0)), (0, .ref a₀), (1, .int (iI y₀)), (2, .int (iI row₀))]) C₀.1.1 C₀.1.2.1 dX9_changedBy_1 rfl hl₀ (by decide) rfl (fun ls₀ hl₀ => ?_)
  refine lv_iconst (v := iI 0) C₀.1.1 C₀.1.2.1 dX9_changedBy_2 (by decide) ?_
  refine lv_istore (lv' := [(4, .int (iI 0)), (3, .int (iI 0)), (0, .ref a₀), (1, .int (iI y₀)), (2, .int (iI row₀))]) C₀.1.1 C₀.1.2.1 dX9_changedBy_3 hl₀ (by decide) rfl (fun ls₀ hl₀ => ?_)
  have L5₀ : ∀ (nn₀ : Nat), ∀ (n₀ : Int) (x : Int), (n₀ = sI (fun x => if mFig (s₀ 0) row₀ x = s₀ (3 + s₀ 0 * y₀ + x) then 0 else 1) x) → (0 ≤ x ∧ x ≤ s₀ 0) → ((s₀ 0 - x) < (nn₀ : Int)) → ∀ (H₀ : Heap) (locs₀ : List Loc) (ls₀ : Array Slot), Hp D₀ A₀ sT₀.heap [mO a₀ q₀ th₀ un₀ mf₀ ty₀ fr₀ tt₀ tk₀ fa₀ (bz hf₀) (bz ho₀) km₀, (q₀ 1, .inl (k₀ 0, 51, .inl (ia s₀)))] H₀ locs₀ → lv_has ls₀ 5 [(0, .ref a₀), (1, .int (iI y₀)), (2, .int (iI row₀)), (3, .int (iI n₀)), (4, .int (iI x))] → W pP₀ lL₀ eN₀ rmX9_changedBy sT₀ mI₀ args₀ below₀ meth₀ cD₀ H₀ locs₀ 0 0 QQ₀ (F0 mI₀ 5 ls₀ []) := by
    intro nn₀
    induction nn₀ with
    | zero => intro n₀ x i1₀ i2₀ hm₀; exact absurd hm₀ (by omega)
    | succ nn₀ ih5₀ =>
      intro n₀ x i1₀ i2₀ hm5₀ H₀ locs₀ ls₀ hH₀ hl₀
      refine lv_iload C₀.1.1 C₀.1.2.1 dX9_changedBy_5 (lv_at hl₀ 4 rfl) ?_
      refine lv_aload_n C₀.1.1 C₀.1.2.1 dX9_changedBy_7 rfl (lv_at hl₀ 0 rfl) ?_
      refine xw_get C₀ hH₀ 0 rfl rfl 1 (by decide) iw_X9_changedBy_X9 (by decide +kernel) (v := .ref (q₀ 1)) rfl dX9_changedBy_8 ?_
      refine lv_iconst (v := iI 0) C₀.1.1 C₀.1.2.1 dX9_changedBy_11 (by decide) ?_
      refine xw_ild C₀ hH₀ 1 0 rfl rfl (z := 0) (by omega) (by omega) (by decide) dX9_changedBy_12 ?_
      refine xi_cge (tgt := 47) C₀.1.1 C₀.1.2.1 dX9_changedBy_13 (by decide) (by omega) (by omega) (fun h_1₀ => ?_) (fun h_1₀ => ?_)
      · refine lv_iload_n C₀.1.1 C₀.1.2.1 dX9_changedBy_47 rfl (lv_at hl₀ 3 rfl) ?_
        exact xr_i C₀ hH₀ hlk₀ hr₀ hQ₀ rfl hAe₀ () trivial (by unfold mChg; rw [i1₀, show x = s₀ 0 by omega]) rfl dX9_changedBy_48
      · refine lv_iload_n C₀.1.1 C₀.1.2.1 dX9_changedBy_16 rfl (lv_at hl₀ 3 rfl) ?_
        have hc₀ := cell_rg hs0₀ (show 0 ≤ x ∧ x < s₀ 0 by omega) hy₀
        have hg1₀ := mFig_rg (s₀ 0) row₀ x
        have hh₀ := hsh₀ (3 + s₀ 0 * y₀ + x) (by omega) (by omega)
        have L39₀ : ∀ (d₀ : Int), (d₀ = if mFig (s₀ 0) row₀ x = s₀ (3 + s₀ 0 * y₀ + x) then 0 else 1) → ∀ (H₀ : Heap) (locs₀ : List Loc) (ls₀ : Array Slot), Hp D₀ A₀ sT₀.heap [mO a₀ q₀ th₀ un₀ mf₀ ty₀ fr₀ tt₀ tk₀ fa₀ (bz hf₀) (bz ho₀) km₀, (q₀ 1, .inl (k₀ 0, 51, .inl (ia s₀)))] H₀ locs₀ → lv_has ls₀ 5 [(0, .ref a₀), (1, .int (iI y₀)), (2, .int (iI row₀)), (3, .int (iI n₀)), (4, .int (iI x))] → W pP₀ lL₀ eN₀ rmX9_changedBy sT₀ mI₀ args₀ below₀ meth₀ cD₀ H₀ locs₀ 0 0 QQ₀ (F0 mI₀ 39 ls₀ [.int (iI d₀), .int (iI n₀)]) := by
          intro d₀ jd₀ H₀ locs₀ ls₀ hH₀ hl₀
          refine xi_add C₀.1.1 C₀.1.2.1 dX9_changedBy_39 ?_
          refine lv_istore_n (lv' := [(3, .int (iI (n₀ + d₀))), (0, .ref a₀), (1, .int (iI y₀)), (2, .int (iI row₀)), (4, .int (iI x))]) C₀.1.1 C₀.1.2.1 dX9_changedBy_40 rfl hl₀ (by decide) rfl (fun ls₀ hl₀ => ?_)
          refine lv_iinc (v := iI (x + 1)) (lv' := [(4, .int (iI (x + 1))), (3, .int (iI (n₀ + d₀))), (0, .ref a₀), (1, .int (iI y₀)), (2, .int (iI row₀))]) C₀.1.1 C₀.1.2.1 dX9_changedBy_41 hl₀ (k := 4) rfl (iI_add _ (1)) (by decide) rfl (fun ls₀ hl₀ => ?_)
          refine lv_goto (tgt := 5) C₀.1.1 C₀.1.2.1 dX9_changedBy_44 (by decide) ?_
          exact ih5₀ (n₀ + d₀) (x + 1) (by rw [sI_s i2₀.1, ← i1₀, jd₀]) (by omega) (by omega) _ _ _ hH₀ (lv_sub hl₀ [2, 3, 4, 1, 0] rfl)
        refine lv_aload_n C₀.1.1 C₀.1.2.1 dX9_changedBy_17 rfl (lv_at hl₀ 0 rfl) ?_
        refine lv_iload_n C₀.1.1 C₀.1.2.1 dX9_changedBy_18 rfl (lv_at hl₀ 2 rfl) ?_
        refine lv_iload C₀.1.1 C₀.1.2.1 dX9_changedBy_19 (lv_at hl₀ 4 rfl) ?_
        refine xc_Vi (wr := []) (ws' := fun _ => [mO a₀ q₀ th₀ un₀ mf₀ ty₀ fr₀ tt₀ tk₀ fa₀ (bz hf₀) (bz ho₀) km₀, (q₀ 1, .inl (k₀ 0, 51, .inl (ia s₀)))]) (As := [.int (iI row₀), .int (iI x)]) (rest := [.int (iI n₀)]) C₀ hH₀ (c_X9_figureOf lL₀ D₀ k₀ H₀.size a₀ q₀ th₀ un₀ mf₀ ty₀ fr₀ tt₀ tk₀ fa₀ hf₀ ho₀ km₀ s₀ row₀ x (by omega) (by omega) (by omega)) ZT_b (fun _ _ _ => trivial) (cwV 2 C₀.1.2.2.2.2 gX9_changedBy_X9_figureOf rfl rfl rfl (by decide +kernel) ⟨Nat.le_of_ble_eq_true rfl, Nat.le_of_ble_eq_true rfl⟩) [0, 1] [] [0, 1] rfl rfl (by decide) (by decide) (by decide) (fun _ => rfl) (by decide) (q0 := 0) rfl rfl rfl hl₀.1 rfl (Nat.le_of_ble_eq_true rfl) dX9_changedBy_21 ⟨Nat.le_of_ble_eq_true rfl, Nat.le_of_ble_eq_true rfl⟩ (fun _ _ H₀ locs₀ hH₀ => ?_)
        refine lv_aload_n C₀.1.1 C₀.1.2.1 dX9_changedBy_24 rfl (lv_at hl₀ 0 rfl) ?_
        refine lv_iload C₀.1.1 C₀.1.2.1 dX9_changedBy_25 (lv_at hl₀ 4 rfl) ?_
        refine lv_iload_n C₀.1.1 C₀.1.2.1 dX9_changedBy_27 rfl (lv_at hl₀ 1 rfl) ?_
        refine xc_Vi (wr := []) (ws' := fun _ => [mO a₀ q₀ th₀ un₀ mf₀ ty₀ fr₀ tt₀ tk₀ fa₀ (bz hf₀) (bz ho₀) km₀, (q₀ 1, .inl (k₀ 0, 51, .inl (ia s₀)))]) (As := [.int (iI x), .int (iI y₀)]) (rest := [.int (iI (mFig (s₀ 0) row₀ x)), .int (iI n₀)]) C₀ hH₀ (c_X9_height lL₀ D₀ k₀ H₀.size a₀ q₀ th₀ un₀ mf₀ ty₀ fr₀ tt₀ tk₀ fa₀ hf₀ ho₀ km₀ s₀ x y₀ (by omega)) ZT_b (fun _ _ _ => trivial) (cwV 2 C₀.1.2.2.2.2 gX9_changedBy_X9_height rfl rfl rfl (by decide +kernel) ⟨Nat.le_of_ble_eq_true rfl, Nat.le_of_ble_eq_true rfl⟩) [0, 1] [] [0, 1] rfl rfl (by decide) (by decide) (by decide) (fun _ => rfl) (by decide) (q0 := 0) rfl rfl rfl hl₀.1 rfl (Nat.le_of_ble_eq_true rfl) dX9_changedBy_28 ⟨Nat.le_of_ble_eq_true rfl, Nat.le_of_ble_eq_true rfl⟩ (fun _ _ H₀ locs₀ hH₀ => ?_)
        refine xi_cne (tgt := 38) C₀.1.1 C₀.1.2.1 dX9_changedBy_31 (by decide) (by omega) (by omega) (fun h_2₀ => ?_) (fun h_2₀ => ?_)
        · refine lv_iconst (v := iI 1) C₀.1.1 C₀.1.2.1 dX9_changedBy_38 (by decide) ?_
          exact L39₀ 1 ((if_neg (by omega)).symm) _ _ _ hH₀ (lv_sub hl₀ [0, 1, 2, 3, 4] rfl)
        · refine lv_iconst (v := iI 0) C₀.1.1 C₀.1.2.1 dX9_changedBy_34 (by decide) ?_
          refine lv_goto (tgt := 39) C₀.1.1 C₀.1.2.1 dX9_changedBy_35 (by decide) ?_
          exact L39₀ 0 ((if_pos (by omega)).symm) _ _ _ hH₀ (lv_sub hl₀ [0, 1, 2, 3, 4] rfl)
  exact L5₀ (((s₀ 0 - 0) : Int).toNat + 1) 0 0 (rfl) (by omega) (by omega) _ _ _ hH₀ (lv_sub hl₀ [2, 3, 4, 1, 0] rfl)
theorem iw_X9_mayBe_X9 : ∀ w₀ ∈ u_ws RX9 TX9 24, w₀ ∈ wsX9_mayBe := (fun w₀ h₀ => List.mem_cons_of_mem _ (List.mem_append_right _ h₀))
abbrev rmX9_mayBe : Room := { frames := 2, cells := 0, slots := 0, locals := 43 }
set_option maxHeartbeats 4000000 in
set_option maxRecDepth 100000 in
/-- mayBe -/
theorem c_X9_mayBe (lL₀ : Launch) (D₀ : va_G) (k₀ : Nat → ClassId) (sz₀ : Nat) (a₀ : Nat) (q₀ : Nat → Nat) (th₀ : Int) (un₀ : Int) (mf₀ : Int) (ty₀ : Int) (fr₀ : Int) (tt₀ : Int) (tk₀ : Int) (fa₀ : Int) (hf₀ : Bool) (ho₀ : Bool) (km₀ : Int) (s₀ : Int → Int) (y₀ : Int) (row₀ : Int) (hS₀ : mS s₀) (hy₀ : 0 ≤ y₀ ∧ y₀ < s₀ 1) (hrw₀ : 0 ≤ row₀ ∧ row₀ < 2147483648) : Met lL₀ yX9_mayBe wsX9_mayBe rmX9_mayBe (gPc ZT D₀ (tyk k₀) [.ref a₀, .int (iI y₀), .int (iI row₀)] sz₀ [mO a₀ q₀ th₀ un₀ mf₀ ty₀ fr₀ tt₀ tk₀ fa₀ (bz hf₀) (bz ho₀) km₀, (q₀ 1, .inl (k₀ 0, 51, .inl (ia s₀)))]) (gQi D₀ (tyk k₀) [mO a₀ q₀ th₀ un₀ mf₀ ty₀ fr₀ tt₀ tk₀ fa₀ (bz hf₀) (bz ho₀) km₀, (q₀ 1, .inl (k₀ 0, 51, .inl (ia s₀)))] sz₀ (fun (_ : Unit) => True) (fun (_ : Unit) => (iI (bz (mMay s₀ y₀ row₀)))) (fun (_ : Unit) => [mO a₀ q₀ th₀ un₀ mf₀ ty₀ fr₀ tt₀ tk₀ fa₀ (bz hf₀) (bz ho₀) km₀, (q₀ 1, .inl (k₀ 0, 51, .inl (ia s₀)))])) 0 0 (va_A [mO a₀ q₀ th₀ un₀ mf₀ ty₀ fr₀ tt₀ tk₀ fa₀ (bz hf₀) (bz ho₀) km₀, (q₀ 1, .inl (k₀ 0, 51, .inl (ia s₀)))] sz₀) := by
  refine xs_met (cc := cX9_mayBe) (maxL := 5) (ret := some .boolean) (by decide) rfl (Nat.le_of_ble_eq_true rfl) ?_
  intro pP₀ eN₀ sT₀ mI₀ below₀ meth₀ cD₀ hsz₀ args₀ QQ₀ C₀ hr₀ hlk₀ hnm₀ hQ₀ ls₀ H₀ locs₀ hl₀ hH₀
  subst hsz₀
  have hl₀ : lv_has ls₀ 5 [(0, .ref a₀), (1, .int (iI y₀)), (2, .int (iI row₀))] := hl₀
  generalize hAe₀ : va_A [mO a₀ q₀ th₀ un₀ mf₀ ty₀ fr₀ tt₀ tk₀ fa₀ (bz hf₀) (bz ho₀) km₀, (q₀ 1, .inl (k₀ 0, 51, .inl (ia s₀)))] sT₀.heap.size = A₀ at C₀ hH₀ hQ₀
  obtain ⟨hs0₀, hs1₀, hs2₀, hsh₀, hsf₀⟩ := id hS₀
  have hcl₀ := cells_rg hs0₀ hs1₀
  refine lv_iconst (v := iI 1) C₀.1.1 C₀.1.2.1 dX9_mayBe_0 (by decide) ?_
  refine lv_istore_n (lv' := [(3, .int (iI 1)), (0, .ref a₀), (1, .int (iI y₀)), (2, .int (iI row₀))]) C₀.1.1 C₀.1.2.1 dX9_mayBe_1 rfl hl₀ (by decide) rfl (fun ls₀ hl₀ => ?_)
  refine lv_iconst (v := iI 0) C₀.1.1 C₀.1.2.1 dX9_mayBe_2 (by decide) ?_
  refine lv_istore (lv' := [(4, .int (iI 0)), (3, .int (iI 1)), (0, .ref a₀), (1, .int (iI y₀)), (2, .int (iI row₀))]) C₀.1.1 C₀.1.2.1 dX9_mayBe_3 hl₀ (by decide) rfl (fun ls₀ hl₀ => ?_)
  have L5₀ : ∀ (nn₀ : Nat), ∀ (t₀ : Bool) (x : Int), (t₀ = alI (mMayX s₀ y₀ row₀) x) → (0 ≤ x ∧ x ≤ s₀ 0) → ((s₀ 0 - x) < (nn₀ : Int)) → ∀ (H₀ : Heap) (locs₀ : List Loc) (ls₀ : Array Slot), Hp D₀ A₀ sT₀.heap [mO a₀ q₀ th₀ un₀ mf₀ ty₀ fr₀ tt₀ tk₀ fa₀ (bz hf₀) (bz ho₀) km₀, (q₀ 1, .inl (k₀ 0, 51, .inl (ia s₀)))] H₀ locs₀ → lv_has ls₀ 5 [(0, .ref a₀), (1, .int (iI y₀)), (2, .int (iI row₀)), (3, .int (iI (bz t₀))), (4, .int (iI x))] → W pP₀ lL₀ eN₀ rmX9_mayBe sT₀ mI₀ args₀ below₀ meth₀ cD₀ H₀ locs₀ 0 0 QQ₀ (F0 mI₀ 5 ls₀ []) := by
    intro nn₀
    induction nn₀ with
    | zero => intro t₀ x i1₀ i2₀ hm₀; exact absurd hm₀ (by omega)
    | succ nn₀ ih5₀ =>
      intro t₀ x i1₀ i2₀ hm5₀ H₀ locs₀ ls₀ hH₀ hl₀
      refine lv_iload C₀.1.1 C₀.1.2.1 dX9_mayBe_5 (lv_at hl₀ 4 rfl) ?_
      refine lv_aload_n C₀.1.1 C₀.1.2.1 dX9_mayBe_7 rfl (lv_at hl₀ 0 rfl) ?_
      refine xw_get C₀ hH₀ 0 rfl rfl 1 (by decide) iw_X9_mayBe_X9 (by decide +kernel) (v := .ref (q₀ 1)) rfl dX9_mayBe_8 ?_
      refine lv_iconst (v := iI 0) C₀.1.1 C₀.1.2.1 dX9_mayBe_11 (by decide) ?_
      refine xw_ild C₀ hH₀ 1 0 rfl rfl (z := 0) (by omega) (by omega) (by decide) dX9_mayBe_12 ?_
      refine xi_cge (tgt := 98) C₀.1.1 C₀.1.2.1 dX9_mayBe_13 (by decide) (by omega) (by omega) (fun h_1₀ => ?_) (fun h_1₀ => ?_)
      · refine lv_iload_n C₀.1.1 C₀.1.2.1 dX9_mayBe_98 rfl (lv_at hl₀ 3 rfl) ?_
        exact xr_i C₀ hH₀ hlk₀ hr₀ hQ₀ (nar_bz _) hAe₀ () trivial (by unfold mMay; rw [i1₀, show x = s₀ 0 by omega]) rfl dX9_mayBe_99
      · have hc₀ := cell_rg hs0₀ (show 0 ≤ x ∧ x < s₀ 0 by omega) hy₀
        have hg1₀ := mFig_rg (s₀ 0) row₀ x
        have hg2₀ := mFig_rg (s₀ 0) row₀ (x - 1)
        have hh₀ := hsh₀ (3 + s₀ 0 * y₀ + x) (by omega) (by omega)
        have hh2₀ := hsf₀ (27 + s₀ 0 * y₀ + x) (by omega) (by omega)
        have L91₀ : ∀ (d₀ : Bool), (d₀ = (t₀ && mMayX s₀ y₀ row₀ x)) → ∀ (H₀ : Heap) (locs₀ : List Loc) (ls₀ : Array Slot), Hp D₀ A₀ sT₀.heap [mO a₀ q₀ th₀ un₀ mf₀ ty₀ fr₀ tt₀ tk₀ fa₀ (bz hf₀) (bz ho₀) km₀, (q₀ 1, .inl (k₀ 0, 51, .inl (ia s₀)))] H₀ locs₀ → lv_has ls₀ 5 [(0, .ref a₀), (1, .int (iI y₀)), (2, .int (iI row₀)), (3, .int (iI (bz t₀))), (4, .int (iI x))] → W pP₀ lL₀ eN₀ rmX9_mayBe sT₀ mI₀ args₀ below₀ meth₀ cD₀ H₀ locs₀ 0 0 QQ₀ (F0 mI₀ 91 ls₀ [.int (iI (bz d₀))]) := by
          intro d₀ jd₀ H₀ locs₀ ls₀ hH₀ hl₀
          refine lv_istore_n (lv' := [(3, .int (iI (bz d₀))), (0, .ref a₀), (1, .int (iI y₀)), (2, .int (iI row₀)), (4, .int (iI x))]) C₀.1.1 C₀.1.2.1 dX9_mayBe_91 rfl hl₀ (by decide) rfl (fun ls₀ hl₀ => ?_)
          refine lv_iinc (v := iI (x + 1)) (lv' := [(4, .int (iI (x + 1))), (3, .int (iI (bz d₀))), (0, .ref a₀), (1, .int (iI y₀)), (2, .int (iI row₀))]) C₀.1.1 C₀.1.2.1 dX9_mayBe_92 hl₀ (k := 4) rfl (iI_add _ (1)) (by decide) rfl (fun ls₀ hl₀ => ?_)
          refine lv_goto (tgt := 5) C₀.1.1 C₀.1.2.1 dX9_mayBe_95 (by decide) ?_
          exact ih5₀ d₀ (x + 1) (by rw [alI_s i2₀.1, ← i1₀, jd₀]) (by omega) (by omega) _ _ _ hH₀ (lv_sub hl₀ [2, 3, 4, 1, 0] rfl)
        refine lv_iload_n C₀.1.1 C₀.1.2.1 dX9_mayBe_16 rfl (lv_at hl₀ 3 rfl) ?_
        refine xb_eq (tgt := 90) C₀.1.1 C₀.1.2.1 dX9_mayBe_17 (by decide) (fun h_2₀ => ?_) (fun h_2₀ => ?_)
        · refine lv_iconst (v := iI 0) C₀.1.1 C₀.1.2.1 dX9_mayBe_90 (by decide) ?_
          exact L91₀ false (by simp_all [mMayX, mNear]) _ _ _ hH₀ (lv_sub hl₀ [0, 1, 2, 3, 4] rfl)
        · have L59₀ : (s₀ (27 + s₀ 0 * y₀ + x) = 0 ∨ mFig (s₀ 0) row₀ x = s₀ (3 + s₀ 0 * y₀ + x)) → ∀ (H₀ : Heap) (locs₀ : List Loc) (ls₀ : Array Slot), Hp D₀ A₀ sT₀.heap [mO a₀ q₀ th₀ un₀ mf₀ ty₀ fr₀ tt₀ tk₀ fa₀ (bz hf₀) (bz ho₀) km₀, (q₀ 1, .inl (k₀ 0, 51, .inl (ia s₀)))] H₀ locs₀ → lv_has ls₀ 5 [(0, .ref a₀), (1, .int (iI y₀)), (2, .int (iI row₀)), (3, .int (iI (bz t₀))), (4, .int (iI x))] → W pP₀ lL₀ eN₀ rmX9_mayBe sT₀ mI₀ args₀ below₀ meth₀ cD₀ H₀ locs₀ 0 0 QQ₀ (F0 mI₀ 59 ls₀ []) := by
            intro  je₀ H₀ locs₀ ls₀ hH₀ hl₀
            refine lv_iload C₀.1.1 C₀.1.2.1 dX9_mayBe_59 (lv_at hl₀ 4 rfl) ?_
            refine xi_zeq (tgt := 86) C₀.1.1 C₀.1.2.1 dX9_mayBe_61 (by decide) (by omega) (fun h_3₀ => ?_) (fun h_3₀ => ?_)
            · refine lv_iconst (v := iI 1) C₀.1.1 C₀.1.2.1 dX9_mayBe_86 (by decide) ?_
              refine lv_goto (tgt := 91) C₀.1.1 C₀.1.2.1 dX9_mayBe_87 (by decide) ?_
              exact L91₀ true (by simp_all [mMayX, mNear]) _ _ _ hH₀ (lv_sub hl₀ [0, 1, 2, 3, 4] rfl)
            · refine lv_aload_n C₀.1.1 C₀.1.2.1 dX9_mayBe_64 rfl (lv_at hl₀ 0 rfl) ?_
              refine lv_iload_n C₀.1.1 C₀.1.2.1 dX9_mayBe_65 rfl (lv_at hl₀ 2 rfl) ?_
              refine lv_iload C₀.1.1 C₀.1.2.1 dX9_mayBe_66 (lv_at hl₀ 4 rfl) ?_
              refine lv_iconst (v := iI 1) C₀.1.1 C₀.1.2.1 dX9_mayBe_68 (by decide) ?_
              refine xi_sub C₀.1.1 C₀.1.2.1 dX9_mayBe_69 ?_
              refine xc_Vi (wr := []) (ws' := fun _ => [mO a₀ q₀ th₀ un₀ mf₀ ty₀ fr₀ tt₀ tk₀ fa₀ (bz hf₀) (bz ho₀) km₀, (q₀ 1, .inl (k₀ 0, 51, .inl (ia s₀)))]) (As := [.int (iI row₀), .int (iI (x - 1))]) (rest := []) C₀ hH₀ (c_X9_figureOf lL₀ D₀ k₀ H₀.size a₀ q₀ th₀ un₀ mf₀ ty₀ fr₀ tt₀ tk₀ fa₀ hf₀ ho₀ km₀ s₀ row₀ (x - 1) (by omega) (by omega) (by omega)) ZT_b (fun _ _ _ => trivial) (cwV 2 C₀.1.2.2.2.2 gX9_mayBe_X9_figureOf rfl rfl rfl (by decide +kernel) ⟨Nat.le_of_ble_eq_true rfl, Nat.le_of_ble_eq_true rfl⟩) [0, 1] [] [0, 1] rfl rfl (by decide) (by decide) (by decide) (fun _ => rfl) (by decide) (q0 := 0) rfl rfl rfl hl₀.1 rfl (Nat.le_of_ble_eq_true rfl) dX9_mayBe_70 ⟨Nat.le_of_ble_eq_true rfl, Nat.le_of_ble_eq_true rfl⟩ (fun _ _ H₀ locs₀ hH₀ => ?_)
              refine lv_aload_n C₀.1.1 C₀.1.2.1 dX9_mayBe_73 rfl (lv_at hl₀ 0 rfl) ?_
              refine lv_iload_n C₀.1.1 C₀.1.2.1 dX9_mayBe_74 rfl (lv_at hl₀ 2 rfl) ?_
              refine lv_iload C₀.1.1 C₀.1.2.1 dX9_mayBe_75 (lv_at hl₀ 4 rfl) ?_
              refine xc_Vi (wr := []) (ws' := fun _ => [mO a₀ q₀ th₀ un₀ mf₀ ty₀ fr₀ tt₀ tk₀ fa₀ (bz hf₀) (bz ho₀) km₀, (q₀ 1, .inl (k₀ 0, 51, .inl (ia s₀)))]) (As := [.int (iI row₀), .int (iI x)]) (rest := [.int (iI (mFig (s₀ 0) row₀ (x - 1)))]) C₀ hH₀ (c_X9_figureOf lL₀ D₀ k₀ H₀.size a₀ q₀ th₀ un₀ mf₀ ty₀ fr₀ tt₀ tk₀ fa₀ hf₀ ho₀ km₀ s₀ row₀ x (by omega) (by omega) (by omega)) ZT_b (fun _ _ _ => trivial) (cwV 2 C₀.1.2.2.2.2 gX9_mayBe_X9_figureOf rfl rfl rfl (by decide +kernel) ⟨Nat.le_of_ble_eq_true rfl, Nat.le_of_ble_eq_true rfl⟩) [0, 1] [] [0, 1] rfl rfl (by decide) (by decide) (by decide) (fun _ => rfl) (by decide) (q0 := 0) rfl rfl rfl hl₀.1 rfl (Nat.le_of_ble_eq_true rfl) dX9_mayBe_77 ⟨Nat.le_of_ble_eq_true rfl, Nat.le_of_ble_eq_true rfl⟩ (fun _ _ H₀ locs₀ hH₀ => ?_)
              refine xc_Si (wr := [mO a₀ q₀ th₀ un₀ mf₀ ty₀ fr₀ tt₀ tk₀ fa₀ (bz hf₀) (bz ho₀) km₀, (q₀ 1, .inl (k₀ 0, 51, .inl (ia s₀)))]) (ws' := fun _ => [mO a₀ q₀ th₀ un₀ mf₀ ty₀ fr₀ tt₀ tk₀ fa₀ (bz hf₀) (bz ho₀) km₀, (q₀ 1, .inl (k₀ 0, 51, .inl (ia s₀)))]) (As := [.int (iI (mFig (s₀ 0) row₀ (x - 1))), .int (iI (mFig (s₀ 0) row₀ x))]) (rest := []) C₀ hH₀ (c_X9_isNear lL₀ D₀ k₀ H₀.size (mFig (s₀ 0) row₀ (x - 1)) (mFig (s₀ 0) row₀ x) (by omega)) ZT_b (fun _ _ _ => trivial) (va_cwS 2 C₀.1.2.2.2.2 gX9_mayBe_X9_isNear rfl rfl rfl (by decide +kernel) ⟨Nat.le_of_ble_eq_true rfl, Nat.le_of_ble_eq_true rfl⟩) [] [0, 1] [0, 1] rfl rfl (by decide) (by decide) (by decide) (fun _ => rfl) (by decide) rfl hl₀.1 rfl (Nat.le_of_ble_eq_true rfl) dX9_mayBe_80 ⟨Nat.le_of_ble_eq_true rfl, Nat.le_of_ble_eq_true rfl⟩ (fun _ _ H₀ locs₀ hH₀ => ?_)
              refine xp_eq (tgt := 90) C₀.1.1 C₀.1.2.1 dX9_mayBe_83 (by decide) (fun h_4₀ => ?_) (fun h_4₀ => ?_)
              · refine lv_iconst (v := iI 0) C₀.1.1 C₀.1.2.1 dX9_mayBe_90 (by decide) ?_
                exact L91₀ false (by simp_all [mMayX, mNear]) _ _ _ hH₀ (lv_sub hl₀ [0, 1, 2, 3, 4] rfl)
              · refine lv_iconst (v := iI 1) C₀.1.1 C₀.1.2.1 dX9_mayBe_86 (by decide) ?_
                refine lv_goto (tgt := 91) C₀.1.1 C₀.1.2.1 dX9_mayBe_87 (by decide) ?_
                exact L91₀ true (by simp_all [mMayX, mNear]) _ _ _ hH₀ (lv_sub hl₀ [0, 1, 2, 3, 4] rfl)
          refine lv_aload_n C₀.1.1 C₀.1.2.1 dX9_mayBe_20 rfl (lv_at hl₀ 0 rfl) ?_
          refine xw_get C₀ hH₀ 0 rfl rfl 1 (by decide) iw_X9_mayBe_X9 (by decide +kernel) (v := .ref (q₀ 1)) rfl dX9_mayBe_21 ?_
          refine lv_bipush (v := iI 27) C₀.1.1 C₀.1.2.1 dX9_mayBe_24 (by decide) ?_
          refine lv_aload_n C₀.1.1 C₀.1.2.1 dX9_mayBe_26 rfl (lv_at hl₀ 0 rfl) ?_
          refine xw_get C₀ hH₀ 0 rfl rfl 1 (by decide) iw_X9_mayBe_X9 (by decide +kernel) (v := .ref (q₀ 1)) rfl dX9_mayBe_27 ?_
          refine lv_iconst (v := iI 0) C₀.1.1 C₀.1.2.1 dX9_mayBe_30 (by decide) ?_
          refine xw_ild C₀ hH₀ 1 0 rfl rfl (z := 0) (by omega) (by omega) (by decide) dX9_mayBe_31 ?_
          refine lv_iload_n C₀.1.1 C₀.1.2.1 dX9_mayBe_32 rfl (lv_at hl₀ 1 rfl) ?_
          refine xi_mul C₀.1.1 C₀.1.2.1 dX9_mayBe_33 ?_
          refine xi_add C₀.1.1 C₀.1.2.1 dX9_mayBe_34 ?_
          refine lv_iload C₀.1.1 C₀.1.2.1 dX9_mayBe_35 (lv_at hl₀ 4 rfl) ?_
          refine xi_add C₀.1.1 C₀.1.2.1 dX9_mayBe_37 ?_
          refine xw_ild C₀ hH₀ 1 0 rfl rfl (z := 27 + ((s₀ 0) * y₀) + x) (by omega) (by omega) (by decide) dX9_mayBe_38 ?_
          refine xi_zeq (tgt := 59) C₀.1.1 C₀.1.2.1 dX9_mayBe_39 (by decide) (by omega) (fun h_5₀ => ?_) (fun h_5₀ => ?_)
          · exact L59₀  (by omega) _ _ _ hH₀ (lv_sub hl₀ [0, 1, 2, 3, 4] rfl)
          · refine lv_aload_n C₀.1.1 C₀.1.2.1 dX9_mayBe_42 rfl (lv_at hl₀ 0 rfl) ?_
            refine lv_iload_n C₀.1.1 C₀.1.2.1 dX9_mayBe_43 rfl (lv_at hl₀ 2 rfl) ?_
            refine lv_iload C₀.1.1 C₀.1.2.1 dX9_mayBe_44 (lv_at hl₀ 4 rfl) ?_
            refine xc_Vi (wr := []) (ws' := fun _ => [mO a₀ q₀ th₀ un₀ mf₀ ty₀ fr₀ tt₀ tk₀ fa₀ (bz hf₀) (bz ho₀) km₀, (q₀ 1, .inl (k₀ 0, 51, .inl (ia s₀)))]) (As := [.int (iI row₀), .int (iI x)]) (rest := []) C₀ hH₀ (c_X9_figureOf lL₀ D₀ k₀ H₀.size a₀ q₀ th₀ un₀ mf₀ ty₀ fr₀ tt₀ tk₀ fa₀ hf₀ ho₀ km₀ s₀ row₀ x (by omega) (by omega) (by omega)) ZT_b (fun _ _ _ => trivial) (cwV 2 C₀.1.2.2.2.2 gX9_mayBe_X9_figureOf rfl rfl rfl (by decide +kernel) ⟨Nat.le_of_ble_eq_true rfl, Nat.le_of_ble_eq_true rfl⟩) [0, 1] [] [0, 1] rfl rfl (by decide) (by decide) (by decide) (fun _ => rfl) (by decide) (q0 := 0) rfl rfl rfl hl₀.1 rfl (Nat.le_of_ble_eq_true rfl) dX9_mayBe_46 ⟨Nat.le_of_ble_eq_true rfl, Nat.le_of_ble_eq_true rfl⟩ (fun _ _ H₀ locs₀ hH₀ => ?_)
            refine lv_aload_n C₀.1.1 C₀.1.2.1 dX9_mayBe_49 rfl (lv_at hl₀ 0 rfl) ?_
            refine lv_iload C₀.1.1 C₀.1.2.1 dX9_mayBe_50 (lv_at hl₀ 4 rfl) ?_
            refine lv_iload_n C₀.1.1 C₀.1.2.1 dX9_mayBe_52 rfl (lv_at hl₀ 1 rfl) ?_
            refine xc_Vi (wr := []) (ws' := fun _ => [mO a₀ q₀ th₀ un₀ mf₀ ty₀ fr₀ tt₀ tk₀ fa₀ (bz hf₀) (bz ho₀) km₀, (q₀ 1, .inl (k₀ 0, 51, .inl (ia s₀)))]) (As := [.int (iI x), .int (iI y₀)]) (rest := [.int (iI (mFig (s₀ 0) row₀ x))]) C₀ hH₀ (c_X9_height lL₀ D₀ k₀ H₀.size a₀ q₀ th₀ un₀ mf₀ ty₀ fr₀ tt₀ tk₀ fa₀ hf₀ ho₀ km₀ s₀ x y₀ (by omega)) ZT_b (fun _ _ _ => trivial) (cwV 2 C₀.1.2.2.2.2 gX9_mayBe_X9_height rfl rfl rfl (by decide +kernel) ⟨Nat.le_of_ble_eq_true rfl, Nat.le_of_ble_eq_true rfl⟩) [0, 1] [] [0, 1] rfl rfl (by decide) (by decide) (by decide) (fun _ => rfl) (by decide) (q0 := 0) rfl rfl rfl hl₀.1 rfl (Nat.le_of_ble_eq_true rfl) dX9_mayBe_53 ⟨Nat.le_of_ble_eq_true rfl, Nat.le_of_ble_eq_true rfl⟩ (fun _ _ H₀ locs₀ hH₀ => ?_)
            refine xi_cne (tgt := 90) C₀.1.1 C₀.1.2.1 dX9_mayBe_56 (by decide) (by omega) (by omega) (fun h_6₀ => ?_) (fun h_6₀ => ?_)
            · refine lv_iconst (v := iI 0) C₀.1.1 C₀.1.2.1 dX9_mayBe_90 (by decide) ?_
              exact L91₀ false (by simp_all [mMayX, mNear]) _ _ _ hH₀ (lv_sub hl₀ [0, 1, 2, 3, 4] rfl)
            · exact L59₀  (by omega) _ _ _ hH₀ (lv_sub hl₀ [0, 1, 2, 3, 4] rfl)
  exact L5₀ (((s₀ 0 - 0) : Int).toNat + 1) true 0 (rfl) (by omega) (by omega) _ _ _ hH₀ (lv_sub hl₀ [2, 3, 4, 1, 0] rfl)
theorem iw_X9_fit_X9 : ∀ w₀ ∈ u_ws RX9 TX9 24, w₀ ∈ wsX9_fit := (fun w₀ h₀ => List.mem_cons_of_mem _ (List.mem_append_right _ h₀))
abbrev rmX9_fit : Room := { frames := 2, cells := 0, slots := 0, locals := 43 }
set_option maxHeartbeats 4000000 in
set_option maxRecDepth 100000 in
/-- fit -/
theorem c_X9_fit (lL₀ : Launch) (D₀ : va_G) (k₀ : Nat → ClassId) (sz₀ : Nat) (a₀ : Nat) (q₀ : Nat → Nat) (th₀ : Int) (un₀ : Int) (mf₀ : Int) (ty₀ : Int) (fr₀ : Int) (tt₀ : Int) (tk₀ : Int) (fa₀ : Int) (hf₀ : Bool) (ho₀ : Bool) (km₀ : Int) (s₀ : Int → Int) (row₀ : Int) (nx₀ : Int) (hs0₀ : 1 ≤ s₀ 0 ∧ s₀ 0 ≤ 4) (hrw₀ : 0 ≤ row₀ ∧ row₀ < 2147483648) (hn₀ : 0 ≤ nx₀ ∧ nx₀ < 2147483648) : Met lL₀ yX9_fit wsX9_fit rmX9_fit (gPc ZT D₀ (tyk k₀) [.ref a₀, .int (iI row₀), .int (iI nx₀)] sz₀ [mO a₀ q₀ th₀ un₀ mf₀ ty₀ fr₀ tt₀ tk₀ fa₀ (bz hf₀) (bz ho₀) km₀, (q₀ 1, .inl (k₀ 0, 51, .inl (ia s₀)))]) (gQi D₀ (tyk k₀) [mO a₀ q₀ th₀ un₀ mf₀ ty₀ fr₀ tt₀ tk₀ fa₀ (bz hf₀) (bz ho₀) km₀, (q₀ 1, .inl (k₀ 0, 51, .inl (ia s₀)))] sz₀ (fun (_ : Unit) => True) (fun (_ : Unit) => (iI (bz (mFit (s₀ 0) row₀ nx₀)))) (fun (_ : Unit) => [mO a₀ q₀ th₀ un₀ mf₀ ty₀ fr₀ tt₀ tk₀ fa₀ (bz hf₀) (bz ho₀) km₀, (q₀ 1, .inl (k₀ 0, 51, .inl (ia s₀)))])) 0 0 (va_A [mO a₀ q₀ th₀ un₀ mf₀ ty₀ fr₀ tt₀ tk₀ fa₀ (bz hf₀) (bz ho₀) km₀, (q₀ 1, .inl (k₀ 0, 51, .inl (ia s₀)))] sz₀) := by
  refine xs_met (cc := cX9_fit) (maxL := 6) (ret := some .boolean) (by decide) rfl (Nat.le_of_ble_eq_true rfl) ?_
  intro pP₀ eN₀ sT₀ mI₀ below₀ meth₀ cD₀ hsz₀ args₀ QQ₀ C₀ hr₀ hlk₀ hnm₀ hQ₀ ls₀ H₀ locs₀ hl₀ hH₀
  subst hsz₀
  have hl₀ : lv_has ls₀ 6 [(0, .ref a₀), (1, .int (iI row₀)), (2, .int (iI nx₀))] := hl₀
  generalize hAe₀ : va_A [mO a₀ q₀ th₀ un₀ mf₀ ty₀ fr₀ tt₀ tk₀ fa₀ (bz hf₀) (bz ho₀) km₀, (q₀ 1, .inl (k₀ 0, 51, .inl (ia s₀)))] sT₀.heap.size = A₀ at C₀ hH₀ hQ₀
  refine lv_iconst (v := iI 1) C₀.1.1 C₀.1.2.1 dX9_fit_0 (by decide) ?_
  refine lv_istore_n (lv' := [(3, .int (iI 1)), (0, .ref a₀), (1, .int (iI row₀)), (2, .int (iI nx₀))]) C₀.1.1 C₀.1.2.1 dX9_fit_1 rfl hl₀ (by decide) rfl (fun ls₀ hl₀ => ?_)
  refine lv_iconst (v := iI 0) C₀.1.1 C₀.1.2.1 dX9_fit_2 (by decide) ?_
  refine lv_istore (lv' := [(4, .int (iI 0)), (3, .int (iI 1)), (0, .ref a₀), (1, .int (iI row₀)), (2, .int (iI nx₀))]) C₀.1.1 C₀.1.2.1 dX9_fit_3 hl₀ (by decide) rfl (fun ls₀ hl₀ => ?_)
  have L5₀ : ∀ (nn₀ : Nat), ∀ (t₀ : Bool) (x : Int), (t₀ = alI (fun x => alI (mFitX (s₀ 0) row₀ nx₀ x) 3) x) → (0 ≤ x ∧ x ≤ s₀ 0) → ((s₀ 0 - x) < (nn₀ : Int)) → ∀ (H₀ : Heap) (locs₀ : List Loc) (ls₀ : Array Slot), Hp D₀ A₀ sT₀.heap [mO a₀ q₀ th₀ un₀ mf₀ ty₀ fr₀ tt₀ tk₀ fa₀ (bz hf₀) (bz ho₀) km₀, (q₀ 1, .inl (k₀ 0, 51, .inl (ia s₀)))] H₀ locs₀ → lv_has ls₀ 6 [(0, .ref a₀), (1, .int (iI row₀)), (2, .int (iI nx₀)), (3, .int (iI (bz t₀))), (4, .int (iI x))] → W pP₀ lL₀ eN₀ rmX9_fit sT₀ mI₀ args₀ below₀ meth₀ cD₀ H₀ locs₀ 0 0 QQ₀ (F0 mI₀ 5 ls₀ []) := by
    intro nn₀
    induction nn₀ with
    | zero => intro t₀ x i1₀ i2₀ hm₀; exact absurd hm₀ (by omega)
    | succ nn₀ ih5₀ =>
      intro t₀ x i1₀ i2₀ hm5₀ H₀ locs₀ ls₀ hH₀ hl₀
      refine lv_iload C₀.1.1 C₀.1.2.1 dX9_fit_5 (lv_at hl₀ 4 rfl) ?_
      refine lv_aload_n C₀.1.1 C₀.1.2.1 dX9_fit_7 rfl (lv_at hl₀ 0 rfl) ?_
      refine xw_get C₀ hH₀ 0 rfl rfl 1 (by decide) iw_X9_fit_X9 (by decide +kernel) (v := .ref (q₀ 1)) rfl dX9_fit_8 ?_
      refine lv_iconst (v := iI 0) C₀.1.1 C₀.1.2.1 dX9_fit_11 (by decide) ?_
      refine xw_ild C₀ hH₀ 1 0 rfl rfl (z := 0) (by omega) (by omega) (by decide) dX9_fit_12 ?_
      refine xi_cge (tgt := 90) C₀.1.1 C₀.1.2.1 dX9_fit_13 (by decide) (by omega) (by omega) (fun h_1₀ => ?_) (fun h_1₀ => ?_)
      · refine lv_iload_n C₀.1.1 C₀.1.2.1 dX9_fit_90 rfl (lv_at hl₀ 3 rfl) ?_
        exact xr_i C₀ hH₀ hlk₀ hr₀ hQ₀ (nar_bz _) hAe₀ () trivial (by unfold mFit; rw [i1₀, show x = s₀ 0 by omega]) rfl dX9_fit_91
      · refine lv_iload C₀.1.1 C₀.1.2.1 dX9_fit_16 (lv_at hl₀ 4 rfl) ?_
        refine lv_iconst (v := iI 1) C₀.1.1 C₀.1.2.1 dX9_fit_18 (by decide) ?_
        refine xi_sub C₀.1.1 C₀.1.2.1 dX9_fit_19 ?_
        refine lv_istore (lv' := [(5, .int (iI (x - 1))), (0, .ref a₀), (1, .int (iI row₀)), (2, .int (iI nx₀)), (3, .int (iI (bz t₀))), (4, .int (iI x))]) C₀.1.1 C₀.1.2.1 dX9_fit_20 hl₀ (by decide) rfl (fun ls₀ hl₀ => ?_)
        have L22₀ : ∀ (nn₀ : Nat), ∀ (t2₀ : Bool) (z₀ : Int), (t2₀ = (alI (fun x => alI (mFitX (s₀ 0) row₀ nx₀ x) 3) x && alI (mFitX (s₀ 0) row₀ nx₀ x) (z₀ - x + 1))) → (x - 1 ≤ z₀ ∧ z₀ ≤ x + 2) → ((x + 2 - z₀) < (nn₀ : Int)) → ∀ (H₀ : Heap) (locs₀ : List Loc) (ls₀ : Array Slot), Hp D₀ A₀ sT₀.heap [mO a₀ q₀ th₀ un₀ mf₀ ty₀ fr₀ tt₀ tk₀ fa₀ (bz hf₀) (bz ho₀) km₀, (q₀ 1, .inl (k₀ 0, 51, .inl (ia s₀)))] H₀ locs₀ → lv_has ls₀ 6 [(0, .ref a₀), (1, .int (iI row₀)), (2, .int (iI nx₀)), (3, .int (iI (bz t2₀))), (4, .int (iI x)), (5, .int (iI z₀))] → W pP₀ lL₀ eN₀ rmX9_fit sT₀ mI₀ args₀ below₀ meth₀ cD₀ H₀ locs₀ 0 0 QQ₀ (F0 mI₀ 22 ls₀ []) := by
          intro nn₀
          induction nn₀ with
          | zero => intro t2₀ z₀ j1₀ j2₀ hm₀; exact absurd hm₀ (by omega)
          | succ nn₀ ih22₀ =>
            intro t2₀ z₀ j1₀ j2₀ hm22₀ H₀ locs₀ ls₀ hH₀ hl₀
            refine lv_iload C₀.1.1 C₀.1.2.1 dX9_fit_22 (lv_at hl₀ 5 rfl) ?_
            refine lv_iload C₀.1.1 C₀.1.2.1 dX9_fit_24 (lv_at hl₀ 4 rfl) ?_
            refine lv_iconst (v := iI 1) C₀.1.1 C₀.1.2.1 dX9_fit_26 (by decide) ?_
            refine xi_add C₀.1.1 C₀.1.2.1 dX9_fit_27 ?_
            refine xi_cgt (tgt := 84) C₀.1.1 C₀.1.2.1 dX9_fit_28 (by decide) (by omega) (by omega) (fun h_2₀ => ?_) (fun h_2₀ => ?_)
            · refine lv_iinc (v := iI (x + 1)) (lv' := [(4, .int (iI (x + 1))), (0, .ref a₀), (1, .int (iI row₀)), (2, .int (iI nx₀)), (3, .int (iI (bz t2₀))), (5, .int (iI z₀))]) C₀.1.1 C₀.1.2.1 dX9_fit_84 hl₀ (k := 4) rfl (iI_add _ (1)) (by decide) rfl (fun ls₀ hl₀ => ?_)
              refine lv_goto (tgt := 5) C₀.1.1 C₀.1.2.1 dX9_fit_87 (by decide) ?_
              exact ih5₀ t2₀ (x + 1) (by rw [alI_s i2₀.1, j1₀, show z₀ - x + 1 = 3 by omega]) (by omega) (by omega) _ _ _ hH₀ (lv_sub hl₀ [1, 2, 3, 4, 0] rfl)
            · have hg1₀ := mFig_rg (s₀ 0) row₀ x
              have hg2₀ := mFig_rg (s₀ 0) nx₀ z₀
              have L77₀ : ∀ (d₀ : Bool), (d₀ = (t2₀ && mFitX (s₀ 0) row₀ nx₀ x (z₀ - x + 1))) → ∀ (H₀ : Heap) (locs₀ : List Loc) (ls₀ : Array Slot), Hp D₀ A₀ sT₀.heap [mO a₀ q₀ th₀ un₀ mf₀ ty₀ fr₀ tt₀ tk₀ fa₀ (bz hf₀) (bz ho₀) km₀, (q₀ 1, .inl (k₀ 0, 51, .inl (ia s₀)))] H₀ locs₀ → lv_has ls₀ 6 [(0, .ref a₀), (1, .int (iI row₀)), (2, .int (iI nx₀)), (3, .int (iI (bz t2₀))), (4, .int (iI x)), (5, .int (iI z₀))] → W pP₀ lL₀ eN₀ rmX9_fit sT₀ mI₀ args₀ below₀ meth₀ cD₀ H₀ locs₀ 0 0 QQ₀ (F0 mI₀ 77 ls₀ [.int (iI (bz d₀))]) := by
                intro d₀ jd₀ H₀ locs₀ ls₀ hH₀ hl₀
                refine lv_istore_n (lv' := [(3, .int (iI (bz d₀))), (0, .ref a₀), (1, .int (iI row₀)), (2, .int (iI nx₀)), (4, .int (iI x)), (5, .int (iI z₀))]) C₀.1.1 C₀.1.2.1 dX9_fit_77 rfl hl₀ (by decide) rfl (fun ls₀ hl₀ => ?_)
                refine lv_iinc (v := iI (z₀ + 1)) (lv' := [(5, .int (iI (z₀ + 1))), (3, .int (iI (bz d₀))), (0, .ref a₀), (1, .int (iI row₀)), (2, .int (iI nx₀)), (4, .int (iI x))]) C₀.1.1 C₀.1.2.1 dX9_fit_78 hl₀ (k := 5) rfl (iI_add _ (1)) (by decide) rfl (fun ls₀ hl₀ => ?_)
                refine lv_goto (tgt := 22) C₀.1.1 C₀.1.2.1 dX9_fit_81 (by decide) ?_
                exact ih22₀ d₀ (z₀ + 1) (by rw [show z₀ + 1 - x + 1 = (z₀ - x + 1) + 1 by omega, alI_s (by omega), ← Bool.and_assoc, ← j1₀, jd₀]) (by omega) (by omega) _ _ _ hH₀ (lv_sub hl₀ [2, 3, 4, 1, 5, 0] rfl)
              refine lv_iload_n C₀.1.1 C₀.1.2.1 dX9_fit_31 rfl (lv_at hl₀ 3 rfl) ?_
              refine xb_eq (tgt := 76) C₀.1.1 C₀.1.2.1 dX9_fit_32 (by decide) (fun h_3₀ => ?_) (fun h_3₀ => ?_)
              · refine lv_iconst (v := iI 0) C₀.1.1 C₀.1.2.1 dX9_fit_76 (by decide) ?_
                exact L77₀ false (by (have ez₀ : x - 1 + (z₀ - x + 1) = z₀ := by omega); first | (simp_all [mFitX, mNear]; done) | (simp_all [mFitX, mNear]; omega)) _ _ _ hH₀ (lv_sub hl₀ [0, 1, 2, 3, 4, 5] rfl)
              · refine lv_iload C₀.1.1 C₀.1.2.1 dX9_fit_35 (lv_at hl₀ 5 rfl) ?_
                refine lv_iconst (v := iI 0) C₀.1.1 C₀.1.2.1 dX9_fit_37 (by decide) ?_
                refine lv_aload_n C₀.1.1 C₀.1.2.1 dX9_fit_38 rfl (lv_at hl₀ 0 rfl) ?_
                refine xw_get C₀ hH₀ 0 rfl rfl 1 (by decide) iw_X9_fit_X9 (by decide +kernel) (v := .ref (q₀ 1)) rfl dX9_fit_39 ?_
                refine lv_iconst (v := iI 0) C₀.1.1 C₀.1.2.1 dX9_fit_42 (by decide) ?_
                refine xw_ild C₀ hH₀ 1 0 rfl rfl (z := 0) (by omega) (by omega) (by decide) dX9_fit_43 ?_
                refine lv_iconst (v := iI 1) C₀.1.1 C₀.1.2.1 dX9_fit_44 (by decide) ?_
                refine xi_sub C₀.1.1 C₀.1.2.1 dX9_fit_45 ?_
                refine xc_Si (wr := [mO a₀ q₀ th₀ un₀ mf₀ ty₀ fr₀ tt₀ tk₀ fa₀ (bz hf₀) (bz ho₀) km₀, (q₀ 1, .inl (k₀ 0, 51, .inl (ia s₀)))]) (ws' := fun _ => [mO a₀ q₀ th₀ un₀ mf₀ ty₀ fr₀ tt₀ tk₀ fa₀ (bz hf₀) (bz ho₀) km₀, (q₀ 1, .inl (k₀ 0, 51, .inl (ia s₀)))]) (As := [.int (iI z₀), .int (iI 0), .int (iI (s₀ 0 - 1))]) (rest := []) C₀ hH₀ (c_X9_in lL₀ D₀ k₀ H₀.size z₀ 0 (s₀ 0 - 1) (by omega) (by omega) (by omega)) ZT_b (fun _ _ _ => trivial) (va_cwS 3 C₀.1.2.2.2.2 gX9_fit_X9_in rfl rfl rfl (by decide +kernel) ⟨Nat.le_of_ble_eq_true rfl, Nat.le_of_ble_eq_true rfl⟩) [] [0, 1] [0, 1] rfl rfl (by decide) (by decide) (by decide) (fun _ => rfl) (by decide) rfl hl₀.1 rfl (Nat.le_of_ble_eq_true rfl) dX9_fit_46 ⟨Nat.le_of_ble_eq_true rfl, Nat.le_of_ble_eq_true rfl⟩ (fun _ _ H₀ locs₀ hH₀ => ?_)
                refine xp_eq (tgt := 72) C₀.1.1 C₀.1.2.1 dX9_fit_49 (by decide) (fun h_4₀ => ?_) (fun h_4₀ => ?_)
                · refine lv_iconst (v := iI 1) C₀.1.1 C₀.1.2.1 dX9_fit_72 (by decide) ?_
                  refine lv_goto (tgt := 77) C₀.1.1 C₀.1.2.1 dX9_fit_73 (by decide) ?_
                  exact L77₀ true (by (have ez₀ : x - 1 + (z₀ - x + 1) = z₀ := by omega); first | (simp_all [mFitX, mNear]; done) | (simp_all [mFitX, mNear]; omega)) _ _ _ hH₀ (lv_sub hl₀ [0, 1, 2, 3, 4, 5] rfl)
                · refine lv_aload_n C₀.1.1 C₀.1.2.1 dX9_fit_52 rfl (lv_at hl₀ 0 rfl) ?_
                  refine lv_iload_n C₀.1.1 C₀.1.2.1 dX9_fit_53 rfl (lv_at hl₀ 1 rfl) ?_
                  refine lv_iload C₀.1.1 C₀.1.2.1 dX9_fit_54 (lv_at hl₀ 4 rfl) ?_
                  refine xc_Vi (wr := []) (ws' := fun _ => [mO a₀ q₀ th₀ un₀ mf₀ ty₀ fr₀ tt₀ tk₀ fa₀ (bz hf₀) (bz ho₀) km₀, (q₀ 1, .inl (k₀ 0, 51, .inl (ia s₀)))]) (As := [.int (iI row₀), .int (iI x)]) (rest := []) C₀ hH₀ (c_X9_figureOf lL₀ D₀ k₀ H₀.size a₀ q₀ th₀ un₀ mf₀ ty₀ fr₀ tt₀ tk₀ fa₀ hf₀ ho₀ km₀ s₀ row₀ x (by omega) (by omega) (by omega)) ZT_b (fun _ _ _ => trivial) (cwV 2 C₀.1.2.2.2.2 gX9_fit_X9_figureOf rfl rfl rfl (by decide +kernel) ⟨Nat.le_of_ble_eq_true rfl, Nat.le_of_ble_eq_true rfl⟩) [0, 1] [] [0, 1] rfl rfl (by decide) (by decide) (by decide) (fun _ => rfl) (by decide) (q0 := 0) rfl rfl rfl hl₀.1 rfl (Nat.le_of_ble_eq_true rfl) dX9_fit_56 ⟨Nat.le_of_ble_eq_true rfl, Nat.le_of_ble_eq_true rfl⟩ (fun _ _ H₀ locs₀ hH₀ => ?_)
                  refine lv_aload_n C₀.1.1 C₀.1.2.1 dX9_fit_59 rfl (lv_at hl₀ 0 rfl) ?_
                  refine lv_iload_n C₀.1.1 C₀.1.2.1 dX9_fit_60 rfl (lv_at hl₀ 2 rfl) ?_
                  refine lv_iload C₀.1.1 C₀.1.2.1 dX9_fit_61 (lv_at hl₀ 5 rfl) ?_
                  refine xc_Vi (wr := []) (ws' := fun _ => [mO a₀ q₀ th₀ un₀ mf₀ ty₀ fr₀ tt₀ tk₀ fa₀ (bz hf₀) (bz ho₀) km₀, (q₀ 1, .inl (k₀ 0, 51, .inl (ia s₀)))]) (As := [.int (iI nx₀), .int (iI z₀)]) (rest := [.int (iI (mFig (s₀ 0) row₀ x))]) C₀ hH₀ (c_X9_figureOf lL₀ D₀ k₀ H₀.size a₀ q₀ th₀ un₀ mf₀ ty₀ fr₀ tt₀ tk₀ fa₀ hf₀ ho₀ km₀ s₀ nx₀ z₀ (by omega) (by omega) (by omega)) ZT_b (fun _ _ _ => trivial) (cwV 2 C₀.1.2.2.2.2 gX9_fit_X9_figureOf rfl rfl rfl (by decide +kernel) ⟨Nat.le_of_ble_eq_true rfl, Nat.le_of_ble_eq_true rfl⟩) [0, 1] [] [0, 1] rfl rfl (by decide) (by decide) (by decide) (fun _ => rfl) (by decide) (q0 := 0) rfl rfl rfl hl₀.1 rfl (Nat.le_of_ble_eq_true rfl) dX9_fit_63 ⟨Nat.le_of_ble_eq_true rfl, Nat.le_of_ble_eq_true rfl⟩ (fun _ _ H₀ locs₀ hH₀ => ?_)
                  refine xc_Si (wr := [mO a₀ q₀ th₀ un₀ mf₀ ty₀ fr₀ tt₀ tk₀ fa₀ (bz hf₀) (bz ho₀) km₀, (q₀ 1, .inl (k₀ 0, 51, .inl (ia s₀)))]) (ws' := fun _ => [mO a₀ q₀ th₀ un₀ mf₀ ty₀ fr₀ tt₀ tk₀ fa₀ (bz hf₀) (bz ho₀) km₀, (q₀ 1, .inl (k₀ 0, 51, .inl (ia s₀)))]) (As := [.int (iI (mFig (s₀ 0) row₀ x)), .int (iI (mFig (s₀ 0) nx₀ z₀))]) (rest := []) C₀ hH₀ (c_X9_isNear lL₀ D₀ k₀ H₀.size (mFig (s₀ 0) row₀ x) (mFig (s₀ 0) nx₀ z₀) (by omega)) ZT_b (fun _ _ _ => trivial) (va_cwS 2 C₀.1.2.2.2.2 gX9_fit_X9_isNear rfl rfl rfl (by decide +kernel) ⟨Nat.le_of_ble_eq_true rfl, Nat.le_of_ble_eq_true rfl⟩) [] [0, 1] [0, 1] rfl rfl (by decide) (by decide) (by decide) (fun _ => rfl) (by decide) rfl hl₀.1 rfl (Nat.le_of_ble_eq_true rfl) dX9_fit_66 ⟨Nat.le_of_ble_eq_true rfl, Nat.le_of_ble_eq_true rfl⟩ (fun _ _ H₀ locs₀ hH₀ => ?_)
                  refine xp_eq (tgt := 76) C₀.1.1 C₀.1.2.1 dX9_fit_69 (by decide) (fun h_5₀ => ?_) (fun h_5₀ => ?_)
                  · refine lv_iconst (v := iI 0) C₀.1.1 C₀.1.2.1 dX9_fit_76 (by decide) ?_
                    exact L77₀ false (by (have ez₀ : x - 1 + (z₀ - x + 1) = z₀ := by omega); first | (simp_all [mFitX, mNear]; done) | (simp_all [mFitX, mNear]; omega)) _ _ _ hH₀ (lv_sub hl₀ [0, 1, 2, 3, 4, 5] rfl)
                  · refine lv_iconst (v := iI 1) C₀.1.1 C₀.1.2.1 dX9_fit_72 (by decide) ?_
                    refine lv_goto (tgt := 77) C₀.1.1 C₀.1.2.1 dX9_fit_73 (by decide) ?_
                    exact L77₀ true (by (have ez₀ : x - 1 + (z₀ - x + 1) = z₀ := by omega); first | (simp_all [mFitX, mNear]; done) | (simp_all [mFitX, mNear]; omega)) _ _ _ hH₀ (lv_sub hl₀ [0, 1, 2, 3, 4, 5] rfl)
        exact L22₀ (((x + 2 - (x - 1)) : Int).toNat + 1) t₀ (x - 1) (by rw [← i1₀, show x - 1 - x + 1 = 0 by omega, alI_0, Bool.and_true]) (by omega) (by omega) _ _ _ hH₀ (lv_sub hl₀ [1, 2, 3, 4, 5, 0] rfl)
  exact L5₀ (((s₀ 0 - 0) : Int).toNat + 1) true 0 (rfl) (by omega) (by omega) _ _ _ hH₀ (lv_sub hl₀ [2, 3, 4, 1, 0] rfl)
theorem iw_X9_fixedMany_X9 : ∀ w₀ ∈ u_ws RX9 TX9 24, w₀ ∈ wsX9_fixedMany := (fun w₀ h₀ => List.mem_cons_of_mem _ (List.mem_append_right _ h₀))
abbrev rmX9_fixedMany : Room := { frames := 1, cells := 0, slots := 0, locals := 20 }
set_option maxHeartbeats 4000000 in
set_option maxRecDepth 100000 in
/-- X9_fixedMany -/
theorem c_X9_fixedMany (lL₀ : Launch) (D₀ : va_G) (k₀ : Nat → ClassId) (sz₀ : Nat) (a₀ : Nat) (q₀ : Nat → Nat) (th₀ : Int) (un₀ : Int) (mf₀ : Int) (ty₀ : Int) (fr₀ : Int) (tt₀ : Int) (tk₀ : Int) (fa₀ : Int) (hf₀ : Bool) (ho₀ : Bool) (km₀ : Int) (s₀ : Int → Int) (hS₀ : mS s₀) : Met lL₀ yX9_fixedMany wsX9_fixedMany rmX9_fixedMany (gPc ZT D₀ (tyk k₀) [.ref a₀] sz₀ [mO a₀ q₀ th₀ un₀ mf₀ ty₀ fr₀ tt₀ tk₀ fa₀ (bz hf₀) (bz ho₀) km₀, (q₀ 1, .inl (k₀ 0, 51, .inl (ia s₀)))]) (gQi D₀ (tyk k₀) [mO a₀ q₀ th₀ un₀ mf₀ ty₀ fr₀ tt₀ tk₀ fa₀ (bz hf₀) (bz ho₀) km₀, (q₀ 1, .inl (k₀ 0, 51, .inl (ia s₀)))] sz₀ (fun (_ : Unit) => True) (fun (_ : Unit) => (iI (mFixed s₀))) (fun (_ : Unit) => [mO a₀ q₀ th₀ un₀ mf₀ ty₀ fr₀ tt₀ tk₀ fa₀ (bz hf₀) (bz ho₀) km₀, (q₀ 1, .inl (k₀ 0, 51, .inl (ia s₀)))])) 0 0 (va_A [mO a₀ q₀ th₀ un₀ mf₀ ty₀ fr₀ tt₀ tk₀ fa₀ (bz hf₀) (bz ho₀) km₀, (q₀ 1, .inl (k₀ 0, 51, .inl (ia s₀)))] sz₀) := by
  refine xs_met (cc := cX9_fixedMany) (maxL := 3) (ret := some .int) (by decide) rfl (Nat.le_of_ble_eq_true rfl) ?_
  intro pP₀ eN₀ sT₀ mI₀ below₀ meth₀ cD₀ hsz₀ args₀ QQ₀ C₀ hr₀ hlk₀ hnm₀ hQ₀ ls₀ H₀ locs₀ hl₀ hH₀
  subst hsz₀
  have hl₀ : lv_has ls₀ 3 [(0, .ref a₀)] := hl₀
  generalize hAe₀ : va_A [mO a₀ q₀ th₀ un₀ mf₀ ty₀ fr₀ tt₀ tk₀ fa₀ (bz hf₀) (bz ho₀) km₀, (q₀ 1, .inl (k₀ 0, 51, .inl (ia s₀)))] sT₀.heap.size = A₀ at C₀ hH₀ hQ₀
  obtain ⟨hs0₀, hs1₀, hs2₀, hsh₀, hsf₀⟩ := id hS₀
  have hcl₀ := cells_rg hs0₀ hs1₀
  refine lv_iconst (v := iI 0) C₀.1.1 C₀.1.2.1 dX9_fixedMany_0 (by decide) ?_
  refine lv_istore_n (lv' := [(1, .int (iI 0)), (0, .ref a₀)]) C₀.1.1 C₀.1.2.1 dX9_fixedMany_1 rfl hl₀ (by decide) rfl (fun ls₀ hl₀ => ?_)
  refine lv_iconst (v := iI 0) C₀.1.1 C₀.1.2.1 dX9_fixedMany_2 (by decide) ?_
  refine lv_istore_n (lv' := [(2, .int (iI 0)), (1, .int (iI 0)), (0, .ref a₀)]) C₀.1.1 C₀.1.2.1 dX9_fixedMany_3 rfl hl₀ (by decide) rfl (fun ls₀ hl₀ => ?_)
  have L4₀ : ∀ (nn₀ : Nat), ∀ (n₀ : Int) (x : Int), (n₀ = sI (fun c₀ => s₀ (27 + c₀)) x) → (0 ≤ x ∧ x ≤ s₀ 0 * s₀ 1) → ((s₀ 0 * s₀ 1 - x) < (nn₀ : Int)) → ∀ (H₀ : Heap) (locs₀ : List Loc) (ls₀ : Array Slot), Hp D₀ A₀ sT₀.heap [mO a₀ q₀ th₀ un₀ mf₀ ty₀ fr₀ tt₀ tk₀ fa₀ (bz hf₀) (bz ho₀) km₀, (q₀ 1, .inl (k₀ 0, 51, .inl (ia s₀)))] H₀ locs₀ → lv_has ls₀ 3 [(0, .ref a₀), (1, .int (iI n₀)), (2, .int (iI x))] → W pP₀ lL₀ eN₀ rmX9_fixedMany sT₀ mI₀ args₀ below₀ meth₀ cD₀ H₀ locs₀ 0 0 QQ₀ (F0 mI₀ 4 ls₀ []) := by
    intro nn₀
    induction nn₀ with
    | zero => intro n₀ x i1₀ i2₀ hm₀; exact absurd hm₀ (by omega)
    | succ nn₀ ih4₀ =>
      intro n₀ x i1₀ i2₀ hm4₀ H₀ locs₀ ls₀ hH₀ hl₀
      refine lv_iload_n C₀.1.1 C₀.1.2.1 dX9_fixedMany_4 rfl (lv_at hl₀ 2 rfl) ?_
      refine lv_aload_n C₀.1.1 C₀.1.2.1 dX9_fixedMany_5 rfl (lv_at hl₀ 0 rfl) ?_
      refine xc_Vi (wr := []) (ws' := fun _ => [mO a₀ q₀ th₀ un₀ mf₀ ty₀ fr₀ tt₀ tk₀ fa₀ (bz hf₀) (bz ho₀) km₀, (q₀ 1, .inl (k₀ 0, 51, .inl (ia s₀)))]) (As := []) (rest := [.int (iI x)]) C₀ hH₀ (c_X9_cells lL₀ D₀ k₀ H₀.size a₀ q₀ th₀ un₀ mf₀ ty₀ fr₀ tt₀ tk₀ fa₀ hf₀ ho₀ km₀ s₀ ) ZT_b (fun _ _ _ => trivial) (cwV 0 C₀.1.2.2.2.2 gX9_fixedMany_X9_cells rfl rfl rfl (by decide +kernel) ⟨Nat.le_of_ble_eq_true rfl, Nat.le_of_ble_eq_true rfl⟩) [0, 1] [] [0, 1] rfl rfl (by decide) (by decide) (by decide) (fun _ => rfl) (by decide) (q0 := 0) rfl rfl rfl hl₀.1 rfl (Nat.le_of_ble_eq_true rfl) dX9_fixedMany_6 ⟨Nat.le_of_ble_eq_true rfl, Nat.le_of_ble_eq_true rfl⟩ (fun _ _ H₀ locs₀ hH₀ => ?_)
      refine xi_cge (tgt := 30) C₀.1.1 C₀.1.2.1 dX9_fixedMany_9 (by decide) (by omega) (by omega) (fun h_1₀ => ?_) (fun h_1₀ => ?_)
      · refine lv_iload_n C₀.1.1 C₀.1.2.1 dX9_fixedMany_30 rfl (lv_at hl₀ 1 rfl) ?_
        exact xr_i C₀ hH₀ hlk₀ hr₀ hQ₀ rfl hAe₀ () trivial (by unfold mFixed; rw [i1₀, show x = s₀ 0 * s₀ 1 by omega]) rfl dX9_fixedMany_31
      · refine lv_iload_n C₀.1.1 C₀.1.2.1 dX9_fixedMany_12 rfl (lv_at hl₀ 1 rfl) ?_
        refine lv_aload_n C₀.1.1 C₀.1.2.1 dX9_fixedMany_13 rfl (lv_at hl₀ 0 rfl) ?_
        refine xw_get C₀ hH₀ 0 rfl rfl 1 (by decide) iw_X9_fixedMany_X9 (by decide +kernel) (v := .ref (q₀ 1)) rfl dX9_fixedMany_14 ?_
        refine lv_bipush (v := iI 27) C₀.1.1 C₀.1.2.1 dX9_fixedMany_17 (by decide) ?_
        refine lv_iload_n C₀.1.1 C₀.1.2.1 dX9_fixedMany_19 rfl (lv_at hl₀ 2 rfl) ?_
        refine xi_add C₀.1.1 C₀.1.2.1 dX9_fixedMany_20 ?_
        refine xw_ild C₀ hH₀ 1 0 rfl rfl (z := 27 + x) (by omega) (by omega) (by decide) dX9_fixedMany_21 ?_
        refine xi_add C₀.1.1 C₀.1.2.1 dX9_fixedMany_22 ?_
        refine lv_istore_n (lv' := [(1, .int (iI (n₀ + (s₀ (27 + x))))), (0, .ref a₀), (2, .int (iI x))]) C₀.1.1 C₀.1.2.1 dX9_fixedMany_23 rfl hl₀ (by decide) rfl (fun ls₀ hl₀ => ?_)
        refine lv_iinc (v := iI (x + 1)) (lv' := [(2, .int (iI (x + 1))), (1, .int (iI (n₀ + (s₀ (27 + x))))), (0, .ref a₀)]) C₀.1.1 C₀.1.2.1 dX9_fixedMany_24 hl₀ (k := 2) rfl (iI_add _ (1)) (by decide) rfl (fun ls₀ hl₀ => ?_)
        refine lv_goto (tgt := 4) C₀.1.1 C₀.1.2.1 dX9_fixedMany_27 (by decide) ?_
        exact ih4₀ (n₀ + (s₀ (27 + x))) (x + 1) (by rw [sI_s i2₀.1, ← i1₀]) (by omega) (by omega) _ _ _ hH₀ (lv_sub hl₀ [2, 1, 0] rfl)
  exact L4₀ (((s₀ 0 * s₀ 1 - 0) : Int).toNat + 1) 0 0 (rfl) (by omega) (by omega) _ _ _ hH₀ (lv_sub hl₀ [2, 1, 0] rfl)
theorem iw_X9_heights_X9 : ∀ w₀ ∈ u_ws RX9 TX9 24, w₀ ∈ wsX9_heights := (fun w₀ h₀ => List.mem_cons_of_mem _ (List.mem_append_right _ h₀))
abbrev rmX9_heights : Room := { frames := 1, cells := 0, slots := 0, locals := 20 }
set_option maxHeartbeats 4000000 in
set_option maxRecDepth 100000 in
/-- X9_heights -/
theorem c_X9_heights (lL₀ : Launch) (D₀ : va_G) (k₀ : Nat → ClassId) (sz₀ : Nat) (a₀ : Nat) (q₀ : Nat → Nat) (th₀ : Int) (un₀ : Int) (mf₀ : Int) (ty₀ : Int) (fr₀ : Int) (tt₀ : Int) (tk₀ : Int) (fa₀ : Int) (hf₀ : Bool) (ho₀ : Bool) (km₀ : Int) (s₀ : Int → Int) (hS₀ : mS s₀) : Met lL₀ yX9_heights wsX9_heights rmX9_heights (gPc ZT D₀ (tyk k₀) [.ref a₀] sz₀ [mO a₀ q₀ th₀ un₀ mf₀ ty₀ fr₀ tt₀ tk₀ fa₀ (bz hf₀) (bz ho₀) km₀, (q₀ 1, .inl (k₀ 0, 51, .inl (ia s₀)))]) (gQi D₀ (tyk k₀) [mO a₀ q₀ th₀ un₀ mf₀ ty₀ fr₀ tt₀ tk₀ fa₀ (bz hf₀) (bz ho₀) km₀, (q₀ 1, .inl (k₀ 0, 51, .inl (ia s₀)))] sz₀ (fun (_ : Unit) => True) (fun (_ : Unit) => (iI (mHeights s₀))) (fun (_ : Unit) => [mO a₀ q₀ th₀ un₀ mf₀ ty₀ fr₀ tt₀ tk₀ fa₀ (bz hf₀) (bz ho₀) km₀, (q₀ 1, .inl (k₀ 0, 51, .inl (ia s₀)))])) 0 0 (va_A [mO a₀ q₀ th₀ un₀ mf₀ ty₀ fr₀ tt₀ tk₀ fa₀ (bz hf₀) (bz ho₀) km₀, (q₀ 1, .inl (k₀ 0, 51, .inl (ia s₀)))] sz₀) := by
  refine xs_met (cc := cX9_heights) (maxL := 3) (ret := some .int) (by decide) rfl (Nat.le_of_ble_eq_true rfl) ?_
  intro pP₀ eN₀ sT₀ mI₀ below₀ meth₀ cD₀ hsz₀ args₀ QQ₀ C₀ hr₀ hlk₀ hnm₀ hQ₀ ls₀ H₀ locs₀ hl₀ hH₀
  subst hsz₀
  have hl₀ : lv_has ls₀ 3 [(0, .ref a₀)] := hl₀
  generalize hAe₀ : va_A [mO a₀ q₀ th₀ un₀ mf₀ ty₀ fr₀ tt₀ tk₀ fa₀ (bz hf₀) (bz ho₀) km₀, (q₀ 1, .inl (k₀ 0, 51, .inl (ia s₀)))] sT₀.heap.size = A₀ at C₀ hH₀ hQ₀
  obtain ⟨hs0₀, hs1₀, hs2₀, hsh₀, hsf₀⟩ := id hS₀
  have hcl₀ := cells_rg hs0₀ hs1₀
  refine lv_iconst (v := iI 0) C₀.1.1 C₀.1.2.1 dX9_heights_0 (by decide) ?_
  refine lv_istore_n (lv' := [(1, .int (iI 0)), (0, .ref a₀)]) C₀.1.1 C₀.1.2.1 dX9_heights_1 rfl hl₀ (by decide) rfl (fun ls₀ hl₀ => ?_)
  refine lv_iconst (v := iI 0) C₀.1.1 C₀.1.2.1 dX9_heights_2 (by decide) ?_
  refine lv_istore_n (lv' := [(2, .int (iI 0)), (1, .int (iI 0)), (0, .ref a₀)]) C₀.1.1 C₀.1.2.1 dX9_heights_3 rfl hl₀ (by decide) rfl (fun ls₀ hl₀ => ?_)
  have L4₀ : ∀ (nn₀ : Nat), ∀ (n₀ : Int) (x : Int), (n₀ = sI (fun c₀ => s₀ (3 + c₀)) x) → (0 ≤ x ∧ x ≤ s₀ 0 * s₀ 1) → ((s₀ 0 * s₀ 1 - x) < (nn₀ : Int)) → ∀ (H₀ : Heap) (locs₀ : List Loc) (ls₀ : Array Slot), Hp D₀ A₀ sT₀.heap [mO a₀ q₀ th₀ un₀ mf₀ ty₀ fr₀ tt₀ tk₀ fa₀ (bz hf₀) (bz ho₀) km₀, (q₀ 1, .inl (k₀ 0, 51, .inl (ia s₀)))] H₀ locs₀ → lv_has ls₀ 3 [(0, .ref a₀), (1, .int (iI n₀)), (2, .int (iI x))] → W pP₀ lL₀ eN₀ rmX9_heights sT₀ mI₀ args₀ below₀ meth₀ cD₀ H₀ locs₀ 0 0 QQ₀ (F0 mI₀ 4 ls₀ []) := by
    intro nn₀
    induction nn₀ with
    | zero => intro n₀ x i1₀ i2₀ hm₀; exact absurd hm₀ (by omega)
    | succ nn₀ ih4₀ =>
      intro n₀ x i1₀ i2₀ hm4₀ H₀ locs₀ ls₀ hH₀ hl₀
      refine lv_iload_n C₀.1.1 C₀.1.2.1 dX9_heights_4 rfl (lv_at hl₀ 2 rfl) ?_
      refine lv_aload_n C₀.1.1 C₀.1.2.1 dX9_heights_5 rfl (lv_at hl₀ 0 rfl) ?_
      refine xc_Vi (wr := []) (ws' := fun _ => [mO a₀ q₀ th₀ un₀ mf₀ ty₀ fr₀ tt₀ tk₀ fa₀ (bz hf₀) (bz ho₀) km₀, (q₀ 1, .inl (k₀ 0, 51, .inl (ia s₀)))]) (As := []) (rest := [.int (iI x)]) C₀ hH₀ (c_X9_cells lL₀ D₀ k₀ H₀.size a₀ q₀ th₀ un₀ mf₀ ty₀ fr₀ tt₀ tk₀ fa₀ hf₀ ho₀ km₀ s₀ ) ZT_b (fun _ _ _ => trivial) (cwV 0 C₀.1.2.2.2.2 gX9_heights_X9_cells rfl rfl rfl (by decide +kernel) ⟨Nat.le_of_ble_eq_true rfl, Nat.le_of_ble_eq_true rfl⟩) [0, 1] [] [0, 1] rfl rfl (by decide) (by decide) (by decide) (fun _ => rfl) (by decide) (q0 := 0) rfl rfl rfl hl₀.1 rfl (Nat.le_of_ble_eq_true rfl) dX9_heights_6 ⟨Nat.le_of_ble_eq_true rfl, Nat.le_of_ble_eq_true rfl⟩ (fun _ _ H₀ locs₀ hH₀ => ?_)
      refine xi_cge (tgt := 29) C₀.1.1 C₀.1.2.1 dX9_heights_9 (by decide) (by omega) (by omega) (fun h_1₀ => ?_) (fun h_1₀ => ?_)
      · refine lv_iload_n C₀.1.1 C₀.1.2.1 dX9_heights_29 rfl (lv_at hl₀ 1 rfl) ?_
        exact xr_i C₀ hH₀ hlk₀ hr₀ hQ₀ rfl hAe₀ () trivial (by unfold mHeights; rw [i1₀, show x = s₀ 0 * s₀ 1 by omega]) rfl dX9_heights_30
      · refine lv_iload_n C₀.1.1 C₀.1.2.1 dX9_heights_12 rfl (lv_at hl₀ 1 rfl) ?_
        refine lv_aload_n C₀.1.1 C₀.1.2.1 dX9_heights_13 rfl (lv_at hl₀ 0 rfl) ?_
        refine xw_get C₀ hH₀ 0 rfl rfl 1 (by decide) iw_X9_heights_X9 (by decide +kernel) (v := .ref (q₀ 1)) rfl dX9_heights_14 ?_
        refine lv_iconst (v := iI 3) C₀.1.1 C₀.1.2.1 dX9_heights_17 (by decide) ?_
        refine lv_iload_n C₀.1.1 C₀.1.2.1 dX9_heights_18 rfl (lv_at hl₀ 2 rfl) ?_
        refine xi_add C₀.1.1 C₀.1.2.1 dX9_heights_19 ?_
        refine xw_ild C₀ hH₀ 1 0 rfl rfl (z := 3 + x) (by omega) (by omega) (by decide) dX9_heights_20 ?_
        refine xi_add C₀.1.1 C₀.1.2.1 dX9_heights_21 ?_
        refine lv_istore_n (lv' := [(1, .int (iI (n₀ + (s₀ (3 + x))))), (0, .ref a₀), (2, .int (iI x))]) C₀.1.1 C₀.1.2.1 dX9_heights_22 rfl hl₀ (by decide) rfl (fun ls₀ hl₀ => ?_)
        refine lv_iinc (v := iI (x + 1)) (lv' := [(2, .int (iI (x + 1))), (1, .int (iI (n₀ + (s₀ (3 + x))))), (0, .ref a₀)]) C₀.1.1 C₀.1.2.1 dX9_heights_23 hl₀ (k := 2) rfl (iI_add _ (1)) (by decide) rfl (fun ls₀ hl₀ => ?_)
        refine lv_goto (tgt := 4) C₀.1.1 C₀.1.2.1 dX9_heights_26 (by decide) ?_
        exact ih4₀ (n₀ + (s₀ (3 + x))) (x + 1) (by rw [sI_s i2₀.1, ← i1₀]) (by omega) (by omega) _ _ _ hH₀ (lv_sub hl₀ [2, 1, 0] rfl)
  exact L4₀ (((s₀ 0 * s₀ 1 - 0) : Int).toNat + 1) 0 0 (rfl) (by omega) (by omega) _ _ _ hH₀ (lv_sub hl₀ [2, 1, 0] rfl)
theorem iw_X9_notes_X9 : ∀ w₀ ∈ u_ws RX9 TX9 24, w₀ ∈ wsX9_notes := (fun w₀ h₀ => List.mem_cons_of_mem _ (List.mem_append_right _ h₀))
abbrev rmX9_notes : Room := { frames := 0, cells := 0, slots := 0, locals := 0 }
set_option maxHeartbeats 4000000 in
set_option maxRecDepth 100000 in
/-- notes -/
theorem c_X9_notes (lL₀ : Launch) (D₀ : va_G) (k₀ : Nat → ClassId) (sz₀ : Nat) (a₀ : Nat) (q₀ : Nat → Nat) (th₀ : Int) (un₀ : Int) (mf₀ : Int) (ty₀ : Int) (fr₀ : Int) (tt₀ : Int) (tk₀ : Int) (fa₀ : Int) (hf₀ : Bool) (ho₀ : Bool) (km₀ : Int) (s₀ : Int → Int) (pa₀ : Int → Int) (hun₀ : 0 ≤ un₀ ∧ un₀ ≤ 6) : Met lL₀ yX9_notes wsX9_notes rmX9_notes (gPc ZT D₀ (tyk k₀) [.ref a₀] sz₀ [mO a₀ q₀ th₀ un₀ mf₀ ty₀ fr₀ tt₀ tk₀ fa₀ (bz hf₀) (bz ho₀) km₀, (q₀ 1, .inl (k₀ 0, 51, .inl (ia s₀))), (q₀ 3, .inl (k₀ 0, 306, .inl (ia pa₀)))]) (gQv D₀ (tyk k₀) [mO a₀ q₀ th₀ un₀ mf₀ ty₀ fr₀ tt₀ tk₀ fa₀ (bz hf₀) (bz ho₀) km₀, (q₀ 1, .inl (k₀ 0, 51, .inl (ia s₀))), (q₀ 3, .inl (k₀ 0, 306, .inl (ia pa₀)))] sz₀ (fun (_ : Unit) => True) (fun (_ : Unit) => [mO a₀ q₀ th₀ (mUn un₀) mf₀ ty₀ fr₀ tt₀ tk₀ fa₀ (bz hf₀) (bz ho₀) km₀, (q₀ 1, .inl (k₀ 0, 51, .inl (ia s₀))), (q₀ 3, .inl (k₀ 0, 306, .inl (ia (mPa pa₀ s₀ un₀))))])) 0 0 (va_A [mO a₀ q₀ th₀ un₀ mf₀ ty₀ fr₀ tt₀ tk₀ fa₀ (bz hf₀) (bz ho₀) km₀, (q₀ 1, .inl (k₀ 0, 51, .inl (ia s₀))), (q₀ 3, .inl (k₀ 0, 306, .inl (ia pa₀)))] sz₀) := by
  refine xs_met (cc := cX9_notes) (maxL := 2) (ret := none) (by decide) rfl (Nat.le_of_ble_eq_true rfl) ?_
  intro pP₀ eN₀ sT₀ mI₀ below₀ meth₀ cD₀ hsz₀ args₀ QQ₀ C₀ hr₀ hlk₀ hnm₀ hQ₀ ls₀ H₀ locs₀ hl₀ hH₀
  subst hsz₀
  have hl₀ : lv_has ls₀ 2 [(0, .ref a₀)] := hl₀
  generalize hAe₀ : va_A [mO a₀ q₀ th₀ un₀ mf₀ ty₀ fr₀ tt₀ tk₀ fa₀ (bz hf₀) (bz ho₀) km₀, (q₀ 1, .inl (k₀ 0, 51, .inl (ia s₀))), (q₀ 3, .inl (k₀ 0, 306, .inl (ia pa₀)))] sT₀.heap.size = A₀ at C₀ hH₀ hQ₀
  refine lv_aload_n C₀.1.1 C₀.1.2.1 dX9_notes_0 rfl (lv_at hl₀ 0 rfl) ?_
  refine xw_get C₀ hH₀ 0 rfl rfl 4 (by decide) iw_X9_notes_X9 (by decide +kernel) (v := .int (iI un₀)) rfl dX9_notes_1 ?_
  refine lv_bipush (v := iI 6) C₀.1.1 C₀.1.2.1 dX9_notes_4 (by decide) ?_
  refine xi_cne (tgt := 49) C₀.1.1 C₀.1.2.1 dX9_notes_6 (by decide) (by omega) (by omega) (fun h_1₀ => ?_) (fun h_1₀ => ?_)
  · refine lv_iconst (v := iI 0) C₀.1.1 C₀.1.2.1 dX9_notes_49 (by decide) ?_
    refine lv_istore_n (lv' := [(1, .int (iI 0)), (0, .ref a₀)]) C₀.1.1 C₀.1.2.1 dX9_notes_50 rfl hl₀ (by decide) rfl (fun ls₀ hl₀ => ?_)
    have L51₀ : ∀ (nn₀ : Nat), ∀ (c₀ : Int) (pq₀ : Int → Int), (pq₀ = cpz s₀ pa₀ 0 (51 * un₀) c₀) → (0 ≤ c₀ ∧ c₀ ≤ 51) → ((51 - c₀) < (nn₀ : Int)) → ∀ (H₀ : Heap) (locs₀ : List Loc) (ls₀ : Array Slot), Hp D₀ A₀ sT₀.heap [mO a₀ q₀ th₀ un₀ mf₀ ty₀ fr₀ tt₀ tk₀ fa₀ (bz hf₀) (bz ho₀) km₀, (q₀ 1, .inl (k₀ 0, 51, .inl (ia s₀))), (q₀ 3, .inl (k₀ 0, 306, .inl (ia pq₀)))] H₀ locs₀ → lv_has ls₀ 2 [(0, .ref a₀), (1, .int (iI c₀))] → W pP₀ lL₀ eN₀ rmX9_notes sT₀ mI₀ args₀ below₀ meth₀ cD₀ H₀ locs₀ 0 0 QQ₀ (F0 mI₀ 51 ls₀ []) := by
      intro nn₀
      induction nn₀ with
      | zero => intro c₀ pq₀ j1₀ j2₀ hm₀; exact absurd hm₀ (by omega)
      | succ nn₀ ih51₀ =>
        intro c₀ pq₀ j1₀ j2₀ hm51₀ H₀ locs₀ ls₀ hH₀ hl₀
        refine lv_iload_n C₀.1.1 C₀.1.2.1 dX9_notes_51 rfl (lv_at hl₀ 1 rfl) ?_
        refine lv_bipush (v := iI 51) C₀.1.1 C₀.1.2.1 dX9_notes_52 (by decide) ?_
        refine xi_cge (tgt := 83) C₀.1.1 C₀.1.2.1 dX9_notes_54 (by decide) (by omega) (by omega) (fun h_2₀ => ?_) (fun h_2₀ => ?_)
        · have ec2₀ : c₀ = 51 := by omega
          subst ec2₀
          refine lv_aload_n C₀.1.1 C₀.1.2.1 dX9_notes_83 rfl (lv_at hl₀ 0 rfl) ?_
          refine lv_dup C₀.1.1 C₀.1.2.1 dX9_notes_84 rfl ?_
          refine xw_get C₀ hH₀ 0 rfl rfl 4 (by decide) iw_X9_notes_X9 (by decide +kernel) (v := .int (iI un₀)) rfl dX9_notes_85 ?_
          refine lv_iconst (v := iI 1) C₀.1.1 C₀.1.2.1 dX9_notes_88 (by decide) ?_
          refine xi_add C₀.1.1 C₀.1.2.1 dX9_notes_89 ?_
          refine xw_put (ws' := [mO a₀ q₀ th₀ (un₀ + 1) mf₀ ty₀ fr₀ tt₀ tk₀ fa₀ (bz hf₀) (bz ho₀) km₀, (q₀ 1, .inl (k₀ 0, 51, .inl (ia s₀))), (q₀ 3, .inl (k₀ 0, 306, .inl (ia pq₀)))]) (v := .int (iI (un₀ + 1))) C₀ hH₀ 0 rfl rfl tyX9 tyX9_ok nmX9 4 (by decide) iw_X9_notes_X9 (by decide +kernel) rfl rfl rfl (Nat.le_of_ble_eq_true rfl) dX9_notes_90 rfl (fun H₀ locs₀ hH₀ => ?_)
          exact xr_v C₀ hH₀ hlk₀ hr₀ hQ₀ hAe₀ () trivial (by simp (disch := omega) only [mPa, mUn, if_pos, if_neg, j1₀]; try (rw [show (un₀ - 1 + 1 : Int) = 6 by omega, show 51 * (un₀ - 1) = 255 by omega])) dX9_notes_93
        · refine lv_aload_n C₀.1.1 C₀.1.2.1 dX9_notes_57 rfl (lv_at hl₀ 0 rfl) ?_
          refine xw_get C₀ hH₀ 0 rfl rfl 3 (by decide) iw_X9_notes_X9 (by decide +kernel) (v := .ref (q₀ 3)) rfl dX9_notes_58 ?_
          refine lv_bipush (v := iI 51) C₀.1.1 C₀.1.2.1 dX9_notes_61 (by decide) ?_
          refine lv_aload_n C₀.1.1 C₀.1.2.1 dX9_notes_63 rfl (lv_at hl₀ 0 rfl) ?_
          refine xw_get C₀ hH₀ 0 rfl rfl 4 (by decide) iw_X9_notes_X9 (by decide +kernel) (v := .int (iI un₀)) rfl dX9_notes_64 ?_
          refine xi_mul C₀.1.1 C₀.1.2.1 dX9_notes_67 ?_
          refine lv_iload_n C₀.1.1 C₀.1.2.1 dX9_notes_68 rfl (lv_at hl₀ 1 rfl) ?_
          refine xi_add C₀.1.1 C₀.1.2.1 dX9_notes_69 ?_
          refine lv_aload_n C₀.1.1 C₀.1.2.1 dX9_notes_70 rfl (lv_at hl₀ 0 rfl) ?_
          refine xw_get C₀ hH₀ 0 rfl rfl 1 (by decide) iw_X9_notes_X9 (by decide +kernel) (v := .ref (q₀ 1)) rfl dX9_notes_71 ?_
          refine lv_iload_n C₀.1.1 C₀.1.2.1 dX9_notes_74 rfl (lv_at hl₀ 1 rfl) ?_
          refine xw_ild C₀ hH₀ 1 0 rfl rfl (z := c₀) (by omega) (by omega) (by decide) dX9_notes_75 ?_
          refine xw_ist (ws' := [mO a₀ q₀ th₀ un₀ mf₀ ty₀ fr₀ tt₀ tk₀ fa₀ (bz hf₀) (bz ho₀) km₀, (q₀ 1, .inl (k₀ 0, 51, .inl (ia s₀))), (q₀ 3, .inl (k₀ 0, 306, .inl (ia (uz pq₀ (51 * un₀ + c₀) (s₀ c₀)))))]) C₀ hH₀ 2 0 rfl rfl (z := 51 * un₀ + c₀) (v := s₀ c₀) (by omega) (by omega) (by decide) dX9_notes_76 rfl (fun H₀ locs₀ hH₀ => ?_)
          refine lv_iinc (v := iI (c₀ + 1)) (lv' := [(1, .int (iI (c₀ + 1))), (0, .ref a₀)]) C₀.1.1 C₀.1.2.1 dX9_notes_77 hl₀ (k := 1) rfl (iI_add _ (1)) (by decide) rfl (fun ls₀ hl₀ => ?_)
          refine lv_goto (tgt := 51) C₀.1.1 C₀.1.2.1 dX9_notes_80 (by decide) ?_
          exact ih51₀ (c₀ + 1) (uz pq₀ (51 * un₀ + c₀) (s₀ c₀)) (by rw [j1₀]; exact cpz_s (by omega) (by omega) (by first | rfl | (congr 1; omega))) (by omega) (by omega) _ _ _ hH₀ (lv_sub hl₀ [1, 0] rfl)
    exact L51₀ (((51 - 0) : Int).toNat + 1) 0 pa₀ ((cpz_0 _ _ _ _).symm) (by omega) (by omega) _ _ _ hH₀ (lv_sub hl₀ [1, 0] rfl)
  · refine lv_iconst (v := iI 0) C₀.1.1 C₀.1.2.1 dX9_notes_9 (by decide) ?_
    refine lv_istore_n (lv' := [(1, .int (iI 0)), (0, .ref a₀)]) C₀.1.1 C₀.1.2.1 dX9_notes_10 rfl hl₀ (by decide) rfl (fun ls₀ hl₀ => ?_)
    have L11₀ : ∀ (nn₀ : Nat), ∀ (c₀ : Int) (pq₀ : Int → Int), (pq₀ = cpz pa₀ pa₀ 51 0 c₀) → (0 ≤ c₀ ∧ c₀ ≤ 255) → ((255 - c₀) < (nn₀ : Int)) → ∀ (H₀ : Heap) (locs₀ : List Loc) (ls₀ : Array Slot), Hp D₀ A₀ sT₀.heap [mO a₀ q₀ th₀ un₀ mf₀ ty₀ fr₀ tt₀ tk₀ fa₀ (bz hf₀) (bz ho₀) km₀, (q₀ 1, .inl (k₀ 0, 51, .inl (ia s₀))), (q₀ 3, .inl (k₀ 0, 306, .inl (ia pq₀)))] H₀ locs₀ → lv_has ls₀ 2 [(0, .ref a₀), (1, .int (iI c₀))] → W pP₀ lL₀ eN₀ rmX9_notes sT₀ mI₀ args₀ below₀ meth₀ cD₀ H₀ locs₀ 0 0 QQ₀ (F0 mI₀ 11 ls₀ []) := by
      intro nn₀
      induction nn₀ with
      | zero => intro c₀ pq₀ i1₀ i2₀ hm₀; exact absurd hm₀ (by omega)
      | succ nn₀ ih11₀ =>
        intro c₀ pq₀ i1₀ i2₀ hm11₀ H₀ locs₀ ls₀ hH₀ hl₀
        refine lv_iload_n C₀.1.1 C₀.1.2.1 dX9_notes_11 rfl (lv_at hl₀ 1 rfl) ?_
        refine lv_sipush (v := iI 255) C₀.1.1 C₀.1.2.1 dX9_notes_12 (by decide) ?_
        refine xi_cge (tgt := 39) C₀.1.1 C₀.1.2.1 dX9_notes_15 (by decide) (by omega) (by omega) (fun h_3₀ => ?_) (fun h_3₀ => ?_)
        · have ec₀ : c₀ = 255 := by omega
          subst ec₀
          subst i1₀
          refine lv_aload_n C₀.1.1 C₀.1.2.1 dX9_notes_39 rfl (lv_at hl₀ 0 rfl) ?_
          refine lv_dup C₀.1.1 C₀.1.2.1 dX9_notes_40 rfl ?_
          refine xw_get C₀ hH₀ 0 rfl rfl 4 (by decide) iw_X9_notes_X9 (by decide +kernel) (v := .int (iI un₀)) rfl dX9_notes_41 ?_
          refine lv_iconst (v := iI 1) C₀.1.1 C₀.1.2.1 dX9_notes_44 (by decide) ?_
          refine xi_sub C₀.1.1 C₀.1.2.1 dX9_notes_45 ?_
          refine xw_put (ws' := [mO a₀ q₀ th₀ (un₀ - 1) mf₀ ty₀ fr₀ tt₀ tk₀ fa₀ (bz hf₀) (bz ho₀) km₀, (q₀ 1, .inl (k₀ 0, 51, .inl (ia s₀))), (q₀ 3, .inl (k₀ 0, 306, .inl (ia (cpz pa₀ pa₀ 51 0 255))))]) (v := .int (iI (un₀ - 1))) C₀ hH₀ 0 rfl rfl tyX9 tyX9_ok nmX9 4 (by decide) iw_X9_notes_X9 (by decide +kernel) rfl rfl rfl (Nat.le_of_ble_eq_true rfl) dX9_notes_46 rfl (fun H₀ locs₀ hH₀ => ?_)
          refine lv_iconst (v := iI 0) C₀.1.1 C₀.1.2.1 dX9_notes_49 (by decide) ?_
          refine lv_istore_n (lv' := [(1, .int (iI 0)), (0, .ref a₀)]) C₀.1.1 C₀.1.2.1 dX9_notes_50 rfl hl₀ (by decide) rfl (fun ls₀ hl₀ => ?_)
          have L51₀ : ∀ (nn₀ : Nat), ∀ (c₀ : Int) (pq₀ : Int → Int), (pq₀ = cpz s₀ (cpz pa₀ pa₀ 51 0 255) 0 (51 * (un₀ - 1)) c₀) → (0 ≤ c₀ ∧ c₀ ≤ 51) → ((51 - c₀) < (nn₀ : Int)) → ∀ (H₀ : Heap) (locs₀ : List Loc) (ls₀ : Array Slot), Hp D₀ A₀ sT₀.heap [mO a₀ q₀ th₀ (un₀ - 1) mf₀ ty₀ fr₀ tt₀ tk₀ fa₀ (bz hf₀) (bz ho₀) km₀, (q₀ 1, .inl (k₀ 0, 51, .inl (ia s₀))), (q₀ 3, .inl (k₀ 0, 306, .inl (ia pq₀)))] H₀ locs₀ → lv_has ls₀ 2 [(0, .ref a₀), (1, .int (iI c₀))] → W pP₀ lL₀ eN₀ rmX9_notes sT₀ mI₀ args₀ below₀ meth₀ cD₀ H₀ locs₀ 0 0 QQ₀ (F0 mI₀ 51 ls₀ []) := by
            intro nn₀
            induction nn₀ with
            | zero => intro c₀ pq₀ j1₀ j2₀ hm₀; exact absurd hm₀ (by omega)
            | succ nn₀ ih51₀ =>
              intro c₀ pq₀ j1₀ j2₀ hm51₀ H₀ locs₀ ls₀ hH₀ hl₀
              refine lv_iload_n C₀.1.1 C₀.1.2.1 dX9_notes_51 rfl (lv_at hl₀ 1 rfl) ?_
              refine lv_bipush (v := iI 51) C₀.1.1 C₀.1.2.1 dX9_notes_52 (by decide) ?_
              refine xi_cge (tgt := 83) C₀.1.1 C₀.1.2.1 dX9_notes_54 (by decide) (by omega) (by omega) (fun h_4₀ => ?_) (fun h_4₀ => ?_)
              · have ec2₀ : c₀ = 51 := by omega
                subst ec2₀
                refine lv_aload_n C₀.1.1 C₀.1.2.1 dX9_notes_83 rfl (lv_at hl₀ 0 rfl) ?_
                refine lv_dup C₀.1.1 C₀.1.2.1 dX9_notes_84 rfl ?_
                refine xw_get C₀ hH₀ 0 rfl rfl 4 (by decide) iw_X9_notes_X9 (by decide +kernel) (v := .int (iI (un₀ - 1))) rfl dX9_notes_85 ?_
                refine lv_iconst (v := iI 1) C₀.1.1 C₀.1.2.1 dX9_notes_88 (by decide) ?_
                refine xi_add C₀.1.1 C₀.1.2.1 dX9_notes_89 ?_
                refine xw_put (ws' := [mO a₀ q₀ th₀ (un₀ - 1 + 1) mf₀ ty₀ fr₀ tt₀ tk₀ fa₀ (bz hf₀) (bz ho₀) km₀, (q₀ 1, .inl (k₀ 0, 51, .inl (ia s₀))), (q₀ 3, .inl (k₀ 0, 306, .inl (ia pq₀)))]) (v := .int (iI (un₀ - 1 + 1))) C₀ hH₀ 0 rfl rfl tyX9 tyX9_ok nmX9 4 (by decide) iw_X9_notes_X9 (by decide +kernel) rfl rfl rfl (Nat.le_of_ble_eq_true rfl) dX9_notes_90 rfl (fun H₀ locs₀ hH₀ => ?_)
                exact xr_v C₀ hH₀ hlk₀ hr₀ hQ₀ hAe₀ () trivial (by simp (disch := omega) only [mPa, mUn, if_pos, if_neg, j1₀]; try (rw [show (un₀ - 1 + 1 : Int) = 6 by omega, show 51 * (un₀ - 1) = 255 by omega])) dX9_notes_93
              · refine lv_aload_n C₀.1.1 C₀.1.2.1 dX9_notes_57 rfl (lv_at hl₀ 0 rfl) ?_
                refine xw_get C₀ hH₀ 0 rfl rfl 3 (by decide) iw_X9_notes_X9 (by decide +kernel) (v := .ref (q₀ 3)) rfl dX9_notes_58 ?_
                refine lv_bipush (v := iI 51) C₀.1.1 C₀.1.2.1 dX9_notes_61 (by decide) ?_
                refine lv_aload_n C₀.1.1 C₀.1.2.1 dX9_notes_63 rfl (lv_at hl₀ 0 rfl) ?_
                refine xw_get C₀ hH₀ 0 rfl rfl 4 (by decide) iw_X9_notes_X9 (by decide +kernel) (v := .int (iI (un₀ - 1))) rfl dX9_notes_64 ?_
                refine xi_mul C₀.1.1 C₀.1.2.1 dX9_notes_67 ?_
                refine lv_iload_n C₀.1.1 C₀.1.2.1 dX9_notes_68 rfl (lv_at hl₀ 1 rfl) ?_
                refine xi_add C₀.1.1 C₀.1.2.1 dX9_notes_69 ?_
                refine lv_aload_n C₀.1.1 C₀.1.2.1 dX9_notes_70 rfl (lv_at hl₀ 0 rfl) ?_
                refine xw_get C₀ hH₀ 0 rfl rfl 1 (by decide) iw_X9_notes_X9 (by decide +kernel) (v := .ref (q₀ 1)) rfl dX9_notes_71 ?_
                refine lv_iload_n C₀.1.1 C₀.1.2.1 dX9_notes_74 rfl (lv_at hl₀ 1 rfl) ?_
                refine xw_ild C₀ hH₀ 1 0 rfl rfl (z := c₀) (by omega) (by omega) (by decide) dX9_notes_75 ?_
                refine xw_ist (ws' := [mO a₀ q₀ th₀ (un₀ - 1) mf₀ ty₀ fr₀ tt₀ tk₀ fa₀ (bz hf₀) (bz ho₀) km₀, (q₀ 1, .inl (k₀ 0, 51, .inl (ia s₀))), (q₀ 3, .inl (k₀ 0, 306, .inl (ia (uz pq₀ (51 * (un₀ - 1) + c₀) (s₀ c₀)))))]) C₀ hH₀ 2 0 rfl rfl (z := 51 * (un₀ - 1) + c₀) (v := s₀ c₀) (by omega) (by omega) (by decide) dX9_notes_76 rfl (fun H₀ locs₀ hH₀ => ?_)
                refine lv_iinc (v := iI (c₀ + 1)) (lv' := [(1, .int (iI (c₀ + 1))), (0, .ref a₀)]) C₀.1.1 C₀.1.2.1 dX9_notes_77 hl₀ (k := 1) rfl (iI_add _ (1)) (by decide) rfl (fun ls₀ hl₀ => ?_)
                refine lv_goto (tgt := 51) C₀.1.1 C₀.1.2.1 dX9_notes_80 (by decide) ?_
                exact ih51₀ (c₀ + 1) (uz pq₀ (51 * (un₀ - 1) + c₀) (s₀ c₀)) (by rw [j1₀]; exact cpz_s (by omega) (by omega) (by first | rfl | (congr 1; omega))) (by omega) (by omega) _ _ _ hH₀ (lv_sub hl₀ [1, 0] rfl)
          exact L51₀ (((51 - 0) : Int).toNat + 1) 0 (cpz pa₀ pa₀ 51 0 255) ((cpz_0 _ _ _ _).symm) (by omega) (by omega) _ _ _ hH₀ (lv_sub hl₀ [1, 0] rfl)
        · refine lv_aload_n C₀.1.1 C₀.1.2.1 dX9_notes_18 rfl (lv_at hl₀ 0 rfl) ?_
          refine xw_get C₀ hH₀ 0 rfl rfl 3 (by decide) iw_X9_notes_X9 (by decide +kernel) (v := .ref (q₀ 3)) rfl dX9_notes_19 ?_
          refine lv_iload_n C₀.1.1 C₀.1.2.1 dX9_notes_22 rfl (lv_at hl₀ 1 rfl) ?_
          refine lv_aload_n C₀.1.1 C₀.1.2.1 dX9_notes_23 rfl (lv_at hl₀ 0 rfl) ?_
          refine xw_get C₀ hH₀ 0 rfl rfl 3 (by decide) iw_X9_notes_X9 (by decide +kernel) (v := .ref (q₀ 3)) rfl dX9_notes_24 ?_
          refine lv_iload_n C₀.1.1 C₀.1.2.1 dX9_notes_27 rfl (lv_at hl₀ 1 rfl) ?_
          refine lv_bipush (v := iI 51) C₀.1.1 C₀.1.2.1 dX9_notes_28 (by decide) ?_
          refine xi_add C₀.1.1 C₀.1.2.1 dX9_notes_30 ?_
          refine xw_ild C₀ hH₀ 2 0 rfl rfl (z := c₀ + 51) (by omega) (by omega) (by decide) dX9_notes_31 ?_
          refine xw_ist (ws' := [mO a₀ q₀ th₀ un₀ mf₀ ty₀ fr₀ tt₀ tk₀ fa₀ (bz hf₀) (bz ho₀) km₀, (q₀ 1, .inl (k₀ 0, 51, .inl (ia s₀))), (q₀ 3, .inl (k₀ 0, 306, .inl (ia (uz pq₀ c₀ (pq₀ (c₀ + 51))))))]) C₀ hH₀ 2 0 rfl rfl (z := c₀) (v := pq₀ (c₀ + 51)) (by omega) (by omega) (by decide) dX9_notes_32 rfl (fun H₀ locs₀ hH₀ => ?_)
          refine lv_iinc (v := iI (c₀ + 1)) (lv' := [(1, .int (iI (c₀ + 1))), (0, .ref a₀)]) C₀.1.1 C₀.1.2.1 dX9_notes_33 hl₀ (k := 1) rfl (iI_add _ (1)) (by decide) rfl (fun ls₀ hl₀ => ?_)
          refine lv_goto (tgt := 11) C₀.1.1 C₀.1.2.1 dX9_notes_36 (by decide) ?_
          exact ih11₀ (c₀ + 1) (uz pq₀ c₀ (pq₀ (c₀ + 51))) (by rw [i1₀]; exact cpz_s (by omega) (by omega) (by rw [cpz_out (by omega)]; congr 1; omega)) (by omega) (by omega) _ _ _ hH₀ (lv_sub hl₀ [1, 0] rfl)
    exact L11₀ (((255 - 0) : Int).toNat + 1) 0 pa₀ ((cpz_0 _ _ _ _).symm) (by omega) (by omega) _ _ _ hH₀ (lv_sub hl₀ [1, 0] rfl)
theorem iw_X9_undo_X9 : ∀ w₀ ∈ u_ws RX9 TX9 24, w₀ ∈ wsX9_undo := (fun w₀ h₀ => List.mem_cons_of_mem _ (List.mem_append_right _ h₀))
abbrev rmX9_undo : Room := { frames := 0, cells := 0, slots := 0, locals := 0 }
set_option maxHeartbeats 4000000 in
set_option maxRecDepth 100000 in
/-- undo -/
theorem c_X9_undo (lL₀ : Launch) (D₀ : va_G) (k₀ : Nat → ClassId) (sz₀ : Nat) (a₀ : Nat) (q₀ : Nat → Nat) (th₀ : Int) (un₀ : Int) (mf₀ : Int) (ty₀ : Int) (fr₀ : Int) (tt₀ : Int) (tk₀ : Int) (fa₀ : Int) (hf₀ : Bool) (ho₀ : Bool) (km₀ : Int) (s₀ : Int → Int) (pa₀ : Int → Int) (hun₀ : 0 ≤ un₀ ∧ un₀ ≤ 6) : Met lL₀ yX9_undo wsX9_undo rmX9_undo (gPc ZT D₀ (tyk k₀) [.ref a₀] sz₀ [mO a₀ q₀ th₀ un₀ mf₀ ty₀ fr₀ tt₀ tk₀ fa₀ (bz hf₀) (bz ho₀) km₀, (q₀ 1, .inl (k₀ 0, 51, .inl (ia s₀))), (q₀ 3, .inl (k₀ 0, 306, .inl (ia pa₀)))]) (gQi D₀ (tyk k₀) [mO a₀ q₀ th₀ un₀ mf₀ ty₀ fr₀ tt₀ tk₀ fa₀ (bz hf₀) (bz ho₀) km₀, (q₀ 1, .inl (k₀ 0, 51, .inl (ia s₀))), (q₀ 3, .inl (k₀ 0, 306, .inl (ia pa₀)))] sz₀ (fun (_ : Unit) => True) (fun (_ : Unit) => (iI (mUndoR un₀))) (fun (_ : Unit) => [mO a₀ q₀ 0 (mUndoU un₀) mf₀ ty₀ fr₀ tt₀ tk₀ fa₀ (bz hf₀) (bz ho₀) km₀, (q₀ 1, .inl (k₀ 0, 51, .inl (ia (mUndoS s₀ pa₀ un₀)))), (q₀ 3, .inl (k₀ 0, 306, .inl (ia pa₀)))])) 0 0 (va_A [mO a₀ q₀ th₀ un₀ mf₀ ty₀ fr₀ tt₀ tk₀ fa₀ (bz hf₀) (bz ho₀) km₀, (q₀ 1, .inl (k₀ 0, 51, .inl (ia s₀))), (q₀ 3, .inl (k₀ 0, 306, .inl (ia pa₀)))] sz₀) := by
  refine xs_met (cc := cX9_undo) (maxL := 2) (ret := some .int) (by decide) rfl (Nat.le_of_ble_eq_true rfl) ?_
  intro pP₀ eN₀ sT₀ mI₀ below₀ meth₀ cD₀ hsz₀ args₀ QQ₀ C₀ hr₀ hlk₀ hnm₀ hQ₀ ls₀ H₀ locs₀ hl₀ hH₀
  subst hsz₀
  have hl₀ : lv_has ls₀ 2 [(0, .ref a₀)] := hl₀
  generalize hAe₀ : va_A [mO a₀ q₀ th₀ un₀ mf₀ ty₀ fr₀ tt₀ tk₀ fa₀ (bz hf₀) (bz ho₀) km₀, (q₀ 1, .inl (k₀ 0, 51, .inl (ia s₀))), (q₀ 3, .inl (k₀ 0, 306, .inl (ia pa₀)))] sT₀.heap.size = A₀ at C₀ hH₀ hQ₀
  refine lv_aload_n C₀.1.1 C₀.1.2.1 dX9_undo_0 rfl (lv_at hl₀ 0 rfl) ?_
  refine lv_iconst (v := iI 0) C₀.1.1 C₀.1.2.1 dX9_undo_1 (by decide) ?_
  refine xw_put (ws' := [mO a₀ q₀ 0 un₀ mf₀ ty₀ fr₀ tt₀ tk₀ fa₀ (bz hf₀) (bz ho₀) km₀, (q₀ 1, .inl (k₀ 0, 51, .inl (ia s₀))), (q₀ 3, .inl (k₀ 0, 306, .inl (ia pa₀)))]) (v := .int (iI 0)) C₀ hH₀ 0 rfl rfl tyX9 tyX9_ok nmX9 0 (by decide) iw_X9_undo_X9 (by decide +kernel) rfl rfl rfl (Nat.le_of_ble_eq_true rfl) dX9_undo_2 rfl (fun H₀ locs₀ hH₀ => ?_)
  refine lv_aload_n C₀.1.1 C₀.1.2.1 dX9_undo_5 rfl (lv_at hl₀ 0 rfl) ?_
  refine xw_get C₀ hH₀ 0 rfl rfl 4 (by decide) iw_X9_undo_X9 (by decide +kernel) (v := .int (iI un₀)) rfl dX9_undo_6 ?_
  refine xi_zne (tgt := 15) C₀.1.1 C₀.1.2.1 dX9_undo_9 (by decide) (by omega) (fun h_1₀ => ?_) (fun h_1₀ => ?_)
  · refine lv_aload_n C₀.1.1 C₀.1.2.1 dX9_undo_15 rfl (lv_at hl₀ 0 rfl) ?_
    refine lv_dup C₀.1.1 C₀.1.2.1 dX9_undo_16 rfl ?_
    refine xw_get C₀ hH₀ 0 rfl rfl 4 (by decide) iw_X9_undo_X9 (by decide +kernel) (v := .int (iI un₀)) rfl dX9_undo_17 ?_
    refine lv_iconst (v := iI 1) C₀.1.1 C₀.1.2.1 dX9_undo_20 (by decide) ?_
    refine xi_sub C₀.1.1 C₀.1.2.1 dX9_undo_21 ?_
    refine xw_put (ws' := [mO a₀ q₀ 0 (un₀ - 1) mf₀ ty₀ fr₀ tt₀ tk₀ fa₀ (bz hf₀) (bz ho₀) km₀, (q₀ 1, .inl (k₀ 0, 51, .inl (ia s₀))), (q₀ 3, .inl (k₀ 0, 306, .inl (ia pa₀)))]) (v := .int (iI (un₀ - 1))) C₀ hH₀ 0 rfl rfl tyX9 tyX9_ok nmX9 4 (by decide) iw_X9_undo_X9 (by decide +kernel) rfl rfl rfl (Nat.le_of_ble_eq_true rfl) dX9_undo_22 rfl (fun H₀ locs₀ hH₀ => ?_)
    refine lv_iconst (v := iI 0) C₀.1.1 C₀.1.2.1 dX9_undo_25 (by decide) ?_
    refine lv_istore_n (lv' := [(1, .int (iI 0)), (0, .ref a₀)]) C₀.1.1 C₀.1.2.1 dX9_undo_26 rfl hl₀ (by decide) rfl (fun ls₀ hl₀ => ?_)
    have L27₀ : ∀ (nn₀ : Nat), ∀ (c₀ : Int) (sq₀ : Int → Int), (sq₀ = cpz pa₀ s₀ (51 * (un₀ - 1)) 0 c₀) → (0 ≤ c₀ ∧ c₀ ≤ 51) → ((51 - c₀) < (nn₀ : Int)) → ∀ (H₀ : Heap) (locs₀ : List Loc) (ls₀ : Array Slot), Hp D₀ A₀ sT₀.heap [mO a₀ q₀ 0 (un₀ - 1) mf₀ ty₀ fr₀ tt₀ tk₀ fa₀ (bz hf₀) (bz ho₀) km₀, (q₀ 1, .inl (k₀ 0, 51, .inl (ia sq₀))), (q₀ 3, .inl (k₀ 0, 306, .inl (ia pa₀)))] H₀ locs₀ → lv_has ls₀ 2 [(0, .ref a₀), (1, .int (iI c₀))] → W pP₀ lL₀ eN₀ rmX9_undo sT₀ mI₀ args₀ below₀ meth₀ cD₀ H₀ locs₀ 0 0 QQ₀ (F0 mI₀ 27 ls₀ []) := by
      intro nn₀
      induction nn₀ with
      | zero => intro c₀ sq₀ i1₀ i2₀ hm₀; exact absurd hm₀ (by omega)
      | succ nn₀ ih27₀ =>
        intro c₀ sq₀ i1₀ i2₀ hm27₀ H₀ locs₀ ls₀ hH₀ hl₀
        refine lv_iload_n C₀.1.1 C₀.1.2.1 dX9_undo_27 rfl (lv_at hl₀ 1 rfl) ?_
        refine lv_bipush (v := iI 51) C₀.1.1 C₀.1.2.1 dX9_undo_28 (by decide) ?_
        refine xi_cge (tgt := 59) C₀.1.1 C₀.1.2.1 dX9_undo_30 (by decide) (by omega) (by omega) (fun h_2₀ => ?_) (fun h_2₀ => ?_)
        · have ec₀ : c₀ = 51 := by omega
          subst ec₀
          subst i1₀
          refine lv_aload_n C₀.1.1 C₀.1.2.1 dX9_undo_59 rfl (lv_at hl₀ 0 rfl) ?_
          refine xw_get C₀ hH₀ 0 rfl rfl 4 (by decide) iw_X9_undo_X9 (by decide +kernel) (v := .int (iI (un₀ - 1))) rfl dX9_undo_60 ?_
          exact xr_i C₀ hH₀ hlk₀ hr₀ hQ₀ rfl hAe₀ () trivial (by simp (disch := omega) only [mUndoR, if_pos, if_neg]) (by simp (disch := omega) only [mUndoU, mUndoS, if_pos, if_neg]) dX9_undo_63
        · refine lv_aload_n C₀.1.1 C₀.1.2.1 dX9_undo_33 rfl (lv_at hl₀ 0 rfl) ?_
          refine xw_get C₀ hH₀ 0 rfl rfl 1 (by decide) iw_X9_undo_X9 (by decide +kernel) (v := .ref (q₀ 1)) rfl dX9_undo_34 ?_
          refine lv_iload_n C₀.1.1 C₀.1.2.1 dX9_undo_37 rfl (lv_at hl₀ 1 rfl) ?_
          refine lv_aload_n C₀.1.1 C₀.1.2.1 dX9_undo_38 rfl (lv_at hl₀ 0 rfl) ?_
          refine xw_get C₀ hH₀ 0 rfl rfl 3 (by decide) iw_X9_undo_X9 (by decide +kernel) (v := .ref (q₀ 3)) rfl dX9_undo_39 ?_
          refine lv_bipush (v := iI 51) C₀.1.1 C₀.1.2.1 dX9_undo_42 (by decide) ?_
          refine lv_aload_n C₀.1.1 C₀.1.2.1 dX9_undo_44 rfl (lv_at hl₀ 0 rfl) ?_
          refine xw_get C₀ hH₀ 0 rfl rfl 4 (by decide) iw_X9_undo_X9 (by decide +kernel) (v := .int (iI (un₀ - 1))) rfl dX9_undo_45 ?_
          refine xi_mul C₀.1.1 C₀.1.2.1 dX9_undo_48 ?_
          refine lv_iload_n C₀.1.1 C₀.1.2.1 dX9_undo_49 rfl (lv_at hl₀ 1 rfl) ?_
          refine xi_add C₀.1.1 C₀.1.2.1 dX9_undo_50 ?_
          refine xw_ild C₀ hH₀ 2 0 rfl rfl (z := 51 * (un₀ - 1) + c₀) (by omega) (by omega) (by decide) dX9_undo_51 ?_
          refine xw_ist (ws' := [mO a₀ q₀ 0 (un₀ - 1) mf₀ ty₀ fr₀ tt₀ tk₀ fa₀ (bz hf₀) (bz ho₀) km₀, (q₀ 1, .inl (k₀ 0, 51, .inl (ia (uz sq₀ c₀ (pa₀ (51 * (un₀ - 1) + c₀)))))), (q₀ 3, .inl (k₀ 0, 306, .inl (ia pa₀)))]) C₀ hH₀ 1 0 rfl rfl (z := c₀) (v := pa₀ (51 * (un₀ - 1) + c₀)) (by omega) (by omega) (by decide) dX9_undo_52 rfl (fun H₀ locs₀ hH₀ => ?_)
          refine lv_iinc (v := iI (c₀ + 1)) (lv' := [(1, .int (iI (c₀ + 1))), (0, .ref a₀)]) C₀.1.1 C₀.1.2.1 dX9_undo_53 hl₀ (k := 1) rfl (iI_add _ (1)) (by decide) rfl (fun ls₀ hl₀ => ?_)
          refine lv_goto (tgt := 27) C₀.1.1 C₀.1.2.1 dX9_undo_56 (by decide) ?_
          exact ih27₀ (c₀ + 1) (uz sq₀ c₀ (pa₀ (51 * (un₀ - 1) + c₀))) (by rw [i1₀]; exact cpz_s (by omega) (by omega) rfl) (by omega) (by omega) _ _ _ hH₀ (lv_sub hl₀ [1, 0] rfl)
    exact L27₀ (((51 - 0) : Int).toNat + 1) 0 s₀ ((cpz_0 _ _ _ _).symm) (by omega) (by omega) _ _ _ hH₀ (lv_sub hl₀ [1, 0] rfl)
  · refine lv_bipush (v := iI (-2)) C₀.1.1 C₀.1.2.1 dX9_undo_12 (by decide) ?_
    exact xr_i C₀ hH₀ hlk₀ hr₀ hQ₀ rfl hAe₀ () trivial (by simp (disch := omega) only [mUndoR, if_pos, if_neg]) (by simp (disch := omega) only [mUndoU, mUndoS, if_pos, if_neg]) dX9_undo_14
theorem iw_X9_forget_X9 : ∀ w₀ ∈ u_ws RX9 TX9 24, w₀ ∈ wsX9_forget := (fun w₀ h₀ => List.mem_cons_of_mem _ (List.mem_append_right _ h₀))
abbrev rmX9_forget : Room := { frames := 0, cells := 0, slots := 0, locals := 0 }
set_option maxHeartbeats 4000000 in
set_option maxRecDepth 100000 in
/-- forget -/
theorem c_X9_forget (lL₀ : Launch) (D₀ : va_G) (k₀ : Nat → ClassId) (sz₀ : Nat) (a₀ : Nat) (q₀ : Nat → Nat) (th₀ : Int) (un₀ : Int) (mf₀ : Int) (ty₀ : Int) (fr₀ : Int) (tt₀ : Int) (tk₀ : Int) (fa₀ : Int) (hf₀ : Bool) (ho₀ : Bool) (km₀ : Int)  : Met lL₀ yX9_forget wsX9_forget rmX9_forget (gPc ZT D₀ (tyk k₀) [.ref a₀] sz₀ [mO a₀ q₀ th₀ un₀ mf₀ ty₀ fr₀ tt₀ tk₀ fa₀ (bz hf₀) (bz ho₀) km₀]) (gQi D₀ (tyk k₀) [mO a₀ q₀ th₀ un₀ mf₀ ty₀ fr₀ tt₀ tk₀ fa₀ (bz hf₀) (bz ho₀) km₀] sz₀ (fun (_ : Unit) => True) (fun (_ : Unit) => (iI mf₀)) (fun (_ : Unit) => [mO a₀ q₀ 0 un₀ 0 ty₀ fr₀ tt₀ tk₀ fa₀ (bz hf₀) (bz ho₀) km₀])) 0 0 (va_A [mO a₀ q₀ th₀ un₀ mf₀ ty₀ fr₀ tt₀ tk₀ fa₀ (bz hf₀) (bz ho₀) km₀] sz₀) := by
  refine xs_met (cc := cX9_forget) (maxL := 2) (ret := some .int) (by decide) rfl (Nat.le_of_ble_eq_true rfl) ?_
  intro pP₀ eN₀ sT₀ mI₀ below₀ meth₀ cD₀ hsz₀ args₀ QQ₀ C₀ hr₀ hlk₀ hnm₀ hQ₀ ls₀ H₀ locs₀ hl₀ hH₀
  subst hsz₀
  have hl₀ : lv_has ls₀ 2 [(0, .ref a₀)] := hl₀
  generalize hAe₀ : va_A [mO a₀ q₀ th₀ un₀ mf₀ ty₀ fr₀ tt₀ tk₀ fa₀ (bz hf₀) (bz ho₀) km₀] sT₀.heap.size = A₀ at C₀ hH₀ hQ₀
  refine lv_aload_n C₀.1.1 C₀.1.2.1 dX9_forget_0 rfl (lv_at hl₀ 0 rfl) ?_
  refine lv_iconst (v := iI 0) C₀.1.1 C₀.1.2.1 dX9_forget_1 (by decide) ?_
  refine xw_put (ws' := [mO a₀ q₀ 0 un₀ mf₀ ty₀ fr₀ tt₀ tk₀ fa₀ (bz hf₀) (bz ho₀) km₀]) (v := .int (iI 0)) C₀ hH₀ 0 rfl rfl tyX9 tyX9_ok nmX9 0 (by decide) iw_X9_forget_X9 (by decide +kernel) rfl rfl rfl (Nat.le_of_ble_eq_true rfl) dX9_forget_2 rfl (fun H₀ locs₀ hH₀ => ?_)
  refine lv_aload_n C₀.1.1 C₀.1.2.1 dX9_forget_5 rfl (lv_at hl₀ 0 rfl) ?_
  refine xw_get C₀ hH₀ 0 rfl rfl 8 (by decide) iw_X9_forget_X9 (by decide +kernel) (v := .int (iI mf₀)) rfl dX9_forget_6 ?_
  refine lv_istore_n (lv' := [(1, .int (iI mf₀)), (0, .ref a₀)]) C₀.1.1 C₀.1.2.1 dX9_forget_9 rfl hl₀ (by decide) rfl (fun ls₀ hl₀ => ?_)
  refine lv_aload_n C₀.1.1 C₀.1.2.1 dX9_forget_10 rfl (lv_at hl₀ 1 rfl) ?_
  refine lv_iconst (v := iI 0) C₀.1.1 C₀.1.2.1 dX9_forget_11 (by decide) ?_
  refine xw_put (ws' := [mO a₀ q₀ 0 un₀ 0 ty₀ fr₀ tt₀ tk₀ fa₀ (bz hf₀) (bz ho₀) km₀]) (v := .int (iI 0)) C₀ hH₀ 0 rfl rfl tyX9 tyX9_ok nmX9 8 (by decide) iw_X9_forget_X9 (by decide +kernel) rfl rfl rfl (Nat.le_of_ble_eq_true rfl) dX9_forget_12 rfl (fun H₀ locs₀ hH₀ => ?_)
  refine lv_iload_n C₀.1.1 C₀.1.2.1 dX9_forget_15 rfl (lv_at hl₀ 0 rfl) ?_
  exact xr_i C₀ hH₀ hlk₀ hr₀ hQ₀ rfl hAe₀ () trivial rfl rfl dX9_forget_16
theorem iw_X9_sees_X9 : ∀ w₀ ∈ u_ws RX9 TX9 24, w₀ ∈ wsX9_sees := (fun w₀ h₀ => List.mem_cons_of_mem _ (List.mem_append_right _ h₀))
abbrev rmX9_sees : Room := { frames := 1, cells := 0, slots := 0, locals := 22 }
set_option maxHeartbeats 4000000 in
set_option maxRecDepth 100000 in
/-- sees -/
theorem c_X9_sees (lL₀ : Launch) (D₀ : va_G) (k₀ : Nat → ClassId) (sz₀ : Nat) (a₀ : Nat) (q₀ : Nat → Nat) (th₀ : Int) (un₀ : Int) (mf₀ : Int) (ty₀ : Int) (fr₀ : Int) (tt₀ : Int) (tk₀ : Int) (fa₀ : Int) (hf₀ : Bool) (ho₀ : Bool) (km₀ : Int) (fc₀ : Int → Int) (la₀ : Int) (x : Int) (hl1₀ : -2147483648 ≤ la₀ ∧ la₀ < 2147483648) (hx₀ : -2147483648 ≤ x ∧ x < 2147483648) (hmf₀ : 0 ≤ mf₀ ∧ mf₀ ≤ 6) : Met lL₀ yX9_sees wsX9_sees rmX9_sees (gPc ZT D₀ (tyk k₀) [.ref a₀, .int (iI la₀), .int (iI x)] sz₀ [mO a₀ q₀ th₀ un₀ mf₀ ty₀ fr₀ tt₀ tk₀ fa₀ (bz hf₀) (bz ho₀) km₀, (q₀ 7, .inl (k₀ 0, 12, .inl (ia fc₀)))]) (gQi D₀ (tyk k₀) [mO a₀ q₀ th₀ un₀ mf₀ ty₀ fr₀ tt₀ tk₀ fa₀ (bz hf₀) (bz ho₀) km₀, (q₀ 7, .inl (k₀ 0, 12, .inl (ia fc₀)))] sz₀ (fun (_ : Unit) => True) (fun (_ : Unit) => (iI (mSeesR mf₀ la₀ x))) (fun (_ : Unit) => [mO a₀ q₀ 0 un₀ (mSeesN mf₀ la₀ x) ty₀ fr₀ tt₀ tk₀ fa₀ (bz hf₀) (bz ho₀) km₀, (q₀ 7, .inl (k₀ 0, 12, .inl (ia (mSeesF fc₀ mf₀ la₀ x))))])) 0 0 (va_A [mO a₀ q₀ th₀ un₀ mf₀ ty₀ fr₀ tt₀ tk₀ fa₀ (bz hf₀) (bz ho₀) km₀, (q₀ 7, .inl (k₀ 0, 12, .inl (ia fc₀)))] sz₀) := by
  refine xs_met (cc := cX9_sees) (maxL := 3) (ret := some .int) (by decide) rfl (Nat.le_of_ble_eq_true rfl) ?_
  intro pP₀ eN₀ sT₀ mI₀ below₀ meth₀ cD₀ hsz₀ args₀ QQ₀ C₀ hr₀ hlk₀ hnm₀ hQ₀ ls₀ H₀ locs₀ hl₀ hH₀
  subst hsz₀
  have hl₀ : lv_has ls₀ 3 [(0, .ref a₀), (1, .int (iI la₀)), (2, .int (iI x))] := hl₀
  generalize hAe₀ : va_A [mO a₀ q₀ th₀ un₀ mf₀ ty₀ fr₀ tt₀ tk₀ fa₀ (bz hf₀) (bz ho₀) km₀, (q₀ 7, .inl (k₀ 0, 12, .inl (ia fc₀)))] sT₀.heap.size = A₀ at C₀ hH₀ hQ₀
  refine lv_aload_n C₀.1.1 C₀.1.2.1 dX9_sees_0 rfl (lv_at hl₀ 0 rfl) ?_
  refine lv_iconst (v := iI 0) C₀.1.1 C₀.1.2.1 dX9_sees_1 (by decide) ?_
  refine xw_put (ws' := [mO a₀ q₀ 0 un₀ mf₀ ty₀ fr₀ tt₀ tk₀ fa₀ (bz hf₀) (bz ho₀) km₀, (q₀ 7, .inl (k₀ 0, 12, .inl (ia fc₀)))]) (v := .int (iI 0)) C₀ hH₀ 0 rfl rfl tyX9 tyX9_ok nmX9 0 (by decide) iw_X9_sees_X9 (by decide +kernel) rfl rfl rfl (Nat.le_of_ble_eq_true rfl) dX9_sees_2 rfl (fun H₀ locs₀ hH₀ => ?_)
  refine lv_iload_n C₀.1.1 C₀.1.2.1 dX9_sees_5 rfl (lv_at hl₀ 1 rfl) ?_
  refine lv_iconst (v := iI 1) C₀.1.1 C₀.1.2.1 dX9_sees_6 (by decide) ?_
  refine lv_iconst (v := iI 3) C₀.1.1 C₀.1.2.1 dX9_sees_7 (by decide) ?_
  refine xc_Si (wr := [mO a₀ q₀ 0 un₀ mf₀ ty₀ fr₀ tt₀ tk₀ fa₀ (bz hf₀) (bz ho₀) km₀, (q₀ 7, .inl (k₀ 0, 12, .inl (ia fc₀)))]) (ws' := fun _ => [mO a₀ q₀ 0 un₀ mf₀ ty₀ fr₀ tt₀ tk₀ fa₀ (bz hf₀) (bz ho₀) km₀, (q₀ 7, .inl (k₀ 0, 12, .inl (ia fc₀)))]) (As := [.int (iI la₀), .int (iI 1), .int (iI 3)]) (rest := []) C₀ hH₀ (c_X9_in lL₀ D₀ k₀ H₀.size la₀ 1 3 (by omega) (by omega) (by omega)) ZT_b (fun _ _ _ => trivial) (va_cwS 3 C₀.1.2.2.2.2 gX9_sees_X9_in rfl rfl rfl (by decide +kernel) ⟨Nat.le_of_ble_eq_true rfl, Nat.le_of_ble_eq_true rfl⟩) [] [0, 1] [0, 1] rfl rfl (by decide) (by decide) (by decide) (fun _ => rfl) (by decide) rfl hl₀.1 rfl (Nat.le_of_ble_eq_true rfl) dX9_sees_8 ⟨Nat.le_of_ble_eq_true rfl, Nat.le_of_ble_eq_true rfl⟩ (fun _ _ H₀ locs₀ hH₀ => ?_)
  refine xp_eq (tgt := 30) C₀.1.1 C₀.1.2.1 dX9_sees_11 (by decide) (fun h_1₀ => ?_) (fun h_1₀ => ?_)
  · refine lv_iconst (v := iI (-1)) C₀.1.1 C₀.1.2.1 dX9_sees_30 (by decide) ?_
    exact xr_i C₀ hH₀ hlk₀ hr₀ hQ₀ rfl hAe₀ () trivial (by simp (disch := omega) only [mSeesR, if_pos, if_neg]) (by simp (disch := omega) only [mSeesN, mSeesF, if_pos, if_neg]; try (have e6₀ : mf₀ = 6 := by omega; subst e6₀; rfl)) dX9_sees_31
  · have L32₀ : (0 ≤ x ∧ x ≤ 46 ∨ x = -9) → ∀ (H₀ : Heap) (locs₀ : List Loc) (ls₀ : Array Slot), Hp D₀ A₀ sT₀.heap [mO a₀ q₀ 0 un₀ mf₀ ty₀ fr₀ tt₀ tk₀ fa₀ (bz hf₀) (bz ho₀) km₀, (q₀ 7, .inl (k₀ 0, 12, .inl (ia fc₀)))] H₀ locs₀ → lv_has ls₀ 3 [(0, .ref a₀), (1, .int (iI la₀)), (2, .int (iI x))] → W pP₀ lL₀ eN₀ rmX9_sees sT₀ mI₀ args₀ below₀ meth₀ cD₀ H₀ locs₀ 0 0 QQ₀ (F0 mI₀ 32 ls₀ []) := by
      intro  hq₀ H₀ locs₀ ls₀ hH₀ hl₀
      refine lv_aload_n C₀.1.1 C₀.1.2.1 dX9_sees_32 rfl (lv_at hl₀ 0 rfl) ?_
      refine xw_get C₀ hH₀ 0 rfl rfl 8 (by decide) iw_X9_sees_X9 (by decide +kernel) (v := .int (iI mf₀)) rfl dX9_sees_33 ?_
      refine lv_bipush (v := iI 6) C₀.1.1 C₀.1.2.1 dX9_sees_36 (by decide) ?_
      refine xi_cne (tgt := 44) C₀.1.1 C₀.1.2.1 dX9_sees_38 (by decide) (by omega) (by omega) (fun h_2₀ => ?_) (fun h_2₀ => ?_)
      · refine lv_aload_n C₀.1.1 C₀.1.2.1 dX9_sees_44 rfl (lv_at hl₀ 0 rfl) ?_
        refine xw_get C₀ hH₀ 0 rfl rfl 7 (by decide) iw_X9_sees_X9 (by decide +kernel) (v := .ref (q₀ 7)) rfl dX9_sees_45 ?_
        refine lv_iconst (v := iI 2) C₀.1.1 C₀.1.2.1 dX9_sees_48 (by decide) ?_
        refine lv_aload_n C₀.1.1 C₀.1.2.1 dX9_sees_49 rfl (lv_at hl₀ 0 rfl) ?_
        refine xw_get C₀ hH₀ 0 rfl rfl 8 (by decide) iw_X9_sees_X9 (by decide +kernel) (v := .int (iI mf₀)) rfl dX9_sees_50 ?_
        refine xi_mul C₀.1.1 C₀.1.2.1 dX9_sees_53 ?_
        refine lv_iload_n C₀.1.1 C₀.1.2.1 dX9_sees_54 rfl (lv_at hl₀ 1 rfl) ?_
        refine xw_ist (ws' := [mO a₀ q₀ 0 un₀ mf₀ ty₀ fr₀ tt₀ tk₀ fa₀ (bz hf₀) (bz ho₀) km₀, (q₀ 7, .inl (k₀ 0, 12, .inl (ia (uz fc₀ (2 * mf₀) la₀))))]) C₀ hH₀ 1 0 rfl rfl (z := 2 * mf₀) (v := la₀) (by omega) (by omega) (by decide) dX9_sees_55 rfl (fun H₀ locs₀ hH₀ => ?_)
        refine lv_aload_n C₀.1.1 C₀.1.2.1 dX9_sees_56 rfl (lv_at hl₀ 0 rfl) ?_
        refine xw_get C₀ hH₀ 0 rfl rfl 7 (by decide) iw_X9_sees_X9 (by decide +kernel) (v := .ref (q₀ 7)) rfl dX9_sees_57 ?_
        refine lv_iconst (v := iI 2) C₀.1.1 C₀.1.2.1 dX9_sees_60 (by decide) ?_
        refine lv_aload_n C₀.1.1 C₀.1.2.1 dX9_sees_61 rfl (lv_at hl₀ 0 rfl) ?_
        refine xw_get C₀ hH₀ 0 rfl rfl 8 (by decide) iw_X9_sees_X9 (by decide +kernel) (v := .int (iI mf₀)) rfl dX9_sees_62 ?_
        refine xi_mul C₀.1.1 C₀.1.2.1 dX9_sees_65 ?_
        refine lv_iconst (v := iI 1) C₀.1.1 C₀.1.2.1 dX9_sees_66 (by decide) ?_
        refine xi_add C₀.1.1 C₀.1.2.1 dX9_sees_67 ?_
        refine lv_iload_n C₀.1.1 C₀.1.2.1 dX9_sees_68 rfl (lv_at hl₀ 2 rfl) ?_
        refine xw_ist (ws' := [mO a₀ q₀ 0 un₀ mf₀ ty₀ fr₀ tt₀ tk₀ fa₀ (bz hf₀) (bz ho₀) km₀, (q₀ 7, .inl (k₀ 0, 12, .inl (ia (uz (uz fc₀ (2 * mf₀) la₀) (2 * mf₀ + 1) x))))]) C₀ hH₀ 1 0 rfl rfl (z := 2 * mf₀ + 1) (v := x) (by omega) (by omega) (by decide) dX9_sees_69 rfl (fun H₀ locs₀ hH₀ => ?_)
        refine lv_aload_n C₀.1.1 C₀.1.2.1 dX9_sees_70 rfl (lv_at hl₀ 0 rfl) ?_
        refine lv_dup C₀.1.1 C₀.1.2.1 dX9_sees_71 rfl ?_
        refine xw_get C₀ hH₀ 0 rfl rfl 8 (by decide) iw_X9_sees_X9 (by decide +kernel) (v := .int (iI mf₀)) rfl dX9_sees_72 ?_
        refine lv_iconst (v := iI 1) C₀.1.1 C₀.1.2.1 dX9_sees_75 (by decide) ?_
        refine xi_add C₀.1.1 C₀.1.2.1 dX9_sees_76 ?_
        refine xw_put (ws' := [mO a₀ q₀ 0 un₀ (mf₀ + 1) ty₀ fr₀ tt₀ tk₀ fa₀ (bz hf₀) (bz ho₀) km₀, (q₀ 7, .inl (k₀ 0, 12, .inl (ia (uz (uz fc₀ (2 * mf₀) la₀) (2 * mf₀ + 1) x))))]) (v := .int (iI (mf₀ + 1))) C₀ hH₀ 0 rfl rfl tyX9 tyX9_ok nmX9 8 (by decide) iw_X9_sees_X9 (by decide +kernel) rfl rfl rfl (Nat.le_of_ble_eq_true rfl) dX9_sees_77 rfl (fun H₀ locs₀ hH₀ => ?_)
        refine lv_aload_n C₀.1.1 C₀.1.2.1 dX9_sees_80 rfl (lv_at hl₀ 0 rfl) ?_
        refine xw_get C₀ hH₀ 0 rfl rfl 8 (by decide) iw_X9_sees_X9 (by decide +kernel) (v := .int (iI (mf₀ + 1))) rfl dX9_sees_81 ?_
        exact xr_i C₀ hH₀ hlk₀ hr₀ hQ₀ rfl hAe₀ () trivial (by simp (disch := omega) only [mSeesR, if_pos, if_neg]) (by simp (disch := omega) only [mSeesN, mSeesF, if_pos, if_neg]; try (have e6₀ : mf₀ = 6 := by omega; subst e6₀; rfl)) dX9_sees_84
      · refine lv_bipush (v := iI (-3)) C₀.1.1 C₀.1.2.1 dX9_sees_41 (by decide) ?_
        exact xr_i C₀ hH₀ hlk₀ hr₀ hQ₀ rfl hAe₀ () trivial (by simp (disch := omega) only [mSeesR, if_pos, if_neg]) (by simp (disch := omega) only [mSeesN, mSeesF, if_pos, if_neg]; try (have e6₀ : mf₀ = 6 := by omega; subst e6₀; rfl)) dX9_sees_43
    refine lv_iload_n C₀.1.1 C₀.1.2.1 dX9_sees_14 rfl (lv_at hl₀ 2 rfl) ?_
    refine lv_iconst (v := iI 0) C₀.1.1 C₀.1.2.1 dX9_sees_15 (by decide) ?_
    refine lv_bipush (v := iI 46) C₀.1.1 C₀.1.2.1 dX9_sees_16 (by decide) ?_
    refine xc_Si (wr := [mO a₀ q₀ 0 un₀ mf₀ ty₀ fr₀ tt₀ tk₀ fa₀ (bz hf₀) (bz ho₀) km₀, (q₀ 7, .inl (k₀ 0, 12, .inl (ia fc₀)))]) (ws' := fun _ => [mO a₀ q₀ 0 un₀ mf₀ ty₀ fr₀ tt₀ tk₀ fa₀ (bz hf₀) (bz ho₀) km₀, (q₀ 7, .inl (k₀ 0, 12, .inl (ia fc₀)))]) (As := [.int (iI x), .int (iI 0), .int (iI 46)]) (rest := []) C₀ hH₀ (c_X9_in lL₀ D₀ k₀ H₀.size x 0 46 (by omega) (by omega) (by omega)) ZT_b (fun _ _ _ => trivial) (va_cwS 3 C₀.1.2.2.2.2 gX9_sees_X9_in rfl rfl rfl (by decide +kernel) ⟨Nat.le_of_ble_eq_true rfl, Nat.le_of_ble_eq_true rfl⟩) [] [0, 1] [0, 1] rfl rfl (by decide) (by decide) (by decide) (fun _ => rfl) (by decide) rfl hl₀.1 rfl (Nat.le_of_ble_eq_true rfl) dX9_sees_18 ⟨Nat.le_of_ble_eq_true rfl, Nat.le_of_ble_eq_true rfl⟩ (fun _ _ H₀ locs₀ hH₀ => ?_)
    refine xp_ne (tgt := 32) C₀.1.1 C₀.1.2.1 dX9_sees_21 (by decide) (fun h_3₀ => ?_) (fun h_3₀ => ?_)
    · exact L32₀  (by omega) _ _ _ hH₀ (lv_sub hl₀ [0, 1, 2] rfl)
    · refine lv_iload_n C₀.1.1 C₀.1.2.1 dX9_sees_24 rfl (lv_at hl₀ 2 rfl) ?_
      refine lv_bipush (v := iI (-9)) C₀.1.1 C₀.1.2.1 dX9_sees_25 (by decide) ?_
      refine xi_ceq (tgt := 32) C₀.1.1 C₀.1.2.1 dX9_sees_27 (by decide) (by omega) (by omega) (fun h_4₀ => ?_) (fun h_4₀ => ?_)
      · exact L32₀  (by omega) _ _ _ hH₀ (lv_sub hl₀ [0, 1, 2] rfl)
      · refine lv_iconst (v := iI (-1)) C₀.1.1 C₀.1.2.1 dX9_sees_30 (by decide) ?_
        exact xr_i C₀ hH₀ hlk₀ hr₀ hQ₀ rfl hAe₀ () trivial (by simp (disch := omega) only [mSeesR, if_pos, if_neg]) (by simp (disch := omega) only [mSeesN, mSeesF, if_pos, if_neg]; try (have e6₀ : mf₀ = 6 := by omega; subst e6₀; rfl)) dX9_sees_31
theorem iw_X9_count_X9 : ∀ w₀ ∈ u_ws RX9 TX9 24, w₀ ∈ wsX9_count := (fun w₀ h₀ => List.mem_cons_of_mem _ (List.mem_append_right _ h₀))
abbrev rmX9_count : Room := { frames := 2, cells := 0, slots := 0, locals := 42 }
set_option maxHeartbeats 4000000 in
set_option maxRecDepth 100000 in
/-- count -/
theorem c_X9_count (lL₀ : Launch) (D₀ : va_G) (k₀ : Nat → ClassId) (sz₀ : Nat) (a₀ : Nat) (q₀ : Nat → Nat) (th₀ : Int) (un₀ : Int) (mf₀ : Int) (ty₀ : Int) (fr₀ : Int) (tt₀ : Int) (tk₀ : Int) (fa₀ : Int) (hf₀ : Bool) (ho₀ : Bool) (km₀ : Int) (s₀ : Int → Int) (x : Int) (hS₀ : mS s₀) (hx₀ : -2147483648 ≤ x ∧ x < 2147483648) : Met lL₀ yX9_count wsX9_count rmX9_count (gPc ZT D₀ (tyk k₀) [.ref a₀, .int (iI x)] sz₀ [mO a₀ q₀ th₀ un₀ mf₀ ty₀ fr₀ tt₀ tk₀ fa₀ (bz hf₀) (bz ho₀) km₀, (q₀ 1, .inl (k₀ 0, 51, .inl (ia s₀)))]) (gQi D₀ (tyk k₀) [mO a₀ q₀ th₀ un₀ mf₀ ty₀ fr₀ tt₀ tk₀ fa₀ (bz hf₀) (bz ho₀) km₀, (q₀ 1, .inl (k₀ 0, 51, .inl (ia s₀)))] sz₀ (fun (_ : Unit) => True) (fun (_ : Unit) => (iI (mCount s₀ mf₀ ty₀ un₀ x))) (fun (_ : Unit) => [mO a₀ q₀ 0 un₀ mf₀ ty₀ fr₀ tt₀ tk₀ fa₀ (bz hf₀) (bz ho₀) km₀, (q₀ 1, .inl (k₀ 0, 51, .inl (ia s₀)))])) 0 0 (va_A [mO a₀ q₀ th₀ un₀ mf₀ ty₀ fr₀ tt₀ tk₀ fa₀ (bz hf₀) (bz ho₀) km₀, (q₀ 1, .inl (k₀ 0, 51, .inl (ia s₀)))] sz₀) := by
  refine xs_met (cc := cX9_count) (maxL := 2) (ret := some .int) (by decide) rfl (Nat.le_of_ble_eq_true rfl) ?_
  intro pP₀ eN₀ sT₀ mI₀ below₀ meth₀ cD₀ hsz₀ args₀ QQ₀ C₀ hr₀ hlk₀ hnm₀ hQ₀ ls₀ H₀ locs₀ hl₀ hH₀
  subst hsz₀
  have hl₀ : lv_has ls₀ 2 [(0, .ref a₀), (1, .int (iI x))] := hl₀
  generalize hAe₀ : va_A [mO a₀ q₀ th₀ un₀ mf₀ ty₀ fr₀ tt₀ tk₀ fa₀ (bz hf₀) (bz ho₀) km₀, (q₀ 1, .inl (k₀ 0, 51, .inl (ia s₀)))] sT₀.heap.size = A₀ at C₀ hH₀ hQ₀
  obtain ⟨hs0₀, hs1₀, hs2₀, hsh₀, hsf₀⟩ := id hS₀
  have hcl₀ := cells_rg hs0₀ hs1₀
  refine lv_aload_n C₀.1.1 C₀.1.2.1 dX9_count_0 rfl (lv_at hl₀ 0 rfl) ?_
  refine lv_iconst (v := iI 0) C₀.1.1 C₀.1.2.1 dX9_count_1 (by decide) ?_
  refine xw_put (ws' := [mO a₀ q₀ 0 un₀ mf₀ ty₀ fr₀ tt₀ tk₀ fa₀ (bz hf₀) (bz ho₀) km₀, (q₀ 1, .inl (k₀ 0, 51, .inl (ia s₀)))]) (v := .int (iI 0)) C₀ hH₀ 0 rfl rfl tyX9 tyX9_ok nmX9 0 (by decide) iw_X9_count_X9 (by decide +kernel) rfl rfl rfl (Nat.le_of_ble_eq_true rfl) dX9_count_2 rfl (fun H₀ locs₀ hH₀ => ?_)
  refine lv_iload_n C₀.1.1 C₀.1.2.1 dX9_count_5 rfl (lv_at hl₀ 1 rfl) ?_
  rcases (show x = 0 ∨ x = 1 ∨ x = 2 ∨ x = 3 ∨ x = 4 ∨ x = 5 ∨ x = 6 ∨ x = 7 ∨ (x < 0 ∨ 7 < x) by omega) with h_1₀ | h_1₀ | h_1₀ | h_1₀ | h_1₀ | h_1₀ | h_1₀ | h_1₀ | h_1₀
  · refine lv_tableIn (off := 46) (tgt := 52) C₀.1.1 C₀.1.2.1 dX9_count_6 (by rw [iI_toInt (by omega) (by omega)]; omega) (by rw [iI_toInt (by omega) (by omega)]; omega) (by rw [iI_toInt (by omega) (by omega), h_1₀]; rfl) (by decide) ?_
    refine lv_aload_n C₀.1.1 C₀.1.2.1 dX9_count_52 rfl (lv_at hl₀ 0 rfl) ?_
    refine xw_get C₀ hH₀ 0 rfl rfl 1 (by decide) iw_X9_count_X9 (by decide +kernel) (v := .ref (q₀ 1)) rfl dX9_count_53 ?_
    refine lv_iload_n C₀.1.1 C₀.1.2.1 dX9_count_56 rfl (lv_at hl₀ 1 rfl) ?_
    refine xw_ild C₀ hH₀ 1 0 rfl rfl (z := x) (by omega) (by omega) (by decide) dX9_count_57 ?_
    exact xr_i C₀ hH₀ hlk₀ hr₀ hQ₀ rfl hAe₀ () trivial (by rw [h_1₀]; rfl) rfl dX9_count_58
  · refine lv_tableIn (off := 46) (tgt := 52) C₀.1.1 C₀.1.2.1 dX9_count_6 (by rw [iI_toInt (by omega) (by omega)]; omega) (by rw [iI_toInt (by omega) (by omega)]; omega) (by rw [iI_toInt (by omega) (by omega), h_1₀]; rfl) (by decide) ?_
    refine lv_aload_n C₀.1.1 C₀.1.2.1 dX9_count_52 rfl (lv_at hl₀ 0 rfl) ?_
    refine xw_get C₀ hH₀ 0 rfl rfl 1 (by decide) iw_X9_count_X9 (by decide +kernel) (v := .ref (q₀ 1)) rfl dX9_count_53 ?_
    refine lv_iload_n C₀.1.1 C₀.1.2.1 dX9_count_56 rfl (lv_at hl₀ 1 rfl) ?_
    refine xw_ild C₀ hH₀ 1 0 rfl rfl (z := x) (by omega) (by omega) (by decide) dX9_count_57 ?_
    exact xr_i C₀ hH₀ hlk₀ hr₀ hQ₀ rfl hAe₀ () trivial (by rw [h_1₀]; rfl) rfl dX9_count_58
  · refine lv_tableIn (off := 46) (tgt := 52) C₀.1.1 C₀.1.2.1 dX9_count_6 (by rw [iI_toInt (by omega) (by omega)]; omega) (by rw [iI_toInt (by omega) (by omega)]; omega) (by rw [iI_toInt (by omega) (by omega), h_1₀]; rfl) (by decide) ?_
    refine lv_aload_n C₀.1.1 C₀.1.2.1 dX9_count_52 rfl (lv_at hl₀ 0 rfl) ?_
    refine xw_get C₀ hH₀ 0 rfl rfl 1 (by decide) iw_X9_count_X9 (by decide +kernel) (v := .ref (q₀ 1)) rfl dX9_count_53 ?_
    refine lv_iload_n C₀.1.1 C₀.1.2.1 dX9_count_56 rfl (lv_at hl₀ 1 rfl) ?_
    refine xw_ild C₀ hH₀ 1 0 rfl rfl (z := x) (by omega) (by omega) (by decide) dX9_count_57 ?_
    exact xr_i C₀ hH₀ hlk₀ hr₀ hQ₀ rfl hAe₀ () trivial (by rw [h_1₀]; rfl) rfl dX9_count_58
  · refine lv_tableIn (off := 53) (tgt := 59) C₀.1.1 C₀.1.2.1 dX9_count_6 (by rw [iI_toInt (by omega) (by omega)]; omega) (by rw [iI_toInt (by omega) (by omega)]; omega) (by rw [iI_toInt (by omega) (by omega), h_1₀]; rfl) (by decide) ?_
    refine lv_aload_n C₀.1.1 C₀.1.2.1 dX9_count_59 rfl (lv_at hl₀ 0 rfl) ?_
    refine xc_Vi (wr := []) (ws' := fun _ => [mO a₀ q₀ 0 un₀ mf₀ ty₀ fr₀ tt₀ tk₀ fa₀ (bz hf₀) (bz ho₀) km₀, (q₀ 1, .inl (k₀ 0, 51, .inl (ia s₀)))]) (As := []) (rest := []) C₀ hH₀ (c_X9_fixedMany lL₀ D₀ k₀ H₀.size a₀ q₀ 0 un₀ mf₀ ty₀ fr₀ tt₀ tk₀ fa₀ hf₀ ho₀ km₀ s₀ (hS₀)) ZT_b (fun _ _ _ => trivial) (cwV 0 C₀.1.2.2.2.2 gX9_count_X9_fixedMany rfl rfl rfl (by decide +kernel) ⟨Nat.le_of_ble_eq_true rfl, Nat.le_of_ble_eq_true rfl⟩) [0, 1] [] [0, 1] rfl rfl (by decide) (by decide) (by decide) (fun _ => rfl) (by decide) (q0 := 0) rfl rfl rfl hl₀.1 rfl (Nat.le_of_ble_eq_true rfl) dX9_count_60 ⟨Nat.le_of_ble_eq_true rfl, Nat.le_of_ble_eq_true rfl⟩ (fun _ _ H₀ locs₀ hH₀ => ?_)
    exact xr_i C₀ hH₀ hlk₀ hr₀ hQ₀ rfl hAe₀ () trivial (by rw [h_1₀]; rfl) rfl dX9_count_63
  · refine lv_tableIn (off := 58) (tgt := 64) C₀.1.1 C₀.1.2.1 dX9_count_6 (by rw [iI_toInt (by omega) (by omega)]; omega) (by rw [iI_toInt (by omega) (by omega)]; omega) (by rw [iI_toInt (by omega) (by omega), h_1₀]; rfl) (by decide) ?_
    refine lv_aload_n C₀.1.1 C₀.1.2.1 dX9_count_64 rfl (lv_at hl₀ 0 rfl) ?_
    refine xc_Vi (wr := []) (ws' := fun _ => [mO a₀ q₀ 0 un₀ mf₀ ty₀ fr₀ tt₀ tk₀ fa₀ (bz hf₀) (bz ho₀) km₀, (q₀ 1, .inl (k₀ 0, 51, .inl (ia s₀)))]) (As := []) (rest := []) C₀ hH₀ (c_X9_heights lL₀ D₀ k₀ H₀.size a₀ q₀ 0 un₀ mf₀ ty₀ fr₀ tt₀ tk₀ fa₀ hf₀ ho₀ km₀ s₀ (hS₀)) ZT_b (fun _ _ _ => trivial) (cwV 0 C₀.1.2.2.2.2 gX9_count_X9_heights rfl rfl rfl (by decide +kernel) ⟨Nat.le_of_ble_eq_true rfl, Nat.le_of_ble_eq_true rfl⟩) [0, 1] [] [0, 1] rfl rfl (by decide) (by decide) (by decide) (fun _ => rfl) (by decide) (q0 := 0) rfl rfl rfl hl₀.1 rfl (Nat.le_of_ble_eq_true rfl) dX9_count_65 ⟨Nat.le_of_ble_eq_true rfl, Nat.le_of_ble_eq_true rfl⟩ (fun _ _ H₀ locs₀ hH₀ => ?_)
    exact xr_i C₀ hH₀ hlk₀ hr₀ hQ₀ rfl hAe₀ () trivial (by rw [h_1₀]; rfl) rfl dX9_count_68
  · refine lv_tableIn (off := 63) (tgt := 69) C₀.1.1 C₀.1.2.1 dX9_count_6 (by rw [iI_toInt (by omega) (by omega)]; omega) (by rw [iI_toInt (by omega) (by omega)]; omega) (by rw [iI_toInt (by omega) (by omega), h_1₀]; rfl) (by decide) ?_
    refine lv_aload_n C₀.1.1 C₀.1.2.1 dX9_count_69 rfl (lv_at hl₀ 0 rfl) ?_
    refine xw_get C₀ hH₀ 0 rfl rfl 8 (by decide) iw_X9_count_X9 (by decide +kernel) (v := .int (iI mf₀)) rfl dX9_count_70 ?_
    exact xr_i C₀ hH₀ hlk₀ hr₀ hQ₀ rfl hAe₀ () trivial (by rw [h_1₀]; rfl) rfl dX9_count_73
  · refine lv_tableIn (off := 68) (tgt := 74) C₀.1.1 C₀.1.2.1 dX9_count_6 (by rw [iI_toInt (by omega) (by omega)]; omega) (by rw [iI_toInt (by omega) (by omega)]; omega) (by rw [iI_toInt (by omega) (by omega), h_1₀]; rfl) (by decide) ?_
    refine lv_aload_n C₀.1.1 C₀.1.2.1 dX9_count_74 rfl (lv_at hl₀ 0 rfl) ?_
    refine xw_get C₀ hH₀ 0 rfl rfl 10 (by decide) iw_X9_count_X9 (by decide +kernel) (v := .int (iI ty₀)) rfl dX9_count_75 ?_
    exact xr_i C₀ hH₀ hlk₀ hr₀ hQ₀ rfl hAe₀ () trivial (by rw [h_1₀]; rfl) rfl dX9_count_78
  · refine lv_tableIn (off := 73) (tgt := 79) C₀.1.1 C₀.1.2.1 dX9_count_6 (by rw [iI_toInt (by omega) (by omega)]; omega) (by rw [iI_toInt (by omega) (by omega)]; omega) (by rw [iI_toInt (by omega) (by omega), h_1₀]; rfl) (by decide) ?_
    refine lv_aload_n C₀.1.1 C₀.1.2.1 dX9_count_79 rfl (lv_at hl₀ 0 rfl) ?_
    refine xw_get C₀ hH₀ 0 rfl rfl 4 (by decide) iw_X9_count_X9 (by decide +kernel) (v := .int (iI un₀)) rfl dX9_count_80 ?_
    exact xr_i C₀ hH₀ hlk₀ hr₀ hQ₀ rfl hAe₀ () trivial (by rw [h_1₀]; rfl) rfl dX9_count_83
  · refine lv_tableOut (tgt := 84) C₀.1.1 C₀.1.2.1 dX9_count_6 (by rw [iI_toInt (by omega) (by omega)]; omega) (by decide) ?_
    refine lv_iconst (v := iI (-1)) C₀.1.1 C₀.1.2.1 dX9_count_84 (by decide) ?_
    exact xr_i C₀ hH₀ hlk₀ hr₀ hQ₀ rfl hAe₀ () trivial (by simp (disch := omega) only [mCount, if_neg]) rfl dX9_count_85
