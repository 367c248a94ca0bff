abbrev wgX0_maskOf : List Cond := .code yX0_maskOf cX0_maskOf 8 (some .int) :: WG
abbrev rmX0_maskOf : Room := { frames := 2, cells := 0, slots := 0, locals := 46 }
set_option maxHeartbeats 4000000 in
set_option maxRecDepth 100000 in
/-- maskOf -/
theorem c_X0_maskOf (lL₀ : Launch) (D₀ : va_G) (k₀ : Nat → ClassId) (sz₀ : Nat) (g₀ : Nat) (w₀ : Int) (h₀ : Int) (ht₀ : Int64) (fx₀ : Int64) (be₀ : Int) (x : Int) (y₀ : Int) (la₀ : Int) (s₀ : Int → Int) (hg₀ : gR s₀ w₀ h₀ ht₀ fx₀ be₀) (hS₀ : mS s₀) (hx₀ : 0 ≤ x ∧ x < s₀ 0) (hy₀ : 0 ≤ y₀ ∧ y₀ < s₀ 1) (hla₀ : 1 ≤ la₀ ∧ la₀ ≤ 3) : Met lL₀ yX0_maskOf wgX0_maskOf rmX0_maskOf (gPc ZG D₀ (tyk k₀) [.ref g₀, .int (iI x), .int (iI y₀), .int (iI la₀)] sz₀ [gO g₀ w₀ h₀ ht₀ fx₀ be₀]) (gQi D₀ (tyk k₀) [gO g₀ w₀ h₀ ht₀ fx₀ be₀] sz₀ (fun (_ : Unit) => True) (fun (_ : Unit) => (iI (mMask s₀ x y₀ la₀))) (fun (_ : Unit) => [gO g₀ w₀ h₀ ht₀ fx₀ be₀])) 0 0 (va_A [gO g₀ w₀ h₀ ht₀ fx₀ be₀] sz₀) := by
  refine xs_met (cc := cX0_maskOf) (maxL := 8) (ret := some .int) (by decide) rfl (Nat.le_of_ble_eq_true rfl) ?_
  intro pP₀ eN₀ sT₀ mI₀ below₀ meth₀ cD₀ hsz₀ args₀ QQ₀ C₀ hr₀ hlk₀ hnm₀ hQ₀ ls₀ H₀ locs₀ hl₀ hH₀
  subst hsz₀
  have hl₀ : lv_has ls₀ 8 [(0, .ref g₀), (1, .int (iI x)), (2, .int (iI y₀)), (3, .int (iI la₀))] := hl₀
  generalize hAe₀ : va_A [gO g₀ w₀ h₀ ht₀ fx₀ be₀] sT₀.heap.size = A₀ at C₀ hH₀ hQ₀
  obtain ⟨rfl, rfl, rfl, rfl, rfl⟩ := hg₀
  obtain ⟨hs0₀, hs1₀, hs2₀, hsh₀, hsf₀⟩ := id hS₀
  have hcl₀ := cells_rg hs0₀ hs1₀
  obtain ⟨⟨t1₀, z1₀, y1₀⟩, ⟨t2₀, z2₀, y2₀⟩, ⟨t3₀, z3₀, y3₀⟩, ⟨t4₀, z4₀, y4₀⟩, hnw₀⟩ := id C₀.2.2
  refine lv_iconst (v := iI 0) C₀.1.1 C₀.1.2.1 dX0_maskOf_0 (by decide) ?_
  refine lv_istore (lv' := [(4, .int (iI 0)), (0, .ref g₀), (1, .int (iI x)), (2, .int (iI y₀)), (3, .int (iI la₀))]) C₀.1.1 C₀.1.2.1 dX0_maskOf_1 hl₀ (by decide) rfl (fun ls₀ hl₀ => ?_)
  refine lv_iconst (v := iI 0) C₀.1.1 C₀.1.2.1 dX0_maskOf_3 (by decide) ?_
  refine lv_istore (lv' := [(5, .int (iI 0)), (4, .int (iI 0)), (0, .ref g₀), (1, .int (iI x)), (2, .int (iI y₀)), (3, .int (iI la₀))]) C₀.1.1 C₀.1.2.1 dX0_maskOf_4 hl₀ (by decide) rfl (fun ls₀ hl₀ => ?_)
  have L6₀ : ∀ (nn₀ : Nat), ∀ (n₀ : Int) (z₀ : Int), (n₀ = sI (mSetX s₀ x y₀ la₀) z₀) → (0 ≤ z₀ ∧ z₀ ≤ 8) → ((8 - z₀) < (nn₀ : Int)) → ∀ (H₀ : Heap) (locs₀ : List Loc) (ls₀ : Array Slot), Hp D₀ A₀ sT₀.heap [gO g₀ (s₀ 0) (s₀ 1) (pk s₀ 3) (pk s₀ 27) (s₀ 2)] H₀ locs₀ → lv_has ls₀ 8 [(0, .ref g₀), (1, .int (iI x)), (2, .int (iI y₀)), (3, .int (iI la₀)), (4, .int (iI n₀)), (5, .int (iI z₀))] → W pP₀ lL₀ eN₀ rmX0_maskOf sT₀ mI₀ args₀ below₀ meth₀ cD₀ H₀ locs₀ 0 0 QQ₀ (F0 mI₀ 6 ls₀ []) := by
    intro nn₀
    induction nn₀ with
    | zero => intro n₀ z₀ i1₀ i2₀ hm₀; exact absurd hm₀ (by omega)
    | succ nn₀ ih6₀ =>
      intro n₀ z₀ i1₀ i2₀ hm6₀ H₀ locs₀ ls₀ hH₀ hl₀
      refine lv_iload C₀.1.1 C₀.1.2.1 dX0_maskOf_6 (lv_at hl₀ 5 rfl) ?_
      refine lv_bipush (v := iI 8) C₀.1.1 C₀.1.2.1 dX0_maskOf_8 (by decide) ?_
      refine xi_cge (tgt := 52) C₀.1.1 C₀.1.2.1 dX0_maskOf_10 (by decide) (by omega) (by omega) (fun h_1₀ => ?_) (fun h_1₀ => ?_)
      · have ez8₀ : z₀ = 8 := by omega
        subst ez8₀
        have hn8₀ := mSet_256 s₀ x y₀ la₀
        have en8₀ : n₀ = mSet s₀ x y₀ la₀ := i1₀
        refine lv_iload C₀.1.1 C₀.1.2.1 dX0_maskOf_52 (lv_at hl₀ 4 rfl) ?_
        refine lv_istore (lv' := [(5, .int (iI n₀)), (0, .ref g₀), (1, .int (iI x)), (2, .int (iI y₀)), (3, .int (iI la₀)), (4, .int (iI n₀))]) C₀.1.1 C₀.1.2.1 dX0_maskOf_54 hl₀ (by decide) rfl (fun ls₀ hl₀ => ?_)
        refine lv_iconst (v := iI 1) C₀.1.1 C₀.1.2.1 dX0_maskOf_56 (by decide) ?_
        refine lv_istore (lv' := [(6, .int (iI 1)), (5, .int (iI n₀)), (0, .ref g₀), (1, .int (iI x)), (2, .int (iI y₀)), (3, .int (iI la₀)), (4, .int (iI n₀))]) C₀.1.1 C₀.1.2.1 dX0_maskOf_57 hl₀ (by decide) rfl (fun ls₀ hl₀ => ?_)
        have L59₀ : ∀ (nn₀ : Nat), ∀ (m2₀ : Int) (z5₀ : Int) (jj₀ : Nat), (m2₀ = mMsk n₀ jj₀) → (z5₀ = 2 * (jj₀ : Int) + 1) → (jj₀ ≤ 4) → ((9 - z5₀) < (nn₀ : Int)) → ∀ (H₀ : Heap) (locs₀ : List Loc) (ls₀ : Array Slot), Hp D₀ A₀ sT₀.heap [gO g₀ (s₀ 0) (s₀ 1) (pk s₀ 3) (pk s₀ 27) (s₀ 2)] H₀ locs₀ → lv_has ls₀ 8 [(0, .ref g₀), (1, .int (iI x)), (2, .int (iI y₀)), (3, .int (iI la₀)), (4, .int (iI n₀)), (5, .int (iI m2₀)), (6, .int (iI z5₀))] → W pP₀ lL₀ eN₀ rmX0_maskOf sT₀ mI₀ args₀ below₀ meth₀ cD₀ H₀ locs₀ 0 0 QQ₀ (F0 mI₀ 59 ls₀ []) := by
          intro nn₀
          induction nn₀ with
          | zero => intro m2₀ z5₀ jj₀ j1₀ j2₀ j3₀ hm₀; exact absurd hm₀ (by omega)
          | succ nn₀ ih59₀ =>
            intro m2₀ z5₀ jj₀ j1₀ j2₀ j3₀ hm59₀ H₀ locs₀ ls₀ hH₀ hl₀
            refine lv_iload C₀.1.1 C₀.1.2.1 dX0_maskOf_59 (lv_at hl₀ 6 rfl) ?_
            refine lv_bipush (v := iI 8) C₀.1.1 C₀.1.2.1 dX0_maskOf_61 (by decide) ?_
            refine xi_cge (tgt := 111) C₀.1.1 C₀.1.2.1 dX0_maskOf_63 (by decide) (by omega) (by omega) (fun h_2₀ => ?_) (fun h_2₀ => ?_)
            · refine lv_iload C₀.1.1 C₀.1.2.1 dX0_maskOf_111 (lv_at hl₀ 5 rfl) ?_
              exact xr_i C₀ hH₀ hlk₀ hr₀ hQ₀ rfl hAe₀ () trivial (by unfold mMask mMaskN; rw [j1₀, ← en8₀, show jj₀ = 4 by omega]) rfl dX0_maskOf_113
            · have hm2₀ := mMsk_rg (n := n₀) (by omega) (j := jj₀) (by omega)
              rw [← j1₀] at hm2₀
              have hj3₀ : jj₀ < 4 := by omega
              have hab₀ := mAndB_eq (n := n₀) hj3₀ (by omega)
              have hbr₀ := mBsd_rg jj₀ hj3₀
              have L105₀ : ∀ (m3₀ : Int), (m3₀ = mMsk n₀ (jj₀ + 1)) → ∀ (H₀ : Heap) (locs₀ : List Loc) (ls₀ : Array Slot), Hp D₀ A₀ sT₀.heap [gO g₀ (s₀ 0) (s₀ 1) (pk s₀ 3) (pk s₀ 27) (s₀ 2)] H₀ locs₀ → lv_has ls₀ 8 [(0, .ref g₀), (1, .int (iI x)), (2, .int (iI y₀)), (3, .int (iI la₀)), (4, .int (iI n₀)), (5, .int (iI m3₀)), (6, .int (iI z5₀))] → W pP₀ lL₀ eN₀ rmX0_maskOf sT₀ mI₀ args₀ below₀ meth₀ cD₀ H₀ locs₀ 0 0 QQ₀ (F0 mI₀ 105 ls₀ []) := by
                intro m3₀ je₀ H₀ locs₀ ls₀ hH₀ hl₀
                refine lv_iinc (v := iI (z5₀ + 2)) (lv' := [(6, .int (iI (z5₀ + 2))), (0, .ref g₀), (1, .int (iI x)), (2, .int (iI y₀)), (3, .int (iI la₀)), (4, .int (iI n₀)), (5, .int (iI m3₀))]) C₀.1.1 C₀.1.2.1 dX0_maskOf_105 hl₀ (k := 6) rfl (iI_add _ (2)) (by decide) rfl (fun ls₀ hl₀ => ?_)
                refine lv_goto (tgt := 59) C₀.1.1 C₀.1.2.1 dX0_maskOf_108 (by decide) ?_
                exact ih59₀ m3₀ (z5₀ + 2) (jj₀ + 1) (je₀) (by omega) (by omega) (by omega) _ _ _ hH₀ (lv_sub hl₀ [1, 2, 3, 4, 5, 6, 0] rfl)
              refine lv_iconst (v := iI 1) C₀.1.1 C₀.1.2.1 dX0_maskOf_66 (by decide) ?_
              refine lv_iload C₀.1.1 C₀.1.2.1 dX0_maskOf_67 (lv_at hl₀ 6 rfl) ?_
              refine lv_iconst (v := iI 1) C₀.1.1 C₀.1.2.1 dX0_maskOf_69 (by decide) ?_
              refine xi_sub C₀.1.1 C₀.1.2.1 dX0_maskOf_70 ?_
              refine lv_ishl C₀.1.1 C₀.1.2.1 dX0_maskOf_71 ?_
              refine lv_iconst (v := iI 1) C₀.1.1 C₀.1.2.1 dX0_maskOf_72 (by decide) ?_
              refine lv_iload C₀.1.1 C₀.1.2.1 dX0_maskOf_73 (lv_at hl₀ 6 rfl) ?_
              refine lv_iconst (v := iI 1) C₀.1.1 C₀.1.2.1 dX0_maskOf_75 (by decide) ?_
              refine xi_add C₀.1.1 C₀.1.2.1 dX0_maskOf_76 ?_
              refine lv_bipush (v := iI 7) C₀.1.1 C₀.1.2.1 dX0_maskOf_77 (by decide) ?_
              refine lv_iand C₀.1.1 C₀.1.2.1 dX0_maskOf_79 ?_
              refine lv_ishl C₀.1.1 C₀.1.2.1 dX0_maskOf_80 ?_
              refine lv_ior C₀.1.1 C₀.1.2.1 dX0_maskOf_81 ?_
              refine xt_i (y := (iI (mBsd jj₀))) (mBsd_eq hj3₀ j2₀) ?_
              refine lv_istore (lv' := [(7, .int (iI (mBsd jj₀))), (0, .ref g₀), (1, .int (iI x)), (2, .int (iI y₀)), (3, .int (iI la₀)), (4, .int (iI n₀)), (5, .int (iI m2₀)), (6, .int (iI z5₀))]) C₀.1.1 C₀.1.2.1 dX0_maskOf_82 hl₀ (by decide) rfl (fun ls₀ hl₀ => ?_)
              refine lv_iload C₀.1.1 C₀.1.2.1 dX0_maskOf_84 (lv_at hl₀ 5 rfl) ?_
              refine lv_iload C₀.1.1 C₀.1.2.1 dX0_maskOf_86 (lv_at hl₀ 0 rfl) ?_
              refine lv_iand C₀.1.1 C₀.1.2.1 dX0_maskOf_88 ?_
              refine xt_i (y := (iI (mAndB n₀ jj₀))) hab₀.1 ?_
              refine lv_iload C₀.1.1 C₀.1.2.1 dX0_maskOf_89 (lv_at hl₀ 0 rfl) ?_
              refine xi_ceq (tgt := 105) C₀.1.1 C₀.1.2.1 dX0_maskOf_91 (by decide) (by omega) (by omega) (fun h_3₀ => ?_) (fun h_3₀ => ?_)
              · exact L105₀ m2₀ ((by show _ = if mBit n₀ (2 * (jj₀ : Int)) = true ∧ mBit n₀ ((2 * (jj₀ : Int) + 2) % 8) = true then mMsk n₀ jj₀ else mMsk n₀ jj₀ - (2 : Int) ^ (2 * jj₀ + 1) * (mMsk n₀ jj₀ / (2 : Int) ^ (2 * jj₀ + 1) % 2); rw [if_pos (hab₀.2.2.mp (by omega)), j1₀])) _ _ _ hH₀ (lv_sub hl₀ [1, 2, 3, 4, 5, 6, 7] rfl)
              · refine lv_iload C₀.1.1 C₀.1.2.1 dX0_maskOf_94 (lv_at hl₀ 6 rfl) ?_
                refine lv_iconst (v := iI 1) C₀.1.1 C₀.1.2.1 dX0_maskOf_96 (by decide) ?_
                refine lv_iload C₀.1.1 C₀.1.2.1 dX0_maskOf_97 (lv_at hl₀ 7 rfl) ?_
                refine lv_ishl C₀.1.1 C₀.1.2.1 dX0_maskOf_99 ?_
                refine xt_i (y := (iI ((2 : Int) ^ z5₀.toNat))) (shl_eq (by omega)) ?_
                refine lv_iconst (v := iI (-1)) C₀.1.1 C₀.1.2.1 dX0_maskOf_100 (by decide) ?_
                refine lv_ixor C₀.1.1 C₀.1.2.1 dX0_maskOf_101 ?_
                refine lv_iand C₀.1.1 C₀.1.2.1 dX0_maskOf_102 ?_
                refine xt_i (y := (iI (m2₀ - (2 : Int) ^ (2 * jj₀ + 1) * (m2₀ / (2 : Int) ^ (2 * jj₀ + 1) % 2)))) (by rw [show z5₀.toNat = 2 * jj₀ + 1 by omega]; exact clr_eq (by omega) (by omega)) ?_
                refine lv_istore (lv' := [(5, .int (iI (m2₀ - (2 : Int) ^ (2 * jj₀ + 1) * (m2₀ / (2 : Int) ^ (2 * jj₀ + 1) % 2)))), (7, .int (iI (mBsd jj₀))), (0, .ref g₀), (1, .int (iI x)), (2, .int (iI y₀)), (3, .int (iI la₀)), (4, .int (iI n₀)), (6, .int (iI z5₀))]) C₀.1.1 C₀.1.2.1 dX0_maskOf_103 hl₀ (by decide) rfl (fun ls₀ hl₀ => ?_)
                exact L105₀ (m2₀ - (2 : Int) ^ (2 * jj₀ + 1) * (m2₀ / (2 : Int) ^ (2 * jj₀ + 1) % 2)) ((by show _ = if mBit n₀ (2 * (jj₀ : Int)) = true ∧ mBit n₀ ((2 * (jj₀ : Int) + 2) % 8) = true then mMsk n₀ jj₀ else mMsk n₀ jj₀ - (2 : Int) ^ (2 * jj₀ + 1) * (mMsk n₀ jj₀ / (2 : Int) ^ (2 * jj₀ + 1) % 2); rw [if_neg (fun q₀ => absurd (hab₀.2.2.mpr q₀) (by omega)), j1₀])) _ _ _ hH₀ (lv_sub hl₀ [2, 3, 4, 5, 6, 0, 7] rfl)
        exact L59₀ (((9 - 1) : Int).toNat + 1) n₀ 1 0 (rfl) (rfl) (by omega) (by omega) _ _ _ hH₀ (lv_sub hl₀ [2, 3, 4, 5, 6, 1, 0] rfl)
      · have hr1₀ := mSet_rg (s := s₀) (x := x) (y := y₀) (l := la₀) z₀
        rw [← i1₀] at hr1₀
        have hcg₀ := colG_eq (k := z₀) (by omega)
        have hrg₀ := rowG_eq (k := z₀) (by omega)
        have hr2₀ := mDx_rg z₀
        have hr3₀ := mDy_rg z₀
        have hr4₀ := mHAt_rg hS₀ (x + colG z₀) (y₀ + rowG z₀)
        have hr5₀ := p2_8 (k := z₀) (by omega)
        have hhh₀ : mHAt s₀ (x + colG z₀) (y₀ + rowG z₀) = mHAt s₀ (x + mDx z₀) (y₀ + mDy z₀) := by rw [hcg₀, hrg₀]
        refine lv_aload_n C₀.1.1 C₀.1.2.1 dX0_maskOf_13 rfl (lv_at hl₀ 0 rfl) ?_
        refine lv_iload_n C₀.1.1 C₀.1.2.1 dX0_maskOf_14 rfl (lv_at hl₀ 1 rfl) ?_
        refine xw_gets C₀ hH₀ z1₀ (List.mem_cons_of_mem _ (WG_mem 520 (by decide +kernel) (by decide +kernel))) dX0_maskOf_15 ?_
        refine lv_iload C₀.1.1 C₀.1.2.1 dX0_maskOf_18 (lv_at hl₀ 5 rfl) ?_
        refine xw_tld C₀ hH₀ y1₀ (z := z₀) (by omega) (by omega) (by decide) dX0_maskOf_20 ?_
        refine xi_add C₀.1.1 C₀.1.2.1 dX0_maskOf_21 ?_
        refine lv_iload_n C₀.1.1 C₀.1.2.1 dX0_maskOf_22 rfl (lv_at hl₀ 2 rfl) ?_
        refine xw_gets C₀ hH₀ z2₀ (List.mem_cons_of_mem _ (WG_mem 522 (by decide +kernel) (by decide +kernel))) dX0_maskOf_23 ?_
        refine lv_iload C₀.1.1 C₀.1.2.1 dX0_maskOf_26 (lv_at hl₀ 5 rfl) ?_
        refine xw_tld C₀ hH₀ y2₀ (z := z₀) (by omega) (by omega) (by decide) dX0_maskOf_28 ?_
        refine xi_add C₀.1.1 C₀.1.2.1 dX0_maskOf_29 ?_
        refine xc_Vi (wr := []) (ws' := fun _ => [gO g₀ (s₀ 0) (s₀ 1) (pk s₀ 3) (pk s₀ 27) (s₀ 2)]) (As := [.int (iI (x + (colG z₀))), .int (iI (y₀ + (rowG z₀)))]) (rest := []) C₀ hH₀ (c_X0_heightAt lL₀ D₀ k₀ H₀.size g₀ (s₀ 0) (s₀ 1) (pk s₀ 3) (pk s₀ 27) (s₀ 2) (x + (colG z₀)) (y₀ + (rowG z₀)) s₀ (⟨rfl, rfl, rfl, rfl, rfl⟩) (hS₀) (by omega) (by omega)) ZT_b (fun _ _ _ => trivial) (cwV 2 C₀.1.2.2.2.2 (WG_V WG_c (WG_mem 659 (by decide +kernel) (by decide +kernel)) (WG_mem 661 (by decide +kernel) (by decide +kernel)) (WG_mem 26 (by decide +kernel) (by decide +kernel)) (WG_mem 64 (by decide +kernel) (by decide +kernel)) (WG_k (WG_mem 662 (by decide +kernel) (by decide +kernel)))) rfl rfl rfl (by decide +kernel) ⟨Nat.le_of_ble_eq_true rfl, Nat.le_of_ble_eq_true rfl⟩) [0] [] [0] rfl rfl (by decide) (by decide) (by decide) (fun _ => rfl) (by decide) (q0 := 0) rfl rfl rfl hl₀.1 rfl (Nat.le_of_ble_eq_true rfl) dX0_maskOf_30 ⟨Nat.le_of_ble_eq_true rfl, Nat.le_of_ble_eq_true rfl⟩ (fun _ _ H₀ locs₀ hH₀ => ?_)
        refine lv_iload_n C₀.1.1 C₀.1.2.1 dX0_maskOf_33 rfl (lv_at hl₀ 3 rfl) ?_
        refine xi_clt (tgt := 46) C₀.1.1 C₀.1.2.1 dX0_maskOf_34 (by decide) (by omega) (by omega) (fun h_4₀ => ?_) (fun h_4₀ => ?_)
        · refine lv_iinc (v := iI (z₀ + 1)) (lv' := [(5, .int (iI (z₀ + 1))), (0, .ref g₀), (1, .int (iI x)), (2, .int (iI y₀)), (3, .int (iI la₀)), (4, .int (iI n₀))]) C₀.1.1 C₀.1.2.1 dX0_maskOf_46 hl₀ (k := 5) rfl (iI_add _ (1)) (by decide) rfl (fun ls₀ hl₀ => ?_)
          refine lv_goto (tgt := 6) C₀.1.1 C₀.1.2.1 dX0_maskOf_49 (by decide) ?_
          exact ih6₀ n₀ (z₀ + 1) (by rw [sI_s i2₀.1, ← i1₀]; unfold mSetX; rw [if_neg (by omega), Int.add_zero]) (by omega) (by omega) _ _ _ hH₀ (lv_sub hl₀ [1, 2, 3, 4, 5, 0] rfl)
        · refine lv_iload C₀.1.1 C₀.1.2.1 dX0_maskOf_37 (lv_at hl₀ 4 rfl) ?_
          refine lv_iconst (v := iI 1) C₀.1.1 C₀.1.2.1 dX0_maskOf_39 (by decide) ?_
          refine lv_iload C₀.1.1 C₀.1.2.1 dX0_maskOf_40 (lv_at hl₀ 5 rfl) ?_
          refine lv_ishl C₀.1.1 C₀.1.2.1 dX0_maskOf_42 ?_
          refine xt_i (y := (iI ((2 : Int) ^ z₀.toNat))) (shl_eq (by omega)) ?_
          refine lv_ior C₀.1.1 C₀.1.2.1 dX0_maskOf_43 ?_
          refine xt_i (y := (iI (n₀ + (2 : Int) ^ z₀.toNat))) (or_add (k := z₀) (by omega) hr1₀ (Or.inr rfl)) ?_
          refine lv_istore (lv' := [(4, .int (iI (n₀ + (2 : Int) ^ z₀.toNat))), (0, .ref g₀), (1, .int (iI x)), (2, .int (iI y₀)), (3, .int (iI la₀)), (5, .int (iI z₀))]) C₀.1.1 C₀.1.2.1 dX0_maskOf_44 hl₀ (by decide) rfl (fun ls₀ hl₀ => ?_)
          refine lv_iinc (v := iI (z₀ + 1)) (lv' := [(5, .int (iI (z₀ + 1))), (4, .int (iI (n₀ + (2 : Int) ^ z₀.toNat))), (0, .ref g₀), (1, .int (iI x)), (2, .int (iI y₀)), (3, .int (iI la₀))]) C₀.1.1 C₀.1.2.1 dX0_maskOf_46 hl₀ (k := 5) rfl (iI_add _ (1)) (by decide) rfl (fun ls₀ hl₀ => ?_)
          refine lv_goto (tgt := 6) C₀.1.1 C₀.1.2.1 dX0_maskOf_49 (by decide) ?_
          exact ih6₀ (n₀ + (2 : Int) ^ z₀.toNat) (z₀ + 1) (by rw [sI_s i2₀.1, ← i1₀]; unfold mSetX; rw [if_pos (by omega)]) (by omega) (by omega) _ _ _ hH₀ (lv_sub hl₀ [2, 3, 4, 5, 1, 0] rfl)
  exact L6₀ (((8 - 0) : Int).toNat + 1) 0 0 (rfl) (by omega) (by omega) _ _ _ hH₀ (lv_sub hl₀ [2, 3, 4, 5, 1, 0] rfl)
abbrev wgX0_squareOf : List Cond := .code yX0_squareOf cX0_squareOf 6 (some .int) :: WG
abbrev rmX0_squareOf : Room := { frames := 3, cells := 0, slots := 0, locals := 73 }
set_option maxHeartbeats 4000000 in
set_option maxRecDepth 100000 in
/-- squareOf -/
theorem c_X0_squareOf (lL₀ : Launch) (D₀ : va_G) (k₀ : Nat → ClassId) (sz₀ : Nat) (g₀ : Nat) (w₀ : Int) (h₀ : Int) (ht₀ : Int64) (fx₀ : Int64) (be₀ : Int) (x : Int) (y₀ : Int) (la₀ : Int) (s₀ : Int → Int) (hg₀ : gR s₀ w₀ h₀ ht₀ fx₀ be₀) (hS₀ : mS s₀) (hx₀ : 0 ≤ x ∧ x < s₀ 0) (hy₀ : 0 ≤ y₀ ∧ y₀ < s₀ 1) (hla₀ : 1 ≤ la₀ ∧ la₀ ≤ 3) : Met lL₀ yX0_squareOf wgX0_squareOf rmX0_squareOf (gPc ZG D₀ (tyk k₀) [.ref g₀, .int (iI x), .int (iI y₀), .int (iI la₀)] sz₀ [gO g₀ w₀ h₀ ht₀ fx₀ be₀]) (gQi D₀ (tyk k₀) [gO g₀ w₀ h₀ ht₀ fx₀ be₀] sz₀ (fun (_ : Unit) => True) (fun (_ : Unit) => (iI (gSq s₀ x y₀ la₀))) (fun (_ : Unit) => [gO g₀ w₀ h₀ ht₀ fx₀ be₀])) 0 0 (va_A [gO g₀ w₀ h₀ ht₀ fx₀ be₀] sz₀) := by
  refine xs_met (cc := cX0_squareOf) (maxL := 6) (ret := some .int) (by decide) rfl (Nat.le_of_ble_eq_true rfl) ?_
  intro pP₀ eN₀ sT₀ mI₀ below₀ meth₀ cD₀ hsz₀ args₀ QQ₀ C₀ hr₀ hlk₀ hnm₀ hQ₀ ls₀ H₀ locs₀ hl₀ hH₀
  subst hsz₀
  have hl₀ : lv_has ls₀ 6 [(0, .ref g₀), (1, .int (iI x)), (2, .int (iI y₀)), (3, .int (iI la₀))] := hl₀
  generalize hAe₀ : va_A [gO g₀ w₀ h₀ ht₀ fx₀ be₀] sT₀.heap.size = A₀ at C₀ hH₀ hQ₀
  obtain ⟨rfl, rfl, rfl, rfl, rfl⟩ := hg₀
  obtain ⟨hs0₀, hs1₀, hs2₀, hsh₀, hsf₀⟩ := id hS₀
  have hcl₀ := cells_rg hs0₀ hs1₀
  obtain ⟨⟨t1₀, z1₀, y1₀⟩, ⟨t2₀, z2₀, y2₀⟩, ⟨t3₀, z3₀, y3₀⟩, ⟨t4₀, z4₀, y4₀⟩, hnw₀⟩ := id C₀.2.2
  have hc1₀ := cell_rg hs0₀ hx₀ hy₀
  have hh₀ := hsh₀ (3 + s₀ 0 * y₀ + x) (by omega) (by omega)
  have hmk₀ := mMask_rg s₀ x y₀ la₀
  have hha₀ : mHAt s₀ x y₀ = s₀ (3 + s₀ 0 * y₀ + x) := by unfold mHAt; rw [if_pos (by omega)]
  refine lv_aload_n C₀.1.1 C₀.1.2.1 dX0_squareOf_0 rfl (lv_at hl₀ 0 rfl) ?_
  refine lv_iload_n C₀.1.1 C₀.1.2.1 dX0_squareOf_1 rfl (lv_at hl₀ 1 rfl) ?_
  refine lv_iload_n C₀.1.1 C₀.1.2.1 dX0_squareOf_2 rfl (lv_at hl₀ 2 rfl) ?_
  refine xc_Vi (wr := []) (ws' := fun _ => [gO g₀ (s₀ 0) (s₀ 1) (pk s₀ 3) (pk s₀ 27) (s₀ 2)]) (As := [.int (iI x), .int (iI y₀)]) (rest := []) C₀ hH₀ (c_X0_heightAt lL₀ D₀ k₀ H₀.size g₀ (s₀ 0) (s₀ 1) (pk s₀ 3) (pk s₀ 27) (s₀ 2) x y₀ s₀ (⟨rfl, rfl, rfl, rfl, rfl⟩) (hS₀) (by omega) (by omega)) ZT_b (fun _ _ _ => trivial) (cwV 2 C₀.1.2.2.2.2 (WG_V WG_c (WG_mem 659 (by decide +kernel) (by decide +kernel)) (WG_mem 661 (by decide +kernel) (by decide +kernel)) (WG_mem 26 (by decide +kernel) (by decide +kernel)) (WG_mem 64 (by decide +kernel) (by decide +kernel)) (WG_k (WG_mem 662 (by decide +kernel) (by decide +kernel)))) rfl rfl rfl (by decide +kernel) ⟨Nat.le_of_ble_eq_true rfl, Nat.le_of_ble_eq_true rfl⟩) [0] [] [0] rfl rfl (by decide) (by decide) (by decide) (fun _ => rfl) (by decide) (q0 := 0) rfl rfl rfl hl₀.1 rfl (Nat.le_of_ble_eq_true rfl) dX0_squareOf_3 ⟨Nat.le_of_ble_eq_true rfl, Nat.le_of_ble_eq_true rfl⟩ (fun _ _ H₀ locs₀ hH₀ => ?_)
  refine lv_iload_n C₀.1.1 C₀.1.2.1 dX0_squareOf_6 rfl (lv_at hl₀ 3 rfl) ?_
  refine xi_cge (tgt := 13) C₀.1.1 C₀.1.2.1 dX0_squareOf_7 (by decide) (by omega) (by omega) (fun h_1₀ => ?_) (fun h_1₀ => ?_)
  · refine lv_aload_n C₀.1.1 C₀.1.2.1 dX0_squareOf_13 rfl (lv_at hl₀ 0 rfl) ?_
    refine lv_iload_n C₀.1.1 C₀.1.2.1 dX0_squareOf_14 rfl (lv_at hl₀ 1 rfl) ?_
    refine lv_iload_n C₀.1.1 C₀.1.2.1 dX0_squareOf_15 rfl (lv_at hl₀ 2 rfl) ?_
    refine lv_iload_n C₀.1.1 C₀.1.2.1 dX0_squareOf_16 rfl (lv_at hl₀ 3 rfl) ?_
    refine xc_Vi (wr := []) (ws' := fun _ => [gO g₀ (s₀ 0) (s₀ 1) (pk s₀ 3) (pk s₀ 27) (s₀ 2)]) (As := [.int (iI x), .int (iI y₀), .int (iI la₀)]) (rest := []) C₀ hH₀ (c_X0_maskOf lL₀ D₀ k₀ H₀.size g₀ (s₀ 0) (s₀ 1) (pk s₀ 3) (pk s₀ 27) (s₀ 2) x y₀ la₀ s₀ (⟨rfl, rfl, rfl, rfl, rfl⟩) (hS₀) (by omega) (by omega) (by omega)) ZG_b (ZG_pass C₀ hH₀ [0] rfl) (cwV 3 C₀.1.2.2.2.2 (WG_V WG_c (WG_mem 665 (by decide +kernel) (by decide +kernel)) (WG_mem 666 (by decide +kernel) (by decide +kernel)) (WG_mem 667 (by decide +kernel) (by decide +kernel)) (WG_mem 64 (by decide +kernel) (by decide +kernel)) (WG_k (WG_mem 668 (by decide +kernel) (by decide +kernel)))) rfl rfl rfl (by decide +kernel) ⟨Nat.le_of_ble_eq_true rfl, Nat.le_of_ble_eq_true rfl⟩) [0] [] [0] rfl rfl (by decide) (by decide) (by decide) (fun _ => rfl) (by decide) (q0 := 0) rfl rfl rfl hl₀.1 rfl (Nat.le_of_ble_eq_true rfl) dX0_squareOf_17 ⟨Nat.le_of_ble_eq_true rfl, Nat.le_of_ble_eq_true rfl⟩ (fun _ _ H₀ locs₀ hH₀ => ?_)
    refine lv_istore (lv' := [(4, .int (iI (mMask s₀ x y₀ la₀))), (0, .ref g₀), (1, .int (iI x)), (2, .int (iI y₀)), (3, .int (iI la₀))]) C₀.1.1 C₀.1.2.1 dX0_squareOf_20 hl₀ (by decide) rfl (fun ls₀ hl₀ => ?_)
    refine lv_iconst (v := iI 0) C₀.1.1 C₀.1.2.1 dX0_squareOf_22 (by decide) ?_
    refine lv_istore (lv' := [(5, .int (iI 0)), (4, .int (iI (mMask s₀ x y₀ la₀))), (0, .ref g₀), (1, .int (iI x)), (2, .int (iI y₀)), (3, .int (iI la₀))]) C₀.1.1 C₀.1.2.1 dX0_squareOf_23 hl₀ (by decide) rfl (fun ls₀ hl₀ => ?_)
    have L25₀ : ∀ (nn₀ : Nat), ∀ (z₀ : Int), (fdI (fun i₀ => decide (mMask s₀ x y₀ la₀ ≤ mskG i₀)) 47 z₀ = fdI (fun i₀ => decide (mMask s₀ x y₀ la₀ ≤ mskG i₀)) 47 0) → (0 ≤ z₀ ∧ z₀ ≤ 47) → ((47 - z₀) < (nn₀ : Int)) → ∀ (H₀ : Heap) (locs₀ : List Loc) (ls₀ : Array Slot), Hp D₀ A₀ sT₀.heap [gO g₀ (s₀ 0) (s₀ 1) (pk s₀ 3) (pk s₀ 27) (s₀ 2)] H₀ locs₀ → lv_has ls₀ 6 [(0, .ref g₀), (1, .int (iI x)), (2, .int (iI y₀)), (3, .int (iI la₀)), (4, .int (iI (mMask s₀ x y₀ la₀))), (5, .int (iI z₀))] → W pP₀ lL₀ eN₀ rmX0_squareOf sT₀ mI₀ args₀ below₀ meth₀ cD₀ H₀ locs₀ 0 0 QQ₀ (F0 mI₀ 25 ls₀ []) := by
      intro nn₀
      induction nn₀ with
      | zero => intro z₀ i1₀ i2₀ hm₀; exact absurd hm₀ (by omega)
      | succ nn₀ ih25₀ =>
        intro z₀ i1₀ i2₀ hm25₀ H₀ locs₀ ls₀ hH₀ hl₀
        have L51₀ : (z₀ = fdI (fun i₀ => decide (mMask s₀ x y₀ la₀ ≤ mskG i₀)) 47 0) → ∀ (H₀ : Heap) (locs₀ : List Loc) (ls₀ : Array Slot), Hp D₀ A₀ sT₀.heap [gO g₀ (s₀ 0) (s₀ 1) (pk s₀ 3) (pk s₀ 27) (s₀ 2)] H₀ locs₀ → lv_has ls₀ 6 [(0, .ref g₀), (1, .int (iI x)), (2, .int (iI y₀)), (3, .int (iI la₀)), (4, .int (iI (mMask s₀ x y₀ la₀))), (5, .int (iI z₀))] → W pP₀ lL₀ eN₀ rmX0_squareOf sT₀ mI₀ args₀ below₀ meth₀ cD₀ H₀ locs₀ 0 0 QQ₀ (F0 mI₀ 51 ls₀ []) := by
          intro  je₀ H₀ locs₀ ls₀ hH₀ hl₀
          refine lv_iload C₀.1.1 C₀.1.2.1 dX0_squareOf_51 (lv_at hl₀ 5 rfl) ?_
          exact xr_i C₀ hH₀ hlk₀ hr₀ hQ₀ rfl hAe₀ () trivial (by unfold gSq; rw [if_neg (by omega), je₀, msk_sq hmk₀]) rfl dX0_squareOf_53
        refine lv_iload C₀.1.1 C₀.1.2.1 dX0_squareOf_25 (lv_at hl₀ 5 rfl) ?_
        refine xw_gets C₀ hH₀ z3₀ (List.mem_cons_of_mem _ (WG_mem 669 (by decide +kernel) (by decide +kernel))) dX0_squareOf_27 ?_
        refine xw_tlen C₀ hH₀ y3₀ (z := 47) rfl dX0_squareOf_30 ?_
        refine xi_cge (tgt := 51) C₀.1.1 C₀.1.2.1 dX0_squareOf_31 (by decide) (by omega) (by omega) (fun h_2₀ => ?_) (fun h_2₀ => ?_)
        · exact L51₀  (by rw [← i1₀, fdI_eq (j := z₀), if_neg (by rintro ⟨q1₀, q2₀⟩; first | omega | (simp only [decide_eq_true_eq] at q2₀; omega))]) _ _ _ hH₀ (lv_sub hl₀ [0, 1, 2, 3, 4, 5] rfl)
        · have hmg₀ := mskG_rg z₀.toNat (by omega)
          rw [Int.toNat_of_nonneg i2₀.1] at hmg₀
          refine xw_gets C₀ hH₀ z3₀ (List.mem_cons_of_mem _ (WG_mem 669 (by decide +kernel) (by decide +kernel))) dX0_squareOf_34 ?_
          refine lv_iload C₀.1.1 C₀.1.2.1 dX0_squareOf_37 (lv_at hl₀ 5 rfl) ?_
          refine xw_tld C₀ hH₀ y3₀ (z := z₀) (by omega) (by omega) (by decide) dX0_squareOf_39 ?_
          refine lv_iload C₀.1.1 C₀.1.2.1 dX0_squareOf_40 (lv_at hl₀ 4 rfl) ?_
          refine xi_cge (tgt := 51) C₀.1.1 C₀.1.2.1 dX0_squareOf_42 (by decide) (by omega) (by omega) (fun h_3₀ => ?_) (fun h_3₀ => ?_)
          · exact L51₀  (by rw [← i1₀, fdI_eq (j := z₀), if_neg (by rintro ⟨q1₀, q2₀⟩; first | omega | (simp only [decide_eq_true_eq] at q2₀; omega))]) _ _ _ hH₀ (lv_sub hl₀ [0, 1, 2, 3, 4, 5] rfl)
          · refine lv_iinc (v := iI (z₀ + 1)) (lv' := [(5, .int (iI (z₀ + 1))), (0, .ref g₀), (1, .int (iI x)), (2, .int (iI y₀)), (3, .int (iI la₀)), (4, .int (iI (mMask s₀ x y₀ la₀)))]) C₀.1.1 C₀.1.2.1 dX0_squareOf_45 hl₀ (k := 5) rfl (iI_add _ (1)) (by decide) rfl (fun ls₀ hl₀ => ?_)
            refine lv_goto (tgt := 25) C₀.1.1 C₀.1.2.1 dX0_squareOf_48 (by decide) ?_
            exact ih25₀ (z₀ + 1) (by rw [← i1₀, fdI_eq (j := z₀), if_pos ⟨by omega, by simp only [decide_eq_true_eq]; omega⟩]) (by omega) (by omega) _ _ _ hH₀ (lv_sub hl₀ [1, 2, 3, 4, 5, 0] rfl)
    exact L25₀ (((47 - 0) : Int).toNat + 1) 0 (rfl) (by omega) (by omega) _ _ _ hH₀ (lv_sub hl₀ [2, 3, 4, 5, 1, 0] rfl)
  · refine lv_bipush (v := iI 47) C₀.1.1 C₀.1.2.1 dX0_squareOf_10 (by decide) ?_
    exact xr_i C₀ hH₀ hlk₀ hr₀ hQ₀ rfl hAe₀ () trivial (by unfold gSq; rw [if_pos (by omega)]) rfl dX0_squareOf_12
abbrev wgX0_rowOfSquares : List Cond := .code yX0_rowOfSquares cX0_rowOfSquares 5 (some .int) :: WG
abbrev rmX0_rowOfSquares : Room := { frames := 4, cells := 0, slots := 0, locals := 98 }
set_option maxHeartbeats 4000000 in
set_option maxRecDepth 100000 in
/-- rowOfSquares -/
theorem c_X0_rowOfSquares (lL₀ : Launch) (D₀ : va_G) (k₀ : Nat → ClassId) (sz₀ : Nat) (g₀ : Nat) (w₀ : Int) (h₀ : Int) (ht₀ : Int64) (fx₀ : Int64) (be₀ : Int) (x : Int) (y₀ : Int) (s₀ : Int → Int) (hg₀ : gR s₀ w₀ h₀ ht₀ fx₀ be₀) (hS₀ : mS s₀) (hx₀ : 0 ≤ x ∧ x < s₀ 0) (hy₀ : 0 ≤ y₀ ∧ y₀ < s₀ 1) : Met lL₀ yX0_rowOfSquares wgX0_rowOfSquares rmX0_rowOfSquares (gPc ZG D₀ (tyk k₀) [.ref g₀, .int (iI x), .int (iI y₀)] sz₀ [gO g₀ w₀ h₀ ht₀ fx₀ be₀]) (gQi D₀ (tyk k₀) [gO g₀ w₀ h₀ ht₀ fx₀ be₀] sz₀ (fun (_ : Unit) => True) (fun (_ : Unit) => (iI (gRow s₀ x y₀))) (fun (_ : Unit) => [gO g₀ w₀ h₀ ht₀ fx₀ be₀])) 0 0 (va_A [gO g₀ w₀ h₀ ht₀ fx₀ be₀] sz₀) := by
  refine xs_met (cc := cX0_rowOfSquares) (maxL := 5) (ret := some .int) (by decide) rfl (Nat.le_of_ble_eq_true rfl) ?_
  intro pP₀ eN₀ sT₀ mI₀ below₀ meth₀ cD₀ hsz₀ args₀ QQ₀ C₀ hr₀ hlk₀ hnm₀ hQ₀ ls₀ H₀ locs₀ hl₀ hH₀
  subst hsz₀
  have hl₀ : lv_has ls₀ 5 [(0, .ref g₀), (1, .int (iI x)), (2, .int (iI y₀))] := hl₀
  generalize hAe₀ : va_A [gO g₀ w₀ h₀ ht₀ fx₀ be₀] sT₀.heap.size = A₀ at C₀ hH₀ hQ₀
  obtain ⟨rfl, rfl, rfl, rfl, rfl⟩ := hg₀
  refine lv_iconst (v := iI 0) C₀.1.1 C₀.1.2.1 dX0_rowOfSquares_0 (by decide) ?_
  refine lv_istore_n (lv' := [(3, .int (iI 0)), (0, .ref g₀), (1, .int (iI x)), (2, .int (iI y₀))]) C₀.1.1 C₀.1.2.1 dX0_rowOfSquares_1 rfl hl₀ (by decide) rfl (fun ls₀ hl₀ => ?_)
  refine lv_iconst (v := iI 3) C₀.1.1 C₀.1.2.1 dX0_rowOfSquares_2 (by decide) ?_
  refine lv_istore (lv' := [(4, .int (iI 3)), (3, .int (iI 0)), (0, .ref g₀), (1, .int (iI x)), (2, .int (iI y₀))]) C₀.1.1 C₀.1.2.1 dX0_rowOfSquares_3 hl₀ (by decide) rfl (fun ls₀ hl₀ => ?_)
  have L5₀ : ∀ (nn₀ : Nat), ∀ (r₀ : Int) (la₀ : Int), (r₀ = if la₀ = 3 then 0 else if la₀ = 2 then gSq s₀ x y₀ 3 else if la₀ = 1 then gSq s₀ x y₀ 3 * 64 + gSq s₀ x y₀ 2 else gRow s₀ x y₀) → (0 ≤ la₀ ∧ la₀ ≤ 3) → (0 ≤ r₀ ∧ (1 ≤ la₀ → r₀ < 4096)) → ((la₀) < (nn₀ : Int)) → ∀ (H₀ : Heap) (locs₀ : List Loc) (ls₀ : Array Slot), Hp D₀ A₀ sT₀.heap [gO g₀ (s₀ 0) (s₀ 1) (pk s₀ 3) (pk s₀ 27) (s₀ 2)] H₀ locs₀ → lv_has ls₀ 5 [(0, .ref g₀), (1, .int (iI x)), (2, .int (iI y₀)), (3, .int (iI r₀)), (4, .int (iI la₀))] → W pP₀ lL₀ eN₀ rmX0_rowOfSquares sT₀ mI₀ args₀ below₀ meth₀ cD₀ H₀ locs₀ 0 0 QQ₀ (F0 mI₀ 5 ls₀ []) := by
    intro nn₀
    induction nn₀ with
    | zero => intro r₀ la₀ i1₀ i2₀ i3₀ hm₀; exact absurd hm₀ (by omega)
    | succ nn₀ ih5₀ =>
      intro r₀ la₀ i1₀ i2₀ i3₀ hm5₀ H₀ locs₀ ls₀ hH₀ hl₀
      refine lv_iload C₀.1.1 C₀.1.2.1 dX0_rowOfSquares_5 (lv_at hl₀ 4 rfl) ?_
      refine lv_iconst (v := iI 1) C₀.1.1 C₀.1.2.1 dX0_rowOfSquares_7 (by decide) ?_
      refine xi_clt (tgt := 31) C₀.1.1 C₀.1.2.1 dX0_rowOfSquares_8 (by decide) (by omega) (by omega) (fun h_1₀ => ?_) (fun h_1₀ => ?_)
      · refine lv_iload_n C₀.1.1 C₀.1.2.1 dX0_rowOfSquares_31 rfl (lv_at hl₀ 3 rfl) ?_
        exact xr_i C₀ hH₀ hlk₀ hr₀ hQ₀ rfl hAe₀ () trivial (by rw [i1₀, if_neg (by omega), if_neg (by omega), if_neg (by omega)]) rfl dX0_rowOfSquares_32
      · have hq₀ := gSq_rg s₀ x y₀ la₀
        have hq3₀ := gSq_rg s₀ x y₀ 3
        have hq2₀ := gSq_rg s₀ x y₀ 2
        refine lv_iload_n C₀.1.1 C₀.1.2.1 dX0_rowOfSquares_11 rfl (lv_at hl₀ 3 rfl) ?_
        refine lv_bipush (v := iI 6) C₀.1.1 C₀.1.2.1 dX0_rowOfSquares_12 (by decide) ?_
        refine lv_ishl C₀.1.1 C₀.1.2.1 dX0_rowOfSquares_14 ?_
        refine lv_aload_n C₀.1.1 C₀.1.2.1 dX0_rowOfSquares_15 rfl (lv_at hl₀ 0 rfl) ?_
        refine lv_iload_n C₀.1.1 C₀.1.2.1 dX0_rowOfSquares_16 rfl (lv_at hl₀ 1 rfl) ?_
        refine lv_iload_n C₀.1.1 C₀.1.2.1 dX0_rowOfSquares_17 rfl (lv_at hl₀ 2 rfl) ?_
        refine lv_iload C₀.1.1 C₀.1.2.1 dX0_rowOfSquares_18 (lv_at hl₀ 4 rfl) ?_
        refine xc_Vi (wr := []) (ws' := fun _ => [gO g₀ (s₀ 0) (s₀ 1) (pk s₀ 3) (pk s₀ 27) (s₀ 2)]) (As := [.int (iI x), .int (iI y₀), .int (iI la₀)]) (rest := [.int ((iI r₀) <<< ((iI 6) &&& 31))]) C₀ hH₀ (c_X0_squareOf lL₀ D₀ k₀ H₀.size g₀ (s₀ 0) (s₀ 1) (pk s₀ 3) (pk s₀ 27) (s₀ 2) x y₀ la₀ s₀ (⟨rfl, rfl, rfl, rfl, rfl⟩) (hS₀) (by omega) (by omega) (by omega)) ZG_b (ZG_pass C₀ hH₀ [0] rfl) (cwV 3 C₀.1.2.2.2.2 (WG_V WG_c (WG_mem 655 (by decide +kernel) (by decide +kernel)) (WG_mem 656 (by decide +kernel) (by decide +kernel)) (WG_mem 657 (by decide +kernel) (by decide +kernel)) (WG_mem 64 (by decide +kernel) (by decide +kernel)) (WG_k (WG_mem 658 (by decide +kernel) (by decide +kernel)))) rfl rfl rfl (by decide +kernel) ⟨Nat.le_of_ble_eq_true rfl, Nat.le_of_ble_eq_true rfl⟩) [0] [] [0] rfl rfl (by decide) (by decide) (by decide) (fun _ => rfl) (by decide) (q0 := 0) rfl rfl rfl hl₀.1 rfl (Nat.le_of_ble_eq_true rfl) dX0_rowOfSquares_20 ⟨Nat.le_of_ble_eq_true rfl, Nat.le_of_ble_eq_true rfl⟩ (fun _ _ H₀ locs₀ hH₀ => ?_)
        refine lv_ior C₀.1.1 C₀.1.2.1 dX0_rowOfSquares_23 ?_
        refine xt_i (y := (iI (r₀ * 64 + gSq s₀ x y₀ la₀))) (or6 (by omega) (by omega)) ?_
        refine lv_istore_n (lv' := [(3, .int (iI (r₀ * 64 + gSq s₀ x y₀ la₀))), (0, .ref g₀), (1, .int (iI x)), (2, .int (iI y₀)), (4, .int (iI la₀))]) C₀.1.1 C₀.1.2.1 dX0_rowOfSquares_24 rfl hl₀ (by decide) rfl (fun ls₀ hl₀ => ?_)
        refine lv_iinc (v := iI (la₀ + (-1))) (lv' := [(4, .int (iI (la₀ + (-1)))), (3, .int (iI (r₀ * 64 + gSq s₀ x y₀ la₀))), (0, .ref g₀), (1, .int (iI x)), (2, .int (iI y₀))]) C₀.1.1 C₀.1.2.1 dX0_rowOfSquares_25 hl₀ (k := 4) rfl (iI_add _ (-1)) (by decide) rfl (fun ls₀ hl₀ => ?_)
        refine lv_goto (tgt := 5) C₀.1.1 C₀.1.2.1 dX0_rowOfSquares_28 (by decide) ?_
        exact ih5₀ (r₀ * 64 + gSq s₀ x y₀ la₀) (la₀ + (-1)) ((by rcases (show la₀ = 1 ∨ la₀ = 2 ∨ la₀ = 3 by omega) with e₀ | e₀ | e₀ <;> subst e₀ <;> rw [i1₀] <;> simp [gRow])) (by omega) ((by refine ⟨by omega, fun q₀ => ?_⟩; rcases (show la₀ = 2 ∨ la₀ = 3 by omega) with e₀ | e₀ <;> subst e₀ <;> simp at i1₀ <;> omega)) (by omega) _ _ _ hH₀ (lv_sub hl₀ [2, 3, 4, 1, 0] rfl)
  exact L5₀ (((3) : Int).toNat + 1) 0 3 (rfl) (by omega) (by omega) (by omega) _ _ _ hH₀ (lv_sub hl₀ [2, 3, 4, 1, 0] rfl)
abbrev wgX0_jarringAheadOf : List Cond := .code yX0_jarringAheadOf cX0_jarringAheadOf 8 (some .int) :: WG
abbrev rmX0_jarringAheadOf : Room := { frames := 1, cells := 0, slots := 0, locals := 22 }
set_option maxHeartbeats 4000000 in
set_option maxRecDepth 100000 in
/-- jarringAheadOf -/
theorem c_X0_jarringAheadOf (lL₀ : Launch) (D₀ : va_G) (k₀ : Nat → ClassId) (sz₀ : Nat) (g₀ : Nat) (w₀ : Int) (h₀ : Int) (ht₀ : Int64) (fx₀ : Int64) (be₀ : Int) (x : Int) (y₀ : Int) (s₀ : Int → Int) (hg₀ : gR s₀ w₀ h₀ ht₀ fx₀ be₀) (hS₀ : mS s₀) (hx₀ : 0 ≤ x ∧ x < s₀ 0) (hy₀ : 0 ≤ y₀ ∧ y₀ < s₀ 1) : Met lL₀ yX0_jarringAheadOf wgX0_jarringAheadOf rmX0_jarringAheadOf (gPc ZG D₀ (tyk k₀) [.ref g₀, .int (iI x), .int (iI y₀)] sz₀ [gO g₀ w₀ h₀ ht₀ fx₀ be₀]) (gQi D₀ (tyk k₀) [gO g₀ w₀ h₀ ht₀ fx₀ be₀] sz₀ (fun (_ : Unit) => True) (fun (_ : Unit) => (iI (gJA s₀ x y₀))) (fun (_ : Unit) => [gO g₀ w₀ h₀ ht₀ fx₀ be₀])) 0 0 (va_A [gO g₀ w₀ h₀ ht₀ fx₀ be₀] sz₀) := by
  refine xs_met (cc := cX0_jarringAheadOf) (maxL := 8) (ret := some .int) (by decide) rfl (Nat.le_of_ble_eq_true rfl) ?_
  intro pP₀ eN₀ sT₀ mI₀ below₀ meth₀ cD₀ hsz₀ args₀ QQ₀ C₀ hr₀ hlk₀ hnm₀ hQ₀ ls₀ H₀ locs₀ hl₀ hH₀
  subst hsz₀
  have hl₀ : lv_has ls₀ 8 [(0, .ref g₀), (1, .int (iI x)), (2, .int (iI y₀))] := hl₀
  generalize hAe₀ : va_A [gO g₀ w₀ h₀ ht₀ fx₀ be₀] sT₀.heap.size = A₀ at C₀ hH₀ hQ₀
  obtain ⟨rfl, rfl, rfl, rfl, rfl⟩ := hg₀
  obtain ⟨hs0₀, hs1₀, hs2₀, hsh₀, hsf₀⟩ := id hS₀
  have hcl₀ := cells_rg hs0₀ hs1₀
  obtain ⟨⟨t1₀, z1₀, y1₀⟩, ⟨t2₀, z2₀, y2₀⟩, ⟨t3₀, z3₀, y3₀⟩, ⟨t4₀, z4₀, y4₀⟩, hnw₀⟩ := id C₀.2.2
  have hc1₀ := cell_rg hs0₀ hx₀ hy₀
  have hh1₀ := hsh₀ (3 + (s₀ 0 * y₀ + x)) (by omega) (by omega)
  refine lv_aload_n C₀.1.1 C₀.1.2.1 dX0_jarringAheadOf_0 rfl (lv_at hl₀ 0 rfl) ?_
  refine lv_aload_n C₀.1.1 C₀.1.2.1 dX0_jarringAheadOf_1 rfl (lv_at hl₀ 0 rfl) ?_
  refine lv_iload_n C₀.1.1 C₀.1.2.1 dX0_jarringAheadOf_2 rfl (lv_at hl₀ 1 rfl) ?_
  refine lv_iload_n C₀.1.1 C₀.1.2.1 dX0_jarringAheadOf_3 rfl (lv_at hl₀ 2 rfl) ?_
  refine xc_Vi (wr := []) (ws' := fun _ => [gO g₀ (s₀ 0) (s₀ 1) (pk s₀ 3) (pk s₀ 27) (s₀ 2)]) (As := [.int (iI x), .int (iI y₀)]) (rest := [.ref g₀]) C₀ hH₀ (c_X0_numberOf lL₀ D₀ k₀ H₀.size g₀ (s₀ 0) (s₀ 1) (pk s₀ 3) (pk s₀ 27) (s₀ 2) x y₀ s₀ (⟨rfl, rfl, rfl, rfl, rfl⟩)) ZT_b (fun _ _ _ => trivial) (cwV 2 C₀.1.2.2.2.2 (WG_V WG_c (WG_mem 519 (by decide +kernel) (by decide +kernel)) (WG_mem 423 (by decide +kernel) (by decide +kernel)) (WG_mem 424 (by decide +kernel) (by decide +kernel)) (WG_mem 64 (by decide +kernel) (by decide +kernel)) (WG_k (WG_mem 425 (by decide +kernel) (by decide +kernel)))) rfl rfl rfl (by decide +kernel) ⟨Nat.le_of_ble_eq_true rfl, Nat.le_of_ble_eq_true rfl⟩) [0] [] [0] rfl rfl (by decide) (by decide) (by decide) (fun _ => rfl) (by decide) (q0 := 0) rfl rfl rfl hl₀.1 rfl (Nat.le_of_ble_eq_true rfl) dX0_jarringAheadOf_4 ⟨Nat.le_of_ble_eq_true rfl, Nat.le_of_ble_eq_true rfl⟩ (fun _ _ H₀ locs₀ hH₀ => ?_)
  refine xc_Vi (wr := []) (ws' := fun _ => [gO g₀ (s₀ 0) (s₀ 1) (pk s₀ 3) (pk s₀ 27) (s₀ 2)]) (As := [.int (iI (s₀ 0 * y₀ + x))]) (rest := []) C₀ hH₀ (c_X0_heightOf lL₀ D₀ k₀ H₀.size g₀ (s₀ 0) (s₀ 1) (pk s₀ 3) (pk s₀ 27) (s₀ 2) (s₀ 0 * y₀ + x) s₀ (⟨rfl, rfl, rfl, rfl, rfl⟩) (hS₀) (by omega)) ZT_b (fun _ _ _ => trivial) (cwV 1 C₀.1.2.2.2.2 (WG_V WG_c (WG_mem 499 (by decide +kernel) (by decide +kernel)) (WG_mem 483 (by decide +kernel) (by decide +kernel)) (WG_mem 484 (by decide +kernel) (by decide +kernel)) (WG_mem 64 (by decide +kernel) (by decide +kernel)) (WG_k (WG_mem 485 (by decide +kernel) (by decide +kernel)))) rfl rfl rfl (by decide +kernel) ⟨Nat.le_of_ble_eq_true rfl, Nat.le_of_ble_eq_true rfl⟩) [0] [] [0] rfl rfl (by decide) (by decide) (by decide) (fun _ => rfl) (by decide) (q0 := 0) rfl rfl rfl hl₀.1 rfl (Nat.le_of_ble_eq_true rfl) dX0_jarringAheadOf_7 ⟨Nat.le_of_ble_eq_true rfl, Nat.le_of_ble_eq_true rfl⟩ (fun _ _ H₀ locs₀ hH₀ => ?_)
  refine lv_istore_n (lv' := [(3, .int (iI (s₀ (3 + (s₀ 0 * y₀ + x))))), (0, .ref g₀), (1, .int (iI x)), (2, .int (iI y₀))]) C₀.1.1 C₀.1.2.1 dX0_jarringAheadOf_10 rfl hl₀ (by decide) rfl (fun ls₀ hl₀ => ?_)
  refine lv_iconst (v := iI 0) C₀.1.1 C₀.1.2.1 dX0_jarringAheadOf_11 (by decide) ?_
  refine lv_istore (lv' := [(4, .int (iI 0)), (3, .int (iI (s₀ (3 + (s₀ 0 * y₀ + x))))), (0, .ref g₀), (1, .int (iI x)), (2, .int (iI y₀))]) C₀.1.1 C₀.1.2.1 dX0_jarringAheadOf_12 hl₀ (by decide) rfl (fun ls₀ hl₀ => ?_)
  refine lv_iconst (v := iI 2) C₀.1.1 C₀.1.2.1 dX0_jarringAheadOf_14 (by decide) ?_
  refine lv_istore (lv' := [(5, .int (iI 2)), (4, .int (iI 0)), (3, .int (iI (s₀ (3 + (s₀ 0 * y₀ + x))))), (0, .ref g₀), (1, .int (iI x)), (2, .int (iI y₀))]) C₀.1.1 C₀.1.2.1 dX0_jarringAheadOf_15 hl₀ (by decide) rfl (fun ls₀ hl₀ => ?_)
  have L17₀ : ∀ (nn₀ : Nat), ∀ (n₀ : Int) (z₀ : Int), (n₀ = sI (fun k₀ => gJX s₀ x y₀ (k₀ + 2)) (z₀ - 2)) → (2 ≤ z₀ ∧ z₀ ≤ 6) → ((6 - z₀) < (nn₀ : Int)) → ∀ (H₀ : Heap) (locs₀ : List Loc) (ls₀ : Array Slot), Hp D₀ A₀ sT₀.heap [gO g₀ (s₀ 0) (s₀ 1) (pk s₀ 3) (pk s₀ 27) (s₀ 2)] H₀ locs₀ → lv_has ls₀ 8 [(0, .ref g₀), (1, .int (iI x)), (2, .int (iI y₀)), (3, .int (iI (s₀ (3 + (s₀ 0 * y₀ + x))))), (4, .int (iI n₀)), (5, .int (iI z₀))] → W pP₀ lL₀ eN₀ rmX0_jarringAheadOf sT₀ mI₀ args₀ below₀ meth₀ cD₀ H₀ locs₀ 0 0 QQ₀ (F0 mI₀ 17 ls₀ []) := by
    intro nn₀
    induction nn₀ with
    | zero => intro n₀ z₀ i1₀ i2₀ hm₀; exact absurd hm₀ (by omega)
    | succ nn₀ ih17₀ =>
      intro n₀ z₀ i1₀ i2₀ hm17₀ H₀ locs₀ ls₀ hH₀ hl₀
      refine lv_iload C₀.1.1 C₀.1.2.1 dX0_jarringAheadOf_17 (lv_at hl₀ 5 rfl) ?_
      refine lv_iconst (v := iI 5) C₀.1.1 C₀.1.2.1 dX0_jarringAheadOf_19 (by decide) ?_
      refine xi_cgt (tgt := 84) C₀.1.1 C₀.1.2.1 dX0_jarringAheadOf_20 (by decide) (by omega) (by omega) (fun h_1₀ => ?_) (fun h_1₀ => ?_)
      · refine lv_iload C₀.1.1 C₀.1.2.1 dX0_jarringAheadOf_84 (lv_at hl₀ 4 rfl) ?_
        exact xr_i C₀ hH₀ hlk₀ hr₀ hQ₀ rfl hAe₀ () trivial (by unfold gJA; rw [i1₀, show z₀ - 2 = 4 by omega]) rfl dX0_jarringAheadOf_86
      · have hcg₀ := colG_eq (k := z₀) (by omega)
        have hrg₀ := rowG_eq (k := z₀) (by omega)
        have hr2₀ := mDx_rg z₀
        have hr3₀ := mDy_rg z₀
        refine lv_iload_n C₀.1.1 C₀.1.2.1 dX0_jarringAheadOf_23 rfl (lv_at hl₀ 1 rfl) ?_
        refine xw_gets C₀ hH₀ z1₀ (List.mem_cons_of_mem _ (WG_mem 520 (by decide +kernel) (by decide +kernel))) dX0_jarringAheadOf_24 ?_
        refine lv_iload C₀.1.1 C₀.1.2.1 dX0_jarringAheadOf_27 (lv_at hl₀ 5 rfl) ?_
        refine xw_tld C₀ hH₀ y1₀ (z := z₀) (by omega) (by omega) (by decide) dX0_jarringAheadOf_29 ?_
        refine xi_add C₀.1.1 C₀.1.2.1 dX0_jarringAheadOf_30 ?_
        refine lv_istore (lv' := [(6, .int (iI (x + (colG z₀)))), (0, .ref g₀), (1, .int (iI x)), (2, .int (iI y₀)), (3, .int (iI (s₀ (3 + (s₀ 0 * y₀ + x))))), (4, .int (iI n₀)), (5, .int (iI z₀))]) C₀.1.1 C₀.1.2.1 dX0_jarringAheadOf_31 hl₀ (by decide) rfl (fun ls₀ hl₀ => ?_)
        refine lv_iload_n C₀.1.1 C₀.1.2.1 dX0_jarringAheadOf_33 rfl (lv_at hl₀ 3 rfl) ?_
        refine xw_gets C₀ hH₀ z2₀ (List.mem_cons_of_mem _ (WG_mem 522 (by decide +kernel) (by decide +kernel))) dX0_jarringAheadOf_34 ?_
        refine lv_iload C₀.1.1 C₀.1.2.1 dX0_jarringAheadOf_37 (lv_at hl₀ 6 rfl) ?_
        refine xw_tld C₀ hH₀ y2₀ (z := z₀) (by omega) (by omega) (by decide) dX0_jarringAheadOf_39 ?_
        refine xi_add C₀.1.1 C₀.1.2.1 dX0_jarringAheadOf_40 ?_
        refine lv_istore (lv' := [(7, .int (iI (y₀ + (rowG z₀)))), (6, .int (iI (x + (colG z₀)))), (0, .ref g₀), (1, .int (iI x)), (2, .int (iI y₀)), (3, .int (iI (s₀ (3 + (s₀ 0 * y₀ + x))))), (4, .int (iI n₀)), (5, .int (iI z₀))]) C₀.1.1 C₀.1.2.1 dX0_jarringAheadOf_41 hl₀ (by decide) rfl (fun ls₀ hl₀ => ?_)
        have L78₀ : ∀ (n3₀ : Int), (n3₀ = n₀ + gJX s₀ x y₀ z₀) → ∀ (H₀ : Heap) (locs₀ : List Loc) (ls₀ : Array Slot), Hp D₀ A₀ sT₀.heap [gO g₀ (s₀ 0) (s₀ 1) (pk s₀ 3) (pk s₀ 27) (s₀ 2)] H₀ locs₀ → lv_has ls₀ 8 [(0, .ref g₀), (1, .int (iI x)), (2, .int (iI y₀)), (3, .int (iI (s₀ (3 + (s₀ 0 * y₀ + x))))), (4, .int (iI n3₀)), (5, .int (iI z₀))] → W pP₀ lL₀ eN₀ rmX0_jarringAheadOf sT₀ mI₀ args₀ below₀ meth₀ cD₀ H₀ locs₀ 0 0 QQ₀ (F0 mI₀ 78 ls₀ []) := by
          intro n3₀ je₀ H₀ locs₀ ls₀ hH₀ hl₀
          refine lv_iinc (v := iI (z₀ + 1)) (lv' := [(5, .int (iI (z₀ + 1))), (0, .ref g₀), (1, .int (iI x)), (2, .int (iI y₀)), (3, .int (iI (s₀ (3 + (s₀ 0 * y₀ + x))))), (4, .int (iI n3₀))]) C₀.1.1 C₀.1.2.1 dX0_jarringAheadOf_78 hl₀ (k := 5) rfl (iI_add _ (1)) (by decide) rfl (fun ls₀ hl₀ => ?_)
          refine lv_goto (tgt := 17) C₀.1.1 C₀.1.2.1 dX0_jarringAheadOf_81 (by decide) ?_
          exact ih17₀ n3₀ (z₀ + 1) (by rw [show z₀ + 1 - 2 = (z₀ - 2) + 1 by omega, sI_s (by omega), ← i1₀, show z₀ - 2 + 2 = z₀ by omega, je₀]) (by omega) (by omega) _ _ _ hH₀ (lv_sub hl₀ [1, 2, 3, 4, 5, 0] rfl)
        refine lv_aload_n C₀.1.1 C₀.1.2.1 dX0_jarringAheadOf_43 rfl (lv_at hl₀ 2 rfl) ?_
        refine lv_iload C₀.1.1 C₀.1.2.1 dX0_jarringAheadOf_44 (lv_at hl₀ 1 rfl) ?_
        refine lv_iload C₀.1.1 C₀.1.2.1 dX0_jarringAheadOf_46 (lv_at hl₀ 0 rfl) ?_
        refine xc_Vi (wr := []) (ws' := fun _ => [gO g₀ (s₀ 0) (s₀ 1) (pk s₀ 3) (pk s₀ 27) (s₀ 2)]) (As := [.int (iI (x + (colG z₀))), .int (iI (y₀ + (rowG z₀)))]) (rest := []) C₀ hH₀ (c_X0_has lL₀ D₀ k₀ H₀.size g₀ (s₀ 0) (s₀ 1) (pk s₀ 3) (pk s₀ 27) (s₀ 2) (x + (colG z₀)) (y₀ + (rowG z₀)) s₀ (⟨rfl, rfl, rfl, rfl, rfl⟩) (by omega) (by omega) (by omega) (by omega)) ZT_b (fun _ _ _ => trivial) (cwV 2 C₀.1.2.2.2.2 (WG_V WG_c (WG_mem 524 (by decide +kernel) (by decide +kernel)) (WG_mem 444 (by decide +kernel) (by decide +kernel)) (WG_mem 445 (by decide +kernel) (by decide +kernel)) (WG_mem 64 (by decide +kernel) (by decide +kernel)) (WG_k (WG_mem 446 (by decide +kernel) (by decide +kernel)))) rfl rfl rfl (by decide +kernel) ⟨Nat.le_of_ble_eq_true rfl, Nat.le_of_ble_eq_true rfl⟩) [0] [] [0] rfl rfl (by decide) (by decide) (by decide) (fun _ => rfl) (by decide) (q0 := 0) rfl rfl rfl hl₀.1 rfl (Nat.le_of_ble_eq_true rfl) dX0_jarringAheadOf_48 ⟨Nat.le_of_ble_eq_true rfl, Nat.le_of_ble_eq_true rfl⟩ (fun _ _ H₀ locs₀ hH₀ => ?_)
        refine xp_eq (tgt := 78) C₀.1.1 C₀.1.2.1 dX0_jarringAheadOf_51 (by decide) (fun h_2₀ => ?_) (fun h_2₀ => ?_)
        · exact L78₀ n₀ ((by unfold gJX; rw [if_neg (by omega), Int.add_zero])) _ _ _ hH₀ (lv_sub hl₀ [2, 3, 4, 5, 6, 7] rfl)
        · have hc2₀ := cell_rg hs0₀ (show 0 ≤ x + colG z₀ ∧ x + colG z₀ < s₀ 0 by omega) (show 0 ≤ y₀ + rowG z₀ ∧ y₀ + rowG z₀ < s₀ 1 by omega)
          have hh2₀ := hsh₀ (3 + (s₀ 0 * (y₀ + rowG z₀) + (x + colG z₀))) (by omega) (by omega)
          refine lv_aload_n C₀.1.1 C₀.1.2.1 dX0_jarringAheadOf_54 rfl (lv_at hl₀ 2 rfl) ?_
          refine lv_aload_n C₀.1.1 C₀.1.2.1 dX0_jarringAheadOf_55 rfl (lv_at hl₀ 2 rfl) ?_
          refine lv_iload C₀.1.1 C₀.1.2.1 dX0_jarringAheadOf_56 (lv_at hl₀ 1 rfl) ?_
          refine lv_iload C₀.1.1 C₀.1.2.1 dX0_jarringAheadOf_58 (lv_at hl₀ 0 rfl) ?_
          refine xc_Vi (wr := []) (ws' := fun _ => [gO g₀ (s₀ 0) (s₀ 1) (pk s₀ 3) (pk s₀ 27) (s₀ 2)]) (As := [.int (iI (x + (colG z₀))), .int (iI (y₀ + (rowG z₀)))]) (rest := [.ref g₀]) C₀ hH₀ (c_X0_numberOf lL₀ D₀ k₀ H₀.size g₀ (s₀ 0) (s₀ 1) (pk s₀ 3) (pk s₀ 27) (s₀ 2) (x + (colG z₀)) (y₀ + (rowG z₀)) s₀ (⟨rfl, rfl, rfl, rfl, rfl⟩)) ZT_b (fun _ _ _ => trivial) (cwV 2 C₀.1.2.2.2.2 (WG_V WG_c (WG_mem 519 (by decide +kernel) (by decide +kernel)) (WG_mem 423 (by decide +kernel) (by decide +kernel)) (WG_mem 424 (by decide +kernel) (by decide +kernel)) (WG_mem 64 (by decide +kernel) (by decide +kernel)) (WG_k (WG_mem 425 (by decide +kernel) (by decide +kernel)))) rfl rfl rfl (by decide +kernel) ⟨Nat.le_of_ble_eq_true rfl, Nat.le_of_ble_eq_true rfl⟩) [0] [] [0] rfl rfl (by decide) (by decide) (by decide) (fun _ => rfl) (by decide) (q0 := 0) rfl rfl rfl hl₀.1 rfl (Nat.le_of_ble_eq_true rfl) dX0_jarringAheadOf_60 ⟨Nat.le_of_ble_eq_true rfl, Nat.le_of_ble_eq_true rfl⟩ (fun _ _ H₀ locs₀ hH₀ => ?_)
          refine xc_Vi (wr := []) (ws' := fun _ => [gO g₀ (s₀ 0) (s₀ 1) (pk s₀ 3) (pk s₀ 27) (s₀ 2)]) (As := [.int (iI (s₀ 0 * (y₀ + (rowG z₀)) + (x + (colG z₀))))]) (rest := []) C₀ hH₀ (c_X0_heightOf lL₀ D₀ k₀ H₀.size g₀ (s₀ 0) (s₀ 1) (pk s₀ 3) (pk s₀ 27) (s₀ 2) (s₀ 0 * (y₀ + (rowG z₀)) + (x + (colG z₀))) s₀ (⟨rfl, rfl, rfl, rfl, rfl⟩) (hS₀) (by omega)) ZT_b (fun _ _ _ => trivial) (cwV 1 C₀.1.2.2.2.2 (WG_V WG_c (WG_mem 499 (by decide +kernel) (by decide +kernel)) (WG_mem 483 (by decide +kernel) (by decide +kernel)) (WG_mem 484 (by decide +kernel) (by decide +kernel)) (WG_mem 64 (by decide +kernel) (by decide +kernel)) (WG_k (WG_mem 485 (by decide +kernel) (by decide +kernel)))) rfl rfl rfl (by decide +kernel) ⟨Nat.le_of_ble_eq_true rfl, Nat.le_of_ble_eq_true rfl⟩) [0] [] [0] rfl rfl (by decide) (by decide) (by decide) (fun _ => rfl) (by decide) (q0 := 0) rfl rfl rfl hl₀.1 rfl (Nat.le_of_ble_eq_true rfl) dX0_jarringAheadOf_63 ⟨Nat.le_of_ble_eq_true rfl, Nat.le_of_ble_eq_true rfl⟩ (fun _ _ H₀ locs₀ hH₀ => ?_)
          refine lv_iload_n C₀.1.1 C₀.1.2.1 dX0_jarringAheadOf_66 rfl (lv_at hl₀ 5 rfl) ?_
          refine xi_sub C₀.1.1 C₀.1.2.1 dX0_jarringAheadOf_67 ?_
          refine va_mabs C₀.1.1 C₀.1.2.1 (by rw [C₀.1.2.2.1]; exact hl₀.1.symm) C₀.1.2.2.2.1 (C₀.1.2.2.2.2 (.methodLink RX0 94 Lib.Math.abs.name) (List.mem_cons_of_mem _ (WG_mem 525 (by decide +kernel) (by decide +kernel)))) (C₀.1.2.2.2.2 (.static Lib.Math.abs.name) (List.mem_cons_of_mem _ (WG_mem 526 (by decide +kernel) (by decide +kernel)))) (C₀.1.2.2.2.2 (.initialized "java/lang/Math") (List.mem_cons_of_mem _ (WG_mem 68 (by decide +kernel) (by decide +kernel)))) (C₀.1.2.2.2.2 (.code Lib.Math.abs.name Lib.Math.abs.code 1 (some .int)) (List.mem_cons_of_mem _ (WG_mem 527 (by decide +kernel) (by decide +kernel)))) (Nat.le_of_ble_eq_true rfl) (Nat.le_of_ble_eq_true rfl) (Nat.zero_le _) (Nat.zero_le _) dX0_jarringAheadOf_68 ?_
          refine xt_i (y := (iI (if s₀ (3 + (s₀ 0 * (y₀ + rowG z₀) + (x + colG z₀))) - s₀ (3 + (s₀ 0 * y₀ + x)) < 0 then -(s₀ (3 + (s₀ 0 * (y₀ + rowG z₀) + (x + colG z₀))) - s₀ (3 + (s₀ 0 * y₀ + x))) else s₀ (3 + (s₀ 0 * (y₀ + rowG z₀) + (x + colG z₀))) - s₀ (3 + (s₀ 0 * y₀ + x))))) (iI_abs (by omega)) ?_
          have hab₀ : 0 ≤ (if s₀ (3 + (s₀ 0 * (y₀ + rowG z₀) + (x + colG z₀))) - s₀ (3 + (s₀ 0 * y₀ + x)) < 0 then -(s₀ (3 + (s₀ 0 * (y₀ + rowG z₀) + (x + colG z₀))) - s₀ (3 + (s₀ 0 * y₀ + x))) else s₀ (3 + (s₀ 0 * (y₀ + rowG z₀) + (x + colG z₀))) - s₀ (3 + (s₀ 0 * y₀ + x))) ∧ (if s₀ (3 + (s₀ 0 * (y₀ + rowG z₀) + (x + colG z₀))) - s₀ (3 + (s₀ 0 * y₀ + x)) < 0 then -(s₀ (3 + (s₀ 0 * (y₀ + rowG z₀) + (x + colG z₀))) - s₀ (3 + (s₀ 0 * y₀ + x))) else s₀ (3 + (s₀ 0 * (y₀ + rowG z₀) + (x + colG z₀))) - s₀ (3 + (s₀ 0 * y₀ + x))) ≤ 3 := by split <;> omega
          refine lv_iconst (v := iI 1) C₀.1.1 C₀.1.2.1 dX0_jarringAheadOf_71 (by decide) ?_
          refine xi_cle (tgt := 78) C₀.1.1 C₀.1.2.1 dX0_jarringAheadOf_72 (by decide) (by omega) (by omega) (fun h_3₀ => ?_) (fun h_3₀ => ?_)
          · exact L78₀ n₀ ((by unfold gJX; rw [if_pos (by omega), ← hcg₀, ← hrg₀, if_pos (by split at * <;> omega), Int.add_zero])) _ _ _ hH₀ (lv_sub hl₀ [2, 3, 4, 5, 6, 7] rfl)
          · refine lv_iinc (v := iI (n₀ + 1)) (lv' := [(4, .int (iI (n₀ + 1))), (7, .int (iI (y₀ + (rowG z₀)))), (6, .int (iI (x + (colG z₀)))), (0, .ref g₀), (1, .int (iI x)), (2, .int (iI y₀)), (3, .int (iI (s₀ (3 + (s₀ 0 * y₀ + x))))), (5, .int (iI z₀))]) C₀.1.1 C₀.1.2.1 dX0_jarringAheadOf_75 hl₀ (k := 6) rfl (iI_add _ (1)) (by decide) rfl (fun ls₀ hl₀ => ?_)
            exact L78₀ (n₀ + 1) ((by unfold gJX; rw [if_pos (by omega), ← hcg₀, ← hrg₀, if_neg (by split at * <;> omega)])) _ _ _ hH₀ (lv_sub hl₀ [3, 4, 5, 6, 0, 7] rfl)
  exact L17₀ (((6 - 2) : Int).toNat + 1) 0 2 (rfl) (by omega) (by omega) _ _ _ hH₀ (lv_sub hl₀ [3, 4, 5, 2, 1, 0] rfl)
abbrev wgX0_jarringPairs : List Cond := .code yX0_jarringPairs cX0_jarringPairs 4 (some .int) :: WG
abbrev rmX0_jarringPairs : Room := { frames := 2, cells := 0, slots := 0, locals := 49 }
set_option maxHeartbeats 4000000 in
set_option maxRecDepth 100000 in
/-- jarringPairs -/
theorem c_X0_jarringPairs (lL₀ : Launch) (D₀ : va_G) (k₀ : Nat → ClassId) (sz₀ : Nat) (g₀ : Nat) (w₀ : Int) (h₀ : Int) (ht₀ : Int64) (fx₀ : Int64) (be₀ : Int) (s₀ : Int → Int) (hg₀ : gR s₀ w₀ h₀ ht₀ fx₀ be₀) (hS₀ : mS s₀) : Met lL₀ yX0_jarringPairs wgX0_jarringPairs rmX0_jarringPairs (gPc ZG D₀ (tyk k₀) [.ref g₀] sz₀ [gO g₀ w₀ h₀ ht₀ fx₀ be₀]) (gQi D₀ (tyk k₀) [gO g₀ w₀ h₀ ht₀ fx₀ be₀] sz₀ (fun (_ : Unit) => True) (fun (_ : Unit) => (iI (gJar s₀))) (fun (_ : Unit) => [gO g₀ w₀ h₀ ht₀ fx₀ be₀])) 0 0 (va_A [gO g₀ w₀ h₀ ht₀ fx₀ be₀] sz₀) := by
  refine xs_met (cc := cX0_jarringPairs) (maxL := 4) (ret := some .int) (by decide) rfl (Nat.le_of_ble_eq_true rfl) ?_
  intro pP₀ eN₀ sT₀ mI₀ below₀ meth₀ cD₀ hsz₀ args₀ QQ₀ C₀ hr₀ hlk₀ hnm₀ hQ₀ ls₀ H₀ locs₀ hl₀ hH₀
  subst hsz₀
  have hl₀ : lv_has ls₀ 4 [(0, .ref g₀)] := hl₀
  generalize hAe₀ : va_A [gO g₀ w₀ h₀ ht₀ fx₀ be₀] sT₀.heap.size = A₀ at C₀ hH₀ hQ₀
  obtain ⟨rfl, rfl, rfl, rfl, rfl⟩ := hg₀
  obtain ⟨hs0₀, hs1₀, hs2₀, hsh₀, hsf₀⟩ := id hS₀
  have hcl₀ := cells_rg hs0₀ hs1₀
  refine lv_iconst (v := iI 0) C₀.1.1 C₀.1.2.1 dX0_jarringPairs_0 (by decide) ?_
  refine lv_istore_n (lv' := [(1, .int (iI 0)), (0, .ref g₀)]) C₀.1.1 C₀.1.2.1 dX0_jarringPairs_1 rfl hl₀ (by decide) rfl (fun ls₀ hl₀ => ?_)
  refine lv_iconst (v := iI 0) C₀.1.1 C₀.1.2.1 dX0_jarringPairs_2 (by decide) ?_
  refine lv_istore_n (lv' := [(2, .int (iI 0)), (1, .int (iI 0)), (0, .ref g₀)]) C₀.1.1 C₀.1.2.1 dX0_jarringPairs_3 rfl hl₀ (by decide) rfl (fun ls₀ hl₀ => ?_)
  have L4₀ : ∀ (nn₀ : Nat), ∀ (n₀ : Int) (y₀ : Int), (n₀ = sI (fun y₀ => sI (fun x => gJA s₀ x y₀) (s₀ 0)) y₀) → (0 ≤ y₀ ∧ y₀ ≤ s₀ 1) → ((s₀ 1 - y₀) < (nn₀ : Int)) → ∀ (H₀ : Heap) (locs₀ : List Loc) (ls₀ : Array Slot), Hp D₀ A₀ sT₀.heap [gO g₀ (s₀ 0) (s₀ 1) (pk s₀ 3) (pk s₀ 27) (s₀ 2)] H₀ locs₀ → lv_has ls₀ 4 [(0, .ref g₀), (1, .int (iI n₀)), (2, .int (iI y₀))] → W pP₀ lL₀ eN₀ rmX0_jarringPairs sT₀ mI₀ args₀ below₀ meth₀ cD₀ H₀ locs₀ 0 0 QQ₀ (F0 mI₀ 4 ls₀ []) := by
    intro nn₀
    induction nn₀ with
    | zero => intro n₀ y₀ i1₀ i2₀ hm₀; exact absurd hm₀ (by omega)
    | succ nn₀ ih4₀ =>
      intro n₀ y₀ i1₀ i2₀ hm4₀ H₀ locs₀ ls₀ hH₀ hl₀
      refine lv_iload_n C₀.1.1 C₀.1.2.1 dX0_jarringPairs_4 rfl (lv_at hl₀ 2 rfl) ?_
      refine lv_aload_n C₀.1.1 C₀.1.2.1 dX0_jarringPairs_5 rfl (lv_at hl₀ 0 rfl) ?_
      refine xw_get C₀ hH₀ 0 rfl rfl 1 (by decide) (fun w₀ h₀ => List.mem_cons_of_mem _ (iwg_X0 w₀ h₀)) (List.mem_cons_of_mem _ (WG_mem 100 (by decide +kernel) (by decide +kernel))) (v := .int (iI (s₀ 1))) rfl dX0_jarringPairs_6 ?_
      refine xi_cge (tgt := 43) C₀.1.1 C₀.1.2.1 dX0_jarringPairs_9 (by decide) (by omega) (by omega) (fun h_1₀ => ?_) (fun h_1₀ => ?_)
      · refine lv_iload_n C₀.1.1 C₀.1.2.1 dX0_jarringPairs_43 rfl (lv_at hl₀ 1 rfl) ?_
        exact xr_i C₀ hH₀ hlk₀ hr₀ hQ₀ rfl hAe₀ () trivial (by unfold gJar; rw [i1₀, show y₀ = s₀ 1 by omega]) rfl dX0_jarringPairs_44
      · refine lv_iconst (v := iI 0) C₀.1.1 C₀.1.2.1 dX0_jarringPairs_12 (by decide) ?_
        refine lv_istore_n (lv' := [(3, .int (iI 0)), (0, .ref g₀), (1, .int (iI n₀)), (2, .int (iI y₀))]) C₀.1.1 C₀.1.2.1 dX0_jarringPairs_13 rfl hl₀ (by decide) rfl (fun ls₀ hl₀ => ?_)
        have L14₀ : ∀ (nn₀ : Nat), ∀ (n2₀ : Int) (x : Int), (n2₀ = sI (fun y₀ => sI (fun x => gJA s₀ x y₀) (s₀ 0)) y₀ + sI (fun x => gJA s₀ x y₀) x) → (0 ≤ x ∧ x ≤ s₀ 0) → ((s₀ 0 - x) < (nn₀ : Int)) → ∀ (H₀ : Heap) (locs₀ : List Loc) (ls₀ : Array Slot), Hp D₀ A₀ sT₀.heap [gO g₀ (s₀ 0) (s₀ 1) (pk s₀ 3) (pk s₀ 27) (s₀ 2)] H₀ locs₀ → lv_has ls₀ 4 [(0, .ref g₀), (1, .int (iI n2₀)), (2, .int (iI y₀)), (3, .int (iI x))] → W pP₀ lL₀ eN₀ rmX0_jarringPairs sT₀ mI₀ args₀ below₀ meth₀ cD₀ H₀ locs₀ 0 0 QQ₀ (F0 mI₀ 14 ls₀ []) := by
          intro nn₀
          induction nn₀ with
          | zero => intro n2₀ x j1₀ j2₀ hm₀; exact absurd hm₀ (by omega)
          | succ nn₀ ih14₀ =>
            intro n2₀ x j1₀ j2₀ hm14₀ H₀ locs₀ ls₀ hH₀ hl₀
            refine lv_iload_n C₀.1.1 C₀.1.2.1 dX0_jarringPairs_14 rfl (lv_at hl₀ 3 rfl) ?_
            refine lv_aload_n C₀.1.1 C₀.1.2.1 dX0_jarringPairs_15 rfl (lv_at hl₀ 0 rfl) ?_
            refine xw_get C₀ hH₀ 0 rfl rfl 0 (by decide) (fun w₀ h₀ => List.mem_cons_of_mem _ (iwg_X0 w₀ h₀)) (List.mem_cons_of_mem _ (WG_mem 94 (by decide +kernel) (by decide +kernel))) (v := .int (iI (s₀ 0))) rfl dX0_jarringPairs_16 ?_
            refine xi_cge (tgt := 37) C₀.1.1 C₀.1.2.1 dX0_jarringPairs_19 (by decide) (by omega) (by omega) (fun h_2₀ => ?_) (fun h_2₀ => ?_)
            · refine lv_iinc (v := iI (y₀ + 1)) (lv' := [(2, .int (iI (y₀ + 1))), (0, .ref g₀), (1, .int (iI n2₀)), (3, .int (iI x))]) C₀.1.1 C₀.1.2.1 dX0_jarringPairs_37 hl₀ (k := 2) rfl (iI_add _ (1)) (by decide) rfl (fun ls₀ hl₀ => ?_)
              refine lv_goto (tgt := 4) C₀.1.1 C₀.1.2.1 dX0_jarringPairs_40 (by decide) ?_
              exact ih4₀ n2₀ (y₀ + 1) (by rw [sI_s i2₀.1, j1₀, show x = s₀ 0 by omega]) (by omega) (by omega) _ _ _ hH₀ (lv_sub hl₀ [1, 2, 0] rfl)
            · refine lv_iload_n C₀.1.1 C₀.1.2.1 dX0_jarringPairs_22 rfl (lv_at hl₀ 1 rfl) ?_
              refine lv_aload_n C₀.1.1 C₀.1.2.1 dX0_jarringPairs_23 rfl (lv_at hl₀ 0 rfl) ?_
              refine lv_iload_n C₀.1.1 C₀.1.2.1 dX0_jarringPairs_24 rfl (lv_at hl₀ 3 rfl) ?_
              refine lv_iload_n C₀.1.1 C₀.1.2.1 dX0_jarringPairs_25 rfl (lv_at hl₀ 2 rfl) ?_
              refine xc_Vi (wr := []) (ws' := fun _ => [gO g₀ (s₀ 0) (s₀ 1) (pk s₀ 3) (pk s₀ 27) (s₀ 2)]) (As := [.int (iI x), .int (iI y₀)]) (rest := [.int (iI n2₀)]) C₀ hH₀ (c_X0_jarringAheadOf lL₀ D₀ k₀ H₀.size g₀ (s₀ 0) (s₀ 1) (pk s₀ 3) (pk s₀ 27) (s₀ 2) x y₀ s₀ (⟨rfl, rfl, rfl, rfl, rfl⟩) (hS₀) (by omega) (by omega)) ZG_b (ZG_pass C₀ hH₀ [0] rfl) (cwV 2 C₀.1.2.2.2.2 (WG_V WG_c (WG_mem 515 (by decide +kernel) (by decide +kernel)) (WG_mem 517 (by decide +kernel) (by decide +kernel)) (WG_mem 11 (by decide +kernel) (by decide +kernel)) (WG_mem 64 (by decide +kernel) (by decide +kernel)) (WG_k (WG_mem 518 (by decide +kernel) (by decide +kernel)))) rfl rfl rfl (by decide +kernel) ⟨Nat.le_of_ble_eq_true rfl, Nat.le_of_ble_eq_true rfl⟩) [0] [] [0] rfl rfl (by decide) (by decide) (by decide) (fun _ => rfl) (by decide) (q0 := 0) rfl rfl rfl hl₀.1 rfl (Nat.le_of_ble_eq_true rfl) dX0_jarringPairs_26 ⟨Nat.le_of_ble_eq_true rfl, Nat.le_of_ble_eq_true rfl⟩ (fun _ _ H₀ locs₀ hH₀ => ?_)
              refine xi_add C₀.1.1 C₀.1.2.1 dX0_jarringPairs_29 ?_
              refine lv_istore_n (lv' := [(1, .int (iI (n2₀ + (gJA s₀ x y₀)))), (0, .ref g₀), (2, .int (iI y₀)), (3, .int (iI x))]) C₀.1.1 C₀.1.2.1 dX0_jarringPairs_30 rfl hl₀ (by decide) rfl (fun ls₀ hl₀ => ?_)
              refine lv_iinc (v := iI (x + 1)) (lv' := [(3, .int (iI (x + 1))), (1, .int (iI (n2₀ + (gJA s₀ x y₀)))), (0, .ref g₀), (2, .int (iI y₀))]) C₀.1.1 C₀.1.2.1 dX0_jarringPairs_31 hl₀ (k := 3) rfl (iI_add _ (1)) (by decide) rfl (fun ls₀ hl₀ => ?_)
              refine lv_goto (tgt := 14) C₀.1.1 C₀.1.2.1 dX0_jarringPairs_34 (by decide) ?_
              exact ih14₀ (n2₀ + (gJA s₀ x y₀)) (x + 1) (by rw [sI_s j2₀.1, j1₀, Int.add_assoc]) (by omega) (by omega) _ _ _ hH₀ (lv_sub hl₀ [2, 1, 3, 0] rfl)
        exact L14₀ (((s₀ 0 - 0) : Int).toNat + 1) n₀ 0 (by rw [sI_0, Int.add_zero]; exact i1₀) (by omega) (by omega) _ _ _ hH₀ (lv_sub hl₀ [1, 2, 3, 0] rfl)
  exact L4₀ (((s₀ 1 - 0) : Int).toNat + 1) 0 0 (rfl) (by omega) (by omega) _ _ _ hH₀ (lv_sub hl₀ [2, 1, 0] rfl)
