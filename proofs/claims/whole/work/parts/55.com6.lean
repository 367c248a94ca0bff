abbrev wgX5_mostAlike : List Cond := .code yX5_mostAlike cX5_mostAlike 9 (some .int) :: WG
abbrev rmX5_mostAlike : Room := { frames := 4, cells := 0, slots := 0, locals := 98 }
set_option maxHeartbeats 4000000 in
set_option maxRecDepth 100000 in
/-- mostAlike -/
theorem c_X5_mostAlike (lL₀ : Launch) (D₀ : va_G) (k₀ : Nat → ClassId) (sz₀ : Nat) (a₀ : Nat) (ql₀ : Nat) (qs₀ : Nat) (qa₀ : Nat) (kn₀ : Int) (al₀ : Int → Int) (g₀ : Nat) (w₀ : Int) (h₀ : Int) (ht₀ : Int64) (fx₀ : Int64) (be₀ : Int) (cl₀ : Int) (la₀ : Int) (s₀ : Int → Int) (hg₀ : gR s₀ w₀ h₀ ht₀ fx₀ be₀) (hS₀ : mS s₀) (hcl2₀ : 0 ≤ cl₀ ∧ cl₀ < 16777216) (hla₀ : 1 ≤ la₀ ∧ la₀ ≤ 3) : Met lL₀ yX5_mostAlike wgX5_mostAlike rmX5_mostAlike (gPc ZG D₀ (tyk k₀) [.ref a₀, .ref g₀, .int (iI cl₀), .int (iI la₀)] sz₀ [eO a₀ ql₀ qs₀ qa₀ kn₀, (qa₀, .inl (k₀ 0, 48, .inl (ia al₀))), gO g₀ w₀ h₀ ht₀ fx₀ be₀]) (gQi D₀ (tyk k₀) [eO a₀ ql₀ qs₀ qa₀ kn₀, (qa₀, .inl (k₀ 0, 48, .inl (ia al₀))), gO g₀ w₀ h₀ ht₀ fx₀ be₀] sz₀ (fun (_ : Unit) => True) (fun (_ : Unit) => (iI ((gAl s₀ cl₀ la₀ al₀ (s₀ 0 * s₀ 1).toNat).2))) (fun (_ : Unit) => [eO a₀ ql₀ qs₀ qa₀ kn₀, (qa₀, .inl (k₀ 0, 48, .inl (ia ((gAl s₀ cl₀ la₀ al₀ (s₀ 0 * s₀ 1).toNat).1)))), gO g₀ w₀ h₀ ht₀ fx₀ be₀])) 0 0 (va_A [eO a₀ ql₀ qs₀ qa₀ kn₀, (qa₀, .inl (k₀ 0, 48, .inl (ia al₀))), gO g₀ w₀ h₀ ht₀ fx₀ be₀] sz₀) := by
  refine xs_met (cc := cX5_mostAlike) (maxL := 9) (ret := some .int) (by decide) rfl (Nat.le_of_ble_eq_true rfl) ?_
  intro pP₀ eN₀ sT₀ mI₀ below₀ meth₀ cD₀ hsz₀ args₀ QQ₀ C₀ hr₀ hlk₀ hnm₀ hQ₀ ls₀ H₀ locs₀ hl₀ hH₀
  subst hsz₀
  have hl₀ : lv_has ls₀ 9 [(0, .ref a₀), (1, .ref g₀), (2, .int (iI cl₀)), (3, .int (iI la₀))] := hl₀
  generalize hAe₀ : va_A [eO a₀ ql₀ qs₀ qa₀ kn₀, (qa₀, .inl (k₀ 0, 48, .inl (ia al₀))), gO g₀ w₀ h₀ ht₀ fx₀ be₀] sT₀.heap.size = A₀ at C₀ hH₀ hQ₀
  obtain ⟨rfl, rfl, rfl, rfl, rfl⟩ := hg₀
  obtain ⟨hs0₀, hs1₀, hs2₀, hsh₀, hsf₀⟩ := id hS₀
  have hcl₀ := cells_rg hs0₀ hs1₀
  refine lv_iconst (v := iI 0) C₀.1.1 C₀.1.2.1 dX5_mostAlike_0 (by decide) ?_
  refine lv_istore (lv' := [(4, .int (iI 0)), (0, .ref a₀), (1, .ref g₀), (2, .int (iI cl₀)), (3, .int (iI la₀))]) C₀.1.1 C₀.1.2.1 dX5_mostAlike_1 hl₀ (by decide) rfl (fun ls₀ hl₀ => ?_)
  have L3₀ : ∀ (nn₀ : Nat), ∀ (c₀ : Int) (a1₀ : Int → Int), (a1₀ = cpz (fun _ => 0) al₀ 0 0 c₀) → (0 ≤ c₀ ∧ c₀ ≤ 48) → ((48 - c₀) < (nn₀ : Int)) → ∀ (H₀ : Heap) (locs₀ : List Loc) (ls₀ : Array Slot), Hp D₀ A₀ sT₀.heap [eO a₀ ql₀ qs₀ qa₀ kn₀, (qa₀, .inl (k₀ 0, 48, .inl (ia a1₀))), gO g₀ (s₀ 0) (s₀ 1) (pk s₀ 3) (pk s₀ 27) (s₀ 2)] H₀ locs₀ → lv_has ls₀ 9 [(0, .ref a₀), (1, .ref g₀), (2, .int (iI cl₀)), (3, .int (iI la₀)), (4, .int (iI c₀))] → W pP₀ lL₀ eN₀ rmX5_mostAlike sT₀ mI₀ args₀ below₀ meth₀ cD₀ H₀ locs₀ 0 0 QQ₀ (F0 mI₀ 3 ls₀ []) := by
    intro nn₀
    induction nn₀ with
    | zero => intro c₀ a1₀ k1₀ k2₀ hm₀; exact absurd hm₀ (by omega)
    | succ nn₀ ih3₀ =>
      intro c₀ a1₀ k1₀ k2₀ hm3₀ H₀ locs₀ ls₀ hH₀ hl₀
      refine lv_iload C₀.1.1 C₀.1.2.1 dX5_mostAlike_3 (lv_at hl₀ 4 rfl) ?_
      refine lv_aload_n C₀.1.1 C₀.1.2.1 dX5_mostAlike_5 rfl (lv_at hl₀ 0 rfl) ?_
      refine xw_get C₀ hH₀ 0 rfl rfl 2 (by decide) (fun w₀ h₀ => List.mem_cons_of_mem _ (iwg_X5 w₀ h₀)) (List.mem_cons_of_mem _ (WG_mem 276 (by decide +kernel) (by decide +kernel))) (v := .ref qa₀) rfl dX5_mostAlike_6 ?_
      refine xw_len C₀ hH₀ 1 0 rfl rfl (z := 48) rfl dX5_mostAlike_9 ?_
      refine xi_cge (tgt := 27) C₀.1.1 C₀.1.2.1 dX5_mostAlike_10 (by decide) (by omega) (by omega) (fun h_1₀ => ?_) (fun h_1₀ => ?_)
      · refine lv_iconst (v := iI 0) C₀.1.1 C₀.1.2.1 dX5_mostAlike_27 (by decide) ?_
        refine lv_istore (lv' := [(4, .int (iI 0)), (0, .ref a₀), (1, .ref g₀), (2, .int (iI cl₀)), (3, .int (iI la₀))]) C₀.1.1 C₀.1.2.1 dX5_mostAlike_28 hl₀ (by decide) rfl (fun ls₀ hl₀ => ?_)
        refine lv_iconst (v := iI 0) C₀.1.1 C₀.1.2.1 dX5_mostAlike_30 (by decide) ?_
        refine lv_istore (lv' := [(5, .int (iI 0)), (4, .int (iI 0)), (0, .ref a₀), (1, .ref g₀), (2, .int (iI cl₀)), (3, .int (iI la₀))]) C₀.1.1 C₀.1.2.1 dX5_mostAlike_31 hl₀ (by decide) rfl (fun ls₀ hl₀ => ?_)
        have L33₀ : ∀ (nn₀ : Nat), ∀ (m₀ : Int) (y₀ : Int) (a2₀ : Int → Int), ((a2₀, m₀) = gAl s₀ cl₀ la₀ al₀ (s₀ 0 * y₀).toNat) → (0 ≤ y₀ ∧ y₀ ≤ s₀ 1) → ((s₀ 1 - y₀) < (nn₀ : Int)) → ∀ (H₀ : Heap) (locs₀ : List Loc) (ls₀ : Array Slot), Hp D₀ A₀ sT₀.heap [eO a₀ ql₀ qs₀ qa₀ kn₀, (qa₀, .inl (k₀ 0, 48, .inl (ia a2₀))), gO g₀ (s₀ 0) (s₀ 1) (pk s₀ 3) (pk s₀ 27) (s₀ 2)] H₀ locs₀ → lv_has ls₀ 9 [(0, .ref a₀), (1, .ref g₀), (2, .int (iI cl₀)), (3, .int (iI la₀)), (4, .int (iI m₀)), (5, .int (iI y₀))] → W pP₀ lL₀ eN₀ rmX5_mostAlike sT₀ mI₀ args₀ below₀ meth₀ cD₀ H₀ locs₀ 0 0 QQ₀ (F0 mI₀ 33 ls₀ []) := by
          intro nn₀
          induction nn₀ with
          | zero => intro m₀ y₀ a2₀ i1₀ i2₀ hm₀; exact absurd hm₀ (by omega)
          | succ nn₀ ih33₀ =>
            intro m₀ y₀ a2₀ i1₀ i2₀ hm33₀ H₀ locs₀ ls₀ hH₀ hl₀
            refine lv_iload C₀.1.1 C₀.1.2.1 dX5_mostAlike_33 (lv_at hl₀ 5 rfl) ?_
            refine lv_aload_n C₀.1.1 C₀.1.2.1 dX5_mostAlike_35 rfl (lv_at hl₀ 1 rfl) ?_
            refine xw_getN (host := "GroundEdges") C₀ hH₀ 2 rfl rfl 1 (by decide) (fun w₀ h₀ => List.mem_cons_of_mem _ (iwg_X0 w₀ h₀)) (C₀.2.2.2.2.2.2.1 ("GroundEdges$Seen", 25, "GroundEdges$Ground", "rows", "I", "GroundEdges") (by decide +kernel)) (v := .int (iI (s₀ 1))) rfl dX5_mostAlike_36 ?_
            refine xi_cge (tgt := 145) C₀.1.1 C₀.1.2.1 dX5_mostAlike_39 (by decide) (by omega) (by omega) (fun h_2₀ => ?_) (fun h_2₀ => ?_)
            · refine lv_iload C₀.1.1 C₀.1.2.1 dX5_mostAlike_145 (lv_at hl₀ 4 rfl) ?_
              exact xr_i C₀ hH₀ hlk₀ hr₀ hQ₀ rfl hAe₀ () trivial (by rw [show s₀ 0 * s₀ 1 = s₀ 0 * y₀ by rw [show y₀ = s₀ 1 by omega], ← i1₀]) (by rw [show s₀ 0 * s₀ 1 = s₀ 0 * y₀ by rw [show y₀ = s₀ 1 by omega], ← i1₀]) dX5_mostAlike_147
            · refine lv_iconst (v := iI 0) C₀.1.1 C₀.1.2.1 dX5_mostAlike_42 (by decide) ?_
              refine lv_istore (lv' := [(6, .int (iI 0)), (0, .ref a₀), (1, .ref g₀), (2, .int (iI cl₀)), (3, .int (iI la₀)), (4, .int (iI m₀)), (5, .int (iI y₀))]) C₀.1.1 C₀.1.2.1 dX5_mostAlike_43 hl₀ (by decide) rfl (fun ls₀ hl₀ => ?_)
              have L45₀ : ∀ (nn₀ : Nat), ∀ (m2₀ : Int) (x : Int) (a3₀ : Int → Int), ((a3₀, m2₀) = gAl s₀ cl₀ la₀ al₀ (s₀ 0 * y₀ + x).toNat) → (0 ≤ x ∧ x ≤ s₀ 0) → ((s₀ 0 - x) < (nn₀ : Int)) → ∀ (H₀ : Heap) (locs₀ : List Loc) (ls₀ : Array Slot), Hp D₀ A₀ sT₀.heap [eO a₀ ql₀ qs₀ qa₀ kn₀, (qa₀, .inl (k₀ 0, 48, .inl (ia a3₀))), gO g₀ (s₀ 0) (s₀ 1) (pk s₀ 3) (pk s₀ 27) (s₀ 2)] H₀ locs₀ → lv_has ls₀ 9 [(0, .ref a₀), (1, .ref g₀), (2, .int (iI cl₀)), (3, .int (iI la₀)), (4, .int (iI m2₀)), (5, .int (iI y₀)), (6, .int (iI x))] → W pP₀ lL₀ eN₀ rmX5_mostAlike sT₀ mI₀ args₀ below₀ meth₀ cD₀ H₀ locs₀ 0 0 QQ₀ (F0 mI₀ 45 ls₀ []) := by
                intro nn₀
                induction nn₀ with
                | zero => intro m2₀ x a3₀ j1₀ j2₀ hm₀; exact absurd hm₀ (by omega)
                | succ nn₀ ih45₀ =>
                  intro m2₀ x a3₀ j1₀ j2₀ hm45₀ H₀ locs₀ ls₀ hH₀ hl₀
                  refine lv_iload C₀.1.1 C₀.1.2.1 dX5_mostAlike_45 (lv_at hl₀ 6 rfl) ?_
                  refine lv_aload_n C₀.1.1 C₀.1.2.1 dX5_mostAlike_47 rfl (lv_at hl₀ 1 rfl) ?_
                  refine xw_getN (host := "GroundEdges") C₀ hH₀ 2 rfl rfl 0 (by decide) (fun w₀ h₀ => List.mem_cons_of_mem _ (iwg_X0 w₀ h₀)) (C₀.2.2.2.2.2.2.1 ("GroundEdges$Seen", 30, "GroundEdges$Ground", "columns", "I", "GroundEdges") (by decide +kernel)) (v := .int (iI (s₀ 0))) rfl dX5_mostAlike_48 ?_
                  refine xi_cge (tgt := 139) C₀.1.1 C₀.1.2.1 dX5_mostAlike_51 (by decide) (by omega) (by omega) (fun h_3₀ => ?_) (fun h_3₀ => ?_)
                  · refine lv_iinc (v := iI (y₀ + 1)) (lv' := [(5, .int (iI (y₀ + 1))), (0, .ref a₀), (1, .ref g₀), (2, .int (iI cl₀)), (3, .int (iI la₀)), (4, .int (iI m2₀)), (6, .int (iI x))]) C₀.1.1 C₀.1.2.1 dX5_mostAlike_139 hl₀ (k := 5) rfl (iI_add _ (1)) (by decide) rfl (fun ls₀ hl₀ => ?_)
                    refine lv_goto (tgt := 33) C₀.1.1 C₀.1.2.1 dX5_mostAlike_142 (by decide) ?_
                    exact ih33₀ m2₀ (y₀ + 1) a3₀ (by rw [j1₀, show x = s₀ 0 by omega, Int.mul_add, Int.mul_one]) (by omega) (by omega) _ _ _ hH₀ (lv_sub hl₀ [1, 2, 3, 4, 5, 0] rfl)
                  · have hc1₀ := cell_rg hs0₀ (show 0 ≤ x ∧ x < s₀ 0 by omega) (show 0 ≤ y₀ ∧ y₀ < s₀ 1 by omega)
                    have hgr₀ := gAl_rg s₀ cl₀ la₀ al₀ (s₀ 0 * y₀ + x).toNat
                    rw [← j1₀] at hgr₀
                    have hgr1₀ := hgr₀.1
                    dsimp only at hgr1₀
                    have hqr₀ := gSq_rg s₀ x y₀ la₀
                    have hgr2₀ := hgr₀.2 (gSq s₀ x y₀ la₀) hqr₀.1 (by omega)
                    dsimp only at hgr2₀
                    refine lv_aload_n C₀.1.1 C₀.1.2.1 dX5_mostAlike_54 rfl (lv_at hl₀ 1 rfl) ?_
                    refine lv_iload C₀.1.1 C₀.1.2.1 dX5_mostAlike_55 (lv_at hl₀ 6 rfl) ?_
                    refine lv_iload C₀.1.1 C₀.1.2.1 dX5_mostAlike_57 (lv_at hl₀ 5 rfl) ?_
                    refine lv_iload_n C₀.1.1 C₀.1.2.1 dX5_mostAlike_59 rfl (lv_at hl₀ 3 rfl) ?_
                    refine xc_Vi (wr := [eO a₀ ql₀ qs₀ qa₀ kn₀, (qa₀, .inl (k₀ 0, 48, .inl (ia a3₀)))]) (ws' := fun _ => [eO a₀ ql₀ qs₀ qa₀ kn₀, (qa₀, .inl (k₀ 0, 48, .inl (ia a3₀))), gO g₀ (s₀ 0) (s₀ 1) (pk s₀ 3) (pk s₀ 27) (s₀ 2)]) (As := [.int (iI x), .int (iI y₀), .int (iI la₀)]) (rest := []) C₀ hH₀ (c_X0_squareOf lL₀ D₀ k₀ H₀.size g₀ (s₀ 0) (s₀ 1) (pk s₀ 3) (pk s₀ 27) (s₀ 2) x y₀ la₀ s₀ (⟨rfl, rfl, rfl, rfl, rfl⟩) (hS₀) (by omega) (by omega) (by omega)) ZG_b (ZG_pass C₀ hH₀ [2] rfl) (cwV 3 C₀.1.2.2.2.2 (WG_V WG_c (WG_mem 742 (by decide +kernel) (by decide +kernel)) (WG_mem 656 (by decide +kernel) (by decide +kernel)) (WG_mem 657 (by decide +kernel) (by decide +kernel)) (WG_mem 64 (by decide +kernel) (by decide +kernel)) (WG_k (WG_mem 658 (by decide +kernel) (by decide +kernel)))) rfl rfl rfl (by decide +kernel) ⟨Nat.le_of_ble_eq_true rfl, Nat.le_of_ble_eq_true rfl⟩) [2] [0, 1] [0, 1, 2] rfl rfl (by decide) (by decide) (by decide) (fun _ => rfl) (by decide) (q0 := 0) rfl rfl rfl hl₀.1 rfl (Nat.le_of_ble_eq_true rfl) dX5_mostAlike_60 ⟨Nat.le_of_ble_eq_true rfl, Nat.le_of_ble_eq_true rfl⟩ (fun _ _ H₀ locs₀ hH₀ => ?_)
                    refine lv_istore (lv' := [(7, .int (iI (gSq s₀ x y₀ la₀))), (0, .ref a₀), (1, .ref g₀), (2, .int (iI cl₀)), (3, .int (iI la₀)), (4, .int (iI m2₀)), (5, .int (iI y₀)), (6, .int (iI x))]) C₀.1.1 C₀.1.2.1 dX5_mostAlike_63 hl₀ (by decide) rfl (fun ls₀ hl₀ => ?_)
                    have L86₀ : ∀ (b₀ : Bool), (b₀ = mBit cl₀ (s₀ 0 * y₀ + x)) → ∀ (H₀ : Heap) (locs₀ : List Loc) (ls₀ : Array Slot), Hp D₀ A₀ sT₀.heap [eO a₀ ql₀ qs₀ qa₀ kn₀, (qa₀, .inl (k₀ 0, 48, .inl (ia a3₀))), gO g₀ (s₀ 0) (s₀ 1) (pk s₀ 3) (pk s₀ 27) (s₀ 2)] H₀ locs₀ → lv_has ls₀ 9 [(0, .ref a₀), (1, .ref g₀), (2, .int (iI cl₀)), (3, .int (iI la₀)), (4, .int (iI m2₀)), (5, .int (iI y₀)), (6, .int (iI x)), (7, .int (iI (gSq s₀ x y₀ la₀)))] → W pP₀ lL₀ eN₀ rmX5_mostAlike sT₀ mI₀ args₀ below₀ meth₀ cD₀ H₀ locs₀ 0 0 QQ₀ (F0 mI₀ 86 ls₀ [.int (iI (bz b₀))]) := by
                      intro b₀ jb₀ H₀ locs₀ ls₀ hH₀ hl₀
                      refine lv_istore (lv' := [(8, .int (iI (bz b₀))), (0, .ref a₀), (1, .ref g₀), (2, .int (iI cl₀)), (3, .int (iI la₀)), (4, .int (iI m2₀)), (5, .int (iI y₀)), (6, .int (iI x)), (7, .int (iI (gSq s₀ x y₀ la₀)))]) C₀.1.1 C₀.1.2.1 dX5_mostAlike_86 hl₀ (by decide) rfl (fun ls₀ hl₀ => ?_)
                      have L133₀ : ∀ (m3₀ : Int) (a4₀ : Int → Int), ((a4₀, m3₀) = gAlS b₀ (gSq s₀ x y₀ la₀) (a3₀, m2₀)) → ∀ (H₀ : Heap) (locs₀ : List Loc) (ls₀ : Array Slot), Hp D₀ A₀ sT₀.heap [eO a₀ ql₀ qs₀ qa₀ kn₀, (qa₀, .inl (k₀ 0, 48, .inl (ia a4₀))), gO g₀ (s₀ 0) (s₀ 1) (pk s₀ 3) (pk s₀ 27) (s₀ 2)] H₀ locs₀ → lv_has ls₀ 9 [(0, .ref a₀), (1, .ref g₀), (2, .int (iI cl₀)), (3, .int (iI la₀)), (4, .int (iI m3₀)), (5, .int (iI y₀)), (6, .int (iI x))] → W pP₀ lL₀ eN₀ rmX5_mostAlike sT₀ mI₀ args₀ below₀ meth₀ cD₀ H₀ locs₀ 0 0 QQ₀ (F0 mI₀ 133 ls₀ []) := by
                        intro m3₀ a4₀ je₀ H₀ locs₀ ls₀ hH₀ hl₀
                        refine lv_iinc (v := iI (x + 1)) (lv' := [(6, .int (iI (x + 1))), (0, .ref a₀), (1, .ref g₀), (2, .int (iI cl₀)), (3, .int (iI la₀)), (4, .int (iI m3₀)), (5, .int (iI y₀))]) C₀.1.1 C₀.1.2.1 dX5_mostAlike_133 hl₀ (k := 6) rfl (iI_add _ (1)) (by decide) rfl (fun ls₀ hl₀ => ?_)
                        refine lv_goto (tgt := 45) C₀.1.1 C₀.1.2.1 dX5_mostAlike_136 (by decide) ?_
                        exact ih45₀ m3₀ (x + 1) a4₀ (by rw [gAl_s hs0₀ (by omega) (by omega), ← j1₀, ← jb₀]; exact je₀) (by omega) (by omega) _ _ _ hH₀ (lv_sub hl₀ [1, 2, 3, 4, 5, 6, 0] rfl)
                      refine lv_iload C₀.1.1 C₀.1.2.1 dX5_mostAlike_88 (lv_at hl₀ 0 rfl) ?_
                      refine xb_eq (tgt := 133) C₀.1.1 C₀.1.2.1 dX5_mostAlike_90 (by decide) (fun h_4₀ => ?_) (fun h_4₀ => ?_)
                      · exact L133₀ m2₀ a3₀ ((by first | (exfalso; omega) | skip; unfold gAlS; rw [if_neg (by rw [h_4₀]; decide)])) _ _ _ hH₀ (lv_sub hl₀ [1, 2, 3, 4, 5, 6, 7] rfl)
                      · refine lv_iload C₀.1.1 C₀.1.2.1 dX5_mostAlike_93 (lv_at hl₀ 8 rfl) ?_
                        refine xi_zlt (tgt := 133) C₀.1.1 C₀.1.2.1 dX5_mostAlike_95 (by decide) (by omega) (fun h_5₀ => ?_) (fun h_5₀ => ?_)
                        · exact L133₀ m2₀ a3₀ ((by first | (exfalso; omega) | skip; unfold gAlS; rw [if_neg (by rw [h_4₀]; decide)])) _ _ _ hH₀ (lv_sub hl₀ [1, 2, 3, 4, 5, 6, 7] rfl)
                        · refine lv_iload C₀.1.1 C₀.1.2.1 dX5_mostAlike_98 (lv_at hl₀ 8 rfl) ?_
                          refine lv_aload_n C₀.1.1 C₀.1.2.1 dX5_mostAlike_100 rfl (lv_at hl₀ 1 rfl) ?_
                          refine xw_get C₀ hH₀ 0 rfl rfl 2 (by decide) (fun w₀ h₀ => List.mem_cons_of_mem _ (iwg_X5 w₀ h₀)) (List.mem_cons_of_mem _ (WG_mem 276 (by decide +kernel) (by decide +kernel))) (v := .ref qa₀) rfl dX5_mostAlike_101 ?_
                          refine xw_len C₀ hH₀ 1 0 rfl rfl (z := 48) rfl dX5_mostAlike_104 ?_
                          refine xi_cge (tgt := 133) C₀.1.1 C₀.1.2.1 dX5_mostAlike_105 (by decide) (by omega) (by omega) (fun h_6₀ => ?_) (fun h_6₀ => ?_)
                          · exact L133₀ m2₀ a3₀ ((by first | (exfalso; omega) | skip; unfold gAlS; rw [if_neg (by rw [h_4₀]; decide)])) _ _ _ hH₀ (lv_sub hl₀ [1, 2, 3, 4, 5, 6, 7] rfl)
                          · refine lv_aload_n C₀.1.1 C₀.1.2.1 dX5_mostAlike_108 rfl (lv_at hl₀ 1 rfl) ?_
                            refine xw_get C₀ hH₀ 0 rfl rfl 2 (by decide) (fun w₀ h₀ => List.mem_cons_of_mem _ (iwg_X5 w₀ h₀)) (List.mem_cons_of_mem _ (WG_mem 276 (by decide +kernel) (by decide +kernel))) (v := .ref qa₀) rfl dX5_mostAlike_109 ?_
                            refine lv_iload C₀.1.1 C₀.1.2.1 dX5_mostAlike_112 (lv_at hl₀ 8 rfl) ?_
                            refine lv_dup2_11 C₀.1.1 C₀.1.2.1 dX5_mostAlike_114 rfl rfl ?_
                            refine xw_ild C₀ hH₀ 1 0 rfl rfl (z := gSq s₀ x y₀ la₀) (by omega) (by omega) (by decide) dX5_mostAlike_115 ?_
                            refine lv_iconst (v := iI 1) C₀.1.1 C₀.1.2.1 dX5_mostAlike_116 (by decide) ?_
                            refine xi_add C₀.1.1 C₀.1.2.1 dX5_mostAlike_117 ?_
                            refine xw_ist (ws' := [eO a₀ ql₀ qs₀ qa₀ kn₀, (qa₀, .inl (k₀ 0, 48, .inl (ia (uz a3₀ (gSq s₀ x y₀ la₀) (a3₀ (gSq s₀ x y₀ la₀) + 1))))), gO g₀ (s₀ 0) (s₀ 1) (pk s₀ 3) (pk s₀ 27) (s₀ 2)]) C₀ hH₀ 1 0 rfl rfl (z := gSq s₀ x y₀ la₀) (v := a3₀ (gSq s₀ x y₀ la₀) + 1) (by omega) (by omega) (by decide) dX5_mostAlike_118 rfl (fun H₀ locs₀ hH₀ => ?_)
                            refine lv_iload C₀.1.1 C₀.1.2.1 dX5_mostAlike_119 (lv_at hl₀ 5 rfl) ?_
                            refine lv_aload_n C₀.1.1 C₀.1.2.1 dX5_mostAlike_121 rfl (lv_at hl₀ 1 rfl) ?_
                            refine xw_get C₀ hH₀ 0 rfl rfl 2 (by decide) (fun w₀ h₀ => List.mem_cons_of_mem _ (iwg_X5 w₀ h₀)) (List.mem_cons_of_mem _ (WG_mem 276 (by decide +kernel) (by decide +kernel))) (v := .ref qa₀) rfl dX5_mostAlike_122 ?_
                            refine lv_iload C₀.1.1 C₀.1.2.1 dX5_mostAlike_125 (lv_at hl₀ 8 rfl) ?_
                            refine xw_ild C₀ hH₀ 1 0 rfl rfl (z := gSq s₀ x y₀ la₀) (by omega) (by omega) (by decide) dX5_mostAlike_127 ?_
                            have hgu₀ : uz a3₀ (gSq s₀ x y₀ la₀) (a3₀ (gSq s₀ x y₀ la₀) + 1) (gSq s₀ x y₀ la₀) = a3₀ (gSq s₀ x y₀ la₀) + 1 := uz_s _ _ _
                            refine va_mmax C₀.1.1 C₀.1.2.1 (by rw [C₀.1.2.2.1]; exact hl₀.1.symm) C₀.1.2.2.2.1 (C₀.1.2.2.2.2 (.methodLink RX5 45 Lib.Math.max.name) (List.mem_cons_of_mem _ (WG_mem 755 (by decide +kernel) (by decide +kernel)))) (C₀.1.2.2.2.2 (.static Lib.Math.max.name) (List.mem_cons_of_mem _ (WG_mem 183 (by decide +kernel) (by decide +kernel)))) (C₀.1.2.2.2.2 (.initialized "java/lang/Math") (List.mem_cons_of_mem _ (WG_mem 68 (by decide +kernel) (by decide +kernel)))) (C₀.1.2.2.2.2 (.code Lib.Math.max.name Lib.Math.max.code 2 (some .int)) (List.mem_cons_of_mem _ (WG_mem 184 (by decide +kernel) (by decide +kernel)))) (Nat.le_of_ble_eq_true rfl) (Nat.le_of_ble_eq_true rfl) (Nat.zero_le _) (Nat.zero_le _) dX5_mostAlike_128 ?_
                            refine xt_i (y := iI (max m2₀ ((uz a3₀ (gSq s₀ x y₀ la₀) (a3₀ (gSq s₀ x y₀ la₀) + 1)) (gSq s₀ x y₀ la₀)))) (iI_max (by omega) (by omega)) ?_
                            refine lv_istore (lv' := [(4, .int (iI (max m2₀ ((uz a3₀ (gSq s₀ x y₀ la₀) (a3₀ (gSq s₀ x y₀ la₀) + 1)) (gSq s₀ x y₀ la₀))))), (8, .int (iI (bz b₀))), (0, .ref a₀), (1, .ref g₀), (2, .int (iI cl₀)), (3, .int (iI la₀)), (5, .int (iI y₀)), (6, .int (iI x)), (7, .int (iI (gSq s₀ x y₀ la₀)))]) C₀.1.1 C₀.1.2.1 dX5_mostAlike_131 hl₀ (by decide) rfl (fun ls₀ hl₀ => ?_)
                            exact L133₀ (max m2₀ ((uz a3₀ (gSq s₀ x y₀ la₀) (a3₀ (gSq s₀ x y₀ la₀) + 1)) (gSq s₀ x y₀ la₀))) (uz a3₀ (gSq s₀ x y₀ la₀) (a3₀ (gSq s₀ x y₀ la₀) + 1)) ((by first | (exfalso; omega) | skip; unfold gAlS; rw [if_pos h_4₀]; dsimp only; rw [uz_s])) _ _ _ hH₀ (lv_sub hl₀ [2, 3, 4, 5, 0, 6, 7] rfl)
                    refine lv_iload_n C₀.1.1 C₀.1.2.1 dX5_mostAlike_65 rfl (lv_at hl₀ 3 rfl) ?_
                    refine lv_aload_n C₀.1.1 C₀.1.2.1 dX5_mostAlike_66 rfl (lv_at hl₀ 2 rfl) ?_
                    refine lv_iload C₀.1.1 C₀.1.2.1 dX5_mostAlike_67 (lv_at hl₀ 7 rfl) ?_
                    refine lv_iload C₀.1.1 C₀.1.2.1 dX5_mostAlike_69 (lv_at hl₀ 6 rfl) ?_
                    refine xc_Vi (wr := [eO a₀ ql₀ qs₀ qa₀ kn₀, (qa₀, .inl (k₀ 0, 48, .inl (ia a3₀)))]) (ws' := fun _ => [eO a₀ ql₀ qs₀ qa₀ kn₀, (qa₀, .inl (k₀ 0, 48, .inl (ia a3₀))), gO g₀ (s₀ 0) (s₀ 1) (pk s₀ 3) (pk s₀ 27) (s₀ 2)]) (As := [.int (iI x), .int (iI y₀)]) (rest := [.int (iI cl₀)]) C₀ hH₀ (c_X0_numberOf lL₀ D₀ k₀ H₀.size g₀ (s₀ 0) (s₀ 1) (pk s₀ 3) (pk s₀ 27) (s₀ 2) x y₀ s₀ (⟨rfl, rfl, rfl, rfl, rfl⟩)) ZT_b (fun _ _ _ => trivial) (cwV 2 C₀.1.2.2.2.2 (WG_V WG_c (WG_mem 743 (by decide +kernel) (by decide +kernel)) (WG_mem 423 (by decide +kernel) (by decide +kernel)) (WG_mem 424 (by decide +kernel) (by decide +kernel)) (WG_mem 64 (by decide +kernel) (by decide +kernel)) (WG_k (WG_mem 425 (by decide +kernel) (by decide +kernel)))) rfl rfl rfl (by decide +kernel) ⟨Nat.le_of_ble_eq_true rfl, Nat.le_of_ble_eq_true rfl⟩) [2] [0, 1] [0, 1, 2] rfl rfl (by decide) (by decide) (by decide) (fun _ => rfl) (by decide) (q0 := 0) rfl rfl rfl hl₀.1 rfl (Nat.le_of_ble_eq_true rfl) dX5_mostAlike_71 ⟨Nat.le_of_ble_eq_true rfl, Nat.le_of_ble_eq_true rfl⟩ (fun _ _ H₀ locs₀ hH₀ => ?_)
                    refine lv_ishr C₀.1.1 C₀.1.2.1 dX5_mostAlike_74 ?_
                    refine lv_iconst (v := iI 1) C₀.1.1 C₀.1.2.1 dX5_mostAlike_75 (by decide) ?_
                    refine lv_iand C₀.1.1 C₀.1.2.1 dX5_mostAlike_76 ?_
                    refine xt_i (y := (iI (cl₀ / (2 : Int) ^ (s₀ 0 * y₀ + x).toNat % 2))) (mBit_eq (by omega) (by omega)) ?_
                    refine lv_iconst (v := iI 1) C₀.1.1 C₀.1.2.1 dX5_mostAlike_77 (by decide) ?_
                    refine xi_cne (tgt := 85) C₀.1.1 C₀.1.2.1 dX5_mostAlike_78 (by decide) (by omega) (by omega) (fun h_7₀ => ?_) (fun h_7₀ => ?_)
                    · refine lv_iconst (v := iI 0) C₀.1.1 C₀.1.2.1 dX5_mostAlike_85 (by decide) ?_
                      exact L86₀ false ((by unfold mBit; exact (decide_eq_false (by omega)).symm)) _ _ _ hH₀ (lv_sub hl₀ [1, 2, 3, 4, 5, 6, 7, 0] rfl)
                    · refine lv_iconst (v := iI 1) C₀.1.1 C₀.1.2.1 dX5_mostAlike_81 (by decide) ?_
                      refine lv_goto (tgt := 86) C₀.1.1 C₀.1.2.1 dX5_mostAlike_82 (by decide) ?_
                      exact L86₀ true ((by unfold mBit; exact (decide_eq_true (by omega)).symm)) _ _ _ hH₀ (lv_sub hl₀ [1, 2, 3, 4, 5, 6, 7, 0] rfl)
              exact L45₀ (((s₀ 0 - 0) : Int).toNat + 1) m₀ 0 a2₀ (by rw [Int.add_zero]; exact i1₀) (by omega) (by omega) _ _ _ hH₀ (lv_sub hl₀ [1, 2, 3, 4, 5, 6, 0] rfl)
        exact L33₀ (((s₀ 1 - 0) : Int).toNat + 1) 0 0 a1₀ (by rw [Int.mul_zero, k1₀, show c₀ = 48 by omega]; rfl) (by omega) (by omega) _ _ _ hH₀ (lv_sub hl₀ [2, 3, 4, 5, 1, 0] rfl)
      · refine lv_aload_n C₀.1.1 C₀.1.2.1 dX5_mostAlike_13 rfl (lv_at hl₀ 0 rfl) ?_
        refine xw_get C₀ hH₀ 0 rfl rfl 2 (by decide) (fun w₀ h₀ => List.mem_cons_of_mem _ (iwg_X5 w₀ h₀)) (List.mem_cons_of_mem _ (WG_mem 276 (by decide +kernel) (by decide +kernel))) (v := .ref qa₀) rfl dX5_mostAlike_14 ?_
        refine lv_iload C₀.1.1 C₀.1.2.1 dX5_mostAlike_17 (lv_at hl₀ 4 rfl) ?_
        refine lv_iconst (v := iI 0) C₀.1.1 C₀.1.2.1 dX5_mostAlike_19 (by decide) ?_
        refine xw_ist (ws' := [eO a₀ ql₀ qs₀ qa₀ kn₀, (qa₀, .inl (k₀ 0, 48, .inl (ia (uz a1₀ c₀ 0)))), gO g₀ (s₀ 0) (s₀ 1) (pk s₀ 3) (pk s₀ 27) (s₀ 2)]) C₀ hH₀ 1 0 rfl rfl (z := c₀) (v := 0) (by omega) (by omega) (by decide) dX5_mostAlike_20 rfl (fun H₀ locs₀ hH₀ => ?_)
        refine lv_iinc (v := iI (c₀ + 1)) (lv' := [(4, .int (iI (c₀ + 1))), (0, .ref a₀), (1, .ref g₀), (2, .int (iI cl₀)), (3, .int (iI la₀))]) C₀.1.1 C₀.1.2.1 dX5_mostAlike_21 hl₀ (k := 4) rfl (iI_add _ (1)) (by decide) rfl (fun ls₀ hl₀ => ?_)
        refine lv_goto (tgt := 3) C₀.1.1 C₀.1.2.1 dX5_mostAlike_24 (by decide) ?_
        exact ih3₀ (c₀ + 1) (uz a1₀ c₀ 0) (by rw [k1₀]; exact cpz_s (by omega) (by omega) rfl) (by omega) (by omega) _ _ _ hH₀ (lv_sub hl₀ [1, 2, 3, 4, 0] rfl)
  exact L3₀ (((48 - 0) : Int).toNat + 1) 0 al₀ ((cpz_0 _ _ _ _).symm) (by omega) (by omega) _ _ _ hH₀ (lv_sub hl₀ [1, 2, 3, 4, 0] rfl)
