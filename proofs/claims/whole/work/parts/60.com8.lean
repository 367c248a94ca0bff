abbrev wgJ6_bitCount_0f7a4 : List Cond := .code yJ6_bitCount_0f7a4 cJ6_bitCount_0f7a4 1 (some .int) :: WG
abbrev rmJ6_bitCount_0f7a4 : Room := { frames := 0, cells := 0, slots := 0, locals := 0 }
set_option maxHeartbeats 4000000 in
set_option maxRecDepth 100000 in
/-- Integer.bitCount -/
theorem c_J6_bitCount_0f7a4 (lL₀ : Launch) (D₀ : va_G) (k₀ : Nat → ClassId) (sz₀ : Nat) (z₀ : Int) (hz₀ : 0 ≤ z₀ ∧ z₀ < 2147483648) : Met lL₀ yJ6_bitCount_0f7a4 wgJ6_bitCount_0f7a4 rmJ6_bitCount_0f7a4 (gPc ZT D₀ (tyk k₀) [.int (iI z₀)] sz₀ []) (gQi D₀ (tyk k₀) [] sz₀ (fun (_ : Unit) => True) (fun (_ : Unit) => (iI ((popN 4 z₀.toNat : Nat) : Int))) (fun (_ : Unit) => [])) 0 0 (va_A [] sz₀) := by
  refine xs_met (cc := cJ6_bitCount_0f7a4) (maxL := 1) (ret := some .int) (by decide) rfl (Nat.le_of_ble_eq_true rfl) ?_
  intro pP₀ eN₀ sT₀ mI₀ below₀ meth₀ cD₀ hsz₀ args₀ QQ₀ C₀ hr₀ hlk₀ hnm₀ hQ₀ ls₀ H₀ locs₀ hl₀ hH₀
  subst hsz₀
  have hl₀ : lv_has ls₀ 1 [(0, .int (iI z₀))] := hl₀
  generalize hAe₀ : va_A [] sT₀.heap.size = A₀ at C₀ hH₀ hQ₀
  have l1₀ : b1 (mkB 85 4) z₀.toNat < 2 ^ 32 := b1_lt (by omega)
  have l2₀ : b2 (mkB 51 4) (b1 (mkB 85 4) z₀.toNat) < 2 ^ 32 := b2_lt
  obtain ⟨x3₀, ex3₀⟩ : ∃ x3₀, x3₀ = b3 (mkB 15 4) (b2 (mkB 51 4) (b1 (mkB 85 4) z₀.toNat)) := ⟨_, rfl⟩
  have l3₀ : x3₀ ≤ 252645135 := by rw [ex3₀]; exact b3_lt
  have hpp₀ := pop_32 (n := z₀.toNat) (by omega) x3₀ ex3₀
  refine lv_iload_n C₀.1.1 C₀.1.2.1 dJ6_bitCount_0f7a4_0 rfl (lv_at hl₀ 0 rfl) ?_
  refine lv_iload_n C₀.1.1 C₀.1.2.1 dJ6_bitCount_0f7a4_1 rfl (lv_at hl₀ 0 rfl) ?_
  refine lv_iconst (v := iI 1) C₀.1.1 C₀.1.2.1 dJ6_bitCount_0f7a4_2 (by decide) ?_
  refine lv_iushr (v := ((iI z₀).toUInt32 >>> ((iI 1).toUInt32 &&& Int32.toUInt32 31)).toInt32) C₀.1.1 C₀.1.2.1 dJ6_bitCount_0f7a4_3 rfl ?_
  refine lv_ldcw (v := iI 1431655765) C₀.1.1 C₀.1.2.1 C₀.1.2.2.2.1 (C₀.1.2.2.2.2 (.constant RJ6 265 (iI 1431655765)) (List.mem_cons_of_mem _ (WG_mem 504 (by decide +kernel) (by decide +kernel)))) dJ6_bitCount_0f7a4_4 ?_
  refine lv_iand C₀.1.1 C₀.1.2.1 dJ6_bitCount_0f7a4_7 ?_
  refine lv_isub C₀.1.1 C₀.1.2.1 dJ6_bitCount_0f7a4_8 ?_
  refine xt_i (y := (nI (b1 (mkB 85 4) z₀.toNat))) (bc_1 hz₀) ?_
  refine lv_istore_n (lv' := [(0, .int (nI (b1 (mkB 85 4) z₀.toNat)))]) C₀.1.1 C₀.1.2.1 dJ6_bitCount_0f7a4_9 rfl hl₀ (by decide) rfl (fun ls₀ hl₀ => ?_)
  refine lv_iload_n C₀.1.1 C₀.1.2.1 dJ6_bitCount_0f7a4_10 rfl (lv_at hl₀ 0 rfl) ?_
  refine lv_ldcw (v := iI 858993459) C₀.1.1 C₀.1.2.1 C₀.1.2.2.2.1 (C₀.1.2.2.2.2 (.constant RJ6 266 (iI 858993459)) (List.mem_cons_of_mem _ (WG_mem 505 (by decide +kernel) (by decide +kernel)))) dJ6_bitCount_0f7a4_11 ?_
  refine lv_iand C₀.1.1 C₀.1.2.1 dJ6_bitCount_0f7a4_14 ?_
  refine lv_iload_n C₀.1.1 C₀.1.2.1 dJ6_bitCount_0f7a4_15 rfl (lv_at hl₀ 0 rfl) ?_
  refine lv_iconst (v := iI 2) C₀.1.1 C₀.1.2.1 dJ6_bitCount_0f7a4_16 (by decide) ?_
  refine lv_iushr (v := ((nI (b1 (mkB 85 4) z₀.toNat)).toUInt32 >>> ((iI 2).toUInt32 &&& Int32.toUInt32 31)).toInt32) C₀.1.1 C₀.1.2.1 dJ6_bitCount_0f7a4_17 rfl ?_
  refine lv_ldcw (v := iI 858993459) C₀.1.1 C₀.1.2.1 C₀.1.2.2.2.1 (C₀.1.2.2.2.2 (.constant RJ6 266 (iI 858993459)) (List.mem_cons_of_mem _ (WG_mem 505 (by decide +kernel) (by decide +kernel)))) dJ6_bitCount_0f7a4_18 ?_
  refine lv_iand C₀.1.1 C₀.1.2.1 dJ6_bitCount_0f7a4_21 ?_
  refine lv_iadd C₀.1.1 C₀.1.2.1 dJ6_bitCount_0f7a4_22 ?_
  refine xt_i (y := (nI (b2 (mkB 51 4) (b1 (mkB 85 4) z₀.toNat)))) (bc_2 l1₀) ?_
  refine lv_istore_n (lv' := [(0, .int (nI (b2 (mkB 51 4) (b1 (mkB 85 4) z₀.toNat))))]) C₀.1.1 C₀.1.2.1 dJ6_bitCount_0f7a4_23 rfl hl₀ (by decide) rfl (fun ls₀ hl₀ => ?_)
  refine lv_iload_n C₀.1.1 C₀.1.2.1 dJ6_bitCount_0f7a4_24 rfl (lv_at hl₀ 0 rfl) ?_
  refine lv_iload_n C₀.1.1 C₀.1.2.1 dJ6_bitCount_0f7a4_25 rfl (lv_at hl₀ 0 rfl) ?_
  refine lv_iconst (v := iI 4) C₀.1.1 C₀.1.2.1 dJ6_bitCount_0f7a4_26 (by decide) ?_
  refine lv_iushr (v := ((nI (b2 (mkB 51 4) (b1 (mkB 85 4) z₀.toNat))).toUInt32 >>> ((iI 4).toUInt32 &&& Int32.toUInt32 31)).toInt32) C₀.1.1 C₀.1.2.1 dJ6_bitCount_0f7a4_27 rfl ?_
  refine lv_iadd C₀.1.1 C₀.1.2.1 dJ6_bitCount_0f7a4_28 ?_
  refine lv_ldcw (v := iI 252645135) C₀.1.1 C₀.1.2.1 C₀.1.2.2.2.1 (C₀.1.2.2.2.2 (.constant RJ6 267 (iI 252645135)) (List.mem_cons_of_mem _ (WG_mem 506 (by decide +kernel) (by decide +kernel)))) dJ6_bitCount_0f7a4_29 ?_
  refine lv_iand C₀.1.1 C₀.1.2.1 dJ6_bitCount_0f7a4_32 ?_
  refine xt_i (y := (nI x3₀)) (by rw [ex3₀]; exact bc_3 l2₀) ?_
  refine lv_istore_n (lv' := [(0, .int (nI x3₀))]) C₀.1.1 C₀.1.2.1 dJ6_bitCount_0f7a4_33 rfl hl₀ (by decide) rfl (fun ls₀ hl₀ => ?_)
  refine lv_iload_n C₀.1.1 C₀.1.2.1 dJ6_bitCount_0f7a4_34 rfl (lv_at hl₀ 0 rfl) ?_
  refine lv_iload_n C₀.1.1 C₀.1.2.1 dJ6_bitCount_0f7a4_35 rfl (lv_at hl₀ 0 rfl) ?_
  refine lv_bipush (v := iI 8) C₀.1.1 C₀.1.2.1 dJ6_bitCount_0f7a4_36 (by decide) ?_
  refine lv_iushr (v := ((nI x3₀).toUInt32 >>> ((iI 8).toUInt32 &&& Int32.toUInt32 31)).toInt32) C₀.1.1 C₀.1.2.1 dJ6_bitCount_0f7a4_38 rfl ?_
  refine lv_iadd C₀.1.1 C₀.1.2.1 dJ6_bitCount_0f7a4_39 ?_
  refine xt_i (y := (nI (x3₀ + x3₀ / 256))) (bc_4 (by omega)) ?_
  refine lv_istore_n (lv' := [(0, .int (nI (x3₀ + x3₀ / 256)))]) C₀.1.1 C₀.1.2.1 dJ6_bitCount_0f7a4_40 rfl hl₀ (by decide) rfl (fun ls₀ hl₀ => ?_)
  refine lv_iload_n C₀.1.1 C₀.1.2.1 dJ6_bitCount_0f7a4_41 rfl (lv_at hl₀ 0 rfl) ?_
  refine lv_iload_n C₀.1.1 C₀.1.2.1 dJ6_bitCount_0f7a4_42 rfl (lv_at hl₀ 0 rfl) ?_
  refine lv_bipush (v := iI 16) C₀.1.1 C₀.1.2.1 dJ6_bitCount_0f7a4_43 (by decide) ?_
  refine lv_iushr (v := ((nI (x3₀ + x3₀ / 256)).toUInt32 >>> ((iI 16).toUInt32 &&& Int32.toUInt32 31)).toInt32) C₀.1.1 C₀.1.2.1 dJ6_bitCount_0f7a4_45 rfl ?_
  refine lv_iadd C₀.1.1 C₀.1.2.1 dJ6_bitCount_0f7a4_46 ?_
  refine xt_i (y := (nI (x3₀ + x3₀ / 256 + (x3₀ + x3₀ / 256) / 65536))) (bc_5 (by omega)) ?_
  refine lv_istore_n (lv' := [(0, .int (nI (x3₀ + x3₀ / 256 + (x3₀ + x3₀ / 256) / 65536)))]) C₀.1.1 C₀.1.2.1 dJ6_bitCount_0f7a4_47 rfl hl₀ (by decide) rfl (fun ls₀ hl₀ => ?_)
  refine lv_iload_n C₀.1.1 C₀.1.2.1 dJ6_bitCount_0f7a4_48 rfl (lv_at hl₀ 0 rfl) ?_
  refine lv_bipush (v := iI 63) C₀.1.1 C₀.1.2.1 dJ6_bitCount_0f7a4_49 (by decide) ?_
  refine lv_iand C₀.1.1 C₀.1.2.1 dJ6_bitCount_0f7a4_51 ?_
  exact xr_i C₀ hH₀ hlk₀ hr₀ hQ₀ rfl hAe₀ () trivial (by rw [← hpp₀]; exact bc_6 (by omega)) rfl dJ6_bitCount_0f7a4_52
abbrev wgJ13_bitCount_95d88 : List Cond := .code yJ13_bitCount_95d88 cJ13_bitCount_95d88 2 (some .int) :: WG
abbrev rmJ13_bitCount_95d88 : Room := { frames := 0, cells := 0, slots := 0, locals := 0 }
set_option maxHeartbeats 4000000 in
set_option maxRecDepth 100000 in
/-- Long.bitCount -/
theorem c_J13_bitCount_95d88 (lL₀ : Launch) (D₀ : va_G) (k₀ : Nat → ClassId) (sz₀ : Nat) (x : Int64) (n₀ : Nat) (hx₀ : x = lN n₀) (hn₀ : n₀ < 2 ^ 64) : Met lL₀ yJ13_bitCount_95d88 wgJ13_bitCount_95d88 rmJ13_bitCount_95d88 (gPc ZT D₀ (tyk k₀) [.long x] sz₀ []) (gQi D₀ (tyk k₀) [] sz₀ (fun (_ : Unit) => True) (fun (_ : Unit) => (iI ((popN 8 n₀ : Nat) : Int))) (fun (_ : Unit) => [])) 0 0 (va_A [] sz₀) := by
  refine xs_met (cc := cJ13_bitCount_95d88) (maxL := 2) (ret := some .int) (by decide) rfl (Nat.le_of_ble_eq_true rfl) ?_
  intro pP₀ eN₀ sT₀ mI₀ below₀ meth₀ cD₀ hsz₀ args₀ QQ₀ C₀ hr₀ hlk₀ hnm₀ hQ₀ ls₀ H₀ locs₀ hl₀ hH₀
  subst hsz₀
  have hl₀ : lv_has ls₀ 2 [(0, .long x)] := hl₀
  generalize hAe₀ : va_A [] sT₀.heap.size = A₀ at C₀ hH₀ hQ₀
  subst hx₀
  have l1₀ : b1 (mkB 85 8) n₀ < 2 ^ 64 := by (unfold b1; omega)
  have l2₀ : b2 (mkB 51 8) (b1 (mkB 85 8) n₀) < 2 ^ 63 := c2_lt
  obtain ⟨x3₀, ex3₀⟩ : ∃ x3₀, x3₀ = b3 (mkB 15 8) (b2 (mkB 51 8) (b1 (mkB 85 8) n₀)) := ⟨_, rfl⟩
  have l3₀ : x3₀ ≤ 1085102592571150095 := by rw [ex3₀]; exact c3_lt
  obtain ⟨y4₀, ey4₀⟩ : ∃ y4₀, y4₀ = x3₀ + x3₀ / 256 := ⟨_, rfl⟩
  obtain ⟨z5₀, ez5₀⟩ : ∃ z5₀, z5₀ = y4₀ + y4₀ / 65536 := ⟨_, rfl⟩
  obtain ⟨w6₀, ew6₀⟩ : ∃ w6₀, w6₀ = z5₀ + z5₀ / 4294967296 := ⟨_, rfl⟩
  have hpp₀ := pop_64 (n := n₀) hn₀ x3₀ ex3₀ y4₀ z5₀ w6₀ ey4₀ ez5₀ ew6₀
  refine lv_lload_n C₀.1.1 C₀.1.2.1 dJ13_bitCount_95d88_0 rfl (lv_at hl₀ 0 rfl) ?_
  refine lv_lload_n C₀.1.1 C₀.1.2.1 dJ13_bitCount_95d88_1 rfl (lv_at hl₀ 0 rfl) ?_
  refine lv_iconst (v := iI 1) C₀.1.1 C₀.1.2.1 dJ13_bitCount_95d88_2 (by decide) ?_
  refine lv_lushr (v := ((lN n₀).toUInt64 >>> ((iI 1).toInt64.toUInt64 &&& Int64.toUInt64 63)).toInt64) C₀.1.1 C₀.1.2.1 dJ13_bitCount_95d88_3 rfl ?_
  refine lv_ldc2 (v := 6148914691236517205) C₀.1.1 C₀.1.2.1 C₀.1.2.2.2.1 (C₀.1.2.2.2.2 (.constantLong RJ13 314 (6148914691236517205)) (List.mem_cons_of_mem _ (WG_mem 628 (by decide +kernel) (by decide +kernel)))) dJ13_bitCount_95d88_4 ?_
  refine lv_land C₀.1.1 C₀.1.2.1 dJ13_bitCount_95d88_7 ?_
  refine lv_lsub C₀.1.1 C₀.1.2.1 dJ13_bitCount_95d88_8 ?_
  refine xt_l (y := (lN (b1 (mkB 85 8) n₀))) (lc_1 hn₀) ?_
  refine lv_lstore_n (lv' := [(0, .long (lN (b1 (mkB 85 8) n₀)))]) C₀.1.1 C₀.1.2.1 dJ13_bitCount_95d88_9 rfl hl₀ (by decide) rfl (fun ls₀ hl₀ => ?_)
  refine lv_lload_n C₀.1.1 C₀.1.2.1 dJ13_bitCount_95d88_10 rfl (lv_at hl₀ 0 rfl) ?_
  refine lv_ldc2 (v := 3689348814741910323) C₀.1.1 C₀.1.2.1 C₀.1.2.2.2.1 (C₀.1.2.2.2.2 (.constantLong RJ13 316 (3689348814741910323)) (List.mem_cons_of_mem _ (WG_mem 629 (by decide +kernel) (by decide +kernel)))) dJ13_bitCount_95d88_11 ?_
  refine lv_land C₀.1.1 C₀.1.2.1 dJ13_bitCount_95d88_14 ?_
  refine lv_lload_n C₀.1.1 C₀.1.2.1 dJ13_bitCount_95d88_15 rfl (lv_at hl₀ 0 rfl) ?_
  refine lv_iconst (v := iI 2) C₀.1.1 C₀.1.2.1 dJ13_bitCount_95d88_16 (by decide) ?_
  refine lv_lushr (v := ((lN (b1 (mkB 85 8) n₀)).toUInt64 >>> ((iI 2).toInt64.toUInt64 &&& Int64.toUInt64 63)).toInt64) C₀.1.1 C₀.1.2.1 dJ13_bitCount_95d88_17 rfl ?_
  refine lv_ldc2 (v := 3689348814741910323) C₀.1.1 C₀.1.2.1 C₀.1.2.2.2.1 (C₀.1.2.2.2.2 (.constantLong RJ13 316 (3689348814741910323)) (List.mem_cons_of_mem _ (WG_mem 629 (by decide +kernel) (by decide +kernel)))) dJ13_bitCount_95d88_18 ?_
  refine lv_land C₀.1.1 C₀.1.2.1 dJ13_bitCount_95d88_21 ?_
  refine lv_ladd C₀.1.1 C₀.1.2.1 dJ13_bitCount_95d88_22 ?_
  refine xt_l (y := (lN (b2 (mkB 51 8) (b1 (mkB 85 8) n₀)))) (lc_2 l1₀) ?_
  refine lv_lstore_n (lv' := [(0, .long (lN (b2 (mkB 51 8) (b1 (mkB 85 8) n₀))))]) C₀.1.1 C₀.1.2.1 dJ13_bitCount_95d88_23 rfl hl₀ (by decide) rfl (fun ls₀ hl₀ => ?_)
  refine lv_lload_n C₀.1.1 C₀.1.2.1 dJ13_bitCount_95d88_24 rfl (lv_at hl₀ 0 rfl) ?_
  refine lv_lload_n C₀.1.1 C₀.1.2.1 dJ13_bitCount_95d88_25 rfl (lv_at hl₀ 0 rfl) ?_
  refine lv_iconst (v := iI 4) C₀.1.1 C₀.1.2.1 dJ13_bitCount_95d88_26 (by decide) ?_
  refine lv_lushr (v := ((lN (b2 (mkB 51 8) (b1 (mkB 85 8) n₀))).toUInt64 >>> ((iI 4).toInt64.toUInt64 &&& Int64.toUInt64 63)).toInt64) C₀.1.1 C₀.1.2.1 dJ13_bitCount_95d88_27 rfl ?_
  refine lv_ladd C₀.1.1 C₀.1.2.1 dJ13_bitCount_95d88_28 ?_
  refine lv_ldc2 (v := 1085102592571150095) C₀.1.1 C₀.1.2.1 C₀.1.2.2.2.1 (C₀.1.2.2.2.2 (.constantLong RJ13 318 (1085102592571150095)) (List.mem_cons_of_mem _ (WG_mem 630 (by decide +kernel) (by decide +kernel)))) dJ13_bitCount_95d88_29 ?_
  refine lv_land C₀.1.1 C₀.1.2.1 dJ13_bitCount_95d88_32 ?_
  refine xt_l (y := (lN x3₀)) (by rw [ex3₀]; exact lc_3 l2₀) ?_
  refine lv_lstore_n (lv' := [(0, .long (lN x3₀))]) C₀.1.1 C₀.1.2.1 dJ13_bitCount_95d88_33 rfl hl₀ (by decide) rfl (fun ls₀ hl₀ => ?_)
  refine lv_lload_n C₀.1.1 C₀.1.2.1 dJ13_bitCount_95d88_34 rfl (lv_at hl₀ 0 rfl) ?_
  refine lv_lload_n C₀.1.1 C₀.1.2.1 dJ13_bitCount_95d88_35 rfl (lv_at hl₀ 0 rfl) ?_
  refine lv_bipush (v := iI 8) C₀.1.1 C₀.1.2.1 dJ13_bitCount_95d88_36 (by decide) ?_
  refine lv_lushr (v := ((lN x3₀).toUInt64 >>> ((iI 8).toInt64.toUInt64 &&& Int64.toUInt64 63)).toInt64) C₀.1.1 C₀.1.2.1 dJ13_bitCount_95d88_38 rfl ?_
  refine lv_ladd C₀.1.1 C₀.1.2.1 dJ13_bitCount_95d88_39 ?_
  refine xt_l (y := (lN y4₀)) (by rw [ey4₀]; exact lc_k (by omega) 8 (by decide)) ?_
  refine lv_lstore_n (lv' := [(0, .long (lN y4₀))]) C₀.1.1 C₀.1.2.1 dJ13_bitCount_95d88_40 rfl hl₀ (by decide) rfl (fun ls₀ hl₀ => ?_)
  refine lv_lload_n C₀.1.1 C₀.1.2.1 dJ13_bitCount_95d88_41 rfl (lv_at hl₀ 0 rfl) ?_
  refine lv_lload_n C₀.1.1 C₀.1.2.1 dJ13_bitCount_95d88_42 rfl (lv_at hl₀ 0 rfl) ?_
  refine lv_bipush (v := iI 16) C₀.1.1 C₀.1.2.1 dJ13_bitCount_95d88_43 (by decide) ?_
  refine lv_lushr (v := ((lN y4₀).toUInt64 >>> ((iI 16).toInt64.toUInt64 &&& Int64.toUInt64 63)).toInt64) C₀.1.1 C₀.1.2.1 dJ13_bitCount_95d88_45 rfl ?_
  refine lv_ladd C₀.1.1 C₀.1.2.1 dJ13_bitCount_95d88_46 ?_
  refine xt_l (y := (lN z5₀)) (by rw [ez5₀]; exact lc_k (by omega) 16 (by decide)) ?_
  refine lv_lstore_n (lv' := [(0, .long (lN z5₀))]) C₀.1.1 C₀.1.2.1 dJ13_bitCount_95d88_47 rfl hl₀ (by decide) rfl (fun ls₀ hl₀ => ?_)
  refine lv_lload_n C₀.1.1 C₀.1.2.1 dJ13_bitCount_95d88_48 rfl (lv_at hl₀ 0 rfl) ?_
  refine lv_lload_n C₀.1.1 C₀.1.2.1 dJ13_bitCount_95d88_49 rfl (lv_at hl₀ 0 rfl) ?_
  refine lv_bipush (v := iI 32) C₀.1.1 C₀.1.2.1 dJ13_bitCount_95d88_50 (by decide) ?_
  refine lv_lushr (v := ((lN z5₀).toUInt64 >>> ((iI 32).toInt64.toUInt64 &&& Int64.toUInt64 63)).toInt64) C₀.1.1 C₀.1.2.1 dJ13_bitCount_95d88_52 rfl ?_
  refine lv_ladd C₀.1.1 C₀.1.2.1 dJ13_bitCount_95d88_53 ?_
  refine xt_l (y := (lN w6₀)) (by rw [ew6₀]; exact lc_k (by omega) 32 (by decide)) ?_
  refine lv_lstore_n (lv' := [(0, .long (lN w6₀))]) C₀.1.1 C₀.1.2.1 dJ13_bitCount_95d88_54 rfl hl₀ (by decide) rfl (fun ls₀ hl₀ => ?_)
  refine lv_lload_n C₀.1.1 C₀.1.2.1 dJ13_bitCount_95d88_55 rfl (lv_at hl₀ 0 rfl) ?_
  refine lv_l2i (v := (lN w6₀).toInt32) C₀.1.1 C₀.1.2.1 dJ13_bitCount_95d88_56 rfl ?_
  refine lv_bipush (v := iI 127) C₀.1.1 C₀.1.2.1 dJ13_bitCount_95d88_57 (by decide) ?_
  refine lv_iand C₀.1.1 C₀.1.2.1 dJ13_bitCount_95d88_59 ?_
  exact xr_i C₀ hH₀ hlk₀ hr₀ hQ₀ rfl hAe₀ () trivial (by rw [← hpp₀]; exact lc_6 w6₀) rfl dJ13_bitCount_95d88_60
