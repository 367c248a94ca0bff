abbrev rmX9_in : Room := { frames := 0, cells := 0, slots := 0, locals := 0 }
set_option maxHeartbeats 4000000 in
set_option maxRecDepth 100000 in
/-- in -/
theorem c_X9_in (lL : Launch) (D : va_G) (k : Nat → ClassId) (sz : Nat) (v : Int) (lo : Int) (hi : Int) (hv : -2147483648 ≤ v ∧ v < 2147483648) (hlo : -2147483648 ≤ lo ∧ lo < 2147483648) (hhi : -2147483648 ≤ hi ∧ hi < 2147483648) : Met lL yX9_in wsX9_in rmX9_in (gPc ZT D (tyk k) [.int (iI v), .int (iI lo), .int (iI hi)] sz []) (gQi D (tyk k) [] sz (fun (_ : Unit) => True) (fun (_ : Unit) => (iI (bz (decide (lo ≤ v ∧ v ≤ hi))))) (fun (_ : Unit) => [])) 0 0 (va_A [] sz) := by
  refine xs_met (cc := cX9_in) (maxL := 3) (ret := some .boolean) (by decide) rfl (Nat.le_of_ble_eq_true rfl) ?_
  intro pP eN sT mI below meth cD hsz args QQ C hr hlk hnm hQ ls H locs hl hH
  subst hsz
  have hl : lv_has ls 3 [(0, .int (iI v)), (1, .int (iI lo)), (2, .int (iI hi))] := hl
  generalize hAe : va_A [] sT.heap.size = A at C hH hQ
  refine lv_iload_n C.1.1 C.1.2.1 dX9_in_0 rfl (lv_at hl 0 rfl) ?_
  refine lv_iload_n C.1.1 C.1.2.1 dX9_in_1 rfl (lv_at hl 1 rfl) ?_
  refine xi_clt (tgt := 14) C.1.1 C.1.2.1 dX9_in_2 (by decide) (by omega) (by omega) (fun h_1 => ?_) (fun h_1 => ?_)
  · refine lv_iconst (v := iI 0) C.1.1 C.1.2.1 dX9_in_14 (by decide) ?_
    exact xr_i C hH hlk hr hQ rfl hAe () trivial (bF (by omega)) rfl dX9_in_15
  · refine lv_iload_n C.1.1 C.1.2.1 dX9_in_5 rfl (lv_at hl 0 rfl) ?_
    refine lv_iload_n C.1.1 C.1.2.1 dX9_in_6 rfl (lv_at hl 2 rfl) ?_
    refine xi_cgt (tgt := 14) C.1.1 C.1.2.1 dX9_in_7 (by decide) (by omega) (by omega) (fun h_2 => ?_) (fun h_2 => ?_)
    · refine lv_iconst (v := iI 0) C.1.1 C.1.2.1 dX9_in_14 (by decide) ?_
      exact xr_i C hH hlk hr hQ rfl hAe () trivial (bF (by omega)) rfl dX9_in_15
    · refine lv_iconst (v := iI 1) C.1.1 C.1.2.1 dX9_in_10 (by decide) ?_
      refine lv_goto (tgt := 15) C.1.1 C.1.2.1 dX9_in_11 (by decide) ?_
      exact xr_i C hH hlk hr hQ rfl hAe () trivial (bT (by omega)) rfl dX9_in_15
theorem iw_X9_at_X9 : ∀ w ∈ u_ws RX9 TX9 24, w ∈ wsX9_at := (fun w h => List.mem_cons_of_mem _ (List.mem_append_right _ h))
abbrev rmX9_at : Room := { frames := 0, cells := 0, slots := 0, locals := 0 }
set_option maxHeartbeats 4000000 in
set_option maxRecDepth 100000 in
/-- at -/
theorem c_X9_at (lL : Launch) (D : va_G) (k : Nat → ClassId) (sz : Nat) (a : Nat) (q : Nat → Nat) (th : Int) (un : Int) (mf : Int) (ty : Int) (fr : Int) (tt : Int) (tk : Int) (fa : Int) (hf : Bool) (ho : Bool) (km : Int) (tx : Int → Int) (x : Int) (hx : 0 ≤ x ∧ x < 2147483648) (hty : 0 ≤ ty ∧ ty ≤ 120) (htx : ∀ j, 0 ≤ tx j ∧ tx j < 256) : Met lL yX9_at wsX9_at rmX9_at (gPc ZT D (tyk k) [.ref a, .int (iI x)] sz [mO a q th un mf ty fr tt tk fa (bz hf) (bz ho) km, (q 9, .inl (k 1, 120, .inl (by8 tx)))]) (gQi D (tyk k) [mO a q th un mf ty fr tt tk fa (bz hf) (bz ho) km, (q 9, .inl (k 1, 120, .inl (by8 tx)))] sz (fun (_ : Unit) => True) (fun (_ : Unit) => (iI (mAt tx ty x))) (fun (_ : Unit) => [mO a q th un mf ty fr tt tk fa (bz hf) (bz ho) km, (q 9, .inl (k 1, 120, .inl (by8 tx)))])) 0 0 (va_A [mO a q th un mf ty fr tt tk fa (bz hf) (bz ho) km, (q 9, .inl (k 1, 120, .inl (by8 tx)))] sz) := by
  refine xs_met (cc := cX9_at) (maxL := 2) (ret := some .int) (by decide) rfl (Nat.le_of_ble_eq_true rfl) ?_
  intro pP eN sT mI below meth cD hsz args QQ C hr hlk hnm hQ ls H locs hl hH
  subst hsz
  have hl : lv_has ls 2 [(0, .ref a), (1, .int (iI x))] := hl
  generalize hAe : va_A [mO a q th un mf ty fr tt tk fa (bz hf) (bz ho) km, (q 9, .inl (k 1, 120, .inl (by8 tx)))] sT.heap.size = A at C hH hQ
  refine lv_iload_n C.1.1 C.1.2.1 dX9_at_0 rfl (lv_at hl 1 rfl) ?_
  refine lv_aload_n C.1.1 C.1.2.1 dX9_at_1 rfl (lv_at hl 0 rfl) ?_
  refine xw_get C hH 0 rfl rfl 10 (by decide) iw_X9_at_X9 (by decide +kernel) (v := .int (iI ty)) rfl dX9_at_2 ?_
  refine xi_cge (tgt := 21) C.1.1 C.1.2.1 dX9_at_5 (by decide) (by omega) (by omega) (fun h_1 => ?_) (fun h_1 => ?_)
  · refine lv_iconst (v := iI (-1)) C.1.1 C.1.2.1 dX9_at_21 (by decide) ?_
    exact xr_i C hH hlk hr hQ rfl hAe () trivial (by unfold mAt; rw [if_neg (by omega)]) rfl dX9_at_22
  · refine lv_aload_n C.1.1 C.1.2.1 dX9_at_8 rfl (lv_at hl 0 rfl) ?_
    refine xw_get C hH 0 rfl rfl 9 (by decide) iw_X9_at_X9 (by decide +kernel) (v := .ref (q 9)) rfl dX9_at_9 ?_
    refine lv_iload_n C.1.1 C.1.2.1 dX9_at_12 rfl (lv_at hl 1 rfl) ?_
    refine xw_bld C hH 1 1 rfl rfl (z := x) (by omega) (by omega) (by decide) dX9_at_13 ?_
    refine lv_sipush (v := iI 255) C.1.1 C.1.2.1 dX9_at_14 (by decide) ?_
    refine lv_iand C.1.1 C.1.2.1 dX9_at_17 ?_
    refine xt_i (y := (iI (tx x))) (by8_255 (htx x)) ?_
    refine lv_goto (tgt := 22) C.1.1 C.1.2.1 dX9_at_18 (by decide) ?_
    exact xr_i C hH hlk hr hQ rfl hAe () trivial (by unfold mAt; rw [if_pos (by omega)]) rfl dX9_at_22
theorem iw_X9_cells_X9 : ∀ w ∈ u_ws RX9 TX9 24, w ∈ wsX9_cells := (fun w h => List.mem_cons_of_mem _ (List.mem_append_right _ h))
abbrev rmX9_cells : Room := { frames := 0, cells := 0, slots := 0, locals := 0 }
set_option maxHeartbeats 4000000 in
set_option maxRecDepth 100000 in
/-- cells -/
theorem c_X9_cells (lL : Launch) (D : va_G) (k : Nat → ClassId) (sz : Nat) (a : Nat) (q : Nat → Nat) (th : Int) (un : Int) (mf : Int) (ty : Int) (fr : Int) (tt : Int) (tk : Int) (fa : Int) (hf : Bool) (ho : Bool) (km : Int) (s : Int → Int)  : Met lL yX9_cells wsX9_cells rmX9_cells (gPc ZT D (tyk k) [.ref a] sz [mO a q th un mf ty fr tt tk fa (bz hf) (bz ho) km, (q 1, .inl (k 0, 51, .inl (ia s)))]) (gQi D (tyk k) [mO a q th un mf ty fr tt tk fa (bz hf) (bz ho) km, (q 1, .inl (k 0, 51, .inl (ia s)))] sz (fun (_ : Unit) => True) (fun (_ : Unit) => (iI (s 0 * s 1))) (fun (_ : Unit) => [mO a q th un mf ty fr tt tk fa (bz hf) (bz ho) km, (q 1, .inl (k 0, 51, .inl (ia s)))])) 0 0 (va_A [mO a q th un mf ty fr tt tk fa (bz hf) (bz ho) km, (q 1, .inl (k 0, 51, .inl (ia s)))] sz) := by
  refine xs_met (cc := cX9_cells) (maxL := 1) (ret := some .int) (by decide) rfl (Nat.le_of_ble_eq_true rfl) ?_
  intro pP eN sT mI below meth cD hsz args QQ C hr hlk hnm hQ ls H locs hl hH
  subst hsz
  have hl : lv_has ls 1 [(0, .ref a)] := hl
  generalize hAe : va_A [mO a q th un mf ty fr tt tk fa (bz hf) (bz ho) km, (q 1, .inl (k 0, 51, .inl (ia s)))] sT.heap.size = A at C hH hQ
  refine lv_aload_n C.1.1 C.1.2.1 dX9_cells_0 rfl (lv_at hl 0 rfl) ?_
  refine xw_get C hH 0 rfl rfl 1 (by decide) iw_X9_cells_X9 (by decide +kernel) (v := .ref (q 1)) rfl dX9_cells_1 ?_
  refine lv_iconst (v := iI 0) C.1.1 C.1.2.1 dX9_cells_4 (by decide) ?_
  refine xw_ild C hH 1 0 rfl rfl (z := 0) (by omega) (by omega) (by decide) dX9_cells_5 ?_
  refine lv_aload_n C.1.1 C.1.2.1 dX9_cells_6 rfl (lv_at hl 0 rfl) ?_
  refine xw_get C hH 0 rfl rfl 1 (by decide) iw_X9_cells_X9 (by decide +kernel) (v := .ref (q 1)) rfl dX9_cells_7 ?_
  refine lv_iconst (v := iI 1) C.1.1 C.1.2.1 dX9_cells_10 (by decide) ?_
  refine xw_ild C hH 1 0 rfl rfl (z := 1) (by omega) (by omega) (by decide) dX9_cells_11 ?_
  refine xi_mul C.1.1 C.1.2.1 dX9_cells_12 ?_
  exact xr_i C hH hlk hr hQ rfl hAe () trivial rfl rfl dX9_cells_13
theorem iw_X9_isCell_X9 : ∀ w ∈ u_ws RX9 TX9 24, w ∈ wsX9_isCell := (fun w h => List.mem_cons_of_mem _ (List.mem_append_right _ h))
abbrev rmX9_isCell : Room := { frames := 1, cells := 0, slots := 0, locals := 22 }
set_option maxHeartbeats 4000000 in
set_option maxRecDepth 100000 in
/-- isCell -/
theorem c_X9_isCell (lL : Launch) (D : va_G) (k : Nat → ClassId) (sz : Nat) (a : Nat) (q : Nat → Nat) (th : Int) (un : Int) (mf : Int) (ty : Int) (fr : Int) (tt : Int) (tk : Int) (fa : Int) (hf : Bool) (ho : Bool) (km : Int) (s : Int → Int) (x : Int) (y : Int) (hs0 : 1 ≤ s 0 ∧ s 0 ≤ 4) (hs1 : 1 ≤ s 1 ∧ s 1 ≤ 6) (hx : -2147483648 ≤ x ∧ x < 2147483648) (hy : -2147483648 ≤ y ∧ y < 2147483648) : Met lL yX9_isCell wsX9_isCell rmX9_isCell (gPc ZT D (tyk k) [.ref a, .int (iI x), .int (iI y)] sz [mO a q th un mf ty fr tt tk fa (bz hf) (bz ho) km, (q 1, .inl (k 0, 51, .inl (ia s)))]) (gQi D (tyk k) [mO a q th un mf ty fr tt tk fa (bz hf) (bz ho) km, (q 1, .inl (k 0, 51, .inl (ia s)))] sz (fun (_ : Unit) => True) (fun (_ : Unit) => (iI (bz (decide (0 ≤ x ∧ x < s 0 ∧ 0 ≤ y ∧ y < s 1))))) (fun (_ : Unit) => [mO a q th un mf ty fr tt tk fa (bz hf) (bz ho) km, (q 1, .inl (k 0, 51, .inl (ia s)))])) 0 0 (va_A [mO a q th un mf ty fr tt tk fa (bz hf) (bz ho) km, (q 1, .inl (k 0, 51, .inl (ia s)))] sz) := by
  refine xs_met (cc := cX9_isCell) (maxL := 3) (ret := some .boolean) (by decide) rfl (Nat.le_of_ble_eq_true rfl) ?_
  intro pP eN sT mI below meth cD hsz args QQ C hr hlk hnm hQ ls H locs hl hH
  subst hsz
  have hl : lv_has ls 3 [(0, .ref a), (1, .int (iI x)), (2, .int (iI y))] := hl
  generalize hAe : va_A [mO a q th un mf ty fr tt tk fa (bz hf) (bz ho) km, (q 1, .inl (k 0, 51, .inl (ia s)))] sT.heap.size = A at C hH hQ
  refine lv_iload_n C.1.1 C.1.2.1 dX9_isCell_0 rfl (lv_at hl 1 rfl) ?_
  refine lv_iconst (v := iI 0) C.1.1 C.1.2.1 dX9_isCell_1 (by decide) ?_
  refine lv_aload_n C.1.1 C.1.2.1 dX9_isCell_2 rfl (lv_at hl 0 rfl) ?_
  refine xw_get C hH 0 rfl rfl 1 (by decide) iw_X9_isCell_X9 (by decide +kernel) (v := .ref (q 1)) rfl dX9_isCell_3 ?_
  refine lv_iconst (v := iI 0) C.1.1 C.1.2.1 dX9_isCell_6 (by decide) ?_
  refine xw_ild C hH 1 0 rfl rfl (z := 0) (by omega) (by omega) (by decide) dX9_isCell_7 ?_
  refine lv_iconst (v := iI 1) C.1.1 C.1.2.1 dX9_isCell_8 (by decide) ?_
  refine xi_sub C.1.1 C.1.2.1 dX9_isCell_9 ?_
  refine xc_Si (wr := [mO a q th un mf ty fr tt tk fa (bz hf) (bz ho) km, (q 1, .inl (k 0, 51, .inl (ia s)))]) (ws' := fun _ => [mO a q th un mf ty fr tt tk fa (bz hf) (bz ho) km, (q 1, .inl (k 0, 51, .inl (ia s)))]) (As := [.int (iI x), .int (iI 0), .int (iI (s 0 - 1))]) (rest := []) C hH (c_X9_in lL D k H.size x 0 (s 0 - 1) (by omega) (by omega) (by omega)) ZT_b (fun _ _ _ => trivial) (va_cwS 3 C.1.2.2.2.2 gX9_isCell_X9_in rfl rfl rfl (by decide +kernel) ⟨Nat.le_of_ble_eq_true rfl, Nat.le_of_ble_eq_true rfl⟩) [] [0, 1] [0, 1] rfl rfl (by decide) (by decide) (by decide) (fun _ => rfl) (by decide) rfl hl.1 rfl (Nat.le_of_ble_eq_true rfl) dX9_isCell_10 ⟨Nat.le_of_ble_eq_true rfl, Nat.le_of_ble_eq_true rfl⟩ (fun _ _ H locs hH => ?_)
  refine xp_eq (tgt := 36) C.1.1 C.1.2.1 dX9_isCell_13 (by decide) (fun h_1 => ?_) (fun h_1 => ?_)
  · refine lv_iconst (v := iI 0) C.1.1 C.1.2.1 dX9_isCell_36 (by decide) ?_
    exact xr_i C hH hlk hr hQ rfl hAe () trivial (bF (by omega)) rfl dX9_isCell_37
  · refine lv_iload_n C.1.1 C.1.2.1 dX9_isCell_16 rfl (lv_at hl 2 rfl) ?_
    refine lv_iconst (v := iI 0) C.1.1 C.1.2.1 dX9_isCell_17 (by decide) ?_
    refine lv_aload_n C.1.1 C.1.2.1 dX9_isCell_18 rfl (lv_at hl 0 rfl) ?_
    refine xw_get C hH 0 rfl rfl 1 (by decide) iw_X9_isCell_X9 (by decide +kernel) (v := .ref (q 1)) rfl dX9_isCell_19 ?_
    refine lv_iconst (v := iI 1) C.1.1 C.1.2.1 dX9_isCell_22 (by decide) ?_
    refine xw_ild C hH 1 0 rfl rfl (z := 1) (by omega) (by omega) (by decide) dX9_isCell_23 ?_
    refine lv_iconst (v := iI 1) C.1.1 C.1.2.1 dX9_isCell_24 (by decide) ?_
    refine xi_sub C.1.1 C.1.2.1 dX9_isCell_25 ?_
    refine xc_Si (wr := [mO a q th un mf ty fr tt tk fa (bz hf) (bz ho) km, (q 1, .inl (k 0, 51, .inl (ia s)))]) (ws' := fun _ => [mO a q th un mf ty fr tt tk fa (bz hf) (bz ho) km, (q 1, .inl (k 0, 51, .inl (ia s)))]) (As := [.int (iI y), .int (iI 0), .int (iI (s 1 - 1))]) (rest := []) C hH (c_X9_in lL D k H.size y 0 (s 1 - 1) (by omega) (by omega) (by omega)) ZT_b (fun _ _ _ => trivial) (va_cwS 3 C.1.2.2.2.2 gX9_isCell_X9_in rfl rfl rfl (by decide +kernel) ⟨Nat.le_of_ble_eq_true rfl, Nat.le_of_ble_eq_true rfl⟩) [] [0, 1] [0, 1] rfl rfl (by decide) (by decide) (by decide) (fun _ => rfl) (by decide) rfl hl.1 rfl (Nat.le_of_ble_eq_true rfl) dX9_isCell_26 ⟨Nat.le_of_ble_eq_true rfl, Nat.le_of_ble_eq_true rfl⟩ (fun _ _ H locs hH => ?_)
    refine xp_eq (tgt := 36) C.1.1 C.1.2.1 dX9_isCell_29 (by decide) (fun h_2 => ?_) (fun h_2 => ?_)
    · refine lv_iconst (v := iI 0) C.1.1 C.1.2.1 dX9_isCell_36 (by decide) ?_
      exact xr_i C hH hlk hr hQ rfl hAe () trivial (bF (by omega)) rfl dX9_isCell_37
    · refine lv_iconst (v := iI 1) C.1.1 C.1.2.1 dX9_isCell_32 (by decide) ?_
      refine lv_goto (tgt := 37) C.1.1 C.1.2.1 dX9_isCell_33 (by decide) ?_
      exact xr_i C hH hlk hr hQ rfl hAe () trivial (bT (by omega)) rfl dX9_isCell_37
theorem iw_X9_height_X9 : ∀ w ∈ u_ws RX9 TX9 24, w ∈ wsX9_height := (fun w h => List.mem_cons_of_mem _ (List.mem_append_right _ h))
abbrev rmX9_height : Room := { frames := 0, cells := 0, slots := 0, locals := 0 }
set_option maxHeartbeats 4000000 in
set_option maxRecDepth 100000 in
/-- height -/
theorem c_X9_height (lL : Launch) (D : va_G) (k : Nat → ClassId) (sz : Nat) (a : Nat) (q : Nat → Nat) (th : Int) (un : Int) (mf : Int) (ty : Int) (fr : Int) (tt : Int) (tk : Int) (fa : Int) (hf : Bool) (ho : Bool) (km : Int) (s : Int → Int) (x : Int) (y : Int) (hz : 0 ≤ 3 + s 0 * y + x ∧ 3 + s 0 * y + x < 51) : Met lL yX9_height wsX9_height rmX9_height (gPc ZT D (tyk k) [.ref a, .int (iI x), .int (iI y)] sz [mO a q th un mf ty fr tt tk fa (bz hf) (bz ho) km, (q 1, .inl (k 0, 51, .inl (ia s)))]) (gQi D (tyk k) [mO a q th un mf ty fr tt tk fa (bz hf) (bz ho) km, (q 1, .inl (k 0, 51, .inl (ia s)))] sz (fun (_ : Unit) => True) (fun (_ : Unit) => (iI (s (3 + s 0 * y + x)))) (fun (_ : Unit) => [mO a q th un mf ty fr tt tk fa (bz hf) (bz ho) km, (q 1, .inl (k 0, 51, .inl (ia s)))])) 0 0 (va_A [mO a q th un mf ty fr tt tk fa (bz hf) (bz ho) km, (q 1, .inl (k 0, 51, .inl (ia s)))] sz) := by
  refine xs_met (cc := cX9_height) (maxL := 3) (ret := some .int) (by decide) rfl (Nat.le_of_ble_eq_true rfl) ?_
  intro pP eN sT mI below meth cD hsz args QQ C hr hlk hnm hQ ls H locs hl hH
  subst hsz
  have hl : lv_has ls 3 [(0, .ref a), (1, .int (iI x)), (2, .int (iI y))] := hl
  generalize hAe : va_A [mO a q th un mf ty fr tt tk fa (bz hf) (bz ho) km, (q 1, .inl (k 0, 51, .inl (ia s)))] sT.heap.size = A at C hH hQ
  refine lv_aload_n C.1.1 C.1.2.1 dX9_height_0 rfl (lv_at hl 0 rfl) ?_
  refine xw_get C hH 0 rfl rfl 1 (by decide) iw_X9_height_X9 (by decide +kernel) (v := .ref (q 1)) rfl dX9_height_1 ?_
  refine lv_iconst (v := iI 3) C.1.1 C.1.2.1 dX9_height_4 (by decide) ?_
  refine lv_aload_n C.1.1 C.1.2.1 dX9_height_5 rfl (lv_at hl 0 rfl) ?_
  refine xw_get C hH 0 rfl rfl 1 (by decide) iw_X9_height_X9 (by decide +kernel) (v := .ref (q 1)) rfl dX9_height_6 ?_
  refine lv_iconst (v := iI 0) C.1.1 C.1.2.1 dX9_height_9 (by decide) ?_
  refine xw_ild C hH 1 0 rfl rfl (z := 0) (by omega) (by omega) (by decide) dX9_height_10 ?_
  refine lv_iload_n C.1.1 C.1.2.1 dX9_height_11 rfl (lv_at hl 2 rfl) ?_
  refine xi_mul C.1.1 C.1.2.1 dX9_height_12 ?_
  refine xi_add C.1.1 C.1.2.1 dX9_height_13 ?_
  refine lv_iload_n C.1.1 C.1.2.1 dX9_height_14 rfl (lv_at hl 1 rfl) ?_
  refine xi_add C.1.1 C.1.2.1 dX9_height_15 ?_
  refine xw_ild C hH 1 0 rfl rfl (z := 3 + ((s 0) * y) + x) (by omega) (by omega) (by decide) dX9_height_16 ?_
  exact xr_i C hH hlk hr hQ rfl hAe () trivial rfl rfl dX9_height_17
abbrev rmX9_isNear : Room := { frames := 1, cells := 0, slots := 0, locals := 22 }
set_option maxHeartbeats 4000000 in
set_option maxRecDepth 100000 in
/-- isNear -/
theorem c_X9_isNear (lL : Launch) (D : va_G) (k : Nat → ClassId) (sz : Nat) (x : Int) (y : Int) (hx : -2147483648 ≤ x - y ∧ x - y < 2147483648) : Met lL yX9_isNear wsX9_isNear rmX9_isNear (gPc ZT D (tyk k) [.int (iI x), .int (iI y)] sz []) (gQi D (tyk k) [] sz (fun (_ : Unit) => True) (fun (_ : Unit) => (iI (bz (decide (-1 ≤ x - y ∧ x - y ≤ 1))))) (fun (_ : Unit) => [])) 0 0 (va_A [] sz) := by
  refine xs_met (cc := cX9_isNear) (maxL := 2) (ret := some .boolean) (by decide) rfl (Nat.le_of_ble_eq_true rfl) ?_
  intro pP eN sT mI below meth cD hsz args QQ C hr hlk hnm hQ ls H locs hl hH
  subst hsz
  have hl : lv_has ls 2 [(0, .int (iI x)), (1, .int (iI y))] := hl
  generalize hAe : va_A [] sT.heap.size = A at C hH hQ
  refine lv_iload_n C.1.1 C.1.2.1 dX9_isNear_0 rfl (lv_at hl 0 rfl) ?_
  refine lv_iload_n C.1.1 C.1.2.1 dX9_isNear_1 rfl (lv_at hl 1 rfl) ?_
  refine xi_sub C.1.1 C.1.2.1 dX9_isNear_2 ?_
  refine lv_iconst (v := iI (-1)) C.1.1 C.1.2.1 dX9_isNear_3 (by decide) ?_
  refine lv_iconst (v := iI 1) C.1.1 C.1.2.1 dX9_isNear_4 (by decide) ?_
  refine xc_Si (wr := []) (ws' := fun _ => []) (As := [.int (iI (x - y)), .int (iI (-1)), .int (iI 1)]) (rest := []) C hH (c_X9_in lL D k H.size (x - y) (-1) 1 (by omega) (by omega) (by omega)) ZT_b (fun _ _ _ => trivial) (va_cwS 3 C.1.2.2.2.2 gX9_isNear_X9_in rfl rfl rfl (by decide +kernel) ⟨Nat.le_of_ble_eq_true rfl, Nat.le_of_ble_eq_true rfl⟩) [] [] [] rfl rfl (by decide) (by decide) (by decide) (fun _ => rfl) (by decide) rfl hl.1 rfl (Nat.le_of_ble_eq_true rfl) dX9_isNear_5 ⟨Nat.le_of_ble_eq_true rfl, Nat.le_of_ble_eq_true rfl⟩ (fun _ _ H locs hH => ?_)
  exact xr_i C hH hlk hr hQ (nar_bz _) hAe () trivial rfl rfl dX9_isNear_8
theorem iw_X9_clear_X9 : ∀ w ∈ u_ws RX9 TX9 24, w ∈ wsX9_clear := (fun w h => List.mem_cons_of_mem _ (List.mem_append_right _ h))
abbrev rmX9_clear : Room := { frames := 0, cells := 0, slots := 0, locals := 0 }
set_option maxHeartbeats 4000000 in
set_option maxRecDepth 100000 in
/-- clear -/
theorem c_X9_clear (lL : Launch) (D : va_G) (k : Nat → ClassId) (sz : Nat) (a : Nat) (q : Nat → Nat) (th : Int) (un : Int) (mf : Int) (ty : Int) (fr : Int) (tt : Int) (tk : Int) (fa : Int) (hf : Bool) (ho : Bool) (km : Int)  : Met lL yX9_clear wsX9_clear rmX9_clear (gPc ZT D (tyk k) [.ref a] sz [mO a q th un mf ty fr tt tk fa (bz hf) (bz ho) km]) (gQi D (tyk k) [mO a q th un mf ty fr tt tk fa (bz hf) (bz ho) km] sz (fun (_ : Unit) => True) (fun (_ : Unit) => (iI ty)) (fun (_ : Unit) => [mO a q 0 un mf 0 fr tt tk fa (bz hf) (bz ho) km])) 0 0 (va_A [mO a q th un mf ty fr tt tk fa (bz hf) (bz ho) km] sz) := by
  refine xs_met (cc := cX9_clear) (maxL := 2) (ret := some .int) (by decide) rfl (Nat.le_of_ble_eq_true rfl) ?_
  intro pP eN sT mI below meth cD hsz args QQ C hr hlk hnm hQ ls H locs hl hH
  subst hsz
  have hl : lv_has ls 2 [(0, .ref a)] := hl
  generalize hAe : va_A [mO a q th un mf ty fr tt tk fa (bz hf) (bz ho) km] sT.heap.size = A at C hH hQ
  refine lv_aload_n C.1.1 C.1.2.1 dX9_clear_0 rfl (lv_at hl 0 rfl) ?_
  refine lv_iconst (v := iI 0) C.1.1 C.1.2.1 dX9_clear_1 (by decide) ?_
  refine xw_put (ws' := [mO a q 0 un mf ty fr tt tk fa (bz hf) (bz ho) km]) (v := .int (iI 0)) C hH 0 rfl rfl tyX9 tyX9_ok nmX9 0 (by decide) iw_X9_clear_X9 (by decide +kernel) rfl rfl rfl (Nat.le_of_ble_eq_true rfl) dX9_clear_2 rfl (fun H locs hH => ?_)
  refine lv_aload_n C.1.1 C.1.2.1 dX9_clear_5 rfl (lv_at hl 0 rfl) ?_
  refine xw_get C hH 0 rfl rfl 10 (by decide) iw_X9_clear_X9 (by decide +kernel) (v := .int (iI ty)) rfl dX9_clear_6 ?_
  refine lv_istore_n (lv' := [(1, .int (iI ty)), (0, .ref a)]) C.1.1 C.1.2.1 dX9_clear_9 rfl hl (by decide) rfl (fun ls hl => ?_)
  refine lv_aload_n C.1.1 C.1.2.1 dX9_clear_10 rfl (lv_at hl 1 rfl) ?_
  refine lv_iconst (v := iI 0) C.1.1 C.1.2.1 dX9_clear_11 (by decide) ?_
  refine xw_put (ws' := [mO a q 0 un mf 0 fr tt tk fa (bz hf) (bz ho) km]) (v := .int (iI 0)) C hH 0 rfl rfl tyX9 tyX9_ok nmX9 10 (by decide) iw_X9_clear_X9 (by decide +kernel) rfl rfl rfl (Nat.le_of_ble_eq_true rfl) dX9_clear_12 rfl (fun H locs hH => ?_)
  refine lv_iload_n C.1.1 C.1.2.1 dX9_clear_15 rfl (lv_at hl 0 rfl) ?_
  exact xr_i C hH hlk hr hQ rfl hAe () trivial rfl rfl dX9_clear_16
theorem iw_X9_wordOf_X9 : ∀ w ∈ u_ws RX9 TX9 24, w ∈ wsX9_wordOf := (fun w h => List.mem_cons_of_mem _ (List.mem_append_right _ h))
abbrev rmX9_wordOf : Room := { frames := 1, cells := 0, slots := 0, locals := 21 }
set_option maxHeartbeats 4000000 in
set_option maxRecDepth 100000 in
/-- wordOf -/
theorem c_X9_wordOf (lL : Launch) (D : va_G) (k : Nat → ClassId) (sz : Nat) (a : Nat) (q : Nat → Nat) (th : Int) (un : Int) (mf : Int) (ty : Int) (fr : Int) (tt : Int) (tk : Int) (fa : Int) (hf : Bool) (ho : Bool) (km : Int) (tx : Int → Int) (hty : 0 ≤ ty ∧ ty ≤ 120) (htx : ∀ j, 0 ≤ tx j ∧ tx j < 256) (hfr : 0 ≤ fr ∧ fr ≤ tt ∧ tt ≤ 120) : Met lL yX9_wordOf wsX9_wordOf rmX9_wordOf (gPc ZT D (tyk k) [.ref a] sz [mO a q th un mf ty fr tt tk fa (bz hf) (bz ho) km, (q 9, .inl (k 1, 120, .inl (by8 tx)))]) (gQi D (tyk k) [mO a q th un mf ty fr tt tk fa (bz hf) (bz ho) km, (q 9, .inl (k 1, 120, .inl (by8 tx)))] sz (fun (_ : Unit) => True) (fun (_ : Unit) => (iI (mWord tx ty fr tt))) (fun (_ : Unit) => [mO a q th un mf ty fr tt tk fa (bz hf) (bz ho) km, (q 9, .inl (k 1, 120, .inl (by8 tx)))])) 0 0 (va_A [mO a q th un mf ty fr tt tk fa (bz hf) (bz ho) km, (q 9, .inl (k 1, 120, .inl (by8 tx)))] sz) := by
  refine xs_met (cc := cX9_wordOf) (maxL := 6) (ret := some .int) (by decide) rfl (Nat.le_of_ble_eq_true rfl) ?_
  intro pP eN sT mI below meth cD hsz args QQ C hr hlk hnm hQ ls H locs hl hH
  subst hsz
  have hl : lv_has ls 6 [(0, .ref a)] := hl
  generalize hAe : va_A [mO a q th un mf ty fr tt tk fa (bz hf) (bz ho) km, (q 9, .inl (k 1, 120, .inl (by8 tx)))] sT.heap.size = A at C hH hQ
  have ra_0 := mAt_rg (ty := ty) htx fr
  have ra_1 := mAt_rg (ty := ty) htx (fr + 1)
  have ra_2 := mAt_rg (ty := ty) htx (fr + 2)
  have ra_3 := mAt_rg (ty := ty) htx (fr + 3)
  have ra_4 := mAt_rg (ty := ty) htx (fr + 4)
  have ra_5 := mAt_rg (ty := ty) htx (fr + 5)
  refine lv_aload_n C.1.1 C.1.2.1 dX9_wordOf_0 rfl (lv_at hl 0 rfl) ?_
  refine xw_get C hH 0 rfl rfl 12 (by decide) iw_X9_wordOf_X9 (by decide +kernel) (v := .int (iI tt)) rfl dX9_wordOf_1 ?_
  refine lv_aload_n C.1.1 C.1.2.1 dX9_wordOf_4 rfl (lv_at hl 0 rfl) ?_
  refine xw_get C hH 0 rfl rfl 11 (by decide) iw_X9_wordOf_X9 (by decide +kernel) (v := .int (iI fr)) rfl dX9_wordOf_5 ?_
  refine xi_sub C.1.1 C.1.2.1 dX9_wordOf_8 ?_
  refine lv_istore_n (lv' := [(1, .int (iI (tt - fr))), (0, .ref a)]) C.1.1 C.1.2.1 dX9_wordOf_9 rfl hl (by decide) rfl (fun ls hl => ?_)
  refine lv_aload_n C.1.1 C.1.2.1 dX9_wordOf_10 rfl (lv_at hl 1 rfl) ?_
  refine lv_aload_n C.1.1 C.1.2.1 dX9_wordOf_11 rfl (lv_at hl 1 rfl) ?_
  refine xw_get C hH 0 rfl rfl 11 (by decide) iw_X9_wordOf_X9 (by decide +kernel) (v := .int (iI fr)) rfl dX9_wordOf_12 ?_
  refine xc_Vi (wr := []) (ws' := fun _ => [mO a q th un mf ty fr tt tk fa (bz hf) (bz ho) km, (q 9, .inl (k 1, 120, .inl (by8 tx)))]) (As := [.int (iI fr)]) (rest := []) C hH (c_X9_at lL D k H.size a q th un mf ty fr tt tk fa hf ho km tx fr (by omega) (by omega) (htx)) ZT_b (fun _ _ _ => trivial) (cwV 1 C.1.2.2.2.2 gX9_wordOf_X9_at rfl rfl rfl (by decide +kernel) ⟨Nat.le_of_ble_eq_true rfl, Nat.le_of_ble_eq_true rfl⟩) [0, 1] [] [0, 1] rfl rfl (by decide) (by decide) (by decide) (fun _ => rfl) (by decide) (q0 := 0) rfl rfl rfl hl.1 rfl (Nat.le_of_ble_eq_true rfl) dX9_wordOf_15 ⟨Nat.le_of_ble_eq_true rfl, Nat.le_of_ble_eq_true rfl⟩ (fun _ _ H locs hH => ?_)
  refine lv_istore_n (lv' := [(2, .int (iI (mAt tx ty fr))), (1, .int (iI (tt - fr))), (0, .ref a)]) C.1.1 C.1.2.1 dX9_wordOf_18 rfl hl (by decide) rfl (fun ls hl => ?_)
  refine lv_aload_n C.1.1 C.1.2.1 dX9_wordOf_19 rfl (lv_at hl 2 rfl) ?_
  refine lv_aload_n C.1.1 C.1.2.1 dX9_wordOf_20 rfl (lv_at hl 2 rfl) ?_
  refine xw_get C hH 0 rfl rfl 11 (by decide) iw_X9_wordOf_X9 (by decide +kernel) (v := .int (iI fr)) rfl dX9_wordOf_21 ?_
  refine lv_iconst (v := iI 1) C.1.1 C.1.2.1 dX9_wordOf_24 (by decide) ?_
  refine xi_add C.1.1 C.1.2.1 dX9_wordOf_25 ?_
  refine xc_Vi (wr := []) (ws' := fun _ => [mO a q th un mf ty fr tt tk fa (bz hf) (bz ho) km, (q 9, .inl (k 1, 120, .inl (by8 tx)))]) (As := [.int (iI (fr + 1))]) (rest := []) C hH (c_X9_at lL D k H.size a q th un mf ty fr tt tk fa hf ho km tx (fr + 1) (by omega) (by omega) (htx)) ZT_b (fun _ _ _ => trivial) (cwV 1 C.1.2.2.2.2 gX9_wordOf_X9_at rfl rfl rfl (by decide +kernel) ⟨Nat.le_of_ble_eq_true rfl, Nat.le_of_ble_eq_true rfl⟩) [0, 1] [] [0, 1] rfl rfl (by decide) (by decide) (by decide) (fun _ => rfl) (by decide) (q0 := 0) rfl rfl rfl hl.1 rfl (Nat.le_of_ble_eq_true rfl) dX9_wordOf_26 ⟨Nat.le_of_ble_eq_true rfl, Nat.le_of_ble_eq_true rfl⟩ (fun _ _ H locs hH => ?_)
  refine lv_istore_n (lv' := [(3, .int (iI (mAt tx ty (fr + 1)))), (2, .int (iI (mAt tx ty fr))), (1, .int (iI (tt - fr))), (0, .ref a)]) C.1.1 C.1.2.1 dX9_wordOf_29 rfl hl (by decide) rfl (fun ls hl => ?_)
  refine lv_aload_n C.1.1 C.1.2.1 dX9_wordOf_30 rfl (lv_at hl 3 rfl) ?_
  refine lv_aload_n C.1.1 C.1.2.1 dX9_wordOf_31 rfl (lv_at hl 3 rfl) ?_
  refine xw_get C hH 0 rfl rfl 11 (by decide) iw_X9_wordOf_X9 (by decide +kernel) (v := .int (iI fr)) rfl dX9_wordOf_32 ?_
  refine lv_iconst (v := iI 2) C.1.1 C.1.2.1 dX9_wordOf_35 (by decide) ?_
  refine xi_add C.1.1 C.1.2.1 dX9_wordOf_36 ?_
  refine xc_Vi (wr := []) (ws' := fun _ => [mO a q th un mf ty fr tt tk fa (bz hf) (bz ho) km, (q 9, .inl (k 1, 120, .inl (by8 tx)))]) (As := [.int (iI (fr + 2))]) (rest := []) C hH (c_X9_at lL D k H.size a q th un mf ty fr tt tk fa hf ho km tx (fr + 2) (by omega) (by omega) (htx)) ZT_b (fun _ _ _ => trivial) (cwV 1 C.1.2.2.2.2 gX9_wordOf_X9_at rfl rfl rfl (by decide +kernel) ⟨Nat.le_of_ble_eq_true rfl, Nat.le_of_ble_eq_true rfl⟩) [0, 1] [] [0, 1] rfl rfl (by decide) (by decide) (by decide) (fun _ => rfl) (by decide) (q0 := 0) rfl rfl rfl hl.1 rfl (Nat.le_of_ble_eq_true rfl) dX9_wordOf_37 ⟨Nat.le_of_ble_eq_true rfl, Nat.le_of_ble_eq_true rfl⟩ (fun _ _ H locs hH => ?_)
  refine lv_istore (lv' := [(4, .int (iI (mAt tx ty (fr + 2)))), (3, .int (iI (mAt tx ty (fr + 1)))), (2, .int (iI (mAt tx ty fr))), (1, .int (iI (tt - fr))), (0, .ref a)]) C.1.1 C.1.2.1 dX9_wordOf_40 hl (by decide) rfl (fun ls hl => ?_)
  have L68 : (¬ (tt - fr = 3 ∧ mAt tx ty fr = 114 ∧ mAt tx ty (fr + 1) = 111 ∧ mAt tx ty (fr + 2) = 119)) → ∀ (H : Heap) (locs : List Loc) (ls : Array Slot), Hp D A sT.heap [mO a q th un mf ty fr tt tk fa (bz hf) (bz ho) km, (q 9, .inl (k 1, 120, .inl (by8 tx)))] H locs → lv_has ls 6 [(0, .ref a), (1, .int (iI (tt - fr))), (2, .int (iI (mAt tx ty fr))), (3, .int (iI (mAt tx ty (fr + 1)))), (4, .int (iI (mAt tx ty (fr + 2))))] → W pP lL eN rmX9_wordOf sT mI args below meth cD H locs 0 0 QQ (F0 mI 68 ls []) := by
    intro  hn1 H locs ls hH hl
    have L94 : (¬ (tt - fr = 3 ∧ mAt tx ty fr = 102 ∧ mAt tx ty (fr + 1) = 105 ∧ mAt tx ty (fr + 2) = 120)) → ∀ (H : Heap) (locs : List Loc) (ls : Array Slot), Hp D A sT.heap [mO a q th un mf ty fr tt tk fa (bz hf) (bz ho) km, (q 9, .inl (k 1, 120, .inl (by8 tx)))] H locs → lv_has ls 6 [(0, .ref a), (1, .int (iI (tt - fr))), (2, .int (iI (mAt tx ty fr))), (3, .int (iI (mAt tx ty (fr + 1)))), (4, .int (iI (mAt tx ty (fr + 2))))] → W pP lL eN rmX9_wordOf sT mI args below meth cD H locs 0 0 QQ (F0 mI 94 ls []) := by
      intro  hn2 H locs ls hH hl
      have L169 : ∀ (b : Bool), (b = decide (tt - fr = 6 ∧ mAt tx ty fr = 98 ∧ mAt tx ty (fr + 1) = 101 ∧ mAt tx ty (fr + 2) = 121 ∧ mAt tx ty (fr + 3) = 111 ∧ mAt tx ty (fr + 4) = 110 ∧ mAt tx ty (fr + 5) = 100)) → ∀ (H : Heap) (locs : List Loc) (ls : Array Slot), Hp D A sT.heap [mO a q th un mf ty fr tt tk fa (bz hf) (bz ho) km, (q 9, .inl (k 1, 120, .inl (by8 tx)))] H locs → lv_has ls 6 [(0, .ref a), (1, .int (iI (tt - fr))), (2, .int (iI (mAt tx ty fr))), (3, .int (iI (mAt tx ty (fr + 1)))), (4, .int (iI (mAt tx ty (fr + 2))))] → W pP lL eN rmX9_wordOf sT mI args below meth cD H locs 0 0 QQ (F0 mI 169 ls [.int (iI (bz b))]) := by
        intro b hb H locs ls hH hl
        refine lv_istore (lv' := [(5, .int (iI (bz b))), (0, .ref a), (1, .int (iI (tt - fr))), (2, .int (iI (mAt tx ty fr))), (3, .int (iI (mAt tx ty (fr + 1)))), (4, .int (iI (mAt tx ty (fr + 2))))]) C.1.1 C.1.2.1 dX9_wordOf_169 hl (by decide) rfl (fun ls hl => ?_)
        refine lv_iload C.1.1 C.1.2.1 dX9_wordOf_171 (lv_at hl 0 rfl) ?_
        refine xb_eq (tgt := 180) C.1.1 C.1.2.1 dX9_wordOf_173 (by decide) (fun h_1 => ?_) (fun h_1 => ?_)
        · refine lv_bipush (v := iI 6) C.1.1 C.1.2.1 dX9_wordOf_180 (by decide) ?_
          exact xr_i C hH hlk hr hQ rfl hAe () trivial (by unfold mWord; rw [if_neg hn1, if_neg hn2, if_neg (by rw [hb] at *; simp_all)]) rfl dX9_wordOf_182
        · refine lv_iconst (v := iI 3) C.1.1 C.1.2.1 dX9_wordOf_176 (by decide) ?_
          refine lv_goto (tgt := 182) C.1.1 C.1.2.1 dX9_wordOf_177 (by decide) ?_
          exact xr_i C hH hlk hr hQ rfl hAe () trivial (by unfold mWord; rw [if_neg hn1, if_neg hn2, if_pos (by rw [hb] at *; simp_all)]) rfl dX9_wordOf_182
      refine lv_iload_n C.1.1 C.1.2.1 dX9_wordOf_94 rfl (lv_at hl 1 rfl) ?_
      refine lv_bipush (v := iI 6) C.1.1 C.1.2.1 dX9_wordOf_95 (by decide) ?_
      refine xi_cne (tgt := 168) C.1.1 C.1.2.1 dX9_wordOf_97 (by decide) (by omega) (by omega) (fun h_2 => ?_) (fun h_2 => ?_)
      · refine lv_iconst (v := iI 0) C.1.1 C.1.2.1 dX9_wordOf_168 (by decide) ?_
        exact L169 false ((decide_eq_false (by first | omega | (simp_all; done) | (simp_all; omega))).symm) _ _ _ hH (lv_sub hl [0, 1, 2, 3, 4] rfl)
      · refine lv_iload_n C.1.1 C.1.2.1 dX9_wordOf_100 rfl (lv_at hl 2 rfl) ?_
        refine lv_bipush (v := iI 98) C.1.1 C.1.2.1 dX9_wordOf_101 (by decide) ?_
        refine xi_cne (tgt := 168) C.1.1 C.1.2.1 dX9_wordOf_103 (by decide) (by omega) (by omega) (fun h_3 => ?_) (fun h_3 => ?_)
        · refine lv_iconst (v := iI 0) C.1.1 C.1.2.1 dX9_wordOf_168 (by decide) ?_
          exact L169 false ((decide_eq_false (by first | omega | (simp_all; done) | (simp_all; omega))).symm) _ _ _ hH (lv_sub hl [0, 1, 2, 3, 4] rfl)
        · refine lv_iload_n C.1.1 C.1.2.1 dX9_wordOf_106 rfl (lv_at hl 3 rfl) ?_
          refine lv_bipush (v := iI 101) C.1.1 C.1.2.1 dX9_wordOf_107 (by decide) ?_
          refine xi_cne (tgt := 168) C.1.1 C.1.2.1 dX9_wordOf_109 (by decide) (by omega) (by omega) (fun h_4 => ?_) (fun h_4 => ?_)
          · refine lv_iconst (v := iI 0) C.1.1 C.1.2.1 dX9_wordOf_168 (by decide) ?_
            exact L169 false ((decide_eq_false (by first | omega | (simp_all; done) | (simp_all; omega))).symm) _ _ _ hH (lv_sub hl [0, 1, 2, 3, 4] rfl)
          · refine lv_iload C.1.1 C.1.2.1 dX9_wordOf_112 (lv_at hl 4 rfl) ?_
            refine lv_bipush (v := iI 121) C.1.1 C.1.2.1 dX9_wordOf_114 (by decide) ?_
            refine xi_cne (tgt := 168) C.1.1 C.1.2.1 dX9_wordOf_116 (by decide) (by omega) (by omega) (fun h_5 => ?_) (fun h_5 => ?_)
            · refine lv_iconst (v := iI 0) C.1.1 C.1.2.1 dX9_wordOf_168 (by decide) ?_
              exact L169 false ((decide_eq_false (by first | omega | (simp_all; done) | (simp_all; omega))).symm) _ _ _ hH (lv_sub hl [0, 1, 2, 3, 4] rfl)
            · refine lv_aload_n C.1.1 C.1.2.1 dX9_wordOf_119 rfl (lv_at hl 0 rfl) ?_
              refine lv_aload_n C.1.1 C.1.2.1 dX9_wordOf_120 rfl (lv_at hl 0 rfl) ?_
              refine xw_get C hH 0 rfl rfl 11 (by decide) iw_X9_wordOf_X9 (by decide +kernel) (v := .int (iI fr)) rfl dX9_wordOf_121 ?_
              refine lv_iconst (v := iI 3) C.1.1 C.1.2.1 dX9_wordOf_124 (by decide) ?_
              refine xi_add C.1.1 C.1.2.1 dX9_wordOf_125 ?_
              refine xc_Vi (wr := []) (ws' := fun _ => [mO a q th un mf ty fr tt tk fa (bz hf) (bz ho) km, (q 9, .inl (k 1, 120, .inl (by8 tx)))]) (As := [.int (iI (fr + 3))]) (rest := []) C hH (c_X9_at lL D k H.size a q th un mf ty fr tt tk fa hf ho km tx (fr + 3) (by omega) (by omega) (htx)) ZT_b (fun _ _ _ => trivial) (cwV 1 C.1.2.2.2.2 gX9_wordOf_X9_at rfl rfl rfl (by decide +kernel) ⟨Nat.le_of_ble_eq_true rfl, Nat.le_of_ble_eq_true rfl⟩) [0, 1] [] [0, 1] rfl rfl (by decide) (by decide) (by decide) (fun _ => rfl) (by decide) (q0 := 0) rfl rfl rfl hl.1 rfl (Nat.le_of_ble_eq_true rfl) dX9_wordOf_126 ⟨Nat.le_of_ble_eq_true rfl, Nat.le_of_ble_eq_true rfl⟩ (fun _ _ H locs hH => ?_)
              refine lv_bipush (v := iI 111) C.1.1 C.1.2.1 dX9_wordOf_129 (by decide) ?_
              refine xi_cne (tgt := 168) C.1.1 C.1.2.1 dX9_wordOf_131 (by decide) (by omega) (by omega) (fun h_6 => ?_) (fun h_6 => ?_)
              · refine lv_iconst (v := iI 0) C.1.1 C.1.2.1 dX9_wordOf_168 (by decide) ?_
                exact L169 false ((decide_eq_false (by first | omega | (simp_all; done) | (simp_all; omega))).symm) _ _ _ hH (lv_sub hl [0, 1, 2, 3, 4] rfl)
              · refine lv_aload_n C.1.1 C.1.2.1 dX9_wordOf_134 rfl (lv_at hl 0 rfl) ?_
                refine lv_aload_n C.1.1 C.1.2.1 dX9_wordOf_135 rfl (lv_at hl 0 rfl) ?_
                refine xw_get C hH 0 rfl rfl 11 (by decide) iw_X9_wordOf_X9 (by decide +kernel) (v := .int (iI fr)) rfl dX9_wordOf_136 ?_
                refine lv_iconst (v := iI 4) C.1.1 C.1.2.1 dX9_wordOf_139 (by decide) ?_
                refine xi_add C.1.1 C.1.2.1 dX9_wordOf_140 ?_
                refine xc_Vi (wr := []) (ws' := fun _ => [mO a q th un mf ty fr tt tk fa (bz hf) (bz ho) km, (q 9, .inl (k 1, 120, .inl (by8 tx)))]) (As := [.int (iI (fr + 4))]) (rest := []) C hH (c_X9_at lL D k H.size a q th un mf ty fr tt tk fa hf ho km tx (fr + 4) (by omega) (by omega) (htx)) ZT_b (fun _ _ _ => trivial) (cwV 1 C.1.2.2.2.2 gX9_wordOf_X9_at rfl rfl rfl (by decide +kernel) ⟨Nat.le_of_ble_eq_true rfl, Nat.le_of_ble_eq_true rfl⟩) [0, 1] [] [0, 1] rfl rfl (by decide) (by decide) (by decide) (fun _ => rfl) (by decide) (q0 := 0) rfl rfl rfl hl.1 rfl (Nat.le_of_ble_eq_true rfl) dX9_wordOf_141 ⟨Nat.le_of_ble_eq_true rfl, Nat.le_of_ble_eq_true rfl⟩ (fun _ _ H locs hH => ?_)
                refine lv_bipush (v := iI 110) C.1.1 C.1.2.1 dX9_wordOf_144 (by decide) ?_
                refine xi_cne (tgt := 168) C.1.1 C.1.2.1 dX9_wordOf_146 (by decide) (by omega) (by omega) (fun h_7 => ?_) (fun h_7 => ?_)
                · refine lv_iconst (v := iI 0) C.1.1 C.1.2.1 dX9_wordOf_168 (by decide) ?_
                  exact L169 false ((decide_eq_false (by first | omega | (simp_all; done) | (simp_all; omega))).symm) _ _ _ hH (lv_sub hl [0, 1, 2, 3, 4] rfl)
                · refine lv_aload_n C.1.1 C.1.2.1 dX9_wordOf_149 rfl (lv_at hl 0 rfl) ?_
                  refine lv_aload_n C.1.1 C.1.2.1 dX9_wordOf_150 rfl (lv_at hl 0 rfl) ?_
                  refine xw_get C hH 0 rfl rfl 11 (by decide) iw_X9_wordOf_X9 (by decide +kernel) (v := .int (iI fr)) rfl dX9_wordOf_151 ?_
                  refine lv_iconst (v := iI 5) C.1.1 C.1.2.1 dX9_wordOf_154 (by decide) ?_
                  refine xi_add C.1.1 C.1.2.1 dX9_wordOf_155 ?_
                  refine xc_Vi (wr := []) (ws' := fun _ => [mO a q th un mf ty fr tt tk fa (bz hf) (bz ho) km, (q 9, .inl (k 1, 120, .inl (by8 tx)))]) (As := [.int (iI (fr + 5))]) (rest := []) C hH (c_X9_at lL D k H.size a q th un mf ty fr tt tk fa hf ho km tx (fr + 5) (by omega) (by omega) (htx)) ZT_b (fun _ _ _ => trivial) (cwV 1 C.1.2.2.2.2 gX9_wordOf_X9_at rfl rfl rfl (by decide +kernel) ⟨Nat.le_of_ble_eq_true rfl, Nat.le_of_ble_eq_true rfl⟩) [0, 1] [] [0, 1] rfl rfl (by decide) (by decide) (by decide) (fun _ => rfl) (by decide) (q0 := 0) rfl rfl rfl hl.1 rfl (Nat.le_of_ble_eq_true rfl) dX9_wordOf_156 ⟨Nat.le_of_ble_eq_true rfl, Nat.le_of_ble_eq_true rfl⟩ (fun _ _ H locs hH => ?_)
                  refine lv_bipush (v := iI 100) C.1.1 C.1.2.1 dX9_wordOf_159 (by decide) ?_
                  refine xi_cne (tgt := 168) C.1.1 C.1.2.1 dX9_wordOf_161 (by decide) (by omega) (by omega) (fun h_8 => ?_) (fun h_8 => ?_)
                  · refine lv_iconst (v := iI 0) C.1.1 C.1.2.1 dX9_wordOf_168 (by decide) ?_
                    exact L169 false ((decide_eq_false (by first | omega | (simp_all; done) | (simp_all; omega))).symm) _ _ _ hH (lv_sub hl [0, 1, 2, 3, 4] rfl)
                  · refine lv_iconst (v := iI 1) C.1.1 C.1.2.1 dX9_wordOf_164 (by decide) ?_
                    refine lv_goto (tgt := 169) C.1.1 C.1.2.1 dX9_wordOf_165 (by decide) ?_
                    exact L169 true ((decide_eq_true (by first | omega | (simp_all; done) | (simp_all; omega))).symm) _ _ _ hH (lv_sub hl [0, 1, 2, 3, 4] rfl)
    refine lv_iload_n C.1.1 C.1.2.1 dX9_wordOf_68 rfl (lv_at hl 1 rfl) ?_
    refine lv_iconst (v := iI 3) C.1.1 C.1.2.1 dX9_wordOf_69 (by decide) ?_
    refine xi_cne (tgt := 94) C.1.1 C.1.2.1 dX9_wordOf_70 (by decide) (by omega) (by omega) (fun h_9 => ?_) (fun h_9 => ?_)
    · exact L94  (by omega) _ _ _ hH (lv_sub hl [0, 1, 2, 3, 4] rfl)
    · refine lv_iload_n C.1.1 C.1.2.1 dX9_wordOf_73 rfl (lv_at hl 2 rfl) ?_
      refine lv_bipush (v := iI 102) C.1.1 C.1.2.1 dX9_wordOf_74 (by decide) ?_
      refine xi_cne (tgt := 94) C.1.1 C.1.2.1 dX9_wordOf_76 (by decide) (by omega) (by omega) (fun h_10 => ?_) (fun h_10 => ?_)
      · exact L94  (by omega) _ _ _ hH (lv_sub hl [0, 1, 2, 3, 4] rfl)
      · refine lv_iload_n C.1.1 C.1.2.1 dX9_wordOf_79 rfl (lv_at hl 3 rfl) ?_
        refine lv_bipush (v := iI 105) C.1.1 C.1.2.1 dX9_wordOf_80 (by decide) ?_
        refine xi_cne (tgt := 94) C.1.1 C.1.2.1 dX9_wordOf_82 (by decide) (by omega) (by omega) (fun h_11 => ?_) (fun h_11 => ?_)
        · exact L94  (by omega) _ _ _ hH (lv_sub hl [0, 1, 2, 3, 4] rfl)
        · refine lv_iload C.1.1 C.1.2.1 dX9_wordOf_85 (lv_at hl 4 rfl) ?_
          refine lv_bipush (v := iI 120) C.1.1 C.1.2.1 dX9_wordOf_87 (by decide) ?_
          refine xi_cne (tgt := 94) C.1.1 C.1.2.1 dX9_wordOf_89 (by decide) (by omega) (by omega) (fun h_12 => ?_) (fun h_12 => ?_)
          · exact L94  (by omega) _ _ _ hH (lv_sub hl [0, 1, 2, 3, 4] rfl)
          · refine lv_iconst (v := iI 2) C.1.1 C.1.2.1 dX9_wordOf_92 (by decide) ?_
            exact xr_i C hH hlk hr hQ rfl hAe () trivial (by unfold mWord; rw [if_neg hn1, if_pos (by omega)]) rfl dX9_wordOf_93
  refine lv_iload_n C.1.1 C.1.2.1 dX9_wordOf_42 rfl (lv_at hl 3 rfl) ?_
  refine lv_iconst (v := iI 3) C.1.1 C.1.2.1 dX9_wordOf_43 (by decide) ?_
  refine xi_cne (tgt := 68) C.1.1 C.1.2.1 dX9_wordOf_44 (by decide) (by omega) (by omega) (fun h_13 => ?_) (fun h_13 => ?_)
  · exact L68  (by omega) _ _ _ hH (lv_sub hl [4, 3, 2, 1, 0] rfl)
  · refine lv_iload_n C.1.1 C.1.2.1 dX9_wordOf_47 rfl (lv_at hl 2 rfl) ?_
    refine lv_bipush (v := iI 114) C.1.1 C.1.2.1 dX9_wordOf_48 (by decide) ?_
    refine xi_cne (tgt := 68) C.1.1 C.1.2.1 dX9_wordOf_50 (by decide) (by omega) (by omega) (fun h_14 => ?_) (fun h_14 => ?_)
    · exact L68  (by omega) _ _ _ hH (lv_sub hl [4, 3, 2, 1, 0] rfl)
    · refine lv_iload_n C.1.1 C.1.2.1 dX9_wordOf_53 rfl (lv_at hl 1 rfl) ?_
      refine lv_bipush (v := iI 111) C.1.1 C.1.2.1 dX9_wordOf_54 (by decide) ?_
      refine xi_cne (tgt := 68) C.1.1 C.1.2.1 dX9_wordOf_56 (by decide) (by omega) (by omega) (fun h_15 => ?_) (fun h_15 => ?_)
      · exact L68  (by omega) _ _ _ hH (lv_sub hl [4, 3, 2, 1, 0] rfl)
      · refine lv_iload C.1.1 C.1.2.1 dX9_wordOf_59 (lv_at hl 0 rfl) ?_
        refine lv_bipush (v := iI 119) C.1.1 C.1.2.1 dX9_wordOf_61 (by decide) ?_
        refine xi_cne (tgt := 68) C.1.1 C.1.2.1 dX9_wordOf_63 (by decide) (by omega) (by omega) (fun h_16 => ?_) (fun h_16 => ?_)
        · exact L68  (by omega) _ _ _ hH (lv_sub hl [4, 3, 2, 1, 0] rfl)
        · refine lv_iconst (v := iI 1) C.1.1 C.1.2.1 dX9_wordOf_66 (by decide) ?_
          exact xr_i C hH hlk hr hQ rfl hAe () trivial (by unfold mWord; rw [if_pos (by omega)]) rfl dX9_wordOf_67
theorem iw_X9_steps_X9 : ∀ w ∈ u_ws RX9 TX9 24, w ∈ wsX9_steps := (fun w h => List.mem_cons_of_mem _ (List.mem_append_right _ h))
abbrev rmX9_steps : Room := { frames := 2, cells := 0, slots := 0, locals := 46 }
set_option maxHeartbeats 4000000 in
set_option maxRecDepth 100000 in
/-- steps -/
theorem c_X9_steps (lL : Launch) (D : va_G) (k : Nat → ClassId) (sz : Nat) (a : Nat) (q : Nat → Nat) (th : Int) (un : Int) (mf : Int) (ty : Int) (fr : Int) (tt : Int) (tk : Int) (fa : Int) (hf : Bool) (ho : Bool) (km : Int) (tx : Int → Int) (hty : 0 ≤ ty ∧ ty ≤ 120) (htx : ∀ j, 0 ≤ tx j ∧ tx j < 256) (htt : 0 ≤ tt ∧ tt ≤ ty) : Met lL yX9_steps wsX9_steps rmX9_steps (gPc ZT D (tyk k) [.ref a] sz [mO a q th un mf ty fr tt tk fa (bz hf) (bz ho) km, (q 9, .inl (k 1, 120, .inl (by8 tx)))]) (gQv D (tyk k) [mO a q th un mf ty fr tt tk fa (bz hf) (bz ho) km, (q 9, .inl (k 1, 120, .inl (by8 tx)))] sz (fun (_ : Unit) => True) (fun (_ : Unit) => [mO a q th un mf ty (mSkip tx ty tt) (mTo tx ty (mSkip tx ty tt)) (mTk tx ty (mSkip tx ty tt)) fa (bz hf) (bz ho) km, (q 9, .inl (k 1, 120, .inl (by8 tx)))])) 0 0 (va_A [mO a q th un mf ty fr tt tk fa (bz hf) (bz ho) km, (q 9, .inl (k 1, 120, .inl (by8 tx)))] sz) := by
  refine xs_met (cc := cX9_steps) (maxL := 1) (ret := none) (by decide) rfl (Nat.le_of_ble_eq_true rfl) ?_
  intro pP eN sT mI below meth cD hsz args QQ C hr hlk hnm hQ ls H locs hl hH
  subst hsz
  have hl : lv_has ls 1 [(0, .ref a)] := hl
  generalize hAe : va_A [mO a q th un mf ty fr tt tk fa (bz hf) (bz ho) km, (q 9, .inl (k 1, 120, .inl (by8 tx)))] sT.heap.size = A at C hH hQ
  obtain ⟨f, ef⟩ : ∃ f, f = mSkip tx ty tt := ⟨_, rfl⟩
  have rf := mSkip_rg (ty := ty) (tx := tx) (p := tt) htt.2
  rw [← ef] at rf
  have raf := mAt_rg (ty := ty) htx f
  rw [← ef] at hQ
  refine lv_aload_n C.1.1 C.1.2.1 dX9_steps_0 rfl (lv_at hl 0 rfl) ?_
  refine lv_aload_n C.1.1 C.1.2.1 dX9_steps_1 rfl (lv_at hl 0 rfl) ?_
  refine xw_get C hH 0 rfl rfl 12 (by decide) iw_X9_steps_X9 (by decide +kernel) (v := .int (iI tt)) rfl dX9_steps_2 ?_
  refine xw_put (ws' := [mO a q th un mf ty tt tt tk fa (bz hf) (bz ho) km, (q 9, .inl (k 1, 120, .inl (by8 tx)))]) (v := .int (iI tt)) C hH 0 rfl rfl tyX9 tyX9_ok nmX9 11 (by decide) iw_X9_steps_X9 (by decide +kernel) rfl rfl rfl (Nat.le_of_ble_eq_true rfl) dX9_steps_5 rfl (fun H locs hH => ?_)
  have L8 : ∀ (nn : Nat), ∀ (fq : Int), (mSkip tx ty fq = f) → (0 ≤ fq ∧ fq ≤ ty) → (ty - fq < (nn : Int)) → ∀ (H : Heap) (locs : List Loc) (ls : Array Slot), Hp D A sT.heap [mO a q th un mf ty fq tt tk fa (bz hf) (bz ho) km, (q 9, .inl (k 1, 120, .inl (by8 tx)))] H locs → lv_has ls 1 [(0, .ref a)] → W pP lL eN rmX9_steps sT mI args below meth cD H locs 0 0 QQ (F0 mI 8 ls []) := by
    intro nn
    induction nn with
    | zero => intro fq i1 i2 hm; exact absurd hm (by omega)
    | succ nn ih8 =>
      intro fq i1 i2 hm8 H locs ls hH hl
      have rq := mAt_rg (ty := ty) htx fq
      have rq2 := mAt_lt (ty := ty) (tx := tx) (x := fq)
      refine lv_aload_n C.1.1 C.1.2.1 dX9_steps_8 rfl (lv_at hl 0 rfl) ?_
      refine lv_aload_n C.1.1 C.1.2.1 dX9_steps_9 rfl (lv_at hl 0 rfl) ?_
      refine xw_get C hH 0 rfl rfl 11 (by decide) iw_X9_steps_X9 (by decide +kernel) (v := .int (iI fq)) rfl dX9_steps_10 ?_
      refine xc_Vi (wr := []) (ws' := fun _ => [mO a q th un mf ty fq tt tk fa (bz hf) (bz ho) km, (q 9, .inl (k 1, 120, .inl (by8 tx)))]) (As := [.int (iI fq)]) (rest := []) C hH (c_X9_at lL D k H.size a q th un mf ty fq tt tk fa hf ho km tx fq (by omega) (by omega) (htx)) ZT_b (fun _ _ _ => trivial) (cwV 1 C.1.2.2.2.2 gX9_steps_X9_at rfl rfl rfl (by decide +kernel) ⟨Nat.le_of_ble_eq_true rfl, Nat.le_of_ble_eq_true rfl⟩) [0, 1] [] [0, 1] rfl rfl (by decide) (by decide) (by decide) (fun _ => rfl) (by decide) (q0 := 0) rfl rfl rfl hl.1 rfl (Nat.le_of_ble_eq_true rfl) dX9_steps_13 ⟨Nat.le_of_ble_eq_true rfl, Nat.le_of_ble_eq_true rfl⟩ (fun _ _ H locs hH => ?_)
      refine lv_bipush (v := iI 32) C.1.1 C.1.2.1 dX9_steps_16 (by decide) ?_
      refine xi_cne (tgt := 34) C.1.1 C.1.2.1 dX9_steps_18 (by decide) (by omega) (by omega) (fun h_1 => ?_) (fun h_1 => ?_)
      · have ef2 : f = fq := by rw [← i1, mSkip_eq (p := fq), if_neg (by omega)]
        subst ef2
        refine lv_aload_n C.1.1 C.1.2.1 dX9_steps_34 rfl (lv_at hl 0 rfl) ?_
        refine lv_aload_n C.1.1 C.1.2.1 dX9_steps_35 rfl (lv_at hl 0 rfl) ?_
        refine xw_get C hH 0 rfl rfl 11 (by decide) iw_X9_steps_X9 (by decide +kernel) (v := .int (iI f)) rfl dX9_steps_36 ?_
        refine xw_put (ws' := [mO a q th un mf ty f f tk fa (bz hf) (bz ho) km, (q 9, .inl (k 1, 120, .inl (by8 tx)))]) (v := .int (iI f)) C hH 0 rfl rfl tyX9 tyX9_ok nmX9 12 (by decide) iw_X9_steps_X9 (by decide +kernel) rfl rfl rfl (Nat.le_of_ble_eq_true rfl) dX9_steps_39 rfl (fun H locs hH => ?_)
        refine lv_aload_n C.1.1 C.1.2.1 dX9_steps_42 rfl (lv_at hl 0 rfl) ?_
        refine lv_aload_n C.1.1 C.1.2.1 dX9_steps_43 rfl (lv_at hl 0 rfl) ?_
        refine xw_get C hH 0 rfl rfl 12 (by decide) iw_X9_steps_X9 (by decide +kernel) (v := .int (iI f)) rfl dX9_steps_44 ?_
        refine xc_Vi (wr := []) (ws' := fun _ => [mO a q th un mf ty f f tk fa (bz hf) (bz ho) km, (q 9, .inl (k 1, 120, .inl (by8 tx)))]) (As := [.int (iI f)]) (rest := []) C hH (c_X9_at lL D k H.size a q th un mf ty f f tk fa hf ho km tx f (by omega) (by omega) (htx)) ZT_b (fun _ _ _ => trivial) (cwV 1 C.1.2.2.2.2 gX9_steps_X9_at rfl rfl rfl (by decide +kernel) ⟨Nat.le_of_ble_eq_true rfl, Nat.le_of_ble_eq_true rfl⟩) [0, 1] [] [0, 1] rfl rfl (by decide) (by decide) (by decide) (fun _ => rfl) (by decide) (q0 := 0) rfl rfl rfl hl.1 rfl (Nat.le_of_ble_eq_true rfl) dX9_steps_47 ⟨Nat.le_of_ble_eq_true rfl, Nat.le_of_ble_eq_true rfl⟩ (fun _ _ H locs hH => ?_)
        refine xi_zge (tgt := 61) C.1.1 C.1.2.1 dX9_steps_50 (by decide) (by omega) (fun h_2 => ?_) (fun h_2 => ?_)
        · refine lv_aload_n C.1.1 C.1.2.1 dX9_steps_61 rfl (lv_at hl 0 rfl) ?_
          refine lv_aload_n C.1.1 C.1.2.1 dX9_steps_62 rfl (lv_at hl 0 rfl) ?_
          refine xw_get C hH 0 rfl rfl 12 (by decide) iw_X9_steps_X9 (by decide +kernel) (v := .int (iI f)) rfl dX9_steps_63 ?_
          refine xc_Vi (wr := []) (ws' := fun _ => [mO a q th un mf ty f f tk fa (bz hf) (bz ho) km, (q 9, .inl (k 1, 120, .inl (by8 tx)))]) (As := [.int (iI f)]) (rest := []) C hH (c_X9_at lL D k H.size a q th un mf ty f f tk fa hf ho km tx f (by omega) (by omega) (htx)) ZT_b (fun _ _ _ => trivial) (cwV 1 C.1.2.2.2.2 gX9_steps_X9_at rfl rfl rfl (by decide +kernel) ⟨Nat.le_of_ble_eq_true rfl, Nat.le_of_ble_eq_true rfl⟩) [0, 1] [] [0, 1] rfl rfl (by decide) (by decide) (by decide) (fun _ => rfl) (by decide) (q0 := 0) rfl rfl rfl hl.1 rfl (Nat.le_of_ble_eq_true rfl) dX9_steps_66 ⟨Nat.le_of_ble_eq_true rfl, Nat.le_of_ble_eq_true rfl⟩ (fun _ _ H locs hH => ?_)
          refine lv_bipush (v := iI 48) C.1.1 C.1.2.1 dX9_steps_69 (by decide) ?_
          refine lv_bipush (v := iI 57) C.1.1 C.1.2.1 dX9_steps_71 (by decide) ?_
          refine xc_Si (wr := [mO a q th un mf ty f f tk fa (bz hf) (bz ho) km, (q 9, .inl (k 1, 120, .inl (by8 tx)))]) (ws' := fun _ => [mO a q th un mf ty f f tk fa (bz hf) (bz ho) km, (q 9, .inl (k 1, 120, .inl (by8 tx)))]) (As := [.int (iI (mAt tx ty f)), .int (iI 48), .int (iI 57)]) (rest := []) C hH (c_X9_in lL D k H.size (mAt tx ty f) 48 57 (by omega) (by omega) (by omega)) ZT_b (fun _ _ _ => trivial) (va_cwS 3 C.1.2.2.2.2 gX9_steps_X9_in rfl rfl rfl (by decide +kernel) ⟨Nat.le_of_ble_eq_true rfl, Nat.le_of_ble_eq_true rfl⟩) [] [0, 1] [0, 1] rfl rfl (by decide) (by decide) (by decide) (fun _ => rfl) (by decide) rfl hl.1 rfl (Nat.le_of_ble_eq_true rfl) dX9_steps_73 ⟨Nat.le_of_ble_eq_true rfl, Nat.le_of_ble_eq_true rfl⟩ (fun _ _ H locs hH => ?_)
          refine xp_eq (tgt := 118) C.1.1 C.1.2.1 dX9_steps_76 (by decide) (fun h_3 => ?_) (fun h_3 => ?_)
          · refine lv_aload_n C.1.1 C.1.2.1 dX9_steps_118 rfl (lv_at hl 0 rfl) ?_
            refine lv_aload_n C.1.1 C.1.2.1 dX9_steps_119 rfl (lv_at hl 0 rfl) ?_
            refine xw_get C hH 0 rfl rfl 12 (by decide) iw_X9_steps_X9 (by decide +kernel) (v := .int (iI f)) rfl dX9_steps_120 ?_
            refine xc_Vi (wr := []) (ws' := fun _ => [mO a q th un mf ty f f tk fa (bz hf) (bz ho) km, (q 9, .inl (k 1, 120, .inl (by8 tx)))]) (As := [.int (iI f)]) (rest := []) C hH (c_X9_at lL D k H.size a q th un mf ty f f tk fa hf ho km tx f (by omega) (by omega) (htx)) ZT_b (fun _ _ _ => trivial) (cwV 1 C.1.2.2.2.2 gX9_steps_X9_at rfl rfl rfl (by decide +kernel) ⟨Nat.le_of_ble_eq_true rfl, Nat.le_of_ble_eq_true rfl⟩) [0, 1] [] [0, 1] rfl rfl (by decide) (by decide) (by decide) (fun _ => rfl) (by decide) (q0 := 0) rfl rfl rfl hl.1 rfl (Nat.le_of_ble_eq_true rfl) dX9_steps_123 ⟨Nat.le_of_ble_eq_true rfl, Nat.le_of_ble_eq_true rfl⟩ (fun _ _ H locs hH => ?_)
            refine lv_bipush (v := iI 97) C.1.1 C.1.2.1 dX9_steps_126 (by decide) ?_
            refine lv_bipush (v := iI 122) C.1.1 C.1.2.1 dX9_steps_128 (by decide) ?_
            refine xc_Si (wr := [mO a q th un mf ty f f tk fa (bz hf) (bz ho) km, (q 9, .inl (k 1, 120, .inl (by8 tx)))]) (ws' := fun _ => [mO a q th un mf ty f f tk fa (bz hf) (bz ho) km, (q 9, .inl (k 1, 120, .inl (by8 tx)))]) (As := [.int (iI (mAt tx ty f)), .int (iI 97), .int (iI 122)]) (rest := []) C hH (c_X9_in lL D k H.size (mAt tx ty f) 97 122 (by omega) (by omega) (by omega)) ZT_b (fun _ _ _ => trivial) (va_cwS 3 C.1.2.2.2.2 gX9_steps_X9_in rfl rfl rfl (by decide +kernel) ⟨Nat.le_of_ble_eq_true rfl, Nat.le_of_ble_eq_true rfl⟩) [] [0, 1] [0, 1] rfl rfl (by decide) (by decide) (by decide) (fun _ => rfl) (by decide) rfl hl.1 rfl (Nat.le_of_ble_eq_true rfl) dX9_steps_130 ⟨Nat.le_of_ble_eq_true rfl, Nat.le_of_ble_eq_true rfl⟩ (fun _ _ H locs hH => ?_)
            refine xp_eq (tgt := 178) C.1.1 C.1.2.1 dX9_steps_133 (by decide) (fun h_4 => ?_) (fun h_4 => ?_)
            · have rq9 := mAt_lt (ty := ty) (tx := tx) (x := f)
              refine lv_aload_n C.1.1 C.1.2.1 dX9_steps_178 rfl (lv_at hl 0 rfl) ?_
              refine lv_aload_n C.1.1 C.1.2.1 dX9_steps_179 rfl (lv_at hl 0 rfl) ?_
              refine lv_aload_n C.1.1 C.1.2.1 dX9_steps_180 rfl (lv_at hl 0 rfl) ?_
              refine xw_get C hH 0 rfl rfl 12 (by decide) iw_X9_steps_X9 (by decide +kernel) (v := .int (iI f)) rfl dX9_steps_181 ?_
              refine xc_Vi (wr := []) (ws' := fun _ => [mO a q th un mf ty f f tk fa (bz hf) (bz ho) km, (q 9, .inl (k 1, 120, .inl (by8 tx)))]) (As := [.int (iI f)]) (rest := [.ref a]) C hH (c_X9_at lL D k H.size a q th un mf ty f f tk fa hf ho km tx f (by omega) (by omega) (htx)) ZT_b (fun _ _ _ => trivial) (cwV 1 C.1.2.2.2.2 gX9_steps_X9_at rfl rfl rfl (by decide +kernel) ⟨Nat.le_of_ble_eq_true rfl, Nat.le_of_ble_eq_true rfl⟩) [0, 1] [] [0, 1] rfl rfl (by decide) (by decide) (by decide) (fun _ => rfl) (by decide) (q0 := 0) rfl rfl rfl hl.1 rfl (Nat.le_of_ble_eq_true rfl) dX9_steps_184 ⟨Nat.le_of_ble_eq_true rfl, Nat.le_of_ble_eq_true rfl⟩ (fun _ _ H locs hH => ?_)
              refine lv_bipush (v := iI 59) C.1.1 C.1.2.1 dX9_steps_187 (by decide) ?_
              refine xi_cne (tgt := 196) C.1.1 C.1.2.1 dX9_steps_189 (by decide) (by omega) (by omega) (fun h_5 => ?_) (fun h_5 => ?_)
              · refine lv_bipush (v := iI 6) C.1.1 C.1.2.1 dX9_steps_196 (by decide) ?_
                refine xw_put (ws' := [mO a q th un mf ty f f 6 fa (bz hf) (bz ho) km, (q 9, .inl (k 1, 120, .inl (by8 tx)))]) (v := .int (iI 6)) C hH 0 rfl rfl tyX9 tyX9_ok nmX9 13 (by decide) iw_X9_steps_X9 (by decide +kernel) rfl rfl rfl (Nat.le_of_ble_eq_true rfl) dX9_steps_198 rfl (fun H locs hH => ?_)
                refine lv_aload_n C.1.1 C.1.2.1 dX9_steps_201 rfl (lv_at hl 0 rfl) ?_
                refine lv_dup C.1.1 C.1.2.1 dX9_steps_202 rfl ?_
                refine xw_get C hH 0 rfl rfl 12 (by decide) iw_X9_steps_X9 (by decide +kernel) (v := .int (iI f)) rfl dX9_steps_203 ?_
                refine lv_iconst (v := iI 1) C.1.1 C.1.2.1 dX9_steps_206 (by decide) ?_
                refine xi_add C.1.1 C.1.2.1 dX9_steps_207 ?_
                refine xw_put (ws' := [mO a q th un mf ty f (f + 1) 6 fa (bz hf) (bz ho) km, (q 9, .inl (k 1, 120, .inl (by8 tx)))]) (v := .int (iI (f + 1))) C hH 0 rfl rfl tyX9 tyX9_ok nmX9 12 (by decide) iw_X9_steps_X9 (by decide +kernel) rfl rfl rfl (Nat.le_of_ble_eq_true rfl) dX9_steps_208 rfl (fun H locs hH => ?_)
                exact xr_v C hH hlk hr hQ hAe () trivial (by simp (disch := omega) only [mTo, mTk, if_pos, if_neg] <;> simp_all) dX9_steps_211
              · refine lv_iconst (v := iI 5) C.1.1 C.1.2.1 dX9_steps_192 (by decide) ?_
                refine lv_goto (tgt := 198) C.1.1 C.1.2.1 dX9_steps_193 (by decide) ?_
                refine xw_put (ws' := [mO a q th un mf ty f f 5 fa (bz hf) (bz ho) km, (q 9, .inl (k 1, 120, .inl (by8 tx)))]) (v := .int (iI 5)) C hH 0 rfl rfl tyX9 tyX9_ok nmX9 13 (by decide) iw_X9_steps_X9 (by decide +kernel) rfl rfl rfl (Nat.le_of_ble_eq_true rfl) dX9_steps_198 rfl (fun H locs hH => ?_)
                refine lv_aload_n C.1.1 C.1.2.1 dX9_steps_201 rfl (lv_at hl 0 rfl) ?_
                refine lv_dup C.1.1 C.1.2.1 dX9_steps_202 rfl ?_
                refine xw_get C hH 0 rfl rfl 12 (by decide) iw_X9_steps_X9 (by decide +kernel) (v := .int (iI f)) rfl dX9_steps_203 ?_
                refine lv_iconst (v := iI 1) C.1.1 C.1.2.1 dX9_steps_206 (by decide) ?_
                refine xi_add C.1.1 C.1.2.1 dX9_steps_207 ?_
                refine xw_put (ws' := [mO a q th un mf ty f (f + 1) 5 fa (bz hf) (bz ho) km, (q 9, .inl (k 1, 120, .inl (by8 tx)))]) (v := .int (iI (f + 1))) C hH 0 rfl rfl tyX9 tyX9_ok nmX9 12 (by decide) iw_X9_steps_X9 (by decide +kernel) rfl rfl rfl (Nat.le_of_ble_eq_true rfl) dX9_steps_208 rfl (fun H locs hH => ?_)
                exact xr_v C hH hlk hr hQ hAe () trivial (by simp (disch := omega) only [mTo, mTk, if_pos, if_neg] <;> simp_all) dX9_steps_211
            · have L136 : ∀ (nn : Nat), ∀ (tq : Int), (mRun tx ty 97 122 tq = mRun tx ty 97 122 f) → (0 ≤ tq ∧ f ≤ tq ∧ tq ≤ ty) → (ty - tq < (nn : Int)) → ∀ (H : Heap) (locs : List Loc) (ls : Array Slot), Hp D A sT.heap [mO a q th un mf ty f tq tk fa (bz hf) (bz ho) km, (q 9, .inl (k 1, 120, .inl (by8 tx)))] H locs → lv_has ls 1 [(0, .ref a)] → W pP lL eN rmX9_steps sT mI args below meth cD H locs 0 0 QQ (F0 mI 136 ls []) := by
                intro nn
                induction nn with
                | zero => intro tq i3 i4 hm; exact absurd hm (by omega)
                | succ nn ih136 =>
                  intro tq i3 i4 hm136 H locs ls hH hl
                  have rq := mAt_rg (ty := ty) htx tq
                  have rq2 := mAt_lt (ty := ty) (tx := tx) (x := tq)
                  refine lv_aload_n C.1.1 C.1.2.1 dX9_steps_136 rfl (lv_at hl 0 rfl) ?_
                  refine lv_aload_n C.1.1 C.1.2.1 dX9_steps_137 rfl (lv_at hl 0 rfl) ?_
                  refine xw_get C hH 0 rfl rfl 12 (by decide) iw_X9_steps_X9 (by decide +kernel) (v := .int (iI tq)) rfl dX9_steps_138 ?_
                  refine xc_Vi (wr := []) (ws' := fun _ => [mO a q th un mf ty f tq tk fa (bz hf) (bz ho) km, (q 9, .inl (k 1, 120, .inl (by8 tx)))]) (As := [.int (iI tq)]) (rest := []) C hH (c_X9_at lL D k H.size a q th un mf ty f tq tk fa hf ho km tx tq (by omega) (by omega) (htx)) ZT_b (fun _ _ _ => trivial) (cwV 1 C.1.2.2.2.2 gX9_steps_X9_at rfl rfl rfl (by decide +kernel) ⟨Nat.le_of_ble_eq_true rfl, Nat.le_of_ble_eq_true rfl⟩) [0, 1] [] [0, 1] rfl rfl (by decide) (by decide) (by decide) (fun _ => rfl) (by decide) (q0 := 0) rfl rfl rfl hl.1 rfl (Nat.le_of_ble_eq_true rfl) dX9_steps_141 ⟨Nat.le_of_ble_eq_true rfl, Nat.le_of_ble_eq_true rfl⟩ (fun _ _ H locs hH => ?_)
                  refine lv_bipush (v := iI 97) C.1.1 C.1.2.1 dX9_steps_144 (by decide) ?_
                  refine lv_bipush (v := iI 122) C.1.1 C.1.2.1 dX9_steps_146 (by decide) ?_
                  refine xc_Si (wr := [mO a q th un mf ty f tq tk fa (bz hf) (bz ho) km, (q 9, .inl (k 1, 120, .inl (by8 tx)))]) (ws' := fun _ => [mO a q th un mf ty f tq tk fa (bz hf) (bz ho) km, (q 9, .inl (k 1, 120, .inl (by8 tx)))]) (As := [.int (iI (mAt tx ty tq)), .int (iI 97), .int (iI 122)]) (rest := []) C hH (c_X9_in lL D k H.size (mAt tx ty tq) 97 122 (by omega) (by omega) (by omega)) ZT_b (fun _ _ _ => trivial) (va_cwS 3 C.1.2.2.2.2 gX9_steps_X9_in rfl rfl rfl (by decide +kernel) ⟨Nat.le_of_ble_eq_true rfl, Nat.le_of_ble_eq_true rfl⟩) [] [0, 1] [0, 1] rfl rfl (by decide) (by decide) (by decide) (fun _ => rfl) (by decide) rfl hl.1 rfl (Nat.le_of_ble_eq_true rfl) dX9_steps_148 ⟨Nat.le_of_ble_eq_true rfl, Nat.le_of_ble_eq_true rfl⟩ (fun _ _ H locs hH => ?_)
                  refine xp_eq (tgt := 167) C.1.1 C.1.2.1 dX9_steps_151 (by decide) (fun h_6 => ?_) (fun h_6 => ?_)
                  · have et2 : tq = mRun tx ty 97 122 f := by rw [← i3, mRun_eq (p := tq), if_neg (by omega)]
                    refine lv_aload_n C.1.1 C.1.2.1 dX9_steps_167 rfl (lv_at hl 0 rfl) ?_
                    refine lv_aload_n C.1.1 C.1.2.1 dX9_steps_168 rfl (lv_at hl 0 rfl) ?_
                    refine xc_Vi (wr := []) (ws' := fun _ => [mO a q th un mf ty f tq tk fa (bz hf) (bz ho) km, (q 9, .inl (k 1, 120, .inl (by8 tx)))]) (As := []) (rest := [.ref a]) C hH (c_X9_wordOf lL D k H.size a q th un mf ty f tq tk fa hf ho km tx (by omega) (htx) (by omega)) ZT_b (fun _ _ _ => trivial) (cwV 0 C.1.2.2.2.2 gX9_steps_X9_wordOf rfl rfl rfl (by decide +kernel) ⟨Nat.le_of_ble_eq_true rfl, Nat.le_of_ble_eq_true rfl⟩) [0, 1] [] [0, 1] rfl rfl (by decide) (by decide) (by decide) (fun _ => rfl) (by decide) (q0 := 0) rfl rfl rfl hl.1 rfl (Nat.le_of_ble_eq_true rfl) dX9_steps_169 ⟨Nat.le_of_ble_eq_true rfl, Nat.le_of_ble_eq_true rfl⟩ (fun _ _ H locs hH => ?_)
                    refine xw_put (ws' := [mO a q th un mf ty f tq (mWord tx ty f tq) fa (bz hf) (bz ho) km, (q 9, .inl (k 1, 120, .inl (by8 tx)))]) (v := .int (iI (mWord tx ty f tq))) C hH 0 rfl rfl tyX9 tyX9_ok nmX9 13 (by decide) iw_X9_steps_X9 (by decide +kernel) rfl rfl rfl (Nat.le_of_ble_eq_true rfl) dX9_steps_172 rfl (fun H locs hH => ?_)
                    refine lv_goto (tgt := 211) C.1.1 C.1.2.1 dX9_steps_175 (by decide) ?_
                    exact xr_v C hH hlk hr hQ hAe () trivial (by simp (disch := omega) only [mTo, mTk, if_pos, if_neg] <;> simp_all) dX9_steps_211
                  · refine lv_aload_n C.1.1 C.1.2.1 dX9_steps_154 rfl (lv_at hl 0 rfl) ?_
                    refine lv_dup C.1.1 C.1.2.1 dX9_steps_155 rfl ?_
                    refine xw_get C hH 0 rfl rfl 12 (by decide) iw_X9_steps_X9 (by decide +kernel) (v := .int (iI tq)) rfl dX9_steps_156 ?_
                    refine lv_iconst (v := iI 1) C.1.1 C.1.2.1 dX9_steps_159 (by decide) ?_
                    refine xi_add C.1.1 C.1.2.1 dX9_steps_160 ?_
                    refine xw_put (ws' := [mO a q th un mf ty f (tq + 1) tk fa (bz hf) (bz ho) km, (q 9, .inl (k 1, 120, .inl (by8 tx)))]) (v := .int (iI (tq + 1))) C hH 0 rfl rfl tyX9 tyX9_ok nmX9 12 (by decide) iw_X9_steps_X9 (by decide +kernel) rfl rfl rfl (Nat.le_of_ble_eq_true rfl) dX9_steps_161 rfl (fun H locs hH => ?_)
                    refine lv_goto (tgt := 136) C.1.1 C.1.2.1 dX9_steps_164 (by decide) ?_
                    exact ih136 (tq + 1) (by rw [← i3, mRun_eq (p := tq), if_pos (by omega)]) (by omega) (by omega) _ _ _ hH (lv_sub hl [0] rfl)
              exact L136 ((ty - f).toNat + 1) f (rfl) (by omega) (by omega) _ _ _ hH (lv_sub hl [0] rfl)
          · have L79 : ∀ (nn : Nat), ∀ (tq : Int), (mRun tx ty 48 57 tq = mRun tx ty 48 57 f) → (0 ≤ tq ∧ tq ≤ ty) → (ty - tq < (nn : Int)) → ∀ (H : Heap) (locs : List Loc) (ls : Array Slot), Hp D A sT.heap [mO a q th un mf ty f tq tk fa (bz hf) (bz ho) km, (q 9, .inl (k 1, 120, .inl (by8 tx)))] H locs → lv_has ls 1 [(0, .ref a)] → W pP lL eN rmX9_steps sT mI args below meth cD H locs 0 0 QQ (F0 mI 79 ls []) := by
              intro nn
              induction nn with
              | zero => intro tq i3 i4 hm; exact absurd hm (by omega)
              | succ nn ih79 =>
                intro tq i3 i4 hm79 H locs ls hH hl
                have rq := mAt_rg (ty := ty) htx tq
                have rq2 := mAt_lt (ty := ty) (tx := tx) (x := tq)
                refine lv_aload_n C.1.1 C.1.2.1 dX9_steps_79 rfl (lv_at hl 0 rfl) ?_
                refine lv_aload_n C.1.1 C.1.2.1 dX9_steps_80 rfl (lv_at hl 0 rfl) ?_
                refine xw_get C hH 0 rfl rfl 12 (by decide) iw_X9_steps_X9 (by decide +kernel) (v := .int (iI tq)) rfl dX9_steps_81 ?_
                refine xc_Vi (wr := []) (ws' := fun _ => [mO a q th un mf ty f tq tk fa (bz hf) (bz ho) km, (q 9, .inl (k 1, 120, .inl (by8 tx)))]) (As := [.int (iI tq)]) (rest := []) C hH (c_X9_at lL D k H.size a q th un mf ty f tq tk fa hf ho km tx tq (by omega) (by omega) (htx)) ZT_b (fun _ _ _ => trivial) (cwV 1 C.1.2.2.2.2 gX9_steps_X9_at rfl rfl rfl (by decide +kernel) ⟨Nat.le_of_ble_eq_true rfl, Nat.le_of_ble_eq_true rfl⟩) [0, 1] [] [0, 1] rfl rfl (by decide) (by decide) (by decide) (fun _ => rfl) (by decide) (q0 := 0) rfl rfl rfl hl.1 rfl (Nat.le_of_ble_eq_true rfl) dX9_steps_84 ⟨Nat.le_of_ble_eq_true rfl, Nat.le_of_ble_eq_true rfl⟩ (fun _ _ H locs hH => ?_)
                refine lv_bipush (v := iI 48) C.1.1 C.1.2.1 dX9_steps_87 (by decide) ?_
                refine lv_bipush (v := iI 57) C.1.1 C.1.2.1 dX9_steps_89 (by decide) ?_
                refine xc_Si (wr := [mO a q th un mf ty f tq tk fa (bz hf) (bz ho) km, (q 9, .inl (k 1, 120, .inl (by8 tx)))]) (ws' := fun _ => [mO a q th un mf ty f tq tk fa (bz hf) (bz ho) km, (q 9, .inl (k 1, 120, .inl (by8 tx)))]) (As := [.int (iI (mAt tx ty tq)), .int (iI 48), .int (iI 57)]) (rest := []) C hH (c_X9_in lL D k H.size (mAt tx ty tq) 48 57 (by omega) (by omega) (by omega)) ZT_b (fun _ _ _ => trivial) (va_cwS 3 C.1.2.2.2.2 gX9_steps_X9_in rfl rfl rfl (by decide +kernel) ⟨Nat.le_of_ble_eq_true rfl, Nat.le_of_ble_eq_true rfl⟩) [] [0, 1] [0, 1] rfl rfl (by decide) (by decide) (by decide) (fun _ => rfl) (by decide) rfl hl.1 rfl (Nat.le_of_ble_eq_true rfl) dX9_steps_91 ⟨Nat.le_of_ble_eq_true rfl, Nat.le_of_ble_eq_true rfl⟩ (fun _ _ H locs hH => ?_)
                refine xp_eq (tgt := 110) C.1.1 C.1.2.1 dX9_steps_94 (by decide) (fun h_7 => ?_) (fun h_7 => ?_)
                · have et2 : tq = mRun tx ty 48 57 f := by rw [← i3, mRun_eq (p := tq), if_neg (by omega)]
                  refine lv_aload_n C.1.1 C.1.2.1 dX9_steps_110 rfl (lv_at hl 0 rfl) ?_
                  refine lv_iconst (v := iI 4) C.1.1 C.1.2.1 dX9_steps_111 (by decide) ?_
                  refine xw_put (ws' := [mO a q th un mf ty f tq 4 fa (bz hf) (bz ho) km, (q 9, .inl (k 1, 120, .inl (by8 tx)))]) (v := .int (iI 4)) C hH 0 rfl rfl tyX9 tyX9_ok nmX9 13 (by decide) iw_X9_steps_X9 (by decide +kernel) rfl rfl rfl (Nat.le_of_ble_eq_true rfl) dX9_steps_112 rfl (fun H locs hH => ?_)
                  refine lv_goto (tgt := 211) C.1.1 C.1.2.1 dX9_steps_115 (by decide) ?_
                  exact xr_v C hH hlk hr hQ hAe () trivial (by simp (disch := omega) only [mTo, mTk, if_pos, if_neg] <;> simp_all) dX9_steps_211
                · refine lv_aload_n C.1.1 C.1.2.1 dX9_steps_97 rfl (lv_at hl 0 rfl) ?_
                  refine lv_dup C.1.1 C.1.2.1 dX9_steps_98 rfl ?_
                  refine xw_get C hH 0 rfl rfl 12 (by decide) iw_X9_steps_X9 (by decide +kernel) (v := .int (iI tq)) rfl dX9_steps_99 ?_
                  refine lv_iconst (v := iI 1) C.1.1 C.1.2.1 dX9_steps_102 (by decide) ?_
                  refine xi_add C.1.1 C.1.2.1 dX9_steps_103 ?_
                  refine xw_put (ws' := [mO a q th un mf ty f (tq + 1) tk fa (bz hf) (bz ho) km, (q 9, .inl (k 1, 120, .inl (by8 tx)))]) (v := .int (iI (tq + 1))) C hH 0 rfl rfl tyX9 tyX9_ok nmX9 12 (by decide) iw_X9_steps_X9 (by decide +kernel) rfl rfl rfl (Nat.le_of_ble_eq_true rfl) dX9_steps_104 rfl (fun H locs hH => ?_)
                  refine lv_goto (tgt := 79) C.1.1 C.1.2.1 dX9_steps_107 (by decide) ?_
                  exact ih79 (tq + 1) (by rw [← i3, mRun_eq (p := tq), if_pos (by omega)]) (by omega) (by omega) _ _ _ hH (lv_sub hl [0] rfl)
            exact L79 ((ty - f).toNat + 1) f (rfl) (by omega) (by omega) _ _ _ hH (lv_sub hl [0] rfl)
        · refine lv_aload_n C.1.1 C.1.2.1 dX9_steps_53 rfl (lv_at hl 0 rfl) ?_
          refine lv_iconst (v := iI 0) C.1.1 C.1.2.1 dX9_steps_54 (by decide) ?_
          refine xw_put (ws' := [mO a q th un mf ty f f 0 fa (bz hf) (bz ho) km, (q 9, .inl (k 1, 120, .inl (by8 tx)))]) (v := .int (iI 0)) C hH 0 rfl rfl tyX9 tyX9_ok nmX9 13 (by decide) iw_X9_steps_X9 (by decide +kernel) rfl rfl rfl (Nat.le_of_ble_eq_true rfl) dX9_steps_55 rfl (fun H locs hH => ?_)
          refine lv_goto (tgt := 211) C.1.1 C.1.2.1 dX9_steps_58 (by decide) ?_
          exact xr_v C hH hlk hr hQ hAe () trivial (by simp (disch := omega) only [mTo, mTk, if_pos, if_neg] <;> simp_all) dX9_steps_211
      · refine lv_aload_n C.1.1 C.1.2.1 dX9_steps_21 rfl (lv_at hl 0 rfl) ?_
        refine lv_dup C.1.1 C.1.2.1 dX9_steps_22 rfl ?_
        refine xw_get C hH 0 rfl rfl 11 (by decide) iw_X9_steps_X9 (by decide +kernel) (v := .int (iI fq)) rfl dX9_steps_23 ?_
        refine lv_iconst (v := iI 1) C.1.1 C.1.2.1 dX9_steps_26 (by decide) ?_
        refine xi_add C.1.1 C.1.2.1 dX9_steps_27 ?_
        refine xw_put (ws' := [mO a q th un mf ty (fq + 1) tt tk fa (bz hf) (bz ho) km, (q 9, .inl (k 1, 120, .inl (by8 tx)))]) (v := .int (iI (fq + 1))) C hH 0 rfl rfl tyX9 tyX9_ok nmX9 11 (by decide) iw_X9_steps_X9 (by decide +kernel) rfl rfl rfl (Nat.le_of_ble_eq_true rfl) dX9_steps_28 rfl (fun H locs hH => ?_)
        refine lv_goto (tgt := 8) C.1.1 C.1.2.1 dX9_steps_31 (by decide) ?_
        exact ih8 (fq + 1) (by rw [← i1, mSkip_eq (p := fq), if_pos (by omega)]) (by omega) (by omega) _ _ _ hH (lv_sub hl [0] rfl)
  exact L8 ((ty - tt).toNat + 1) tt (ef.symm) (by omega) (by omega) _ _ _ hH (lv_sub hl [0] rfl)
