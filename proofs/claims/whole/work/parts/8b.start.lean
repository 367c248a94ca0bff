/-! what the Statement gives of the start -/
def FC : List Cond := flatC (Jvm.Cond.and given_1 narrow_1)
theorem fc_at {args : Array Value} {s : State} (h : (Jvm.Cond.and given_1 narrow_1).before args s = true) (i : Nat) {c : Cond} (hc : FC[i]? = some c) : c.before args s = true := flat_of_before _ h c (List.mem_of_getElem? hc)
theorem ZA_of {args : Array Value} {s : State} {Cn n : String} {N : Nat} {g : Int → Int} {A : Nat → Prop} (hN : N < 2 ^ 31) (hl : (Cond.laysStatic Cn n "[I").before args s = true) (hini : (Cond.initialized Cn).before args s = true) (harr : (Cond.arrayOf (.static Cn n "[I") .int).before args s = true) (hlen : (Cond.eq (.length (.static Cn n "[I")) (.int (Int32.ofNat N))).before args s = true) (hel : ∀ j : Nat, j < N → (Cond.eq (.elem (.static Cn n "[I") (.int (Int32.ofNat j))) (.int (ia g j))).before args s = true) (hA : ∀ a : Nat, a < s.heap.size → ¬ A a) : ZA Cn n N g A s s.heap := by
  obtain ⟨t, ht, hT⟩ := va_Tof hN harr (va_eqt hlen) (fun j hj => va_eqt (hel j hj)) hA
  exact ⟨t, va_Zref hl hini ht hA, hT⟩
theorem arr_known {args : Array Value} {s : State} {ty : FieldType} (h : (Cond.arrayClass ty).before args s = true) : ∃ c : ClassId, ArrOfT s c ty ∧ s.vm.findClass ("[" ++ ty.toString) = some c := by
  obtain ⟨c, kA, comp, h1, h2, h3⟩ := Cond.arrayClass_spec h
  exact ⟨c, fun n z => ⟨fun k h => (by cases h), kA, h2, comp, h3⟩, h1⟩
theorem fc_colG : FC[10]? = some (.arrayOf (.static "GroundEdges$Ground" "COLUMN_STEPS" "[I") .int) ∧ FC[11]? = some (.eq (.length (.static "GroundEdges$Ground" "COLUMN_STEPS" "[I")) (.int (Int32.ofNat 8))) ∧ ∀ j : Nat, j < 8 → FC[12 + j]? = some (.eq (.elem (.static "GroundEdges$Ground" "COLUMN_STEPS" "[I") (.int (Int32.ofNat j))) (.int (ia colG j))) := by decide +kernel
theorem fc_rowG : FC[21]? = some (.arrayOf (.static "GroundEdges$Ground" "ROW_STEPS" "[I") .int) ∧ FC[22]? = some (.eq (.length (.static "GroundEdges$Ground" "ROW_STEPS" "[I")) (.int (Int32.ofNat 8))) ∧ ∀ j : Nat, j < 8 → FC[23 + j]? = some (.eq (.elem (.static "GroundEdges$Ground" "ROW_STEPS" "[I") (.int (Int32.ofNat j))) (.int (ia rowG j))) := by decide +kernel
theorem fc_neaG : FC[32]? = some (.arrayOf (.static "GroundEdges$LeastChange" "NEAR" "[I") .int) ∧ FC[33]? = some (.eq (.length (.static "GroundEdges$LeastChange" "NEAR" "[I")) (.int (Int32.ofNat 4))) ∧ ∀ j : Nat, j < 4 → FC[34 + j]? = some (.eq (.elem (.static "GroundEdges$LeastChange" "NEAR" "[I") (.int (Int32.ofNat j))) (.int (ia neaG j))) := by decide +kernel
theorem fc_mskG : FC[39]? = some (.arrayOf (.static "GroundEdges$Ground" "MASKS" "[I") .int) ∧ FC[40]? = some (.eq (.length (.static "GroundEdges$Ground" "MASKS" "[I")) (.int (Int32.ofNat 47))) ∧ ∀ j : Nat, j < 47 → FC[41 + j]? = some (.eq (.elem (.static "GroundEdges$Ground" "MASKS" "[I") (.int (Int32.ofNat j))) (.int (ia mskG j))) := by decide +kernel
def tmW (i : Nat) : Term := ([.string "GroundEdges$Telling" 97, .string "GroundEdges$Telling" 103, .string "GroundEdges$Telling" 105] : List Term).getD i .null
theorem fc_w : (∀ i : Nat, i < 3 → wdL.getD i 0 < 2 ^ 31) ∧ (∀ i : Nat, i < 3 → FC[([88, 95, 103] : List Nat).getD i 0]? = some (.exactly (tmW i) "java/lang/String")) ∧ (∀ i : Nat, i < 3 → FC[([89, 96, 104] : List Nat).getD i 0]? = some (.eq (.field (tmW i) "java/lang/String" "coder" "B") (.int 0))) ∧ (∀ i : Nat, i < 3 → FC[([90, 97, 105] : List Nat).getD i 0]? = some (.arrayOf (.field (tmW i) "java/lang/String" "value" "[B") .byte)) ∧ (∀ i : Nat, i < 3 → FC[([91, 98, 106] : List Nat).getD i 0]? = some (.eq (.length (.field (tmW i) "java/lang/String" "value" "[B")) (.int (Int32.ofNat (wdL.getD i 0))))) ∧ (∀ i : Nat, i < 3 → ∀ j : Nat, j < wdL.getD i 0 → FC[([92, 99, 107] : List Nat).getD i 0 + j]? = some (.eq (.elem (.field (tmW i) "java/lang/String" "value" "[B") (.int (Int32.ofNat j))) (.int ((wdB.getD i []).getD j 0)))) ∧ FC[102]? = some (.not (.eq (tmW 0) (tmW 1))) ∧ FC[113]? = some (.not (.eq (tmW 0) (tmW 2))) ∧ FC[114]? = some (.not (.eq (tmW 1) (tmW 2))) := by decide +kernel
theorem fc_z : FC[4]? = some (.eq (.static "java/lang/String" "COMPACT_STRINGS" "Z") (.int 1)) ∧ FC[5]? = some (.isRef (.static "jdk/internal/util/Preconditions" "SIOOBE_FORMATTER" "Ljava/util/function/BiFunction;")) := by decide +kernel
theorem nw_in : ∀ q ∈ nwT, Cond.fieldLinkNest q.1 q.2.1 q.2.2.1 q.2.2.2.1 q.2.2.2.2.1 q.2.2.2.2.2 ∈ lw_tbl := by
  have h : nwT.map (fun q => Cond.fieldLinkNest q.1 q.2.1 q.2.2.1 q.2.2.2.1 q.2.2.2.2.1 q.2.2.2.2.2) = ([95, 96, 97, 98, 99, 101, 102, 103, 104, 105, 107, 108, 110, 112, 113, 136, 141, 194, 224, 247, 250, 278] : List Nat).filterMap (fun i => lw_tbl[i]?) := by decide +kernel
  intro q hq
  have h2 := List.mem_map_of_mem (f := fun q : String × Nat × String × String × String × String => Cond.fieldLinkNest q.1 q.2.1 q.2.2.1 q.2.2.2.1 q.2.2.2.2.1 q.2.2.2.2.2) hq
  rw [h] at h2
  obtain ⟨i, -, hi⟩ := List.mem_filterMap.mp h2
  exact List.mem_of_getElem? hi
set_option maxHeartbeats 4000000 in
set_option maxRecDepth 100000 in
theorem start_env {args : Array Value} {s : State} {A : Nat → Prop} (hts : ∀ w ∈ lw_tbl, w.before args s = true) (hgv : (Jvm.Cond.and given_1 narrow_1).before args s = true) (hA : ∀ a : Nat, a < s.heap.size → ¬ A a) : ∃ (D : va_G) (k kK kV : Nat → Nat), va_K D vwCl (tyk k) s ∧ ZS kK kV A s s.heap ∧ va_AO "GroundEdges$Ground" s := by
  obtain ⟨c0, i0, hK0⟩ := u_known (C := RX0) (T := TX0) (N := 5) (n := 5) hts (fun w h => WG_t w (iwg_X0 w h)) (hts (.instantiable RX0 5) (List.mem_of_getElem? (i := 89) (by decide +kernel)))
  obtain ⟨c1, i1, hK1⟩ := u_known (C := RX1) (T := TX1) (N := 2) (n := 2) hts (fun w h => WG_t w (iwg_X1 w h)) (hts (.instantiable RX1 2) (List.mem_of_getElem? (i := 201) (by decide +kernel)))
  obtain ⟨c2, i2, hK2⟩ := u_known (C := RX2) (T := TX2) (N := 3) (n := 3) hts (fun w h => WG_t w (iwg_X2 w h)) (hts (.instantiable RX2 3) (List.mem_of_getElem? (i := 216) (by decide +kernel)))
  obtain ⟨c3, i3, hK3⟩ := u_known (C := RX3) (T := TX3) (N := 8) (n := 8) hts (fun w h => WG_t w (iwg_X3 w h)) (hts (.instantiable RX3 8) (List.mem_of_getElem? (i := 234) (by decide +kernel)))
  obtain ⟨c4, i4, hK4⟩ := u_known (C := RX4) (T := TX4) (N := 2) (n := 2) hts (fun w h => WG_t w (iwg_X4 w h)) (hts (.instantiable RX4 2) (List.mem_of_getElem? (i := 171) (by decide +kernel)))
  obtain ⟨c5, i5, hK5⟩ := u_known (C := RX5) (T := TX5) (N := 4) (n := 4) hts (fun w h => WG_t w (iwg_X5 w h)) (hts (.instantiable RX5 4) (List.mem_of_getElem? (i := 269) (by decide +kernel)))
  obtain ⟨c6, i6, hK6⟩ := u_known (C := RX6) (T := TX6) (N := 1) (n := 1) hts (fun w h => WG_t w (iwg_X6 w h)) (hts (.instantiable RX6 1) (List.mem_of_getElem? (i := 177) (by decide +kernel)))
  obtain ⟨c7, i7, hK7⟩ := u_known (C := RX7) (T := TX7) (N := 11) (n := 11) hts (fun w h => WG_t w (iwg_X7 w h)) (hts (.instantiable RX7 11) (List.mem_of_getElem? (i := 126) (by decide +kernel)))
  obtain ⟨c8, i8, hK8⟩ := u_known (C := RX8) (T := TX8) (N := 8) (n := 8) hts (fun w h => WG_t w (iwg_X8 w h)) (hts (.instantiable RX8 8) (List.mem_of_getElem? (i := 81) (by decide +kernel)))
  obtain ⟨c9, i9, hK9⟩ := u_known (C := RX9) (T := TX9) (N := 24) (n := 24) hts (fun w h => WG_t w (iwg_X9 w h)) (hts (.instantiable RX9 24) (List.mem_of_getElem? (i := 787) (by decide +kernel)))
  obtain ⟨k0, hA0, hN0⟩ := arr_known (hts (.arrayClass .int) (List.mem_of_getElem? (i := 232) (by decide +kernel)))
  obtain ⟨k1, hA1, hN1⟩ := arr_known (hts (.arrayClass .byte) (List.mem_of_getElem? (i := 474) (by decide +kernel)))
  obtain ⟨k2, hA2, hN2⟩ := arr_known (hts (.arrayClass .boolean) (List.mem_of_getElem? (i := 865) (by decide +kernel)))
  obtain ⟨k3, hA3, hN3⟩ := arr_known (hts (.arrayClass .char) (List.mem_of_getElem? (i := 169) (by decide +kernel)))
  have hao : va_AO "GroundEdges$Ground" s := va_AO.of (hts (.arrayOver (.object "GroundEdges$Ground")) (List.mem_of_getElem? (i := 186) (by decide +kernel)))
  obtain ⟨comp, k4, kA, e1, e2, e3, e4, e5⟩ := Cond.arrayOver_spec hao
  obtain ⟨kK, kV, hvS, hvE⟩ := vk_Sof (args := args) (s := s) (N := 3) (tm := tmW) (len := wdL) (byt := wdB) (A := A) fc_w.1 (fun i hi => fc_at hgv _ (fc_w.2.1 i hi)) (fun i hi => fc_at hgv _ (fc_w.2.2.1 i hi)) (fun i hi => fc_at hgv _ (fc_w.2.2.2.1 i hi)) (fun i hi => fc_at hgv _ (fc_w.2.2.2.2.1 i hi)) (fun i hi j hj => fc_at hgv _ (fc_w.2.2.2.2.2.1 i hi j hj))
    (fun i j hi hj hij => by
      have n01 := fc_at hgv 102 fc_w.2.2.2.2.2.2.1
      have n02 := fc_at hgv 113 fc_w.2.2.2.2.2.2.2.1
      have n12 := fc_at hgv 114 fc_w.2.2.2.2.2.2.2.2
      rcases (show i = 0 ∨ i = 1 ∨ i = 2 by omega) with rfl | rfl | rfl <;> rcases (show j = 0 ∨ j = 1 ∨ j = 2 by omega) with rfl | rfl | rfl <;> first | exact absurd rfl hij | exact Or.inl n01 | exact Or.inl n02 | exact Or.inl n12 | exact Or.inr n01 | exact Or.inr n02 | exact Or.inr n12) hA
  refine ⟨(fun j => [c0, c1, c2, c3, c4, c5, c6, c7, c8, c9].getD j 0, fun j => [i0, i1, i2, i3, i4, i5, i6, i7, i8, i9].getD j (fun _ => 0)), fun j => [k0, k1, k2, k3, k4].getD j 0, kK, kV, ⟨?_, ?_⟩, ⟨⟨?_, ?_, ?_, ?_, ?_, ?_⟩, hvS, ⟨?_, ?_, ?_⟩, ?_, ?_⟩, hao⟩
  · intro c q hq
    match c, hq with
    | 0, hq => cases hq; exact hK0
    | 1, hq => cases hq; exact hK1
    | 2, hq => cases hq; exact hK2
    | 3, hq => cases hq; exact hK3
    | 4, hq => cases hq; exact hK4
    | 5, hq => cases hq; exact hK5
    | 6, hq => cases hq; exact hK6
    | 7, hq => cases hq; exact hK7
    | 8, hq => cases hq; exact hK8
    | 9, hq => cases hq; exact hK9
    | n + 10, hq => exact absurd (List.getElem?_eq_some_iff.mp hq).1 (by show ¬ n + 10 < 10; omega)
  · intro c q hq
    match c, hq with
    | 0, hq => cases hq; exact ⟨hA0, hN0⟩
    | 1, hq => cases hq; exact ⟨hA1, hN1⟩
    | 2, hq => cases hq; exact ⟨hA2, hN2⟩
    | 3, hq => cases hq; exact ⟨hA3, hN3⟩
    | 4, hq => cases hq; exact ⟨fun n z => ⟨fun k h => (by cases h), kA, e3, comp, e4⟩, kA, comp, e3, e4, e1, e5⟩
    | n + 5, hq => exact absurd (List.getElem?_eq_some_iff.mp hq).1 (by show ¬ n + 5 < 5; omega)
  · exact (ZA_of (N := 8) (by decide) (hts (.laysStatic "GroundEdges$Ground" "COLUMN_STEPS" "[I") (List.mem_of_getElem? (i := 521) (by decide +kernel))) (hts (.initialized "GroundEdges$Ground") (List.mem_of_getElem? (i := 64) (by decide +kernel))) (fc_at hgv 10 fc_colG.1) (fc_at hgv 11 fc_colG.2.1) (fun j hj => fc_at hgv (12 + j) (fc_colG.2.2 j hj)) hA)
  · exact (ZA_of (N := 8) (by decide) (hts (.laysStatic "GroundEdges$Ground" "ROW_STEPS" "[I") (List.mem_of_getElem? (i := 523) (by decide +kernel))) (hts (.initialized "GroundEdges$Ground") (List.mem_of_getElem? (i := 64) (by decide +kernel))) (fc_at hgv 21 fc_rowG.1) (fc_at hgv 22 fc_rowG.2.1) (fun j hj => fc_at hgv (23 + j) (fc_rowG.2.2 j hj)) hA)
  · exact (ZA_of (N := 47) (by decide) (hts (.laysStatic "GroundEdges$Ground" "MASKS" "[I") (List.mem_of_getElem? (i := 670) (by decide +kernel))) (hts (.initialized "GroundEdges$Ground") (List.mem_of_getElem? (i := 64) (by decide +kernel))) (fc_at hgv 39 fc_mskG.1) (fc_at hgv 40 fc_mskG.2.1) (fun j hj => fc_at hgv (41 + j) (fc_mskG.2.2 j hj)) hA)
  · exact (ZA_of (N := 4) (by decide) (hts (.laysStatic "GroundEdges$LeastChange" "NEAR" "[I") (List.mem_of_getElem? (i := 550) (by decide +kernel))) (hts (.initialized "GroundEdges$LeastChange") (List.mem_of_getElem? (i := 71) (by decide +kernel))) (fc_at hgv 32 fc_neaG.1) (fc_at hgv 33 fc_neaG.2.1) (fun j hj => fc_at hgv (34 + j) (fc_neaG.2.2 j hj)) hA)
  · exact fun q hq => va_Nw.of rfl (hts _ (nw_in q hq))
  · exact va_Nw.of rfl (hts (.methodLinkNest "GroundEdges$Telling" 93 yX8_isHeight "GroundEdges") (List.mem_of_getElem? (i := 419) (by decide +kernel)))
  · exact vk_R.of (hts (.stringRef "GroundEdges$Telling" 97 "row") (List.mem_of_getElem? (i := 360) (by decide +kernel))) (hvE 0 (by decide))
  · exact vk_R.of (hts (.stringRef "GroundEdges$Telling" 103 "fix") (List.mem_of_getElem? (i := 413) (by decide +kernel))) (hvE 1 (by decide))
  · exact vk_R.of (hts (.stringRef "GroundEdges$Telling" 105 "beyond") (List.mem_of_getElem? (i := 414) (by decide +kernel))) (hvE 2 (by decide))
  · exact va_Zof (hts (.laysStatic "java/lang/String" "COMPACT_STRINGS" "Z") (List.mem_of_getElem? (i := 374) (by decide +kernel))) (hts (.initialized "java/lang/String") (List.mem_of_getElem? (i := 74) (by decide +kernel))) (va_eqt (fc_at hgv 4 fc_z.1)) hA
  · exact va_Zqof (hts (.laysStatic "jdk/internal/util/Preconditions" "SIOOBE_FORMATTER" "Ljava/util/function/BiFunction;") (List.mem_of_getElem? (i := 390) (by decide +kernel))) (hts (.initialized "jdk/internal/util/Preconditions") (List.mem_of_getElem? (i := 76) (by decide +kernel))) (fc_at hgv 5 fc_z.2) hA
