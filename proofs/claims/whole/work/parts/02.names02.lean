theorem dX0_become_18 : decode cX0_become 18 = .ok (.getfield 21, 3) := by decide +kernel
theorem dX0_become_21 : decode cX0_become 21 = .ok (.putfield 21, 3) := by decide +kernel
theorem dX0_become_24 : decode cX0_become 24 = .ok (.aload_n 0, 1) := by decide +kernel
theorem dX0_become_25 : decode cX0_become 25 = .ok (.aload_n 1, 1) := by decide +kernel
theorem dX0_become_26 : decode cX0_become 26 = .ok (.getfield 25, 3) := by decide +kernel
theorem dX0_become_29 : decode cX0_become 29 = .ok (.putfield 25, 3) := by decide +kernel
theorem dX0_become_32 : decode cX0_become 32 = .ok (.aload_n 0, 1) := by decide +kernel
theorem dX0_become_33 : decode cX0_become 33 = .ok (.aload_n 1, 1) := by decide +kernel
theorem dX0_become_34 : decode cX0_become 34 = .ok (.getfield 18, 3) := by decide +kernel
theorem dX0_become_37 : decode cX0_become 37 = .ok (.putfield 18, 3) := by decide +kernel
theorem dX0_become_40 : decode cX0_become 40 = .ok (.return_, 1) := by decide +kernel
theorem dX0_cells_0 : decode cX0_cells 0 = .ok (.aload_n 0, 1) := by decide +kernel
theorem dX0_cells_1 : decode cX0_cells 1 = .ok (.getfield 9, 3) := by decide +kernel
theorem dX0_cells_4 : decode cX0_cells 4 = .ok (.aload_n 0, 1) := by decide +kernel
theorem dX0_cells_5 : decode cX0_cells 5 = .ok (.getfield 15, 3) := by decide +kernel
theorem dX0_cells_8 : decode cX0_cells 8 = .ok (.imul, 1) := by decide +kernel
theorem dX0_cells_9 : decode cX0_cells 9 = .ok (.ireturn, 1) := by decide +kernel
theorem dX0_has_0 : decode cX0_has 0 = .ok (.iload_n 1, 1) := by decide +kernel
theorem dX0_has_1 : decode cX0_has 1 = .ok (.ifCond .lt 27, 3) := by decide +kernel
theorem dX0_has_4 : decode cX0_has 4 = .ok (.iload_n 1, 1) := by decide +kernel
theorem dX0_has_5 : decode cX0_has 5 = .ok (.aload_n 0, 1) := by decide +kernel
theorem dX0_has_6 : decode cX0_has 6 = .ok (.getfield 9, 3) := by decide +kernel
theorem dX0_has_9 : decode cX0_has 9 = .ok (.if_icmp .ge 19, 3) := by decide +kernel
theorem dX0_has_12 : decode cX0_has 12 = .ok (.iload_n 2, 1) := by decide +kernel
theorem dX0_has_13 : decode cX0_has 13 = .ok (.ifCond .lt 15, 3) := by decide +kernel
theorem dX0_has_16 : decode cX0_has 16 = .ok (.iload_n 2, 1) := by decide +kernel
theorem dX0_has_17 : decode cX0_has 17 = .ok (.aload_n 0, 1) := by decide +kernel
theorem dX0_has_18 : decode cX0_has 18 = .ok (.getfield 15, 3) := by decide +kernel
theorem dX0_has_21 : decode cX0_has 21 = .ok (.if_icmp .ge 7, 3) := by decide +kernel
theorem dX0_has_24 : decode cX0_has 24 = .ok (.iconst 1, 1) := by decide +kernel
theorem dX0_has_25 : decode cX0_has 25 = .ok (.goto 4, 3) := by decide +kernel
theorem dX0_has_28 : decode cX0_has 28 = .ok (.iconst 0, 1) := by decide +kernel
theorem dX0_has_29 : decode cX0_has 29 = .ok (.ireturn, 1) := by decide +kernel
theorem dX0_numberOf_0 : decode cX0_numberOf 0 = .ok (.aload_n 0, 1) := by decide +kernel
theorem dX0_numberOf_1 : decode cX0_numberOf 1 = .ok (.getfield 9, 3) := by decide +kernel
theorem dX0_numberOf_4 : decode cX0_numberOf 4 = .ok (.iload_n 2, 1) := by decide +kernel
theorem dX0_numberOf_5 : decode cX0_numberOf 5 = .ok (.imul, 1) := by decide +kernel
theorem dX0_numberOf_6 : decode cX0_numberOf 6 = .ok (.iload_n 1, 1) := by decide +kernel
theorem dX0_numberOf_7 : decode cX0_numberOf 7 = .ok (.iadd, 1) := by decide +kernel
theorem dX0_numberOf_8 : decode cX0_numberOf 8 = .ok (.ireturn, 1) := by decide +kernel
theorem dX0_heightOf_0 : decode cX0_heightOf 0 = .ok (.aload_n 0, 1) := by decide +kernel
theorem dX0_heightOf_1 : decode cX0_heightOf 1 = .ok (.getfield 21, 3) := by decide +kernel
theorem dX0_heightOf_4 : decode cX0_heightOf 4 = .ok (.iconst 2, 1) := by decide +kernel
theorem dX0_heightOf_5 : decode cX0_heightOf 5 = .ok (.bipush 23, 2) := by decide +kernel
theorem dX0_heightOf_7 : decode cX0_heightOf 7 = .ok (.iload_n 1, 1) := by decide +kernel
theorem dX0_heightOf_8 : decode cX0_heightOf 8 = .ok (.isub, 1) := by decide +kernel
theorem dX0_heightOf_9 : decode cX0_heightOf 9 = .ok (.imul, 1) := by decide +kernel
theorem dX0_heightOf_10 : decode cX0_heightOf 10 = .ok (.lushr, 1) := by decide +kernel
theorem dX0_heightOf_11 : decode cX0_heightOf 11 = .ok (.l2i, 1) := by decide +kernel
theorem dX0_heightOf_12 : decode cX0_heightOf 12 = .ok (.iconst 3, 1) := by decide +kernel
theorem dX0_heightOf_13 : decode cX0_heightOf 13 = .ok (.iand, 1) := by decide +kernel
theorem dX0_heightOf_14 : decode cX0_heightOf 14 = .ok (.ireturn, 1) := by decide +kernel
set_option maxRecDepth 20000 in
theorem ggX0_setHeight_X0_placeOf : GoodIn wsX0_setHeight wsX0_placeOf := goodIn_r _ [7] (by decide +kernel) (by decide +kernel)
set_option maxRecDepth 20000 in
theorem gX0_setHeight_X0_placeOf : GoodIn wsX0_setHeight (va_wsS RX0 28 yX0_placeOf wsX0_placeOf) := goodIn_app (goodIn_of _ (by decide +kernel)) ggX0_setHeight_X0_placeOf
theorem dX0_setHeight_0 : decode cX0_setHeight 0 = .ok (.iload_n 1, 1) := by decide +kernel
theorem dX0_setHeight_1 : decode cX0_setHeight 1 = .ok (.invokestatic 28, 3) := by decide +kernel
theorem dX0_setHeight_4 : decode cX0_setHeight 4 = .ok (.istore_n 3, 1) := by decide +kernel
theorem dX0_setHeight_5 : decode cX0_setHeight 5 = .ok (.aload_n 0, 1) := by decide +kernel
theorem dX0_setHeight_6 : decode cX0_setHeight 6 = .ok (.aload_n 0, 1) := by decide +kernel
theorem dX0_setHeight_7 : decode cX0_setHeight 7 = .ok (.getfield 21, 3) := by decide +kernel
theorem dX0_setHeight_10 : decode cX0_setHeight 10 = .ok (.ldc2_w 32, 3) := by decide +kernel
theorem dX0_setHeight_13 : decode cX0_setHeight 13 = .ok (.iload_n 3, 1) := by decide +kernel
theorem dX0_setHeight_14 : decode cX0_setHeight 14 = .ok (.lshl, 1) := by decide +kernel
theorem dX0_setHeight_15 : decode cX0_setHeight 15 = .ok (.ldc2_w 34, 3) := by decide +kernel
theorem dX0_setHeight_18 : decode cX0_setHeight 18 = .ok (.lxor, 1) := by decide +kernel
theorem dX0_setHeight_19 : decode cX0_setHeight 19 = .ok (.land, 1) := by decide +kernel
theorem dX0_setHeight_20 : decode cX0_setHeight 20 = .ok (.iload_n 2, 1) := by decide +kernel
theorem dX0_setHeight_21 : decode cX0_setHeight 21 = .ok (.i2l, 1) := by decide +kernel
theorem dX0_setHeight_22 : decode cX0_setHeight 22 = .ok (.iload_n 3, 1) := by decide +kernel
theorem dX0_setHeight_23 : decode cX0_setHeight 23 = .ok (.lshl, 1) := by decide +kernel
theorem dX0_setHeight_24 : decode cX0_setHeight 24 = .ok (.lor, 1) := by decide +kernel
theorem dX0_setHeight_25 : decode cX0_setHeight 25 = .ok (.putfield 21, 3) := by decide +kernel
theorem dX0_setHeight_28 : decode cX0_setHeight 28 = .ok (.return_, 1) := by decide +kernel
set_option maxRecDepth 20000 in
theorem ggX0_fixedOf_X0_placeOf : GoodIn wsX0_fixedOf wsX0_placeOf := goodIn_r _ [5] (by decide +kernel) (by decide +kernel)
set_option maxRecDepth 20000 in
theorem gX0_fixedOf_X0_placeOf : GoodIn wsX0_fixedOf (va_wsS RX0 28 yX0_placeOf wsX0_placeOf) := goodIn_app (goodIn_of _ (by decide +kernel)) ggX0_fixedOf_X0_placeOf
theorem dX0_fixedOf_0 : decode cX0_fixedOf 0 = .ok (.aload_n 0, 1) := by decide +kernel
theorem dX0_fixedOf_1 : decode cX0_fixedOf 1 = .ok (.getfield 25, 3) := by decide +kernel
theorem dX0_fixedOf_4 : decode cX0_fixedOf 4 = .ok (.iload_n 1, 1) := by decide +kernel
theorem dX0_fixedOf_5 : decode cX0_fixedOf 5 = .ok (.invokestatic 28, 3) := by decide +kernel
theorem dX0_fixedOf_8 : decode cX0_fixedOf 8 = .ok (.lushr, 1) := by decide +kernel
theorem dX0_fixedOf_9 : decode cX0_fixedOf 9 = .ok (.l2i, 1) := by decide +kernel
theorem dX0_fixedOf_10 : decode cX0_fixedOf 10 = .ok (.iconst 1, 1) := by decide +kernel
theorem dX0_fixedOf_11 : decode cX0_fixedOf 11 = .ok (.iand, 1) := by decide +kernel
theorem dX0_fixedOf_12 : decode cX0_fixedOf 12 = .ok (.ireturn, 1) := by decide +kernel
set_option maxRecDepth 20000 in
theorem ggX0_setFixed_X0_placeOf : GoodIn wsX0_setFixed wsX0_placeOf := goodIn_r _ [6] (by decide +kernel) (by decide +kernel)
set_option maxRecDepth 20000 in
theorem gX0_setFixed_X0_placeOf : GoodIn wsX0_setFixed (va_wsS RX0 28 yX0_placeOf wsX0_placeOf) := goodIn_app (goodIn_of _ (by decide +kernel)) ggX0_setFixed_X0_placeOf
theorem dX0_setFixed_0 : decode cX0_setFixed 0 = .ok (.iload_n 1, 1) := by decide +kernel
theorem dX0_setFixed_1 : decode cX0_setFixed 1 = .ok (.invokestatic 28, 3) := by decide +kernel
theorem dX0_setFixed_4 : decode cX0_setFixed 4 = .ok (.istore_n 3, 1) := by decide +kernel
theorem dX0_setFixed_5 : decode cX0_setFixed 5 = .ok (.aload_n 0, 1) := by decide +kernel
theorem dX0_setFixed_6 : decode cX0_setFixed 6 = .ok (.aload_n 0, 1) := by decide +kernel
theorem dX0_setFixed_7 : decode cX0_setFixed 7 = .ok (.getfield 25, 3) := by decide +kernel
theorem dX0_setFixed_10 : decode cX0_setFixed 10 = .ok (.lconst 1, 1) := by decide +kernel
theorem dX0_setFixed_11 : decode cX0_setFixed 11 = .ok (.iload_n 3, 1) := by decide +kernel
theorem dX0_setFixed_12 : decode cX0_setFixed 12 = .ok (.lshl, 1) := by decide +kernel
theorem dX0_setFixed_13 : decode cX0_setFixed 13 = .ok (.ldc2_w 34, 3) := by decide +kernel
theorem dX0_setFixed_16 : decode cX0_setFixed 16 = .ok (.lxor, 1) := by decide +kernel
theorem dX0_setFixed_17 : decode cX0_setFixed 17 = .ok (.land, 1) := by decide +kernel
theorem dX0_setFixed_18 : decode cX0_setFixed 18 = .ok (.iload_n 2, 1) := by decide +kernel
theorem dX0_setFixed_19 : decode cX0_setFixed 19 = .ok (.i2l, 1) := by decide +kernel
theorem dX0_setFixed_20 : decode cX0_setFixed 20 = .ok (.iload_n 3, 1) := by decide +kernel
theorem dX0_setFixed_21 : decode cX0_setFixed 21 = .ok (.lshl, 1) := by decide +kernel
theorem dX0_setFixed_22 : decode cX0_setFixed 22 = .ok (.lor, 1) := by decide +kernel
theorem dX0_setFixed_23 : decode cX0_setFixed 23 = .ok (.putfield 25, 3) := by decide +kernel
theorem dX0_setFixed_26 : decode cX0_setFixed 26 = .ok (.return_, 1) := by decide +kernel
set_option maxRecDepth 20000 in
theorem ggX0_fixedCells_J13_bitCount_95d88 : GoodIn wsX0_fixedCells wsJ13_bitCount_95d88 := goodIn_r _ [5, 6, 7, 8] (by decide +kernel) (by decide +kernel)
set_option maxRecDepth 20000 in
theorem gX0_fixedCells_J13_bitCount_95d88 : GoodIn wsX0_fixedCells (va_wsS RX0 36 yJ13_bitCount_95d88 wsJ13_bitCount_95d88) := goodIn_app (goodIn_of _ (by decide +kernel)) ggX0_fixedCells_J13_bitCount_95d88
theorem dX0_fixedCells_0 : decode cX0_fixedCells 0 = .ok (.aload_n 0, 1) := by decide +kernel
theorem dX0_fixedCells_1 : decode cX0_fixedCells 1 = .ok (.getfield 25, 3) := by decide +kernel
theorem dX0_fixedCells_4 : decode cX0_fixedCells 4 = .ok (.invokestatic 36, 3) := by decide +kernel
theorem dX0_fixedCells_7 : decode cX0_fixedCells 7 = .ok (.ireturn, 1) := by decide +kernel
set_option maxRecDepth 20000 in
theorem ggX0_heightsTogether_X0_cells : GoodIn wsX0_heightsTogether wsX0_cells := goodIn_r _ [5, 6, 7, 13, 14, 15, 16, 17] (by decide +kernel) (by decide +kernel)
set_option maxRecDepth 20000 in
theorem gX0_heightsTogether_X0_cells : GoodIn wsX0_heightsTogether (wsV RX0 42 RX0 yX0_cells wsX0_cells) := goodIn_app (goodIn_of _ (by decide +kernel)) ggX0_heightsTogether_X0_cells
set_option maxRecDepth 20000 in
theorem ggX0_heightsTogether_X0_heightOf : GoodIn wsX0_heightsTogether wsX0_heightOf := goodIn_r _ [11, 12, 13, 14, 15, 16, 17] (by decide +kernel) (by decide +kernel)
set_option maxRecDepth 20000 in
theorem gX0_heightsTogether_X0_heightOf : GoodIn wsX0_heightsTogether (wsV RX0 46 RX0 yX0_heightOf wsX0_heightOf) := goodIn_app (goodIn_of _ (by decide +kernel)) ggX0_heightsTogether_X0_heightOf
theorem dX0_heightsTogether_0 : decode cX0_heightsTogether 0 = .ok (.iconst 0, 1) := by decide +kernel
theorem dX0_heightsTogether_1 : decode cX0_heightsTogether 1 = .ok (.istore_n 1, 1) := by decide +kernel
theorem dX0_heightsTogether_2 : decode cX0_heightsTogether 2 = .ok (.iconst 0, 1) := by decide +kernel
theorem dX0_heightsTogether_3 : decode cX0_heightsTogether 3 = .ok (.istore_n 2, 1) := by decide +kernel
theorem dX0_heightsTogether_4 : decode cX0_heightsTogether 4 = .ok (.iload_n 2, 1) := by decide +kernel
theorem dX0_heightsTogether_5 : decode cX0_heightsTogether 5 = .ok (.aload_n 0, 1) := by decide +kernel
theorem dX0_heightsTogether_6 : decode cX0_heightsTogether 6 = .ok (.invokevirtual 42, 3) := by decide +kernel
theorem dX0_heightsTogether_9 : decode cX0_heightsTogether 9 = .ok (.if_icmp .ge 17, 3) := by decide +kernel
theorem dX0_heightsTogether_12 : decode cX0_heightsTogether 12 = .ok (.iload_n 1, 1) := by decide +kernel
theorem dX0_heightsTogether_13 : decode cX0_heightsTogether 13 = .ok (.aload_n 0, 1) := by decide +kernel
theorem dX0_heightsTogether_14 : decode cX0_heightsTogether 14 = .ok (.iload_n 2, 1) := by decide +kernel
theorem dX0_heightsTogether_15 : decode cX0_heightsTogether 15 = .ok (.invokevirtual 46, 3) := by decide +kernel
theorem dX0_heightsTogether_18 : decode cX0_heightsTogether 18 = .ok (.iadd, 1) := by decide +kernel
theorem dX0_heightsTogether_19 : decode cX0_heightsTogether 19 = .ok (.istore_n 1, 1) := by decide +kernel
theorem dX0_heightsTogether_20 : decode cX0_heightsTogether 20 = .ok (.iinc 2 1, 3) := by decide +kernel
theorem dX0_heightsTogether_23 : decode cX0_heightsTogether 23 = .ok (.goto (-19), 3) := by decide +kernel
theorem dX0_heightsTogether_26 : decode cX0_heightsTogether 26 = .ok (.iload_n 1, 1) := by decide +kernel
theorem dX0_heightsTogether_27 : decode cX0_heightsTogether 27 = .ok (.ireturn, 1) := by decide +kernel
theorem dX0_placeOf_0 : decode cX0_placeOf 0 = .ok (.iconst 2, 1) := by decide +kernel
theorem dX0_placeOf_1 : decode cX0_placeOf 1 = .ok (.bipush 23, 2) := by decide +kernel
theorem dX0_placeOf_3 : decode cX0_placeOf 3 = .ok (.iload_n 0, 1) := by decide +kernel
theorem dX0_placeOf_4 : decode cX0_placeOf 4 = .ok (.isub, 1) := by decide +kernel
theorem dX0_placeOf_5 : decode cX0_placeOf 5 = .ok (.imul, 1) := by decide +kernel
theorem dX0_placeOf_6 : decode cX0_placeOf 6 = .ok (.ireturn, 1) := by decide +kernel
set_option maxRecDepth 20000 in
theorem ggX0_placeOfRow_X0_placeOf : GoodIn wsX0_placeOfRow wsX0_placeOf := goodIn_r _ [5] (by decide +kernel) (by decide +kernel)
set_option maxRecDepth 20000 in
theorem gX0_placeOfRow_X0_placeOf : GoodIn wsX0_placeOfRow (va_wsS RX0 28 yX0_placeOf wsX0_placeOf) := goodIn_app (goodIn_of _ (by decide +kernel)) ggX0_placeOfRow_X0_placeOf
theorem dX0_placeOfRow_0 : decode cX0_placeOfRow 0 = .ok (.aload_n 0, 1) := by decide +kernel
theorem dX0_placeOfRow_1 : decode cX0_placeOfRow 1 = .ok (.getfield 9, 3) := by decide +kernel
theorem dX0_placeOfRow_4 : decode cX0_placeOfRow 4 = .ok (.iload_n 1, 1) := by decide +kernel
theorem dX0_placeOfRow_5 : decode cX0_placeOfRow 5 = .ok (.iconst 1, 1) := by decide +kernel
theorem dX0_placeOfRow_6 : decode cX0_placeOfRow 6 = .ok (.iadd, 1) := by decide +kernel
theorem dX0_placeOfRow_7 : decode cX0_placeOfRow 7 = .ok (.imul, 1) := by decide +kernel
theorem dX0_placeOfRow_8 : decode cX0_placeOfRow 8 = .ok (.iconst 1, 1) := by decide +kernel
theorem dX0_placeOfRow_9 : decode cX0_placeOfRow 9 = .ok (.isub, 1) := by decide +kernel
theorem dX0_placeOfRow_10 : decode cX0_placeOfRow 10 = .ok (.invokestatic 28, 3) := by decide +kernel
theorem dX0_placeOfRow_13 : decode cX0_placeOfRow 13 = .ok (.ireturn, 1) := by decide +kernel
set_option maxRecDepth 20000 in
theorem ggX0_heightsOfRow_X0_placeOfRow : GoodIn wsX0_heightsOfRow wsX0_placeOfRow := goodIn_r _ [6, 7, 8, 9, 5, 10, 15, 16, 17, 18, 19] (by decide +kernel) (by decide +kernel)
set_option maxRecDepth 20000 in
theorem gX0_heightsOfRow_X0_placeOfRow : GoodIn wsX0_heightsOfRow (wsV RX0 49 RX0 yX0_placeOfRow wsX0_placeOfRow) := goodIn_app (goodIn_of _ (by decide +kernel)) ggX0_heightsOfRow_X0_placeOfRow
set_option maxRecDepth 20000 in
theorem ggX0_heightsOfRow_X0_rowBits : GoodIn wsX0_heightsOfRow wsX0_rowBits := goodIn_r _ [14, 7, 15, 16, 17, 18, 19] (by decide +kernel) (by decide +kernel)
set_option maxRecDepth 20000 in
theorem gX0_heightsOfRow_X0_rowBits : GoodIn wsX0_heightsOfRow (wsV RX0 52 RX0 yX0_rowBits wsX0_rowBits) := goodIn_app (goodIn_of _ (by decide +kernel)) ggX0_heightsOfRow_X0_rowBits
theorem dX0_heightsOfRow_0 : decode cX0_heightsOfRow 0 = .ok (.aload_n 0, 1) := by decide +kernel
theorem dX0_heightsOfRow_1 : decode cX0_heightsOfRow 1 = .ok (.getfield 21, 3) := by decide +kernel
theorem dX0_heightsOfRow_4 : decode cX0_heightsOfRow 4 = .ok (.aload_n 0, 1) := by decide +kernel
theorem dX0_heightsOfRow_5 : decode cX0_heightsOfRow 5 = .ok (.iload_n 1, 1) := by decide +kernel
theorem dX0_heightsOfRow_6 : decode cX0_heightsOfRow 6 = .ok (.invokevirtual 49, 3) := by decide +kernel
theorem dX0_heightsOfRow_9 : decode cX0_heightsOfRow 9 = .ok (.lushr, 1) := by decide +kernel
theorem dX0_heightsOfRow_10 : decode cX0_heightsOfRow 10 = .ok (.l2i, 1) := by decide +kernel
theorem dX0_heightsOfRow_11 : decode cX0_heightsOfRow 11 = .ok (.aload_n 0, 1) := by decide +kernel
theorem dX0_heightsOfRow_12 : decode cX0_heightsOfRow 12 = .ok (.invokevirtual 52, 3) := by decide +kernel
theorem dX0_heightsOfRow_15 : decode cX0_heightsOfRow 15 = .ok (.iand, 1) := by decide +kernel
theorem dX0_heightsOfRow_16 : decode cX0_heightsOfRow 16 = .ok (.ireturn, 1) := by decide +kernel
set_option maxRecDepth 20000 in
theorem ggX0_fixedOfRow_X0_placeOfRow : GoodIn wsX0_fixedOfRow wsX0_placeOfRow := goodIn_r _ [6, 7, 8, 9, 5, 10, 15, 16, 17, 18, 19] (by decide +kernel) (by decide +kernel)
set_option maxRecDepth 20000 in
theorem gX0_fixedOfRow_X0_placeOfRow : GoodIn wsX0_fixedOfRow (wsV RX0 49 RX0 yX0_placeOfRow wsX0_placeOfRow) := goodIn_app (goodIn_of _ (by decide +kernel)) ggX0_fixedOfRow_X0_placeOfRow
set_option maxRecDepth 20000 in
theorem ggX0_fixedOfRow_X0_rowBits : GoodIn wsX0_fixedOfRow wsX0_rowBits := goodIn_r _ [14, 7, 15, 16, 17, 18, 19] (by decide +kernel) (by decide +kernel)
set_option maxRecDepth 20000 in
theorem gX0_fixedOfRow_X0_rowBits : GoodIn wsX0_fixedOfRow (wsV RX0 52 RX0 yX0_rowBits wsX0_rowBits) := goodIn_app (goodIn_of _ (by decide +kernel)) ggX0_fixedOfRow_X0_rowBits
theorem dX0_fixedOfRow_0 : decode cX0_fixedOfRow 0 = .ok (.aload_n 0, 1) := by decide +kernel
theorem dX0_fixedOfRow_1 : decode cX0_fixedOfRow 1 = .ok (.getfield 25, 3) := by decide +kernel
theorem dX0_fixedOfRow_4 : decode cX0_fixedOfRow 4 = .ok (.aload_n 0, 1) := by decide +kernel
theorem dX0_fixedOfRow_5 : decode cX0_fixedOfRow 5 = .ok (.iload_n 1, 1) := by decide +kernel
theorem dX0_fixedOfRow_6 : decode cX0_fixedOfRow 6 = .ok (.invokevirtual 49, 3) := by decide +kernel
theorem dX0_fixedOfRow_9 : decode cX0_fixedOfRow 9 = .ok (.lushr, 1) := by decide +kernel
theorem dX0_fixedOfRow_10 : decode cX0_fixedOfRow 10 = .ok (.l2i, 1) := by decide +kernel
theorem dX0_fixedOfRow_11 : decode cX0_fixedOfRow 11 = .ok (.aload_n 0, 1) := by decide +kernel
theorem dX0_fixedOfRow_12 : decode cX0_fixedOfRow 12 = .ok (.invokevirtual 52, 3) := by decide +kernel
theorem dX0_fixedOfRow_15 : decode cX0_fixedOfRow 15 = .ok (.iand, 1) := by decide +kernel
theorem dX0_fixedOfRow_16 : decode cX0_fixedOfRow 16 = .ok (.ireturn, 1) := by decide +kernel
theorem dX0_rowBits_0 : decode cX0_rowBits 0 = .ok (.iconst 1, 1) := by decide +kernel
theorem dX0_rowBits_1 : decode cX0_rowBits 1 = .ok (.iconst 2, 1) := by decide +kernel
theorem dX0_rowBits_2 : decode cX0_rowBits 2 = .ok (.aload_n 0, 1) := by decide +kernel
theorem dX0_rowBits_3 : decode cX0_rowBits 3 = .ok (.getfield 9, 3) := by decide +kernel
theorem dX0_rowBits_6 : decode cX0_rowBits 6 = .ok (.imul, 1) := by decide +kernel
theorem dX0_rowBits_7 : decode cX0_rowBits 7 = .ok (.ishl, 1) := by decide +kernel
theorem dX0_rowBits_8 : decode cX0_rowBits 8 = .ok (.iconst 1, 1) := by decide +kernel
theorem dX0_rowBits_9 : decode cX0_rowBits 9 = .ok (.isub, 1) := by decide +kernel
theorem dX0_rowBits_10 : decode cX0_rowBits 10 = .ok (.ireturn, 1) := by decide +kernel
set_option maxRecDepth 20000 in
theorem ggX0_heightAt_X0_has : GoodIn wsX0_heightAt wsX0_has := goodIn_r _ [15, 2, 10, 25, 26, 27, 28, 29] (by decide +kernel) (by decide +kernel)
set_option maxRecDepth 20000 in
theorem gX0_heightAt_X0_has : GoodIn wsX0_heightAt (wsV RX0 55 RX0 yX0_has wsX0_has) := goodIn_app (goodIn_of _ (by decide +kernel)) ggX0_heightAt_X0_has
set_option maxRecDepth 20000 in
theorem ggX0_heightAt_X0_numberOf : GoodIn wsX0_heightAt wsX0_numberOf := goodIn_r _ [19, 2, 25, 26, 27, 28, 29] (by decide +kernel) (by decide +kernel)
set_option maxRecDepth 20000 in
theorem gX0_heightAt_X0_numberOf : GoodIn wsX0_heightAt (wsV RX0 59 RX0 yX0_numberOf wsX0_numberOf) := goodIn_app (goodIn_of _ (by decide +kernel)) ggX0_heightAt_X0_numberOf
set_option maxRecDepth 20000 in
theorem ggX0_heightAt_X0_heightOf : GoodIn wsX0_heightAt wsX0_heightOf := goodIn_r _ [23, 24, 25, 26, 27, 28, 29] (by decide +kernel) (by decide +kernel)
set_option maxRecDepth 20000 in
theorem gX0_heightAt_X0_heightOf : GoodIn wsX0_heightAt (wsV RX0 46 RX0 yX0_heightOf wsX0_heightOf) := goodIn_app (goodIn_of _ (by decide +kernel)) ggX0_heightAt_X0_heightOf
theorem dX0_heightAt_0 : decode cX0_heightAt 0 = .ok (.aload_n 0, 1) := by decide +kernel
theorem dX0_heightAt_1 : decode cX0_heightAt 1 = .ok (.iload_n 1, 1) := by decide +kernel
theorem dX0_heightAt_2 : decode cX0_heightAt 2 = .ok (.iload_n 2, 1) := by decide +kernel
theorem dX0_heightAt_3 : decode cX0_heightAt 3 = .ok (.invokevirtual 55, 3) := by decide +kernel
theorem dX0_heightAt_6 : decode cX0_heightAt 6 = .ok (.ifCond .eq 14, 3) := by decide +kernel
theorem dX0_heightAt_9 : decode cX0_heightAt 9 = .ok (.aload_n 0, 1) := by decide +kernel
theorem dX0_heightAt_10 : decode cX0_heightAt 10 = .ok (.aload_n 0, 1) := by decide +kernel
theorem dX0_heightAt_11 : decode cX0_heightAt 11 = .ok (.iload_n 1, 1) := by decide +kernel
theorem dX0_heightAt_12 : decode cX0_heightAt 12 = .ok (.iload_n 2, 1) := by decide +kernel
theorem dX0_heightAt_13 : decode cX0_heightAt 13 = .ok (.invokevirtual 59, 3) := by decide +kernel
theorem dX0_heightAt_16 : decode cX0_heightAt 16 = .ok (.invokevirtual 46, 3) := by decide +kernel
theorem dX0_heightAt_19 : decode cX0_heightAt 19 = .ok (.ireturn, 1) := by decide +kernel
theorem dX0_heightAt_20 : decode cX0_heightAt 20 = .ok (.aload_n 0, 1) := by decide +kernel
theorem dX0_heightAt_21 : decode cX0_heightAt 21 = .ok (.getfield 18, 3) := by decide +kernel
theorem dX0_heightAt_24 : decode cX0_heightAt 24 = .ok (.bipush (-9), 2) := by decide +kernel
theorem dX0_heightAt_26 : decode cX0_heightAt 26 = .ok (.if_icmp .eq 8, 3) := by decide +kernel
theorem dX0_heightAt_29 : decode cX0_heightAt 29 = .ok (.aload_n 0, 1) := by decide +kernel
theorem dX0_heightAt_30 : decode cX0_heightAt 30 = .ok (.getfield 18, 3) := by decide +kernel
theorem dX0_heightAt_33 : decode cX0_heightAt 33 = .ok (.ireturn, 1) := by decide +kernel
theorem dX0_heightAt_34 : decode cX0_heightAt 34 = .ok (.iconst 0, 1) := by decide +kernel
theorem dX0_heightAt_35 : decode cX0_heightAt 35 = .ok (.iload_n 1, 1) := by decide +kernel
theorem dX0_heightAt_36 : decode cX0_heightAt 36 = .ok (.aload_n 0, 1) := by decide +kernel
theorem dX0_heightAt_37 : decode cX0_heightAt 37 = .ok (.getfield 9, 3) := by decide +kernel
theorem dX0_heightAt_40 : decode cX0_heightAt 40 = .ok (.iconst 1, 1) := by decide +kernel
theorem dX0_heightAt_41 : decode cX0_heightAt 41 = .ok (.isub, 1) := by decide +kernel
theorem dX0_heightAt_42 : decode cX0_heightAt 42 = .ok (.invokestatic 63, 3) := by decide +kernel
theorem dX0_heightAt_45 : decode cX0_heightAt 45 = .ok (.invokestatic 68, 3) := by decide +kernel
theorem dX0_heightAt_48 : decode cX0_heightAt 48 = .ok (.istore_n 3, 1) := by decide +kernel
theorem dX0_heightAt_49 : decode cX0_heightAt 49 = .ok (.iconst 0, 1) := by decide +kernel
theorem dX0_heightAt_50 : decode cX0_heightAt 50 = .ok (.iload_n 2, 1) := by decide +kernel
theorem dX0_heightAt_51 : decode cX0_heightAt 51 = .ok (.aload_n 0, 1) := by decide +kernel
theorem dX0_heightAt_52 : decode cX0_heightAt 52 = .ok (.getfield 15, 3) := by decide +kernel
theorem dX0_heightAt_55 : decode cX0_heightAt 55 = .ok (.iconst 1, 1) := by decide +kernel
theorem dX0_heightAt_56 : decode cX0_heightAt 56 = .ok (.isub, 1) := by decide +kernel
theorem dX0_heightAt_57 : decode cX0_heightAt 57 = .ok (.invokestatic 63, 3) := by decide +kernel
theorem dX0_heightAt_60 : decode cX0_heightAt 60 = .ok (.invokestatic 68, 3) := by decide +kernel
theorem dX0_heightAt_63 : decode cX0_heightAt 63 = .ok (.istore 4, 2) := by decide +kernel
theorem dX0_heightAt_65 : decode cX0_heightAt 65 = .ok (.aload_n 0, 1) := by decide +kernel
theorem dX0_heightAt_66 : decode cX0_heightAt 66 = .ok (.aload_n 0, 1) := by decide +kernel
theorem dX0_heightAt_67 : decode cX0_heightAt 67 = .ok (.iload_n 3, 1) := by decide +kernel
theorem dX0_heightAt_68 : decode cX0_heightAt 68 = .ok (.iload 4, 2) := by decide +kernel
theorem dX0_heightAt_70 : decode cX0_heightAt 70 = .ok (.invokevirtual 59, 3) := by decide +kernel
theorem dX0_heightAt_73 : decode cX0_heightAt 73 = .ok (.invokevirtual 46, 3) := by decide +kernel
theorem dX0_heightAt_76 : decode cX0_heightAt 76 = .ok (.ireturn, 1) := by decide +kernel
set_option maxRecDepth 20000 in
theorem ggX0_maskOf_X0_heightAt : GoodIn wsX0_maskOf wsX0_heightAt := goodIn_r _ [7, 8, 9, 10, 11, 12, 13, 14, 15, 16, 17, 18, 19, 20, 6, 21, 22, 23, 24, 25, 26, 27, 28, 29, 30, 31, 32, 33, 34, 35] (by decide +kernel) (by decide +kernel)
set_option maxRecDepth 20000 in
theorem gX0_maskOf_X0_heightAt : GoodIn wsX0_maskOf (wsV RX0 78 RX0 yX0_heightAt wsX0_heightAt) := goodIn_app (goodIn_of _ (by decide +kernel)) ggX0_maskOf_X0_heightAt
theorem dX0_maskOf_0 : decode cX0_maskOf 0 = .ok (.iconst 0, 1) := by decide +kernel
theorem dX0_maskOf_1 : decode cX0_maskOf 1 = .ok (.istore 4, 2) := by decide +kernel
theorem dX0_maskOf_3 : decode cX0_maskOf 3 = .ok (.iconst 0, 1) := by decide +kernel
theorem dX0_maskOf_4 : decode cX0_maskOf 4 = .ok (.istore 5, 2) := by decide +kernel
theorem dX0_maskOf_6 : decode cX0_maskOf 6 = .ok (.iload 5, 2) := by decide +kernel
theorem dX0_maskOf_8 : decode cX0_maskOf 8 = .ok (.bipush 8, 2) := by decide +kernel
theorem dX0_maskOf_10 : decode cX0_maskOf 10 = .ok (.if_icmp .ge 42, 3) := by decide +kernel
theorem dX0_maskOf_13 : decode cX0_maskOf 13 = .ok (.aload_n 0, 1) := by decide +kernel
theorem dX0_maskOf_14 : decode cX0_maskOf 14 = .ok (.iload_n 1, 1) := by decide +kernel
theorem dX0_maskOf_15 : decode cX0_maskOf 15 = .ok (.getstatic 71, 3) := by decide +kernel
theorem dX0_maskOf_18 : decode cX0_maskOf 18 = .ok (.iload 5, 2) := by decide +kernel
theorem dX0_maskOf_20 : decode cX0_maskOf 20 = .ok (.iaload, 1) := by decide +kernel
theorem dX0_maskOf_21 : decode cX0_maskOf 21 = .ok (.iadd, 1) := by decide +kernel
theorem dX0_maskOf_22 : decode cX0_maskOf 22 = .ok (.iload_n 2, 1) := by decide +kernel
theorem dX0_maskOf_23 : decode cX0_maskOf 23 = .ok (.getstatic 75, 3) := by decide +kernel
theorem dX0_maskOf_26 : decode cX0_maskOf 26 = .ok (.iload 5, 2) := by decide +kernel
theorem dX0_maskOf_28 : decode cX0_maskOf 28 = .ok (.iaload, 1) := by decide +kernel
theorem dX0_maskOf_29 : decode cX0_maskOf 29 = .ok (.iadd, 1) := by decide +kernel
theorem dX0_maskOf_30 : decode cX0_maskOf 30 = .ok (.invokevirtual 78, 3) := by decide +kernel
theorem dX0_maskOf_33 : decode cX0_maskOf 33 = .ok (.iload_n 3, 1) := by decide +kernel
theorem dX0_maskOf_34 : decode cX0_maskOf 34 = .ok (.if_icmp .lt 12, 3) := by decide +kernel
theorem dX0_maskOf_37 : decode cX0_maskOf 37 = .ok (.iload 4, 2) := by decide +kernel
theorem dX0_maskOf_39 : decode cX0_maskOf 39 = .ok (.iconst 1, 1) := by decide +kernel
theorem dX0_maskOf_40 : decode cX0_maskOf 40 = .ok (.iload 5, 2) := by decide +kernel
theorem dX0_maskOf_42 : decode cX0_maskOf 42 = .ok (.ishl, 1) := by decide +kernel
theorem dX0_maskOf_43 : decode cX0_maskOf 43 = .ok (.ior, 1) := by decide +kernel
theorem dX0_maskOf_44 : decode cX0_maskOf 44 = .ok (.istore 4, 2) := by decide +kernel
theorem dX0_maskOf_46 : decode cX0_maskOf 46 = .ok (.iinc 5 1, 3) := by decide +kernel
theorem dX0_maskOf_49 : decode cX0_maskOf 49 = .ok (.goto (-43), 3) := by decide +kernel
theorem dX0_maskOf_52 : decode cX0_maskOf 52 = .ok (.iload 4, 2) := by decide +kernel
theorem dX0_maskOf_54 : decode cX0_maskOf 54 = .ok (.istore 5, 2) := by decide +kernel
theorem dX0_maskOf_56 : decode cX0_maskOf 56 = .ok (.iconst 1, 1) := by decide +kernel
theorem dX0_maskOf_57 : decode cX0_maskOf 57 = .ok (.istore 6, 2) := by decide +kernel
theorem dX0_maskOf_59 : decode cX0_maskOf 59 = .ok (.iload 6, 2) := by decide +kernel
theorem dX0_maskOf_61 : decode cX0_maskOf 61 = .ok (.bipush 8, 2) := by decide +kernel
theorem dX0_maskOf_63 : decode cX0_maskOf 63 = .ok (.if_icmp .ge 48, 3) := by decide +kernel
theorem dX0_maskOf_66 : decode cX0_maskOf 66 = .ok (.iconst 1, 1) := by decide +kernel
theorem dX0_maskOf_67 : decode cX0_maskOf 67 = .ok (.iload 6, 2) := by decide +kernel
theorem dX0_maskOf_69 : decode cX0_maskOf 69 = .ok (.iconst 1, 1) := by decide +kernel
theorem dX0_maskOf_70 : decode cX0_maskOf 70 = .ok (.isub, 1) := by decide +kernel
theorem dX0_maskOf_71 : decode cX0_maskOf 71 = .ok (.ishl, 1) := by decide +kernel
theorem dX0_maskOf_72 : decode cX0_maskOf 72 = .ok (.iconst 1, 1) := by decide +kernel
theorem dX0_maskOf_73 : decode cX0_maskOf 73 = .ok (.iload 6, 2) := by decide +kernel
theorem dX0_maskOf_75 : decode cX0_maskOf 75 = .ok (.iconst 1, 1) := by decide +kernel
theorem dX0_maskOf_76 : decode cX0_maskOf 76 = .ok (.iadd, 1) := by decide +kernel
theorem dX0_maskOf_77 : decode cX0_maskOf 77 = .ok (.bipush 7, 2) := by decide +kernel
theorem dX0_maskOf_79 : decode cX0_maskOf 79 = .ok (.iand, 1) := by decide +kernel
theorem dX0_maskOf_80 : decode cX0_maskOf 80 = .ok (.ishl, 1) := by decide +kernel
theorem dX0_maskOf_81 : decode cX0_maskOf 81 = .ok (.ior, 1) := by decide +kernel
theorem dX0_maskOf_82 : decode cX0_maskOf 82 = .ok (.istore 7, 2) := by decide +kernel
theorem dX0_maskOf_84 : decode cX0_maskOf 84 = .ok (.iload 4, 2) := by decide +kernel
theorem dX0_maskOf_86 : decode cX0_maskOf 86 = .ok (.iload 7, 2) := by decide +kernel
theorem dX0_maskOf_88 : decode cX0_maskOf 88 = .ok (.iand, 1) := by decide +kernel
theorem dX0_maskOf_89 : decode cX0_maskOf 89 = .ok (.iload 7, 2) := by decide +kernel
theorem dX0_maskOf_91 : decode cX0_maskOf 91 = .ok (.if_icmp .eq 14, 3) := by decide +kernel
theorem dX0_maskOf_94 : decode cX0_maskOf 94 = .ok (.iload 5, 2) := by decide +kernel
theorem dX0_maskOf_96 : decode cX0_maskOf 96 = .ok (.iconst 1, 1) := by decide +kernel
theorem dX0_maskOf_97 : decode cX0_maskOf 97 = .ok (.iload 6, 2) := by decide +kernel
theorem dX0_maskOf_99 : decode cX0_maskOf 99 = .ok (.ishl, 1) := by decide +kernel
theorem dX0_maskOf_100 : decode cX0_maskOf 100 = .ok (.iconst (-1), 1) := by decide +kernel
theorem dX0_maskOf_101 : decode cX0_maskOf 101 = .ok (.ixor, 1) := by decide +kernel
theorem dX0_maskOf_102 : decode cX0_maskOf 102 = .ok (.iand, 1) := by decide +kernel
theorem dX0_maskOf_103 : decode cX0_maskOf 103 = .ok (.istore 5, 2) := by decide +kernel
theorem dX0_maskOf_105 : decode cX0_maskOf 105 = .ok (.iinc 6 2, 3) := by decide +kernel
theorem dX0_maskOf_108 : decode cX0_maskOf 108 = .ok (.goto (-49), 3) := by decide +kernel
theorem dX0_maskOf_111 : decode cX0_maskOf 111 = .ok (.iload 5, 2) := by decide +kernel
theorem dX0_maskOf_113 : decode cX0_maskOf 113 = .ok (.ireturn, 1) := by decide +kernel
set_option maxRecDepth 20000 in
theorem ggX0_squareOf_X0_heightAt : GoodIn wsX0_squareOf wsX0_heightAt := goodIn_r _ [6, 7, 8, 9, 10, 11, 12, 13, 14, 15, 16, 17, 18, 19, 5, 20, 21, 22, 23, 24, 25, 26, 27, 28, 29, 36, 37, 38, 39, 40] (by decide +kernel) (by decide +kernel)
set_option maxRecDepth 20000 in
theorem gX0_squareOf_X0_heightAt : GoodIn wsX0_squareOf (wsV RX0 78 RX0 yX0_heightAt wsX0_heightAt) := goodIn_app (goodIn_of _ (by decide +kernel)) ggX0_squareOf_X0_heightAt
set_option maxRecDepth 20000 in
theorem ggX0_squareOf_X0_maskOf : GoodIn wsX0_squareOf wsX0_maskOf := goodIn_r _ [33, 34, 35, 2, 3, 4, 5, 6, 7, 8, 9, 10, 11, 12, 13, 14, 15, 16, 17, 18, 19, 20, 21, 22, 23, 24, 25, 26, 27, 28, 29, 36, 37, 38, 39, 40] (by decide +kernel) (by decide +kernel)
set_option maxRecDepth 20000 in
theorem gX0_squareOf_X0_maskOf : GoodIn wsX0_squareOf (wsV RX0 81 RX0 yX0_maskOf wsX0_maskOf) := goodIn_app (goodIn_of _ (by decide +kernel)) ggX0_squareOf_X0_maskOf
theorem dX0_squareOf_0 : decode cX0_squareOf 0 = .ok (.aload_n 0, 1) := by decide +kernel
theorem dX0_squareOf_1 : decode cX0_squareOf 1 = .ok (.iload_n 1, 1) := by decide +kernel
theorem dX0_squareOf_2 : decode cX0_squareOf 2 = .ok (.iload_n 2, 1) := by decide +kernel
theorem dX0_squareOf_3 : decode cX0_squareOf 3 = .ok (.invokevirtual 78, 3) := by decide +kernel
theorem dX0_squareOf_6 : decode cX0_squareOf 6 = .ok (.iload_n 3, 1) := by decide +kernel
theorem dX0_squareOf_7 : decode cX0_squareOf 7 = .ok (.if_icmp .ge 6, 3) := by decide +kernel
theorem dX0_squareOf_10 : decode cX0_squareOf 10 = .ok (.bipush 47, 2) := by decide +kernel
theorem dX0_squareOf_12 : decode cX0_squareOf 12 = .ok (.ireturn, 1) := by decide +kernel
theorem dX0_squareOf_13 : decode cX0_squareOf 13 = .ok (.aload_n 0, 1) := by decide +kernel
theorem dX0_squareOf_14 : decode cX0_squareOf 14 = .ok (.iload_n 1, 1) := by decide +kernel
theorem dX0_squareOf_15 : decode cX0_squareOf 15 = .ok (.iload_n 2, 1) := by decide +kernel
theorem dX0_squareOf_16 : decode cX0_squareOf 16 = .ok (.iload_n 3, 1) := by decide +kernel
theorem dX0_squareOf_17 : decode cX0_squareOf 17 = .ok (.invokevirtual 81, 3) := by decide +kernel
theorem dX0_squareOf_20 : decode cX0_squareOf 20 = .ok (.istore 4, 2) := by decide +kernel
theorem dX0_squareOf_22 : decode cX0_squareOf 22 = .ok (.iconst 0, 1) := by decide +kernel
theorem dX0_squareOf_23 : decode cX0_squareOf 23 = .ok (.istore 5, 2) := by decide +kernel
theorem dX0_squareOf_25 : decode cX0_squareOf 25 = .ok (.iload 5, 2) := by decide +kernel
theorem dX0_squareOf_27 : decode cX0_squareOf 27 = .ok (.getstatic 85, 3) := by decide +kernel
theorem dX0_squareOf_30 : decode cX0_squareOf 30 = .ok (.arraylength, 1) := by decide +kernel
theorem dX0_squareOf_31 : decode cX0_squareOf 31 = .ok (.if_icmp .ge 20, 3) := by decide +kernel
theorem dX0_squareOf_34 : decode cX0_squareOf 34 = .ok (.getstatic 85, 3) := by decide +kernel
theorem dX0_squareOf_37 : decode cX0_squareOf 37 = .ok (.iload 5, 2) := by decide +kernel
theorem dX0_squareOf_39 : decode cX0_squareOf 39 = .ok (.iaload, 1) := by decide +kernel
theorem dX0_squareOf_40 : decode cX0_squareOf 40 = .ok (.iload 4, 2) := by decide +kernel
theorem dX0_squareOf_42 : decode cX0_squareOf 42 = .ok (.if_icmp .ge 9, 3) := by decide +kernel
theorem dX0_squareOf_45 : decode cX0_squareOf 45 = .ok (.iinc 5 1, 3) := by decide +kernel
theorem dX0_squareOf_48 : decode cX0_squareOf 48 = .ok (.goto (-23), 3) := by decide +kernel
theorem dX0_squareOf_51 : decode cX0_squareOf 51 = .ok (.iload 5, 2) := by decide +kernel
theorem dX0_squareOf_53 : decode cX0_squareOf 53 = .ok (.ireturn, 1) := by decide +kernel
set_option maxRecDepth 20000 in
theorem ggX0_rowOfSquares_X0_squareOf : GoodIn wsX0_rowOfSquares wsX0_squareOf := goodIn_r _ [5, 6, 7, 8, 9, 4, 10, 11, 12, 13, 14, 15, 16, 17, 18, 19, 20, 21, 22, 23, 24, 25, 26, 27, 28, 29, 30, 31, 32, 33, 34, 35, 36, 37, 38, 39, 40, 41, 42, 43, 44] (by decide +kernel) (by decide +kernel)
set_option maxRecDepth 20000 in
theorem gX0_rowOfSquares_X0_squareOf : GoodIn wsX0_rowOfSquares (wsV RX0 88 RX0 yX0_squareOf wsX0_squareOf) := goodIn_app (goodIn_of _ (by decide +kernel)) ggX0_rowOfSquares_X0_squareOf
theorem dX0_rowOfSquares_0 : decode cX0_rowOfSquares 0 = .ok (.iconst 0, 1) := by decide +kernel
theorem dX0_rowOfSquares_1 : decode cX0_rowOfSquares 1 = .ok (.istore_n 3, 1) := by decide +kernel
theorem dX0_rowOfSquares_2 : decode cX0_rowOfSquares 2 = .ok (.iconst 3, 1) := by decide +kernel
theorem dX0_rowOfSquares_3 : decode cX0_rowOfSquares 3 = .ok (.istore 4, 2) := by decide +kernel
theorem dX0_rowOfSquares_5 : decode cX0_rowOfSquares 5 = .ok (.iload 4, 2) := by decide +kernel
theorem dX0_rowOfSquares_7 : decode cX0_rowOfSquares 7 = .ok (.iconst 1, 1) := by decide +kernel
theorem dX0_rowOfSquares_8 : decode cX0_rowOfSquares 8 = .ok (.if_icmp .lt 23, 3) := by decide +kernel
theorem dX0_rowOfSquares_11 : decode cX0_rowOfSquares 11 = .ok (.iload_n 3, 1) := by decide +kernel
theorem dX0_rowOfSquares_12 : decode cX0_rowOfSquares 12 = .ok (.bipush 6, 2) := by decide +kernel
theorem dX0_rowOfSquares_14 : decode cX0_rowOfSquares 14 = .ok (.ishl, 1) := by decide +kernel
theorem dX0_rowOfSquares_15 : decode cX0_rowOfSquares 15 = .ok (.aload_n 0, 1) := by decide +kernel
theorem dX0_rowOfSquares_16 : decode cX0_rowOfSquares 16 = .ok (.iload_n 1, 1) := by decide +kernel
theorem dX0_rowOfSquares_17 : decode cX0_rowOfSquares 17 = .ok (.iload_n 2, 1) := by decide +kernel
theorem dX0_rowOfSquares_18 : decode cX0_rowOfSquares 18 = .ok (.iload 4, 2) := by decide +kernel
theorem dX0_rowOfSquares_20 : decode cX0_rowOfSquares 20 = .ok (.invokevirtual 88, 3) := by decide +kernel
theorem dX0_rowOfSquares_23 : decode cX0_rowOfSquares 23 = .ok (.ior, 1) := by decide +kernel
theorem dX0_rowOfSquares_24 : decode cX0_rowOfSquares 24 = .ok (.istore_n 3, 1) := by decide +kernel
theorem dX0_rowOfSquares_25 : decode cX0_rowOfSquares 25 = .ok (.iinc 4 (-1), 3) := by decide +kernel
theorem dX0_rowOfSquares_28 : decode cX0_rowOfSquares 28 = .ok (.goto (-23), 3) := by decide +kernel
theorem dX0_rowOfSquares_31 : decode cX0_rowOfSquares 31 = .ok (.iload_n 3, 1) := by decide +kernel
theorem dX0_rowOfSquares_32 : decode cX0_rowOfSquares 32 = .ok (.ireturn, 1) := by decide +kernel
set_option maxRecDepth 20000 in
theorem ggX0_jarringPairs_X0_jarringAheadOf : GoodIn wsX0_jarringPairs wsX0_jarringAheadOf := goodIn_r _ [7, 8, 9, 10, 11, 12, 13, 14, 15, 16, 6, 17, 2, 18, 19, 20, 21, 22, 23, 24, 25, 26, 1, 27, 28, 29, 30, 31] (by decide +kernel) (by decide +kernel)
set_option maxRecDepth 20000 in
theorem gX0_jarringPairs_X0_jarringAheadOf : GoodIn wsX0_jarringPairs (wsV RX0 91 RX0 yX0_jarringAheadOf wsX0_jarringAheadOf) := goodIn_app (goodIn_of _ (by decide +kernel)) ggX0_jarringPairs_X0_jarringAheadOf
theorem dX0_jarringPairs_0 : decode cX0_jarringPairs 0 = .ok (.iconst 0, 1) := by decide +kernel
theorem dX0_jarringPairs_1 : decode cX0_jarringPairs 1 = .ok (.istore_n 1, 1) := by decide +kernel
theorem dX0_jarringPairs_2 : decode cX0_jarringPairs 2 = .ok (.iconst 0, 1) := by decide +kernel
theorem dX0_jarringPairs_3 : decode cX0_jarringPairs 3 = .ok (.istore_n 2, 1) := by decide +kernel
theorem dX0_jarringPairs_4 : decode cX0_jarringPairs 4 = .ok (.iload_n 2, 1) := by decide +kernel
theorem dX0_jarringPairs_5 : decode cX0_jarringPairs 5 = .ok (.aload_n 0, 1) := by decide +kernel
theorem dX0_jarringPairs_6 : decode cX0_jarringPairs 6 = .ok (.getfield 15, 3) := by decide +kernel
theorem dX0_jarringPairs_9 : decode cX0_jarringPairs 9 = .ok (.if_icmp .ge 34, 3) := by decide +kernel
theorem dX0_jarringPairs_12 : decode cX0_jarringPairs 12 = .ok (.iconst 0, 1) := by decide +kernel
theorem dX0_jarringPairs_13 : decode cX0_jarringPairs 13 = .ok (.istore_n 3, 1) := by decide +kernel
theorem dX0_jarringPairs_14 : decode cX0_jarringPairs 14 = .ok (.iload_n 3, 1) := by decide +kernel
theorem dX0_jarringPairs_15 : decode cX0_jarringPairs 15 = .ok (.aload_n 0, 1) := by decide +kernel
theorem dX0_jarringPairs_16 : decode cX0_jarringPairs 16 = .ok (.getfield 9, 3) := by decide +kernel
theorem dX0_jarringPairs_19 : decode cX0_jarringPairs 19 = .ok (.if_icmp .ge 18, 3) := by decide +kernel
theorem dX0_jarringPairs_22 : decode cX0_jarringPairs 22 = .ok (.iload_n 1, 1) := by decide +kernel
theorem dX0_jarringPairs_23 : decode cX0_jarringPairs 23 = .ok (.aload_n 0, 1) := by decide +kernel
theorem dX0_jarringPairs_24 : decode cX0_jarringPairs 24 = .ok (.iload_n 3, 1) := by decide +kernel
theorem dX0_jarringPairs_25 : decode cX0_jarringPairs 25 = .ok (.iload_n 2, 1) := by decide +kernel
theorem dX0_jarringPairs_26 : decode cX0_jarringPairs 26 = .ok (.invokevirtual 91, 3) := by decide +kernel
theorem dX0_jarringPairs_29 : decode cX0_jarringPairs 29 = .ok (.iadd, 1) := by decide +kernel
theorem dX0_jarringPairs_30 : decode cX0_jarringPairs 30 = .ok (.istore_n 1, 1) := by decide +kernel
theorem dX0_jarringPairs_31 : decode cX0_jarringPairs 31 = .ok (.iinc 3 1, 3) := by decide +kernel
theorem dX0_jarringPairs_34 : decode cX0_jarringPairs 34 = .ok (.goto (-20), 3) := by decide +kernel
theorem dX0_jarringPairs_37 : decode cX0_jarringPairs 37 = .ok (.iinc 2 1, 3) := by decide +kernel
theorem dX0_jarringPairs_40 : decode cX0_jarringPairs 40 = .ok (.goto (-36), 3) := by decide +kernel
theorem dX0_jarringPairs_43 : decode cX0_jarringPairs 43 = .ok (.iload_n 1, 1) := by decide +kernel
theorem dX0_jarringPairs_44 : decode cX0_jarringPairs 44 = .ok (.ireturn, 1) := by decide +kernel
set_option maxRecDepth 20000 in
theorem ggX0_jarringAheadOf_X0_numberOf : GoodIn wsX0_jarringAheadOf wsX0_numberOf := goodIn_r _ [11, 12, 23, 24, 25, 26, 27] (by decide +kernel) (by decide +kernel)
set_option maxRecDepth 20000 in
theorem gX0_jarringAheadOf_X0_numberOf : GoodIn wsX0_jarringAheadOf (wsV RX0 59 RX0 yX0_numberOf wsX0_numberOf) := goodIn_app (goodIn_of _ (by decide +kernel)) ggX0_jarringAheadOf_X0_numberOf
set_option maxRecDepth 20000 in
theorem ggX0_jarringAheadOf_X0_heightOf : GoodIn wsX0_jarringAheadOf wsX0_heightOf := goodIn_r _ [16, 17, 23, 24, 25, 26, 27] (by decide +kernel) (by decide +kernel)
set_option maxRecDepth 20000 in
theorem gX0_jarringAheadOf_X0_heightOf : GoodIn wsX0_jarringAheadOf (wsV RX0 46 RX0 yX0_heightOf wsX0_heightOf) := goodIn_app (goodIn_of _ (by decide +kernel)) ggX0_jarringAheadOf_X0_heightOf
set_option maxRecDepth 20000 in
theorem ggX0_jarringAheadOf_X0_has : GoodIn wsX0_jarringAheadOf wsX0_has := goodIn_r _ [21, 12, 22, 23, 24, 25, 26, 27] (by decide +kernel) (by decide +kernel)
set_option maxRecDepth 20000 in
theorem gX0_jarringAheadOf_X0_has : GoodIn wsX0_jarringAheadOf (wsV RX0 55 RX0 yX0_has wsX0_has) := goodIn_app (goodIn_of _ (by decide +kernel)) ggX0_jarringAheadOf_X0_has
theorem dX0_jarringAheadOf_0 : decode cX0_jarringAheadOf 0 = .ok (.aload_n 0, 1) := by decide +kernel
theorem dX0_jarringAheadOf_1 : decode cX0_jarringAheadOf 1 = .ok (.aload_n 0, 1) := by decide +kernel
theorem dX0_jarringAheadOf_2 : decode cX0_jarringAheadOf 2 = .ok (.iload_n 1, 1) := by decide +kernel
theorem dX0_jarringAheadOf_3 : decode cX0_jarringAheadOf 3 = .ok (.iload_n 2, 1) := by decide +kernel
theorem dX0_jarringAheadOf_4 : decode cX0_jarringAheadOf 4 = .ok (.invokevirtual 59, 3) := by decide +kernel
theorem dX0_jarringAheadOf_7 : decode cX0_jarringAheadOf 7 = .ok (.invokevirtual 46, 3) := by decide +kernel
theorem dX0_jarringAheadOf_10 : decode cX0_jarringAheadOf 10 = .ok (.istore_n 3, 1) := by decide +kernel
theorem dX0_jarringAheadOf_11 : decode cX0_jarringAheadOf 11 = .ok (.iconst 0, 1) := by decide +kernel
theorem dX0_jarringAheadOf_12 : decode cX0_jarringAheadOf 12 = .ok (.istore 4, 2) := by decide +kernel
theorem dX0_jarringAheadOf_14 : decode cX0_jarringAheadOf 14 = .ok (.iconst 2, 1) := by decide +kernel
theorem dX0_jarringAheadOf_15 : decode cX0_jarringAheadOf 15 = .ok (.istore 5, 2) := by decide +kernel
theorem dX0_jarringAheadOf_17 : decode cX0_jarringAheadOf 17 = .ok (.iload 5, 2) := by decide +kernel
theorem dX0_jarringAheadOf_19 : decode cX0_jarringAheadOf 19 = .ok (.iconst 5, 1) := by decide +kernel
theorem dX0_jarringAheadOf_20 : decode cX0_jarringAheadOf 20 = .ok (.if_icmp .gt 64, 3) := by decide +kernel
theorem dX0_jarringAheadOf_23 : decode cX0_jarringAheadOf 23 = .ok (.iload_n 1, 1) := by decide +kernel
theorem dX0_jarringAheadOf_24 : decode cX0_jarringAheadOf 24 = .ok (.getstatic 71, 3) := by decide +kernel
theorem dX0_jarringAheadOf_27 : decode cX0_jarringAheadOf 27 = .ok (.iload 5, 2) := by decide +kernel
theorem dX0_jarringAheadOf_29 : decode cX0_jarringAheadOf 29 = .ok (.iaload, 1) := by decide +kernel
theorem dX0_jarringAheadOf_30 : decode cX0_jarringAheadOf 30 = .ok (.iadd, 1) := by decide +kernel
theorem dX0_jarringAheadOf_31 : decode cX0_jarringAheadOf 31 = .ok (.istore 6, 2) := by decide +kernel
theorem dX0_jarringAheadOf_33 : decode cX0_jarringAheadOf 33 = .ok (.iload_n 2, 1) := by decide +kernel
theorem dX0_jarringAheadOf_34 : decode cX0_jarringAheadOf 34 = .ok (.getstatic 75, 3) := by decide +kernel
theorem dX0_jarringAheadOf_37 : decode cX0_jarringAheadOf 37 = .ok (.iload 5, 2) := by decide +kernel
theorem dX0_jarringAheadOf_39 : decode cX0_jarringAheadOf 39 = .ok (.iaload, 1) := by decide +kernel
theorem dX0_jarringAheadOf_40 : decode cX0_jarringAheadOf 40 = .ok (.iadd, 1) := by decide +kernel
theorem dX0_jarringAheadOf_41 : decode cX0_jarringAheadOf 41 = .ok (.istore 7, 2) := by decide +kernel
theorem dX0_jarringAheadOf_43 : decode cX0_jarringAheadOf 43 = .ok (.aload_n 0, 1) := by decide +kernel
theorem dX0_jarringAheadOf_44 : decode cX0_jarringAheadOf 44 = .ok (.iload 6, 2) := by decide +kernel
theorem dX0_jarringAheadOf_46 : decode cX0_jarringAheadOf 46 = .ok (.iload 7, 2) := by decide +kernel
theorem dX0_jarringAheadOf_48 : decode cX0_jarringAheadOf 48 = .ok (.invokevirtual 55, 3) := by decide +kernel
theorem dX0_jarringAheadOf_51 : decode cX0_jarringAheadOf 51 = .ok (.ifCond .eq 27, 3) := by decide +kernel
theorem dX0_jarringAheadOf_54 : decode cX0_jarringAheadOf 54 = .ok (.aload_n 0, 1) := by decide +kernel
theorem dX0_jarringAheadOf_55 : decode cX0_jarringAheadOf 55 = .ok (.aload_n 0, 1) := by decide +kernel
theorem dX0_jarringAheadOf_56 : decode cX0_jarringAheadOf 56 = .ok (.iload 6, 2) := by decide +kernel
theorem dX0_jarringAheadOf_58 : decode cX0_jarringAheadOf 58 = .ok (.iload 7, 2) := by decide +kernel
theorem dX0_jarringAheadOf_60 : decode cX0_jarringAheadOf 60 = .ok (.invokevirtual 59, 3) := by decide +kernel
theorem dX0_jarringAheadOf_63 : decode cX0_jarringAheadOf 63 = .ok (.invokevirtual 46, 3) := by decide +kernel
theorem dX0_jarringAheadOf_66 : decode cX0_jarringAheadOf 66 = .ok (.iload_n 3, 1) := by decide +kernel
theorem dX0_jarringAheadOf_67 : decode cX0_jarringAheadOf 67 = .ok (.isub, 1) := by decide +kernel
theorem dX0_jarringAheadOf_68 : decode cX0_jarringAheadOf 68 = .ok (.invokestatic 94, 3) := by decide +kernel
theorem dX0_jarringAheadOf_71 : decode cX0_jarringAheadOf 71 = .ok (.iconst 1, 1) := by decide +kernel
theorem dX0_jarringAheadOf_72 : decode cX0_jarringAheadOf 72 = .ok (.if_icmp .le 6, 3) := by decide +kernel
theorem dX0_jarringAheadOf_75 : decode cX0_jarringAheadOf 75 = .ok (.iinc 4 1, 3) := by decide +kernel
theorem dX0_jarringAheadOf_78 : decode cX0_jarringAheadOf 78 = .ok (.iinc 5 1, 3) := by decide +kernel
theorem dX0_jarringAheadOf_81 : decode cX0_jarringAheadOf 81 = .ok (.goto (-64), 3) := by decide +kernel
theorem dX0_jarringAheadOf_84 : decode cX0_jarringAheadOf 84 = .ok (.iload 4, 2) := by decide +kernel
theorem dX0_jarringAheadOf_86 : decode cX0_jarringAheadOf 86 = .ok (.ireturn, 1) := by decide +kernel
set_option maxRecDepth 20000 in
theorem ggX0_floodedFrom_X0_cells : GoodIn wsX0_floodedFrom wsX0_cells := goodIn_r _ [7, 2, 1, 13, 14, 15, 16, 17] (by decide +kernel) (by decide +kernel)
set_option maxRecDepth 20000 in
theorem gX0_floodedFrom_X0_cells : GoodIn wsX0_floodedFrom (wsV RX0 42 RX0 yX0_cells wsX0_cells) := goodIn_app (goodIn_of _ (by decide +kernel)) ggX0_floodedFrom_X0_cells
set_option maxRecDepth 20000 in
theorem ggX0_floodedFrom_X0_heightOf : GoodIn wsX0_floodedFrom wsX0_heightOf := goodIn_r _ [11, 12, 13, 14, 15, 16, 17] (by decide +kernel) (by decide +kernel)
set_option maxRecDepth 20000 in
theorem gX0_floodedFrom_X0_heightOf : GoodIn wsX0_floodedFrom (wsV RX0 46 RX0 yX0_heightOf wsX0_heightOf) := goodIn_app (goodIn_of _ (by decide +kernel)) ggX0_floodedFrom_X0_heightOf
theorem dX0_floodedFrom_0 : decode cX0_floodedFrom 0 = .ok (.iconst 0, 1) := by decide +kernel
theorem dX0_floodedFrom_1 : decode cX0_floodedFrom 1 = .ok (.istore_n 2, 1) := by decide +kernel
theorem dX0_floodedFrom_2 : decode cX0_floodedFrom 2 = .ok (.iconst 0, 1) := by decide +kernel
theorem dX0_floodedFrom_3 : decode cX0_floodedFrom 3 = .ok (.istore_n 3, 1) := by decide +kernel
theorem dX0_floodedFrom_4 : decode cX0_floodedFrom 4 = .ok (.iload_n 3, 1) := by decide +kernel
theorem dX0_floodedFrom_5 : decode cX0_floodedFrom 5 = .ok (.aload_n 0, 1) := by decide +kernel
theorem dX0_floodedFrom_6 : decode cX0_floodedFrom 6 = .ok (.invokevirtual 42, 3) := by decide +kernel
theorem dX0_floodedFrom_9 : decode cX0_floodedFrom 9 = .ok (.if_icmp .ge 28, 3) := by decide +kernel
theorem dX0_floodedFrom_12 : decode cX0_floodedFrom 12 = .ok (.aload_n 0, 1) := by decide +kernel
theorem dX0_floodedFrom_13 : decode cX0_floodedFrom 13 = .ok (.iload_n 3, 1) := by decide +kernel
theorem dX0_floodedFrom_14 : decode cX0_floodedFrom 14 = .ok (.invokevirtual 46, 3) := by decide +kernel
theorem dX0_floodedFrom_17 : decode cX0_floodedFrom 17 = .ok (.aload_n 0, 1) := by decide +kernel
theorem dX0_floodedFrom_18 : decode cX0_floodedFrom 18 = .ok (.iload_n 1, 1) := by decide +kernel
theorem dX0_floodedFrom_19 : decode cX0_floodedFrom 19 = .ok (.invokevirtual 46, 3) := by decide +kernel
theorem dX0_floodedFrom_22 : decode cX0_floodedFrom 22 = .ok (.if_icmp .ne 9, 3) := by decide +kernel
theorem dX0_floodedFrom_25 : decode cX0_floodedFrom 25 = .ok (.iload_n 2, 1) := by decide +kernel
theorem dX0_floodedFrom_26 : decode cX0_floodedFrom 26 = .ok (.iconst 1, 1) := by decide +kernel
theorem dX0_floodedFrom_27 : decode cX0_floodedFrom 27 = .ok (.iload_n 3, 1) := by decide +kernel
theorem dX0_floodedFrom_28 : decode cX0_floodedFrom 28 = .ok (.ishl, 1) := by decide +kernel
theorem dX0_floodedFrom_29 : decode cX0_floodedFrom 29 = .ok (.ior, 1) := by decide +kernel
theorem dX0_floodedFrom_30 : decode cX0_floodedFrom 30 = .ok (.istore_n 2, 1) := by decide +kernel
theorem dX0_floodedFrom_31 : decode cX0_floodedFrom 31 = .ok (.iinc 3 1, 3) := by decide +kernel
theorem dX0_floodedFrom_34 : decode cX0_floodedFrom 34 = .ok (.goto (-30), 3) := by decide +kernel
theorem dX0_floodedFrom_37 : decode cX0_floodedFrom 37 = .ok (.iconst 0, 1) := by decide +kernel
theorem dX0_floodedFrom_38 : decode cX0_floodedFrom 38 = .ok (.istore_n 3, 1) := by decide +kernel
theorem dX0_floodedFrom_39 : decode cX0_floodedFrom 39 = .ok (.iconst 0, 1) := by decide +kernel
theorem dX0_floodedFrom_40 : decode cX0_floodedFrom 40 = .ok (.istore 4, 2) := by decide +kernel
theorem dX0_floodedFrom_42 : decode cX0_floodedFrom 42 = .ok (.iload 4, 2) := by decide +kernel
theorem dX0_floodedFrom_44 : decode cX0_floodedFrom 44 = .ok (.aload_n 0, 1) := by decide +kernel
theorem dX0_floodedFrom_45 : decode cX0_floodedFrom 45 = .ok (.getfield 15, 3) := by decide +kernel
theorem dX0_floodedFrom_48 : decode cX0_floodedFrom 48 = .ok (.if_icmp .ge 21, 3) := by decide +kernel
theorem dX0_floodedFrom_51 : decode cX0_floodedFrom 51 = .ok (.iload_n 3, 1) := by decide +kernel
theorem dX0_floodedFrom_52 : decode cX0_floodedFrom 52 = .ok (.iconst 1, 1) := by decide +kernel
theorem dX0_floodedFrom_53 : decode cX0_floodedFrom 53 = .ok (.aload_n 0, 1) := by decide +kernel
theorem dX0_floodedFrom_54 : decode cX0_floodedFrom 54 = .ok (.getfield 9, 3) := by decide +kernel
theorem dX0_floodedFrom_57 : decode cX0_floodedFrom 57 = .ok (.iload 4, 2) := by decide +kernel
theorem dX0_floodedFrom_59 : decode cX0_floodedFrom 59 = .ok (.imul, 1) := by decide +kernel
theorem dX0_floodedFrom_60 : decode cX0_floodedFrom 60 = .ok (.ishl, 1) := by decide +kernel
theorem dX0_floodedFrom_61 : decode cX0_floodedFrom 61 = .ok (.ior, 1) := by decide +kernel
theorem dX0_floodedFrom_62 : decode cX0_floodedFrom 62 = .ok (.istore_n 3, 1) := by decide +kernel
theorem dX0_floodedFrom_63 : decode cX0_floodedFrom 63 = .ok (.iinc 4 1, 3) := by decide +kernel
theorem dX0_floodedFrom_66 : decode cX0_floodedFrom 66 = .ok (.goto (-24), 3) := by decide +kernel
theorem dX0_floodedFrom_69 : decode cX0_floodedFrom 69 = .ok (.iload_n 3, 1) := by decide +kernel
theorem dX0_floodedFrom_70 : decode cX0_floodedFrom 70 = .ok (.aload_n 0, 1) := by decide +kernel
theorem dX0_floodedFrom_71 : decode cX0_floodedFrom 71 = .ok (.getfield 9, 3) := by decide +kernel
theorem dX0_floodedFrom_74 : decode cX0_floodedFrom 74 = .ok (.iconst 1, 1) := by decide +kernel
theorem dX0_floodedFrom_75 : decode cX0_floodedFrom 75 = .ok (.isub, 1) := by decide +kernel
theorem dX0_floodedFrom_76 : decode cX0_floodedFrom 76 = .ok (.ishl, 1) := by decide +kernel
theorem dX0_floodedFrom_77 : decode cX0_floodedFrom 77 = .ok (.istore 4, 2) := by decide +kernel
theorem dX0_floodedFrom_79 : decode cX0_floodedFrom 79 = .ok (.iconst 1, 1) := by decide +kernel
theorem dX0_floodedFrom_80 : decode cX0_floodedFrom 80 = .ok (.iload_n 1, 1) := by decide +kernel
theorem dX0_floodedFrom_81 : decode cX0_floodedFrom 81 = .ok (.ishl, 1) := by decide +kernel
theorem dX0_floodedFrom_82 : decode cX0_floodedFrom 82 = .ok (.istore 5, 2) := by decide +kernel
theorem dX0_floodedFrom_84 : decode cX0_floodedFrom 84 = .ok (.iconst 1, 1) := by decide +kernel
theorem dX0_floodedFrom_85 : decode cX0_floodedFrom 85 = .ok (.istore 6, 2) := by decide +kernel
theorem dX0_floodedFrom_87 : decode cX0_floodedFrom 87 = .ok (.iload 6, 2) := by decide +kernel
theorem dX0_floodedFrom_89 : decode cX0_floodedFrom 89 = .ok (.bipush 24, 2) := by decide +kernel
theorem dX0_floodedFrom_91 : decode cX0_floodedFrom 91 = .ok (.if_icmp .ge 58, 3) := by decide +kernel
theorem dX0_floodedFrom_94 : decode cX0_floodedFrom 94 = .ok (.iload 5, 2) := by decide +kernel
theorem dX0_floodedFrom_96 : decode cX0_floodedFrom 96 = .ok (.aload_n 0, 1) := by decide +kernel
theorem dX0_floodedFrom_97 : decode cX0_floodedFrom 97 = .ok (.getfield 9, 3) := by decide +kernel
theorem dX0_floodedFrom_100 : decode cX0_floodedFrom 100 = .ok (.ishr, 1) := by decide +kernel
theorem dX0_floodedFrom_101 : decode cX0_floodedFrom 101 = .ok (.iload 5, 2) := by decide +kernel
theorem dX0_floodedFrom_103 : decode cX0_floodedFrom 103 = .ok (.aload_n 0, 1) := by decide +kernel
theorem dX0_floodedFrom_104 : decode cX0_floodedFrom 104 = .ok (.getfield 9, 3) := by decide +kernel
theorem dX0_floodedFrom_107 : decode cX0_floodedFrom 107 = .ok (.ishl, 1) := by decide +kernel
theorem dX0_floodedFrom_108 : decode cX0_floodedFrom 108 = .ok (.ior, 1) := by decide +kernel
theorem dX0_floodedFrom_109 : decode cX0_floodedFrom 109 = .ok (.istore 7, 2) := by decide +kernel
theorem dX0_floodedFrom_111 : decode cX0_floodedFrom 111 = .ok (.iload 5, 2) := by decide +kernel
theorem dX0_floodedFrom_113 : decode cX0_floodedFrom 113 = .ok (.iload_n 3, 1) := by decide +kernel
theorem dX0_floodedFrom_114 : decode cX0_floodedFrom 114 = .ok (.iconst (-1), 1) := by decide +kernel
theorem dX0_floodedFrom_115 : decode cX0_floodedFrom 115 = .ok (.ixor, 1) := by decide +kernel
theorem dX0_floodedFrom_116 : decode cX0_floodedFrom 116 = .ok (.iand, 1) := by decide +kernel
theorem dX0_floodedFrom_117 : decode cX0_floodedFrom 117 = .ok (.iconst 1, 1) := by decide +kernel
theorem dX0_floodedFrom_118 : decode cX0_floodedFrom 118 = .ok (.ishr, 1) := by decide +kernel
theorem dX0_floodedFrom_119 : decode cX0_floodedFrom 119 = .ok (.iload 5, 2) := by decide +kernel
theorem dX0_floodedFrom_121 : decode cX0_floodedFrom 121 = .ok (.iload 4, 2) := by decide +kernel
theorem dX0_floodedFrom_123 : decode cX0_floodedFrom 123 = .ok (.iconst (-1), 1) := by decide +kernel
theorem dX0_floodedFrom_124 : decode cX0_floodedFrom 124 = .ok (.ixor, 1) := by decide +kernel
theorem dX0_floodedFrom_125 : decode cX0_floodedFrom 125 = .ok (.iand, 1) := by decide +kernel
theorem dX0_floodedFrom_126 : decode cX0_floodedFrom 126 = .ok (.iconst 1, 1) := by decide +kernel
theorem dX0_floodedFrom_127 : decode cX0_floodedFrom 127 = .ok (.ishl, 1) := by decide +kernel
theorem dX0_floodedFrom_128 : decode cX0_floodedFrom 128 = .ok (.ior, 1) := by decide +kernel
theorem dX0_floodedFrom_129 : decode cX0_floodedFrom 129 = .ok (.istore 8, 2) := by decide +kernel
theorem dX0_floodedFrom_131 : decode cX0_floodedFrom 131 = .ok (.iload 5, 2) := by decide +kernel
theorem dX0_floodedFrom_133 : decode cX0_floodedFrom 133 = .ok (.iload 7, 2) := by decide +kernel
theorem dX0_floodedFrom_135 : decode cX0_floodedFrom 135 = .ok (.iload 8, 2) := by decide +kernel
theorem dX0_floodedFrom_137 : decode cX0_floodedFrom 137 = .ok (.ior, 1) := by decide +kernel
theorem dX0_floodedFrom_138 : decode cX0_floodedFrom 138 = .ok (.iload_n 2, 1) := by decide +kernel
theorem dX0_floodedFrom_139 : decode cX0_floodedFrom 139 = .ok (.iand, 1) := by decide +kernel
theorem dX0_floodedFrom_140 : decode cX0_floodedFrom 140 = .ok (.ior, 1) := by decide +kernel
theorem dX0_floodedFrom_141 : decode cX0_floodedFrom 141 = .ok (.istore 5, 2) := by decide +kernel
theorem dX0_floodedFrom_143 : decode cX0_floodedFrom 143 = .ok (.iinc 6 1, 3) := by decide +kernel
theorem dX0_floodedFrom_146 : decode cX0_floodedFrom 146 = .ok (.goto (-59), 3) := by decide +kernel
theorem dX0_floodedFrom_149 : decode cX0_floodedFrom 149 = .ok (.iload 5, 2) := by decide +kernel
theorem dX0_floodedFrom_151 : decode cX0_floodedFrom 151 = .ok (.ireturn, 1) := by decide +kernel
set_option maxRecDepth 20000 in
theorem ggX1_init_X6_init : GoodIn wsX1_init wsX6_init := goodIn_r _ [10, 11, 2, 3, 12, 13, 14, 15, 16, 17, 18, 19, 20, 21, 22, 23, 24, 25, 26, 27, 30, 31, 32, 33, 34] (by decide +kernel) (by decide +kernel)
set_option maxRecDepth 20000 in
theorem gX1_init_X6_init : GoodIn wsX1_init (wsX6_init) := ggX1_init_X6_init
theorem dX1_init_0 : decode cX1_init 0 = .ok (.aload_n 0, 1) := by decide +kernel
theorem dX1_init_1 : decode cX1_init 1 = .ok (.invokespecial 3, 3) := by decide +kernel
theorem dX1_init_4 : decode cX1_init 4 = .ok (.aload_n 0, 1) := by decide +kernel
theorem dX1_init_5 : decode cX1_init 5 = .ok (.new 9, 3) := by decide +kernel
theorem dX1_init_8 : decode cX1_init 8 = .ok (.dup, 1) := by decide +kernel
theorem dX1_init_9 : decode cX1_init 9 = .ok (.iconst 2, 1) := by decide +kernel
theorem dX1_init_10 : decode cX1_init 10 = .ok (.invokespecial 11, 3) := by decide +kernel
theorem dX1_init_13 : decode cX1_init 13 = .ok (.putfield 14, 3) := by decide +kernel
theorem dX1_init_16 : decode cX1_init 16 = .ok (.return_, 1) := by decide +kernel
set_option maxRecDepth 20000 in
theorem ggX1_put_X6_put : GoodIn wsX1_put wsX6_put := goodIn_r _ [7, 8, 9, 10, 6, 11, 12, 13, 14, 15, 16, 17, 18, 19, 20, 21, 22, 25, 26, 27, 28, 29, 30] (by decide +kernel) (by decide +kernel)
set_option maxRecDepth 20000 in
theorem gX1_put_X6_put : GoodIn wsX1_put (wsV RX1 20 RX6 yX6_put wsX6_put) := goodIn_app (goodIn_of _ (by decide +kernel)) ggX1_put_X6_put
theorem dX1_put_0 : decode cX1_put 0 = .ok (.aload_n 0, 1) := by decide +kernel
theorem dX1_put_1 : decode cX1_put 1 = .ok (.getfield 14, 3) := by decide +kernel
theorem dX1_put_4 : decode cX1_put 4 = .ok (.iload_n 1, 1) := by decide +kernel
theorem dX1_put_5 : decode cX1_put 5 = .ok (.aload_n 2, 1) := by decide +kernel
theorem dX1_put_6 : decode cX1_put 6 = .ok (.invokevirtual 20, 3) := by decide +kernel
theorem dX1_put_9 : decode cX1_put 9 = .ok (.aload_n 0, 1) := by decide +kernel
theorem dX1_put_10 : decode cX1_put 10 = .ok (.dup, 1) := by decide +kernel
theorem dX1_put_11 : decode cX1_put 11 = .ok (.getfield 24, 3) := by decide +kernel
theorem dX1_put_14 : decode cX1_put 14 = .ok (.iconst 1, 1) := by decide +kernel
theorem dX1_put_15 : decode cX1_put 15 = .ok (.iload_n 1, 1) := by decide +kernel
theorem dX1_put_16 : decode cX1_put 16 = .ok (.ishl, 1) := by decide +kernel
theorem dX1_put_17 : decode cX1_put 17 = .ok (.ior, 1) := by decide +kernel
theorem dX1_put_18 : decode cX1_put 18 = .ok (.putfield 24, 3) := by decide +kernel
theorem dX1_put_21 : decode cX1_put 21 = .ok (.return_, 1) := by decide +kernel
theorem dX1_isKept_0 : decode cX1_isKept 0 = .ok (.aload_n 0, 1) := by decide +kernel
theorem dX1_isKept_1 : decode cX1_isKept 1 = .ok (.getfield 24, 3) := by decide +kernel
theorem dX1_isKept_4 : decode cX1_isKept 4 = .ok (.iload_n 1, 1) := by decide +kernel
theorem dX1_isKept_5 : decode cX1_isKept 5 = .ok (.ishr, 1) := by decide +kernel
theorem dX1_isKept_6 : decode cX1_isKept 6 = .ok (.iconst 1, 1) := by decide +kernel
theorem dX1_isKept_7 : decode cX1_isKept 7 = .ok (.iand, 1) := by decide +kernel
theorem dX1_isKept_8 : decode cX1_isKept 8 = .ok (.iconst 1, 1) := by decide +kernel
theorem dX1_isKept_9 : decode cX1_isKept 9 = .ok (.if_icmp .ne 7, 3) := by decide +kernel
theorem dX1_isKept_12 : decode cX1_isKept 12 = .ok (.iconst 1, 1) := by decide +kernel
theorem dX1_isKept_13 : decode cX1_isKept 13 = .ok (.goto 4, 3) := by decide +kernel
theorem dX1_isKept_16 : decode cX1_isKept 16 = .ok (.iconst 0, 1) := by decide +kernel
theorem dX1_isKept_17 : decode cX1_isKept 17 = .ok (.ireturn, 1) := by decide +kernel
set_option maxRecDepth 20000 in
theorem ggX1_copyTo_X6_copyTo : GoodIn wsX1_copyTo wsX6_copyTo := goodIn_r _ [6, 7, 8, 9, 5, 10, 11, 12, 13, 14, 15, 16, 17, 18, 19, 20, 21, 24, 25, 26, 27, 28, 29] (by decide +kernel) (by decide +kernel)
set_option maxRecDepth 20000 in
theorem gX1_copyTo_X6_copyTo : GoodIn wsX1_copyTo (wsV RX1 28 RX6 yX6_copyTo wsX6_copyTo) := goodIn_app (goodIn_of _ (by decide +kernel)) ggX1_copyTo_X6_copyTo
theorem dX1_copyTo_0 : decode cX1_copyTo 0 = .ok (.aload_n 0, 1) := by decide +kernel
theorem dX1_copyTo_1 : decode cX1_copyTo 1 = .ok (.getfield 14, 3) := by decide +kernel
theorem dX1_copyTo_4 : decode cX1_copyTo 4 = .ok (.iload_n 1, 1) := by decide +kernel
theorem dX1_copyTo_5 : decode cX1_copyTo 5 = .ok (.aload_n 2, 1) := by decide +kernel
theorem dX1_copyTo_6 : decode cX1_copyTo 6 = .ok (.invokevirtual 28, 3) := by decide +kernel
theorem dX1_copyTo_9 : decode cX1_copyTo 9 = .ok (.return_, 1) := by decide +kernel
theorem dX2_init_0 : decode cX2_init 0 = .ok (.aload_n 0, 1) := by decide +kernel
theorem dX2_init_1 : decode cX2_init 1 = .ok (.invokespecial 3, 3) := by decide +kernel
theorem dX2_init_4 : decode cX2_init 4 = .ok (.aload_n 0, 1) := by decide +kernel
theorem dX2_init_5 : decode cX2_init 5 = .ok (.bipush 24, 2) := by decide +kernel
theorem dX2_init_7 : decode cX2_init 7 = .ok (.newarray .int, 2) := by decide +kernel
theorem dX2_init_9 : decode cX2_init 9 = .ok (.putfield 9, 3) := by decide +kernel
theorem dX2_init_12 : decode cX2_init 12 = .ok (.aload_n 0, 1) := by decide +kernel
theorem dX2_init_13 : decode cX2_init 13 = .ok (.bipush 24, 2) := by decide +kernel
theorem dX2_init_15 : decode cX2_init 15 = .ok (.newarray .int, 2) := by decide +kernel
theorem dX2_init_17 : decode cX2_init 17 = .ok (.putfield 15, 3) := by decide +kernel
theorem dX2_init_20 : decode cX2_init 20 = .ok (.return_, 1) := by decide +kernel
set_option maxRecDepth 20000 in
theorem ggX2_list_X0_rowOfSquares : GoodIn wsX2_list wsX0_rowOfSquares := goodIn_r _ [6, 7, 8, 9, 5, 10, 11, 12, 13, 14, 15, 16, 17, 18, 19, 20, 21, 22, 23, 24, 25, 26, 27, 28, 29, 30, 31, 32, 33, 34, 35, 36, 37, 38, 39, 40, 41, 42, 43, 44, 59, 60, 61, 62, 63] (by decide +kernel) (by decide +kernel)
set_option maxRecDepth 20000 in
theorem gX2_list_X0_rowOfSquares : GoodIn wsX2_list (wsV RX2 29 RX0 yX0_rowOfSquares wsX0_rowOfSquares) := goodIn_app (goodIn_of _ (by decide +kernel)) ggX2_list_X0_rowOfSquares
set_option maxRecDepth 20000 in
theorem ggX2_list_X2_add : GoodIn wsX2_list wsX2_add := goodIn_r _ [49, 50, 51, 1, 52, 53, 54, 48, 55, 56, 57, 58] (by decide +kernel) (by decide +kernel)
set_option maxRecDepth 20000 in
theorem gX2_list_X2_add : GoodIn wsX2_list (wsV RX2 33 RX2 yX2_add wsX2_add) := goodIn_app (goodIn_of _ (by decide +kernel)) ggX2_list_X2_add
theorem dX2_list_0 : decode cX2_list 0 = .ok (.aload_n 0, 1) := by decide +kernel
theorem dX2_list_1 : decode cX2_list 1 = .ok (.iconst 0, 1) := by decide +kernel
theorem dX2_list_2 : decode cX2_list 2 = .ok (.putfield 18, 3) := by decide +kernel
theorem dX2_list_5 : decode cX2_list 5 = .ok (.iconst 0, 1) := by decide +kernel
theorem dX2_list_6 : decode cX2_list 6 = .ok (.istore_n 2, 1) := by decide +kernel
theorem dX2_list_7 : decode cX2_list 7 = .ok (.iload_n 2, 1) := by decide +kernel
theorem dX2_list_8 : decode cX2_list 8 = .ok (.aload_n 1, 1) := by decide +kernel
theorem dX2_list_9 : decode cX2_list 9 = .ok (.getfield 22, 3) := by decide +kernel
theorem dX2_list_12 : decode cX2_list 12 = .ok (.if_icmp .ge 35, 3) := by decide +kernel
theorem dX2_list_15 : decode cX2_list 15 = .ok (.iconst 0, 1) := by decide +kernel
theorem dX2_list_16 : decode cX2_list 16 = .ok (.istore_n 3, 1) := by decide +kernel
theorem dX2_list_17 : decode cX2_list 17 = .ok (.iload_n 3, 1) := by decide +kernel
theorem dX2_list_18 : decode cX2_list 18 = .ok (.aload_n 1, 1) := by decide +kernel
theorem dX2_list_19 : decode cX2_list 19 = .ok (.getfield 26, 3) := by decide +kernel
theorem dX2_list_22 : decode cX2_list 22 = .ok (.if_icmp .ge 19, 3) := by decide +kernel
theorem dX2_list_25 : decode cX2_list 25 = .ok (.aload_n 0, 1) := by decide +kernel
theorem dX2_list_26 : decode cX2_list 26 = .ok (.aload_n 1, 1) := by decide +kernel
theorem dX2_list_27 : decode cX2_list 27 = .ok (.iload_n 3, 1) := by decide +kernel
theorem dX2_list_28 : decode cX2_list 28 = .ok (.iload_n 2, 1) := by decide +kernel
theorem dX2_list_29 : decode cX2_list 29 = .ok (.invokevirtual 29, 3) := by decide +kernel
theorem dX2_list_32 : decode cX2_list 32 = .ok (.invokevirtual 33, 3) := by decide +kernel
theorem dX2_list_35 : decode cX2_list 35 = .ok (.iinc 3 1, 3) := by decide +kernel
theorem dX2_list_38 : decode cX2_list 38 = .ok (.goto (-21), 3) := by decide +kernel
theorem dX2_list_41 : decode cX2_list 41 = .ok (.iinc 2 1, 3) := by decide +kernel
theorem dX2_list_44 : decode cX2_list 44 = .ok (.goto (-37), 3) := by decide +kernel
theorem dX2_list_47 : decode cX2_list 47 = .ok (.return_, 1) := by decide +kernel
set_option maxRecDepth 20000 in
theorem ggX2_add_X2_numberOf : GoodIn wsX2_add wsX2_numberOf := goodIn_r _ [8, 3, 1, 9, 10, 11] (by decide +kernel) (by decide +kernel)
set_option maxRecDepth 20000 in
theorem gX2_add_X2_numberOf : GoodIn wsX2_add (wsV RX2 37 RX2 yX2_numberOf wsX2_numberOf) := goodIn_app (goodIn_of _ (by decide +kernel)) ggX2_add_X2_numberOf
theorem dX2_add_0 : decode cX2_add 0 = .ok (.aload_n 0, 1) := by decide +kernel
theorem dX2_add_1 : decode cX2_add 1 = .ok (.iload_n 1, 1) := by decide +kernel
theorem dX2_add_2 : decode cX2_add 2 = .ok (.invokevirtual 37, 3) := by decide +kernel
theorem dX2_add_5 : decode cX2_add 5 = .ok (.istore_n 2, 1) := by decide +kernel
theorem dX2_add_6 : decode cX2_add 6 = .ok (.iload_n 2, 1) := by decide +kernel
theorem dX2_add_7 : decode cX2_add 7 = .ok (.aload_n 0, 1) := by decide +kernel
theorem dX2_add_8 : decode cX2_add 8 = .ok (.getfield 9, 3) := by decide +kernel
theorem dX2_add_11 : decode cX2_add 11 = .ok (.arraylength, 1) := by decide +kernel
theorem dX2_add_12 : decode cX2_add 12 = .ok (.if_icmp .ge 12, 3) := by decide +kernel
theorem dX2_add_15 : decode cX2_add 15 = .ok (.iload_n 2, 1) := by decide +kernel
theorem dX2_add_16 : decode cX2_add 16 = .ok (.aload_n 0, 1) := by decide +kernel
theorem dX2_add_17 : decode cX2_add 17 = .ok (.getfield 15, 3) := by decide +kernel
theorem dX2_add_20 : decode cX2_add 20 = .ok (.arraylength, 1) := by decide +kernel
theorem dX2_add_21 : decode cX2_add 21 = .ok (.if_icmp .lt 4, 3) := by decide +kernel
theorem dX2_add_24 : decode cX2_add 24 = .ok (.return_, 1) := by decide +kernel
theorem dX2_add_25 : decode cX2_add 25 = .ok (.iload_n 2, 1) := by decide +kernel
theorem dX2_add_26 : decode cX2_add 26 = .ok (.aload_n 0, 1) := by decide +kernel
theorem dX2_add_27 : decode cX2_add 27 = .ok (.getfield 18, 3) := by decide +kernel
theorem dX2_add_30 : decode cX2_add 30 = .ok (.if_icmp .ne 27, 3) := by decide +kernel
theorem dX2_add_33 : decode cX2_add 33 = .ok (.aload_n 0, 1) := by decide +kernel
theorem dX2_add_34 : decode cX2_add 34 = .ok (.getfield 9, 3) := by decide +kernel
theorem dX2_add_37 : decode cX2_add 37 = .ok (.iload_n 2, 1) := by decide +kernel
theorem dX2_add_38 : decode cX2_add 38 = .ok (.iload_n 1, 1) := by decide +kernel
theorem dX2_add_39 : decode cX2_add 39 = .ok (.iastore, 1) := by decide +kernel
theorem dX2_add_40 : decode cX2_add 40 = .ok (.aload_n 0, 1) := by decide +kernel
theorem dX2_add_41 : decode cX2_add 41 = .ok (.getfield 15, 3) := by decide +kernel
theorem dX2_add_44 : decode cX2_add 44 = .ok (.iload_n 2, 1) := by decide +kernel
theorem dX2_add_45 : decode cX2_add 45 = .ok (.iconst 0, 1) := by decide +kernel
theorem dX2_add_46 : decode cX2_add 46 = .ok (.iastore, 1) := by decide +kernel
theorem dX2_add_47 : decode cX2_add 47 = .ok (.aload_n 0, 1) := by decide +kernel
theorem dX2_add_48 : decode cX2_add 48 = .ok (.dup, 1) := by decide +kernel
theorem dX2_add_49 : decode cX2_add 49 = .ok (.getfield 18, 3) := by decide +kernel
theorem dX2_add_52 : decode cX2_add 52 = .ok (.iconst 1, 1) := by decide +kernel
theorem dX2_add_53 : decode cX2_add 53 = .ok (.iadd, 1) := by decide +kernel
theorem dX2_add_54 : decode cX2_add 54 = .ok (.putfield 18, 3) := by decide +kernel
theorem dX2_add_57 : decode cX2_add 57 = .ok (.aload_n 0, 1) := by decide +kernel
theorem dX2_add_58 : decode cX2_add 58 = .ok (.getfield 15, 3) := by decide +kernel
theorem dX2_add_61 : decode cX2_add 61 = .ok (.iload_n 2, 1) := by decide +kernel
theorem dX2_add_62 : decode cX2_add 62 = .ok (.dup2, 1) := by decide +kernel
theorem dX2_add_63 : decode cX2_add 63 = .ok (.iaload, 1) := by decide +kernel
theorem dX2_add_64 : decode cX2_add 64 = .ok (.iconst 1, 1) := by decide +kernel
theorem dX2_add_65 : decode cX2_add 65 = .ok (.iadd, 1) := by decide +kernel
theorem dX2_add_66 : decode cX2_add 66 = .ok (.iastore, 1) := by decide +kernel
theorem dX2_add_67 : decode cX2_add 67 = .ok (.return_, 1) := by decide +kernel
theorem dX2_numberOf_0 : decode cX2_numberOf 0 = .ok (.iconst 0, 1) := by decide +kernel
theorem dX2_numberOf_1 : decode cX2_numberOf 1 = .ok (.istore_n 2, 1) := by decide +kernel
theorem dX2_numberOf_2 : decode cX2_numberOf 2 = .ok (.iload_n 2, 1) := by decide +kernel
theorem dX2_numberOf_3 : decode cX2_numberOf 3 = .ok (.aload_n 0, 1) := by decide +kernel
theorem dX2_numberOf_4 : decode cX2_numberOf 4 = .ok (.getfield 18, 3) := by decide +kernel
theorem dX2_numberOf_7 : decode cX2_numberOf 7 = .ok (.if_icmp .ge 28, 3) := by decide +kernel
theorem dX2_numberOf_10 : decode cX2_numberOf 10 = .ok (.iload_n 2, 1) := by decide +kernel
theorem dX2_numberOf_11 : decode cX2_numberOf 11 = .ok (.aload_n 0, 1) := by decide +kernel
theorem dX2_numberOf_12 : decode cX2_numberOf 12 = .ok (.getfield 9, 3) := by decide +kernel
theorem dX2_numberOf_15 : decode cX2_numberOf 15 = .ok (.arraylength, 1) := by decide +kernel
theorem dX2_numberOf_16 : decode cX2_numberOf 16 = .ok (.if_icmp .ge 19, 3) := by decide +kernel
theorem dX2_numberOf_19 : decode cX2_numberOf 19 = .ok (.aload_n 0, 1) := by decide +kernel
theorem dX2_numberOf_20 : decode cX2_numberOf 20 = .ok (.getfield 9, 3) := by decide +kernel
theorem dX2_numberOf_23 : decode cX2_numberOf 23 = .ok (.iload_n 2, 1) := by decide +kernel
theorem dX2_numberOf_24 : decode cX2_numberOf 24 = .ok (.iaload, 1) := by decide +kernel
theorem dX2_numberOf_25 : decode cX2_numberOf 25 = .ok (.iload_n 1, 1) := by decide +kernel
theorem dX2_numberOf_26 : decode cX2_numberOf 26 = .ok (.if_icmp .eq 9, 3) := by decide +kernel
theorem dX2_numberOf_29 : decode cX2_numberOf 29 = .ok (.iinc 2 1, 3) := by decide +kernel
theorem dX2_numberOf_32 : decode cX2_numberOf 32 = .ok (.goto (-30), 3) := by decide +kernel
theorem dX2_numberOf_35 : decode cX2_numberOf 35 = .ok (.iload_n 2, 1) := by decide +kernel
theorem dX2_numberOf_36 : decode cX2_numberOf 36 = .ok (.ireturn, 1) := by decide +kernel
theorem dX2_cellsOf_0 : decode cX2_cellsOf 0 = .ok (.iload_n 1, 1) := by decide +kernel
theorem dX2_cellsOf_1 : decode cX2_cellsOf 1 = .ok (.ifCond .lt 21, 3) := by decide +kernel
theorem dX2_cellsOf_4 : decode cX2_cellsOf 4 = .ok (.iload_n 1, 1) := by decide +kernel
theorem dX2_cellsOf_5 : decode cX2_cellsOf 5 = .ok (.aload_n 0, 1) := by decide +kernel
theorem dX2_cellsOf_6 : decode cX2_cellsOf 6 = .ok (.getfield 15, 3) := by decide +kernel
theorem dX2_cellsOf_9 : decode cX2_cellsOf 9 = .ok (.arraylength, 1) := by decide +kernel
theorem dX2_cellsOf_10 : decode cX2_cellsOf 10 = .ok (.if_icmp .ge 12, 3) := by decide +kernel
theorem dX2_cellsOf_13 : decode cX2_cellsOf 13 = .ok (.aload_n 0, 1) := by decide +kernel
theorem dX2_cellsOf_14 : decode cX2_cellsOf 14 = .ok (.getfield 15, 3) := by decide +kernel
theorem dX2_cellsOf_17 : decode cX2_cellsOf 17 = .ok (.iload_n 1, 1) := by decide +kernel
theorem dX2_cellsOf_18 : decode cX2_cellsOf 18 = .ok (.iaload, 1) := by decide +kernel
theorem dX2_cellsOf_19 : decode cX2_cellsOf 19 = .ok (.goto 4, 3) := by decide +kernel
theorem dX2_cellsOf_22 : decode cX2_cellsOf 22 = .ok (.iconst 0, 1) := by decide +kernel
theorem dX2_cellsOf_23 : decode cX2_cellsOf 23 = .ok (.ireturn, 1) := by decide +kernel
theorem dX2_squareOf_0 : decode cX2_squareOf 0 = .ok (.iload_n 1, 1) := by decide +kernel
theorem dX2_squareOf_1 : decode cX2_squareOf 1 = .ok (.ifCond .lt 31, 3) := by decide +kernel
theorem dX2_squareOf_4 : decode cX2_squareOf 4 = .ok (.iload_n 1, 1) := by decide +kernel
theorem dX2_squareOf_5 : decode cX2_squareOf 5 = .ok (.aload_n 0, 1) := by decide +kernel
theorem dX2_squareOf_6 : decode cX2_squareOf 6 = .ok (.getfield 9, 3) := by decide +kernel
theorem dX2_squareOf_9 : decode cX2_squareOf 9 = .ok (.arraylength, 1) := by decide +kernel
theorem dX2_squareOf_10 : decode cX2_squareOf 10 = .ok (.if_icmp .ge 22, 3) := by decide +kernel
theorem dX2_squareOf_13 : decode cX2_squareOf 13 = .ok (.aload_n 0, 1) := by decide +kernel
theorem dX2_squareOf_14 : decode cX2_squareOf 14 = .ok (.getfield 9, 3) := by decide +kernel
theorem dX2_squareOf_17 : decode cX2_squareOf 17 = .ok (.iload_n 1, 1) := by decide +kernel
theorem dX2_squareOf_18 : decode cX2_squareOf 18 = .ok (.iaload, 1) := by decide +kernel
theorem dX2_squareOf_19 : decode cX2_squareOf 19 = .ok (.bipush 6, 2) := by decide +kernel
theorem dX2_squareOf_21 : decode cX2_squareOf 21 = .ok (.iload_n 2, 1) := by decide +kernel
theorem dX2_squareOf_22 : decode cX2_squareOf 22 = .ok (.iconst 1, 1) := by decide +kernel
theorem dX2_squareOf_23 : decode cX2_squareOf 23 = .ok (.isub, 1) := by decide +kernel
theorem dX2_squareOf_24 : decode cX2_squareOf 24 = .ok (.imul, 1) := by decide +kernel
theorem dX2_squareOf_25 : decode cX2_squareOf 25 = .ok (.ishr, 1) := by decide +kernel
theorem dX2_squareOf_26 : decode cX2_squareOf 26 = .ok (.bipush 63, 2) := by decide +kernel
theorem dX2_squareOf_28 : decode cX2_squareOf 28 = .ok (.iand, 1) := by decide +kernel
theorem dX2_squareOf_29 : decode cX2_squareOf 29 = .ok (.goto 5, 3) := by decide +kernel
theorem dX2_squareOf_32 : decode cX2_squareOf 32 = .ok (.bipush 47, 2) := by decide +kernel
theorem dX2_squareOf_34 : decode cX2_squareOf 34 = .ok (.ireturn, 1) := by decide +kernel
set_option maxRecDepth 20000 in
theorem ggX3_init_X0_init : GoodIn wsX3_init wsX0_init := goodIn_r _ [15, 16, 2, 3, 17, 18, 19, 20, 21, 22, 23, 24] (by decide +kernel) (by decide +kernel)
set_option maxRecDepth 20000 in
theorem gX3_init_X0_init : GoodIn wsX3_init (wsX0_init) := ggX3_init_X0_init
theorem dX3_init_0 : decode cX3_init 0 = .ok (.aload_n 0, 1) := by decide +kernel
theorem dX3_init_1 : decode cX3_init 1 = .ok (.invokespecial 3, 3) := by decide +kernel
theorem dX3_init_4 : decode cX3_init 4 = .ok (.aload_n 0, 1) := by decide +kernel
theorem dX3_init_5 : decode cX3_init 5 = .ok (.new 9, 3) := by decide +kernel
theorem dX3_init_8 : decode cX3_init 8 = .ok (.dup, 1) := by decide +kernel
theorem dX3_init_9 : decode cX3_init 9 = .ok (.invokespecial 11, 3) := by decide +kernel
theorem dX3_init_12 : decode cX3_init 12 = .ok (.putfield 12, 3) := by decide +kernel
theorem dX3_init_15 : decode cX3_init 15 = .ok (.aload_n 0, 1) := by decide +kernel
theorem dX3_init_16 : decode cX3_init 16 = .ok (.bipush 68, 2) := by decide +kernel
theorem dX3_init_18 : decode cX3_init 18 = .ok (.newarray .int, 2) := by decide +kernel
theorem dX3_init_20 : decode cX3_init 20 = .ok (.putfield 18, 3) := by decide +kernel
theorem dX3_init_23 : decode cX3_init 23 = .ok (.aload_n 0, 1) := by decide +kernel
theorem dX3_init_24 : decode cX3_init 24 = .ok (.bipush 68, 2) := by decide +kernel
theorem dX3_init_26 : decode cX3_init 26 = .ok (.newarray .int, 2) := by decide +kernel
theorem dX3_init_28 : decode cX3_init 28 = .ok (.putfield 22, 3) := by decide +kernel
theorem dX3_init_31 : decode cX3_init 31 = .ok (.aload_n 0, 1) := by decide +kernel
theorem dX3_init_32 : decode cX3_init 32 = .ok (.bipush 68, 2) := by decide +kernel
theorem dX3_init_34 : decode cX3_init 34 = .ok (.newarray .int, 2) := by decide +kernel
theorem dX3_init_36 : decode cX3_init 36 = .ok (.putfield 25, 3) := by decide +kernel
theorem dX3_init_39 : decode cX3_init 39 = .ok (.aload_n 0, 1) := by decide +kernel
theorem dX3_init_40 : decode cX3_init 40 = .ok (.sipush 408, 3) := by decide +kernel
theorem dX3_init_43 : decode cX3_init 43 = .ok (.newarray .int, 2) := by decide +kernel
theorem dX3_init_45 : decode cX3_init 45 = .ok (.putfield 28, 3) := by decide +kernel
theorem dX3_init_48 : decode cX3_init 48 = .ok (.return_, 1) := by decide +kernel
set_option maxRecDepth 20000 in
theorem ggX3_heightOf_X0_placeOf : GoodIn wsX3_heightOf wsX0_placeOf := goodIn_r _ [5] (by decide +kernel) (by decide +kernel)
set_option maxRecDepth 20000 in
theorem gX3_heightOf_X0_placeOf : GoodIn wsX3_heightOf (va_wsS RX3 35 yX0_placeOf wsX0_placeOf) := goodIn_app (goodIn_of _ (by decide +kernel)) ggX3_heightOf_X0_placeOf
theorem dX3_heightOf_0 : decode cX3_heightOf 0 = .ok (.aload_n 0, 1) := by decide +kernel
theorem dX3_heightOf_1 : decode cX3_heightOf 1 = .ok (.getfield 31, 3) := by decide +kernel
theorem dX3_heightOf_4 : decode cX3_heightOf 4 = .ok (.iload_n 1, 1) := by decide +kernel
theorem dX3_heightOf_5 : decode cX3_heightOf 5 = .ok (.invokestatic 35, 3) := by decide +kernel
theorem dX3_heightOf_8 : decode cX3_heightOf 8 = .ok (.lushr, 1) := by decide +kernel
theorem dX3_heightOf_9 : decode cX3_heightOf 9 = .ok (.l2i, 1) := by decide +kernel
theorem dX3_heightOf_10 : decode cX3_heightOf 10 = .ok (.iconst 3, 1) := by decide +kernel
theorem dX3_heightOf_11 : decode cX3_heightOf 11 = .ok (.iand, 1) := by decide +kernel
theorem dX3_heightOf_12 : decode cX3_heightOf 12 = .ok (.ireturn, 1) := by decide +kernel
set_option maxRecDepth 20000 in
theorem ggX3_find_X3_isAsked : GoodIn wsX3_find wsX3_isAsked := goodIn_r _ [7, 1, 108, 109, 110, 111, 112, 113, 114, 115, 116, 117, 118, 119, 120] (by decide +kernel) (by decide +kernel)
set_option maxRecDepth 20000 in
theorem gX3_find_X3_isAsked : GoodIn wsX3_find (wsV RX3 39 RX3 yX3_isAsked wsX3_isAsked) := goodIn_app (goodIn_of _ (by decide +kernel)) ggX3_find_X3_isAsked
set_option maxRecDepth 20000 in
theorem ggX3_find_X0_become : GoodIn wsX3_find wsX0_become := goodIn_r _ [12, 13, 14, 15, 16, 17, 116, 117, 118, 119, 120] (by decide +kernel) (by decide +kernel)
set_option maxRecDepth 20000 in
theorem gX3_find_X0_become : GoodIn wsX3_find (wsV RX3 43 RX0 yX0_become wsX0_become) := goodIn_app (goodIn_of _ (by decide +kernel)) ggX3_find_X0_become
set_option maxRecDepth 20000 in
theorem ggX3_find_X3_listRows : GoodIn wsX3_find wsX3_listRows := goodIn_r _ [21, 2, 1, 22, 23, 24, 25, 26, 27, 6, 28, 29, 30, 31, 32, 33, 34, 35, 36, 108, 109, 110, 111, 112, 113, 114, 115, 116, 117, 118, 119, 120] (by decide +kernel) (by decide +kernel)
set_option maxRecDepth 20000 in
theorem gX3_find_X3_listRows : GoodIn wsX3_find (wsV RX3 47 RX3 yX3_listRows wsX3_listRows) := goodIn_app (goodIn_of _ (by decide +kernel)) ggX3_find_X3_listRows
set_option maxRecDepth 20000 in
theorem ggX3_find_X3_fewestFrom : GoodIn wsX3_find wsX3_fewestFrom := goodIn_r _ [40, 1, 41, 42, 43, 44, 45, 46, 47, 6, 48, 22, 49, 50, 51, 52, 53, 54, 55, 11, 56, 15, 57, 58, 59, 60, 13, 61, 62, 63, 64, 65, 66, 67, 68, 69, 70, 71, 16, 72, 73, 74, 75, 76, 77, 78, 79, 80, 81, 82, 24, 83, 84, 85, 86, 2, 23, 34, 35, 36, 87, 88, 89, 90, 91, 108, 109, 110, 111, 112, 113, 114, 115, 116, 117, 118, 119, 120] (by decide +kernel) (by decide +kernel)
set_option maxRecDepth 20000 in
theorem gX3_find_X3_fewestFrom : GoodIn wsX3_find (wsV RX3 56 RX3 yX3_fewestFrom wsX3_fewestFrom) := goodIn_app (goodIn_of _ (by decide +kernel)) ggX3_find_X3_fewestFrom
set_option maxRecDepth 20000 in
theorem ggX3_find_X3_setFewest : GoodIn wsX3_find wsX3_setFewest := goodIn_r _ [95, 91, 108, 109, 110, 111, 112, 113, 114, 115] (by decide +kernel) (by decide +kernel)
set_option maxRecDepth 20000 in
theorem gX3_find_X3_setFewest : GoodIn wsX3_find (wsV RX3 60 RX3 yX3_setFewest wsX3_setFewest) := goodIn_app (goodIn_of _ (by decide +kernel)) ggX3_find_X3_setFewest
set_option maxRecDepth 20000 in
theorem ggX3_find_X3_choose : GoodIn wsX3_find wsX3_choose := goodIn_r _ [99, 100, 101, 102, 1, 83, 84, 85, 6, 86, 2, 23, 41, 42, 43, 44, 34, 35, 36, 87, 88, 89, 90, 91, 103, 104, 105, 106, 45, 46, 47, 48, 22, 107, 58, 59, 11, 60, 13, 61, 62, 63, 49, 50, 51, 52, 53, 54, 55, 56, 15, 57, 64, 65, 66, 67, 68, 69, 70, 71, 16, 72, 73, 74, 75, 76, 77, 78, 79, 80, 81, 82, 24, 108, 109, 110, 111, 112, 113, 114, 115, 116, 117, 118, 119, 120] (by decide +kernel) (by decide +kernel)
set_option maxRecDepth 20000 in
theorem gX3_find_X3_choose : GoodIn wsX3_find (wsV RX3 64 RX3 yX3_choose wsX3_choose) := goodIn_app (goodIn_of _ (by decide +kernel)) ggX3_find_X3_choose
theorem dX3_find_0 : decode cX3_find 0 = .ok (.aload_n 0, 1) := by decide +kernel
theorem dX3_find_1 : decode cX3_find 1 = .ok (.aload_n 1, 1) := by decide +kernel
theorem dX3_find_2 : decode cX3_find 2 = .ok (.invokevirtual 39, 3) := by decide +kernel
theorem dX3_find_5 : decode cX3_find 5 = .ok (.ifCond .eq 4, 3) := by decide +kernel
theorem dX3_find_8 : decode cX3_find 8 = .ok (.return_, 1) := by decide +kernel
theorem dX3_find_9 : decode cX3_find 9 = .ok (.aload_n 0, 1) := by decide +kernel
theorem dX3_find_10 : decode cX3_find 10 = .ok (.getfield 12, 3) := by decide +kernel
theorem dX3_find_13 : decode cX3_find 13 = .ok (.aload_n 1, 1) := by decide +kernel
theorem dX3_find_14 : decode cX3_find 14 = .ok (.invokevirtual 43, 3) := by decide +kernel
theorem dX3_find_17 : decode cX3_find 17 = .ok (.aload_n 0, 1) := by decide +kernel
theorem dX3_find_18 : decode cX3_find 18 = .ok (.invokevirtual 47, 3) := by decide +kernel
theorem dX3_find_21 : decode cX3_find 21 = .ok (.aload_n 0, 1) := by decide +kernel
theorem dX3_find_22 : decode cX3_find 22 = .ok (.getfield 12, 3) := by decide +kernel
theorem dX3_find_25 : decode cX3_find 25 = .ok (.getfield 50, 3) := by decide +kernel
theorem dX3_find_28 : decode cX3_find 28 = .ok (.iconst 1, 1) := by decide +kernel
theorem dX3_find_29 : decode cX3_find 29 = .ok (.isub, 1) := by decide +kernel
theorem dX3_find_30 : decode cX3_find 30 = .ok (.istore_n 2, 1) := by decide +kernel
theorem dX3_find_31 : decode cX3_find 31 = .ok (.iload_n 2, 1) := by decide +kernel
theorem dX3_find_32 : decode cX3_find 32 = .ok (.ifCond .lt 37, 3) := by decide +kernel
theorem dX3_find_35 : decode cX3_find 35 = .ok (.iconst 0, 1) := by decide +kernel
theorem dX3_find_36 : decode cX3_find 36 = .ok (.istore_n 3, 1) := by decide +kernel
theorem dX3_find_37 : decode cX3_find 37 = .ok (.iload_n 3, 1) := by decide +kernel
theorem dX3_find_38 : decode cX3_find 38 = .ok (.aload_n 0, 1) := by decide +kernel
theorem dX3_find_39 : decode cX3_find 39 = .ok (.getfield 53, 3) := by decide +kernel
theorem dX3_find_42 : decode cX3_find 42 = .ok (.if_icmp .ge 21, 3) := by decide +kernel
theorem dX3_find_45 : decode cX3_find 45 = .ok (.aload_n 0, 1) := by decide +kernel
theorem dX3_find_46 : decode cX3_find 46 = .ok (.iload_n 2, 1) := by decide +kernel
theorem dX3_find_47 : decode cX3_find 47 = .ok (.iload_n 3, 1) := by decide +kernel
theorem dX3_find_48 : decode cX3_find 48 = .ok (.aload_n 0, 1) := by decide +kernel
theorem dX3_find_49 : decode cX3_find 49 = .ok (.iload_n 2, 1) := by decide +kernel
theorem dX3_find_50 : decode cX3_find 50 = .ok (.iload_n 3, 1) := by decide +kernel
theorem dX3_find_51 : decode cX3_find 51 = .ok (.invokevirtual 56, 3) := by decide +kernel
theorem dX3_find_54 : decode cX3_find 54 = .ok (.invokevirtual 60, 3) := by decide +kernel
theorem dX3_find_57 : decode cX3_find 57 = .ok (.iinc 3 1, 3) := by decide +kernel
theorem dX3_find_60 : decode cX3_find 60 = .ok (.goto (-23), 3) := by decide +kernel
theorem dX3_find_63 : decode cX3_find 63 = .ok (.iinc 2 (-1), 3) := by decide +kernel
theorem dX3_find_66 : decode cX3_find 66 = .ok (.goto (-35), 3) := by decide +kernel
theorem dX3_find_69 : decode cX3_find 69 = .ok (.aload_n 0, 1) := by decide +kernel
theorem dX3_find_70 : decode cX3_find 70 = .ok (.invokevirtual 64, 3) := by decide +kernel
theorem dX3_find_73 : decode cX3_find 73 = .ok (.return_, 1) := by decide +kernel
theorem dX3_isAsked_0 : decode cX3_isAsked 0 = .ok (.aload_n 0, 1) := by decide +kernel
theorem dX3_isAsked_1 : decode cX3_isAsked 1 = .ok (.getfield 12, 3) := by decide +kernel
theorem dX3_isAsked_4 : decode cX3_isAsked 4 = .ok (.getfield 67, 3) := by decide +kernel
theorem dX3_isAsked_7 : decode cX3_isAsked 7 = .ok (.aload_n 1, 1) := by decide +kernel
theorem dX3_isAsked_8 : decode cX3_isAsked 8 = .ok (.getfield 67, 3) := by decide +kernel
theorem dX3_isAsked_11 : decode cX3_isAsked 11 = .ok (.if_icmp .ne 51, 3) := by decide +kernel
theorem dX3_isAsked_14 : decode cX3_isAsked 14 = .ok (.aload_n 0, 1) := by decide +kernel
theorem dX3_isAsked_15 : decode cX3_isAsked 15 = .ok (.getfield 12, 3) := by decide +kernel
theorem dX3_isAsked_18 : decode cX3_isAsked 18 = .ok (.getfield 50, 3) := by decide +kernel
theorem dX3_isAsked_21 : decode cX3_isAsked 21 = .ok (.aload_n 1, 1) := by decide +kernel
theorem dX3_isAsked_22 : decode cX3_isAsked 22 = .ok (.getfield 50, 3) := by decide +kernel
theorem dX3_isAsked_25 : decode cX3_isAsked 25 = .ok (.if_icmp .ne 37, 3) := by decide +kernel
theorem dX3_isAsked_28 : decode cX3_isAsked 28 = .ok (.aload_n 0, 1) := by decide +kernel
theorem dX3_isAsked_29 : decode cX3_isAsked 29 = .ok (.getfield 12, 3) := by decide +kernel
theorem dX3_isAsked_32 : decode cX3_isAsked 32 = .ok (.getfield 70, 3) := by decide +kernel
theorem dX3_isAsked_35 : decode cX3_isAsked 35 = .ok (.aload_n 1, 1) := by decide +kernel
theorem dX3_isAsked_36 : decode cX3_isAsked 36 = .ok (.getfield 70, 3) := by decide +kernel
theorem dX3_isAsked_39 : decode cX3_isAsked 39 = .ok (.lcmp, 1) := by decide +kernel
theorem dX3_isAsked_40 : decode cX3_isAsked 40 = .ok (.ifCond .ne 22, 3) := by decide +kernel
theorem dX3_isAsked_43 : decode cX3_isAsked 43 = .ok (.aload_n 0, 1) := by decide +kernel
theorem dX3_isAsked_44 : decode cX3_isAsked 44 = .ok (.getfield 12, 3) := by decide +kernel
theorem dX3_isAsked_47 : decode cX3_isAsked 47 = .ok (.getfield 71, 3) := by decide +kernel
theorem dX3_isAsked_50 : decode cX3_isAsked 50 = .ok (.aload_n 1, 1) := by decide +kernel
theorem dX3_isAsked_51 : decode cX3_isAsked 51 = .ok (.getfield 71, 3) := by decide +kernel
theorem dX3_isAsked_54 : decode cX3_isAsked 54 = .ok (.lcmp, 1) := by decide +kernel
theorem dX3_isAsked_55 : decode cX3_isAsked 55 = .ok (.ifCond .ne 7, 3) := by decide +kernel
theorem dX3_isAsked_58 : decode cX3_isAsked 58 = .ok (.iconst 1, 1) := by decide +kernel
theorem dX3_isAsked_59 : decode cX3_isAsked 59 = .ok (.goto 4, 3) := by decide +kernel
theorem dX3_isAsked_62 : decode cX3_isAsked 62 = .ok (.iconst 0, 1) := by decide +kernel
theorem dX3_isAsked_63 : decode cX3_isAsked 63 = .ok (.ireturn, 1) := by decide +kernel
set_option maxRecDepth 20000 in
theorem ggX3_listRows_X3_standingOf : GoodIn wsX3_listRows wsX3_standingOf := goodIn_r _ [10, 2, 19, 20, 21, 22, 23, 24, 25, 26, 27, 28, 29, 30, 31] (by decide +kernel) (by decide +kernel)
set_option maxRecDepth 20000 in
theorem gX3_listRows_X3_standingOf : GoodIn wsX3_listRows (wsV RX3 74 RX3 yX3_standingOf wsX3_standingOf) := goodIn_app (goodIn_of _ (by decide +kernel)) ggX3_listRows_X3_standingOf
set_option maxRecDepth 20000 in
theorem ggX3_listRows_X3_nearOf : GoodIn wsX3_listRows wsX3_nearOf := goodIn_r _ [14, 2, 15, 19, 20, 21, 22, 23, 24, 25, 26, 27, 28, 29, 30, 31] (by decide +kernel) (by decide +kernel)
set_option maxRecDepth 20000 in
theorem gX3_listRows_X3_nearOf : GoodIn wsX3_listRows (wsV RX3 77 RX3 yX3_nearOf wsX3_nearOf) := goodIn_app (goodIn_of _ (by decide +kernel)) ggX3_listRows_X3_nearOf
set_option maxRecDepth 20000 in
theorem ggX3_listRows_X3_meets : GoodIn wsX3_listRows wsX3_meets := goodIn_r _ [18] (by decide +kernel) (by decide +kernel)
set_option maxRecDepth 20000 in
theorem gX3_listRows_X3_meets : GoodIn wsX3_listRows (va_wsS RX3 80 yX3_meets wsX3_meets) := goodIn_app (goodIn_of _ (by decide +kernel)) ggX3_listRows_X3_meets
theorem dX3_listRows_0 : decode cX3_listRows 0 = .ok (.aload_n 0, 1) := by decide +kernel
theorem dX3_listRows_1 : decode cX3_listRows 1 = .ok (.iconst 0, 1) := by decide +kernel
theorem dX3_listRows_2 : decode cX3_listRows 2 = .ok (.putfield 53, 3) := by decide +kernel
theorem dX3_listRows_5 : decode cX3_listRows 5 = .ok (.iconst 0, 1) := by decide +kernel
theorem dX3_listRows_6 : decode cX3_listRows 6 = .ok (.istore_n 1, 1) := by decide +kernel
theorem dX3_listRows_7 : decode cX3_listRows 7 = .ok (.iload_n 1, 1) := by decide +kernel
theorem dX3_listRows_8 : decode cX3_listRows 8 = .ok (.iconst 1, 1) := by decide +kernel
theorem dX3_listRows_9 : decode cX3_listRows 9 = .ok (.iconst 2, 1) := by decide +kernel
theorem dX3_listRows_10 : decode cX3_listRows 10 = .ok (.aload_n 0, 1) := by decide +kernel
theorem dX3_listRows_11 : decode cX3_listRows 11 = .ok (.getfield 12, 3) := by decide +kernel
theorem dX3_listRows_14 : decode cX3_listRows 14 = .ok (.getfield 67, 3) := by decide +kernel
theorem dX3_listRows_17 : decode cX3_listRows 17 = .ok (.imul, 1) := by decide +kernel
theorem dX3_listRows_18 : decode cX3_listRows 18 = .ok (.ishl, 1) := by decide +kernel
theorem dX3_listRows_19 : decode cX3_listRows 19 = .ok (.if_icmp .ge 78, 3) := by decide +kernel
theorem dX3_listRows_22 : decode cX3_listRows 22 = .ok (.aload_n 0, 1) := by decide +kernel
theorem dX3_listRows_23 : decode cX3_listRows 23 = .ok (.iload_n 1, 1) := by decide +kernel
theorem dX3_listRows_24 : decode cX3_listRows 24 = .ok (.invokevirtual 74, 3) := by decide +kernel
theorem dX3_listRows_27 : decode cX3_listRows 27 = .ok (.istore_n 2, 1) := by decide +kernel
theorem dX3_listRows_28 : decode cX3_listRows 28 = .ok (.aload_n 0, 1) := by decide +kernel
theorem dX3_listRows_29 : decode cX3_listRows 29 = .ok (.iload_n 1, 1) := by decide +kernel
theorem dX3_listRows_30 : decode cX3_listRows 30 = .ok (.invokevirtual 77, 3) := by decide +kernel
theorem dX3_listRows_33 : decode cX3_listRows 33 = .ok (.istore_n 3, 1) := by decide +kernel
theorem dX3_listRows_34 : decode cX3_listRows 34 = .ok (.iload_n 2, 1) := by decide +kernel
theorem dX3_listRows_35 : decode cX3_listRows 35 = .ok (.iload_n 3, 1) := by decide +kernel
theorem dX3_listRows_36 : decode cX3_listRows 36 = .ok (.invokestatic 80, 3) := by decide +kernel
theorem dX3_listRows_39 : decode cX3_listRows 39 = .ok (.ifCond .eq 52, 3) := by decide +kernel
theorem dX3_listRows_42 : decode cX3_listRows 42 = .ok (.aload_n 0, 1) := by decide +kernel
theorem dX3_listRows_43 : decode cX3_listRows 43 = .ok (.getfield 53, 3) := by decide +kernel
theorem dX3_listRows_46 : decode cX3_listRows 46 = .ok (.bipush 68, 2) := by decide +kernel
theorem dX3_listRows_48 : decode cX3_listRows 48 = .ok (.if_icmp .ge 43, 3) := by decide +kernel
theorem dX3_listRows_51 : decode cX3_listRows 51 = .ok (.aload_n 0, 1) := by decide +kernel
theorem dX3_listRows_52 : decode cX3_listRows 52 = .ok (.getfield 18, 3) := by decide +kernel
theorem dX3_listRows_55 : decode cX3_listRows 55 = .ok (.aload_n 0, 1) := by decide +kernel
theorem dX3_listRows_56 : decode cX3_listRows 56 = .ok (.getfield 53, 3) := by decide +kernel
theorem dX3_listRows_59 : decode cX3_listRows 59 = .ok (.iload_n 1, 1) := by decide +kernel
theorem dX3_listRows_60 : decode cX3_listRows 60 = .ok (.iastore, 1) := by decide +kernel
theorem dX3_listRows_61 : decode cX3_listRows 61 = .ok (.aload_n 0, 1) := by decide +kernel
theorem dX3_listRows_62 : decode cX3_listRows 62 = .ok (.getfield 22, 3) := by decide +kernel
theorem dX3_listRows_65 : decode cX3_listRows 65 = .ok (.aload_n 0, 1) := by decide +kernel
theorem dX3_listRows_66 : decode cX3_listRows 66 = .ok (.getfield 53, 3) := by decide +kernel
theorem dX3_listRows_69 : decode cX3_listRows 69 = .ok (.iload_n 2, 1) := by decide +kernel
theorem dX3_listRows_70 : decode cX3_listRows 70 = .ok (.iastore, 1) := by decide +kernel
theorem dX3_listRows_71 : decode cX3_listRows 71 = .ok (.aload_n 0, 1) := by decide +kernel
theorem dX3_listRows_72 : decode cX3_listRows 72 = .ok (.getfield 25, 3) := by decide +kernel
theorem dX3_listRows_75 : decode cX3_listRows 75 = .ok (.aload_n 0, 1) := by decide +kernel
theorem dX3_listRows_76 : decode cX3_listRows 76 = .ok (.getfield 53, 3) := by decide +kernel
theorem dX3_listRows_79 : decode cX3_listRows 79 = .ok (.iload_n 3, 1) := by decide +kernel
theorem dX3_listRows_80 : decode cX3_listRows 80 = .ok (.iastore, 1) := by decide +kernel
theorem dX3_listRows_81 : decode cX3_listRows 81 = .ok (.aload_n 0, 1) := by decide +kernel
theorem dX3_listRows_82 : decode cX3_listRows 82 = .ok (.dup, 1) := by decide +kernel
theorem dX3_listRows_83 : decode cX3_listRows 83 = .ok (.getfield 53, 3) := by decide +kernel
theorem dX3_listRows_86 : decode cX3_listRows 86 = .ok (.iconst 1, 1) := by decide +kernel
theorem dX3_listRows_87 : decode cX3_listRows 87 = .ok (.iadd, 1) := by decide +kernel
theorem dX3_listRows_88 : decode cX3_listRows 88 = .ok (.putfield 53, 3) := by decide +kernel
theorem dX3_listRows_91 : decode cX3_listRows 91 = .ok (.iinc 1 1, 3) := by decide +kernel
