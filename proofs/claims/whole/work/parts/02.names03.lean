theorem dX3_listRows_94 : decode cX3_listRows 94 = .ok (.goto (-87), 3) := by decide +kernel
theorem dX3_listRows_97 : decode cX3_listRows 97 = .ok (.return_, 1) := by decide +kernel
theorem dX3_standingOf_0 : decode cX3_standingOf 0 = .ok (.iconst 0, 1) := by decide +kernel
theorem dX3_standingOf_1 : decode cX3_standingOf 1 = .ok (.istore_n 2, 1) := by decide +kernel
theorem dX3_standingOf_2 : decode cX3_standingOf 2 = .ok (.iconst 0, 1) := by decide +kernel
theorem dX3_standingOf_3 : decode cX3_standingOf 3 = .ok (.istore_n 3, 1) := by decide +kernel
theorem dX3_standingOf_4 : decode cX3_standingOf 4 = .ok (.iload_n 3, 1) := by decide +kernel
theorem dX3_standingOf_5 : decode cX3_standingOf 5 = .ok (.aload_n 0, 1) := by decide +kernel
theorem dX3_standingOf_6 : decode cX3_standingOf 6 = .ok (.getfield 12, 3) := by decide +kernel
theorem dX3_standingOf_9 : decode cX3_standingOf 9 = .ok (.getfield 67, 3) := by decide +kernel
theorem dX3_standingOf_12 : decode cX3_standingOf 12 = .ok (.if_icmp .ge 25, 3) := by decide +kernel
theorem dX3_standingOf_15 : decode cX3_standingOf 15 = .ok (.iload_n 2, 1) := by decide +kernel
theorem dX3_standingOf_16 : decode cX3_standingOf 16 = .ok (.iconst 1, 1) := by decide +kernel
theorem dX3_standingOf_17 : decode cX3_standingOf 17 = .ok (.iconst 4, 1) := by decide +kernel
theorem dX3_standingOf_18 : decode cX3_standingOf 18 = .ok (.iload_n 3, 1) := by decide +kernel
theorem dX3_standingOf_19 : decode cX3_standingOf 19 = .ok (.imul, 1) := by decide +kernel
theorem dX3_standingOf_20 : decode cX3_standingOf 20 = .ok (.iload_n 1, 1) := by decide +kernel
theorem dX3_standingOf_21 : decode cX3_standingOf 21 = .ok (.iconst 2, 1) := by decide +kernel
theorem dX3_standingOf_22 : decode cX3_standingOf 22 = .ok (.iload_n 3, 1) := by decide +kernel
theorem dX3_standingOf_23 : decode cX3_standingOf 23 = .ok (.imul, 1) := by decide +kernel
theorem dX3_standingOf_24 : decode cX3_standingOf 24 = .ok (.ishr, 1) := by decide +kernel
theorem dX3_standingOf_25 : decode cX3_standingOf 25 = .ok (.iconst 3, 1) := by decide +kernel
theorem dX3_standingOf_26 : decode cX3_standingOf 26 = .ok (.iand, 1) := by decide +kernel
theorem dX3_standingOf_27 : decode cX3_standingOf 27 = .ok (.iadd, 1) := by decide +kernel
theorem dX3_standingOf_28 : decode cX3_standingOf 28 = .ok (.ishl, 1) := by decide +kernel
theorem dX3_standingOf_29 : decode cX3_standingOf 29 = .ok (.ior, 1) := by decide +kernel
theorem dX3_standingOf_30 : decode cX3_standingOf 30 = .ok (.istore_n 2, 1) := by decide +kernel
theorem dX3_standingOf_31 : decode cX3_standingOf 31 = .ok (.iinc 3 1, 3) := by decide +kernel
theorem dX3_standingOf_34 : decode cX3_standingOf 34 = .ok (.goto (-30), 3) := by decide +kernel
theorem dX3_standingOf_37 : decode cX3_standingOf 37 = .ok (.iload_n 2, 1) := by decide +kernel
theorem dX3_standingOf_38 : decode cX3_standingOf 38 = .ok (.ireturn, 1) := by decide +kernel
theorem dX3_nearOf_0 : decode cX3_nearOf 0 = .ok (.iconst 0, 1) := by decide +kernel
theorem dX3_nearOf_1 : decode cX3_nearOf 1 = .ok (.istore_n 2, 1) := by decide +kernel
theorem dX3_nearOf_2 : decode cX3_nearOf 2 = .ok (.iconst 0, 1) := by decide +kernel
theorem dX3_nearOf_3 : decode cX3_nearOf 3 = .ok (.istore_n 3, 1) := by decide +kernel
theorem dX3_nearOf_4 : decode cX3_nearOf 4 = .ok (.iload_n 3, 1) := by decide +kernel
theorem dX3_nearOf_5 : decode cX3_nearOf 5 = .ok (.aload_n 0, 1) := by decide +kernel
theorem dX3_nearOf_6 : decode cX3_nearOf 6 = .ok (.getfield 12, 3) := by decide +kernel
theorem dX3_nearOf_9 : decode cX3_nearOf 9 = .ok (.getfield 67, 3) := by decide +kernel
theorem dX3_nearOf_12 : decode cX3_nearOf 12 = .ok (.if_icmp .ge 27, 3) := by decide +kernel
theorem dX3_nearOf_15 : decode cX3_nearOf 15 = .ok (.iload_n 2, 1) := by decide +kernel
theorem dX3_nearOf_16 : decode cX3_nearOf 16 = .ok (.getstatic 84, 3) := by decide +kernel
theorem dX3_nearOf_19 : decode cX3_nearOf 19 = .ok (.iload_n 1, 1) := by decide +kernel
theorem dX3_nearOf_20 : decode cX3_nearOf 20 = .ok (.iconst 2, 1) := by decide +kernel
theorem dX3_nearOf_21 : decode cX3_nearOf 21 = .ok (.iload_n 3, 1) := by decide +kernel
theorem dX3_nearOf_22 : decode cX3_nearOf 22 = .ok (.imul, 1) := by decide +kernel
theorem dX3_nearOf_23 : decode cX3_nearOf 23 = .ok (.ishr, 1) := by decide +kernel
theorem dX3_nearOf_24 : decode cX3_nearOf 24 = .ok (.iconst 3, 1) := by decide +kernel
theorem dX3_nearOf_25 : decode cX3_nearOf 25 = .ok (.iand, 1) := by decide +kernel
theorem dX3_nearOf_26 : decode cX3_nearOf 26 = .ok (.iaload, 1) := by decide +kernel
theorem dX3_nearOf_27 : decode cX3_nearOf 27 = .ok (.iconst 4, 1) := by decide +kernel
theorem dX3_nearOf_28 : decode cX3_nearOf 28 = .ok (.iload_n 3, 1) := by decide +kernel
theorem dX3_nearOf_29 : decode cX3_nearOf 29 = .ok (.imul, 1) := by decide +kernel
theorem dX3_nearOf_30 : decode cX3_nearOf 30 = .ok (.ishl, 1) := by decide +kernel
theorem dX3_nearOf_31 : decode cX3_nearOf 31 = .ok (.ior, 1) := by decide +kernel
theorem dX3_nearOf_32 : decode cX3_nearOf 32 = .ok (.istore_n 2, 1) := by decide +kernel
theorem dX3_nearOf_33 : decode cX3_nearOf 33 = .ok (.iinc 3 1, 3) := by decide +kernel
theorem dX3_nearOf_36 : decode cX3_nearOf 36 = .ok (.goto (-32), 3) := by decide +kernel
theorem dX3_nearOf_39 : decode cX3_nearOf 39 = .ok (.iload_n 2, 1) := by decide +kernel
theorem dX3_nearOf_40 : decode cX3_nearOf 40 = .ok (.iconst 4, 1) := by decide +kernel
theorem dX3_nearOf_41 : decode cX3_nearOf 41 = .ok (.ishl, 1) := by decide +kernel
theorem dX3_nearOf_42 : decode cX3_nearOf 42 = .ok (.bipush 15, 2) := by decide +kernel
theorem dX3_nearOf_44 : decode cX3_nearOf 44 = .ok (.ior, 1) := by decide +kernel
theorem dX3_nearOf_45 : decode cX3_nearOf 45 = .ok (.istore_n 3, 1) := by decide +kernel
theorem dX3_nearOf_46 : decode cX3_nearOf 46 = .ok (.iload_n 2, 1) := by decide +kernel
theorem dX3_nearOf_47 : decode cX3_nearOf 47 = .ok (.iconst 4, 1) := by decide +kernel
theorem dX3_nearOf_48 : decode cX3_nearOf 48 = .ok (.ishr, 1) := by decide +kernel
theorem dX3_nearOf_49 : decode cX3_nearOf 49 = .ok (.bipush 15, 2) := by decide +kernel
theorem dX3_nearOf_51 : decode cX3_nearOf 51 = .ok (.iconst 4, 1) := by decide +kernel
theorem dX3_nearOf_52 : decode cX3_nearOf 52 = .ok (.aload_n 0, 1) := by decide +kernel
theorem dX3_nearOf_53 : decode cX3_nearOf 53 = .ok (.getfield 12, 3) := by decide +kernel
theorem dX3_nearOf_56 : decode cX3_nearOf 56 = .ok (.getfield 67, 3) := by decide +kernel
theorem dX3_nearOf_59 : decode cX3_nearOf 59 = .ok (.iconst 1, 1) := by decide +kernel
theorem dX3_nearOf_60 : decode cX3_nearOf 60 = .ok (.isub, 1) := by decide +kernel
theorem dX3_nearOf_61 : decode cX3_nearOf 61 = .ok (.imul, 1) := by decide +kernel
theorem dX3_nearOf_62 : decode cX3_nearOf 62 = .ok (.ishl, 1) := by decide +kernel
theorem dX3_nearOf_63 : decode cX3_nearOf 63 = .ok (.ior, 1) := by decide +kernel
theorem dX3_nearOf_64 : decode cX3_nearOf 64 = .ok (.istore 4, 2) := by decide +kernel
theorem dX3_nearOf_66 : decode cX3_nearOf 66 = .ok (.iload_n 2, 1) := by decide +kernel
theorem dX3_nearOf_67 : decode cX3_nearOf 67 = .ok (.iload_n 3, 1) := by decide +kernel
theorem dX3_nearOf_68 : decode cX3_nearOf 68 = .ok (.iand, 1) := by decide +kernel
theorem dX3_nearOf_69 : decode cX3_nearOf 69 = .ok (.iload 4, 2) := by decide +kernel
theorem dX3_nearOf_71 : decode cX3_nearOf 71 = .ok (.iand, 1) := by decide +kernel
theorem dX3_nearOf_72 : decode cX3_nearOf 72 = .ok (.ireturn, 1) := by decide +kernel
theorem dX3_meets_0 : decode cX3_meets 0 = .ok (.iload_n 0, 1) := by decide +kernel
theorem dX3_meets_1 : decode cX3_meets 1 = .ok (.iload_n 1, 1) := by decide +kernel
theorem dX3_meets_2 : decode cX3_meets 2 = .ok (.iconst (-1), 1) := by decide +kernel
theorem dX3_meets_3 : decode cX3_meets 3 = .ok (.ixor, 1) := by decide +kernel
theorem dX3_meets_4 : decode cX3_meets 4 = .ok (.iand, 1) := by decide +kernel
theorem dX3_meets_5 : decode cX3_meets 5 = .ok (.ifCond .ne 7, 3) := by decide +kernel
theorem dX3_meets_8 : decode cX3_meets 8 = .ok (.iconst 1, 1) := by decide +kernel
theorem dX3_meets_9 : decode cX3_meets 9 = .ok (.goto 4, 3) := by decide +kernel
theorem dX3_meets_12 : decode cX3_meets 12 = .ok (.iconst 0, 1) := by decide +kernel
theorem dX3_meets_13 : decode cX3_meets 13 = .ok (.ireturn, 1) := by decide +kernel
set_option maxRecDepth 20000 in
theorem ggX3_fewestFrom_X3_rowAt : GoodIn wsX3_fewestFrom wsX3_rowAt := goodIn_r _ [10, 11, 65, 66, 67, 68, 69, 70, 71, 72] (by decide +kernel) (by decide +kernel)
set_option maxRecDepth 20000 in
theorem gX3_fewestFrom_X3_rowAt : GoodIn wsX3_fewestFrom (wsV RX3 87 RX3 yX3_rowAt wsX3_rowAt) := goodIn_app (goodIn_of _ (by decide +kernel)) ggX3_fewestFrom_X3_rowAt
set_option maxRecDepth 20000 in
theorem ggX3_fewestFrom_X3_changesTo : GoodIn wsX3_fewestFrom wsX3_changesTo := goodIn_r _ [15, 1, 16, 17, 18, 19, 20, 21, 22, 23, 24, 25, 26, 27, 28, 29, 30, 31, 32, 33, 34, 35, 36, 37, 38, 39, 40, 41, 42, 43, 44, 45, 65, 66, 67, 68, 69, 70, 71, 72, 73, 74, 75, 76, 77] (by decide +kernel) (by decide +kernel)
set_option maxRecDepth 20000 in
theorem gX3_fewestFrom_X3_changesTo : GoodIn wsX3_fewestFrom (wsV RX3 90 RX3 yX3_changesTo wsX3_changesTo) := goodIn_app (goodIn_of _ (by decide +kernel)) ggX3_fewestFrom_X3_changesTo
set_option maxRecDepth 20000 in
theorem ggX3_fewestFrom_X3_nearAt : GoodIn wsX3_fewestFrom wsX3_nearAt := goodIn_r _ [49, 50, 65, 66, 67, 68, 69, 70, 71, 72] (by decide +kernel) (by decide +kernel)
set_option maxRecDepth 20000 in
theorem gX3_fewestFrom_X3_nearAt : GoodIn wsX3_fewestFrom (wsV RX3 93 RX3 yX3_nearAt wsX3_nearAt) := goodIn_app (goodIn_of _ (by decide +kernel)) ggX3_fewestFrom_X3_nearAt
set_option maxRecDepth 20000 in
theorem ggX3_fewestFrom_X3_fewestOf : GoodIn wsX3_fewestFrom wsX3_fewestOf := goodIn_r _ [54, 55, 56, 2, 3, 4, 5, 57, 58, 9, 59, 60, 61, 62, 63, 64, 65, 66, 67, 68, 69, 70, 71, 72] (by decide +kernel) (by decide +kernel)
set_option maxRecDepth 20000 in
theorem gX3_fewestFrom_X3_fewestOf : GoodIn wsX3_fewestFrom (wsV RX3 96 RX3 yX3_fewestOf wsX3_fewestOf) := goodIn_app (goodIn_of _ (by decide +kernel)) ggX3_fewestFrom_X3_fewestOf
theorem dX3_fewestFrom_0 : decode cX3_fewestFrom 0 = .ok (.aload_n 0, 1) := by decide +kernel
theorem dX3_fewestFrom_1 : decode cX3_fewestFrom 1 = .ok (.iload_n 1, 1) := by decide +kernel
theorem dX3_fewestFrom_2 : decode cX3_fewestFrom 2 = .ok (.aload_n 0, 1) := by decide +kernel
theorem dX3_fewestFrom_3 : decode cX3_fewestFrom 3 = .ok (.iload_n 2, 1) := by decide +kernel
theorem dX3_fewestFrom_4 : decode cX3_fewestFrom 4 = .ok (.invokevirtual 87, 3) := by decide +kernel
theorem dX3_fewestFrom_7 : decode cX3_fewestFrom 7 = .ok (.invokevirtual 90, 3) := by decide +kernel
theorem dX3_fewestFrom_10 : decode cX3_fewestFrom 10 = .ok (.istore_n 3, 1) := by decide +kernel
theorem dX3_fewestFrom_11 : decode cX3_fewestFrom 11 = .ok (.iload_n 3, 1) := by decide +kernel
theorem dX3_fewestFrom_12 : decode cX3_fewestFrom 12 = .ok (.bipush 99, 2) := by decide +kernel
theorem dX3_fewestFrom_14 : decode cX3_fewestFrom 14 = .ok (.if_icmp .ge 16, 3) := by decide +kernel
theorem dX3_fewestFrom_17 : decode cX3_fewestFrom 17 = .ok (.iload_n 1, 1) := by decide +kernel
theorem dX3_fewestFrom_18 : decode cX3_fewestFrom 18 = .ok (.iconst 1, 1) := by decide +kernel
theorem dX3_fewestFrom_19 : decode cX3_fewestFrom 19 = .ok (.iadd, 1) := by decide +kernel
theorem dX3_fewestFrom_20 : decode cX3_fewestFrom 20 = .ok (.aload_n 0, 1) := by decide +kernel
theorem dX3_fewestFrom_21 : decode cX3_fewestFrom 21 = .ok (.getfield 12, 3) := by decide +kernel
theorem dX3_fewestFrom_24 : decode cX3_fewestFrom 24 = .ok (.getfield 50, 3) := by decide +kernel
theorem dX3_fewestFrom_27 : decode cX3_fewestFrom 27 = .ok (.if_icmp .lt 5, 3) := by decide +kernel
theorem dX3_fewestFrom_30 : decode cX3_fewestFrom 30 = .ok (.iload_n 3, 1) := by decide +kernel
theorem dX3_fewestFrom_31 : decode cX3_fewestFrom 31 = .ok (.ireturn, 1) := by decide +kernel
theorem dX3_fewestFrom_32 : decode cX3_fewestFrom 32 = .ok (.bipush 99, 2) := by decide +kernel
theorem dX3_fewestFrom_34 : decode cX3_fewestFrom 34 = .ok (.iload_n 3, 1) := by decide +kernel
theorem dX3_fewestFrom_35 : decode cX3_fewestFrom 35 = .ok (.aload_n 0, 1) := by decide +kernel
theorem dX3_fewestFrom_36 : decode cX3_fewestFrom 36 = .ok (.iload_n 1, 1) := by decide +kernel
theorem dX3_fewestFrom_37 : decode cX3_fewestFrom 37 = .ok (.iconst 1, 1) := by decide +kernel
theorem dX3_fewestFrom_38 : decode cX3_fewestFrom 38 = .ok (.iadd, 1) := by decide +kernel
theorem dX3_fewestFrom_39 : decode cX3_fewestFrom 39 = .ok (.aload_n 0, 1) := by decide +kernel
theorem dX3_fewestFrom_40 : decode cX3_fewestFrom 40 = .ok (.iload_n 2, 1) := by decide +kernel
theorem dX3_fewestFrom_41 : decode cX3_fewestFrom 41 = .ok (.invokevirtual 93, 3) := by decide +kernel
theorem dX3_fewestFrom_44 : decode cX3_fewestFrom 44 = .ok (.invokevirtual 96, 3) := by decide +kernel
theorem dX3_fewestFrom_47 : decode cX3_fewestFrom 47 = .ok (.iadd, 1) := by decide +kernel
theorem dX3_fewestFrom_48 : decode cX3_fewestFrom 48 = .ok (.invokestatic 99, 3) := by decide +kernel
theorem dX3_fewestFrom_51 : decode cX3_fewestFrom 51 = .ok (.ireturn, 1) := by decide +kernel
set_option maxRecDepth 20000 in
theorem ggX3_changesTo_X0_heightsOfRow : GoodIn wsX3_changesTo wsX0_heightsOfRow := goodIn_r _ [6, 7, 8, 9, 10, 5, 11, 12, 13, 14, 15, 16, 17, 18, 19, 40, 41, 42, 43, 44] (by decide +kernel) (by decide +kernel)
set_option maxRecDepth 20000 in
theorem gX3_changesTo_X0_heightsOfRow : GoodIn wsX3_changesTo (wsV RX3 104 RX0 yX0_heightsOfRow wsX0_heightsOfRow) := goodIn_app (goodIn_of _ (by decide +kernel)) ggX3_changesTo_X0_heightsOfRow
set_option maxRecDepth 20000 in
theorem ggX3_changesTo_X0_fixedOfRow : GoodIn wsX3_changesTo wsX0_fixedOfRow := goodIn_r _ [23, 24, 8, 9, 10, 5, 11, 12, 13, 14, 15, 16, 17, 18, 19, 40, 41, 42, 43, 44] (by decide +kernel) (by decide +kernel)
set_option maxRecDepth 20000 in
theorem gX3_changesTo_X0_fixedOfRow : GoodIn wsX3_changesTo (wsV RX3 107 RX0 yX0_fixedOfRow wsX0_fixedOfRow) := goodIn_app (goodIn_of _ (by decide +kernel)) ggX3_changesTo_X0_fixedOfRow
set_option maxRecDepth 20000 in
theorem ggX3_changesTo_J6_bitCount_0f7a4 : GoodIn wsX3_changesTo wsJ6_bitCount_0f7a4 := goodIn_r _ [28, 29, 30, 31] (by decide +kernel) (by decide +kernel)
set_option maxRecDepth 20000 in
theorem gX3_changesTo_J6_bitCount_0f7a4 : GoodIn wsX3_changesTo (va_wsS RX3 110 yJ6_bitCount_0f7a4 wsJ6_bitCount_0f7a4) := goodIn_app (goodIn_of _ (by decide +kernel)) ggX3_changesTo_J6_bitCount_0f7a4
theorem dX3_changesTo_0 : decode cX3_changesTo 0 = .ok (.iload_n 2, 1) := by decide +kernel
theorem dX3_changesTo_1 : decode cX3_changesTo 1 = .ok (.aload_n 0, 1) := by decide +kernel
theorem dX3_changesTo_2 : decode cX3_changesTo 2 = .ok (.getfield 12, 3) := by decide +kernel
theorem dX3_changesTo_5 : decode cX3_changesTo 5 = .ok (.iload_n 1, 1) := by decide +kernel
theorem dX3_changesTo_6 : decode cX3_changesTo 6 = .ok (.invokevirtual 104, 3) := by decide +kernel
theorem dX3_changesTo_9 : decode cX3_changesTo 9 = .ok (.ixor, 1) := by decide +kernel
theorem dX3_changesTo_10 : decode cX3_changesTo 10 = .ok (.istore_n 3, 1) := by decide +kernel
theorem dX3_changesTo_11 : decode cX3_changesTo 11 = .ok (.iload_n 3, 1) := by decide +kernel
theorem dX3_changesTo_12 : decode cX3_changesTo 12 = .ok (.iload_n 3, 1) := by decide +kernel
theorem dX3_changesTo_13 : decode cX3_changesTo 13 = .ok (.iconst 1, 1) := by decide +kernel
theorem dX3_changesTo_14 : decode cX3_changesTo 14 = .ok (.ishr, 1) := by decide +kernel
theorem dX3_changesTo_15 : decode cX3_changesTo 15 = .ok (.ior, 1) := by decide +kernel
theorem dX3_changesTo_16 : decode cX3_changesTo 16 = .ok (.bipush 85, 2) := by decide +kernel
theorem dX3_changesTo_18 : decode cX3_changesTo 18 = .ok (.iand, 1) := by decide +kernel
theorem dX3_changesTo_19 : decode cX3_changesTo 19 = .ok (.istore 4, 2) := by decide +kernel
theorem dX3_changesTo_21 : decode cX3_changesTo 21 = .ok (.iload 4, 2) := by decide +kernel
theorem dX3_changesTo_23 : decode cX3_changesTo 23 = .ok (.aload_n 0, 1) := by decide +kernel
theorem dX3_changesTo_24 : decode cX3_changesTo 24 = .ok (.getfield 12, 3) := by decide +kernel
theorem dX3_changesTo_27 : decode cX3_changesTo 27 = .ok (.iload_n 1, 1) := by decide +kernel
theorem dX3_changesTo_28 : decode cX3_changesTo 28 = .ok (.invokevirtual 107, 3) := by decide +kernel
theorem dX3_changesTo_31 : decode cX3_changesTo 31 = .ok (.iand, 1) := by decide +kernel
theorem dX3_changesTo_32 : decode cX3_changesTo 32 = .ok (.ifCond .eq 8, 3) := by decide +kernel
theorem dX3_changesTo_35 : decode cX3_changesTo 35 = .ok (.bipush 99, 2) := by decide +kernel
theorem dX3_changesTo_37 : decode cX3_changesTo 37 = .ok (.goto 8, 3) := by decide +kernel
theorem dX3_changesTo_40 : decode cX3_changesTo 40 = .ok (.iload 4, 2) := by decide +kernel
theorem dX3_changesTo_42 : decode cX3_changesTo 42 = .ok (.invokestatic 110, 3) := by decide +kernel
theorem dX3_changesTo_45 : decode cX3_changesTo 45 = .ok (.ireturn, 1) := by decide +kernel
set_option maxRecDepth 20000 in
theorem ggX3_fewestOf_X3_meets : GoodIn wsX3_fewestOf wsX3_meets := goodIn_r _ [10] (by decide +kernel) (by decide +kernel)
set_option maxRecDepth 20000 in
theorem gX3_fewestOf_X3_meets : GoodIn wsX3_fewestOf (va_wsS RX3 80 yX3_meets wsX3_meets) := goodIn_app (goodIn_of _ (by decide +kernel)) ggX3_fewestOf_X3_meets
set_option maxRecDepth 20000 in
theorem ggX3_fewestOf_X3_fewestAt : GoodIn wsX3_fewestOf wsX3_fewestAt := goodIn_r _ [14, 15, 16, 17, 18, 19, 20, 21, 22, 23] (by decide +kernel) (by decide +kernel)
set_option maxRecDepth 20000 in
theorem gX3_fewestOf_X3_fewestAt : GoodIn wsX3_fewestOf (wsV RX3 115 RX3 yX3_fewestAt wsX3_fewestAt) := goodIn_app (goodIn_of _ (by decide +kernel)) ggX3_fewestOf_X3_fewestAt
theorem dX3_fewestOf_0 : decode cX3_fewestOf 0 = .ok (.bipush 99, 2) := by decide +kernel
theorem dX3_fewestOf_2 : decode cX3_fewestOf 2 = .ok (.istore_n 3, 1) := by decide +kernel
theorem dX3_fewestOf_3 : decode cX3_fewestOf 3 = .ok (.iconst 0, 1) := by decide +kernel
theorem dX3_fewestOf_4 : decode cX3_fewestOf 4 = .ok (.istore 4, 2) := by decide +kernel
theorem dX3_fewestOf_6 : decode cX3_fewestOf 6 = .ok (.iload 4, 2) := by decide +kernel
theorem dX3_fewestOf_8 : decode cX3_fewestOf 8 = .ok (.aload_n 0, 1) := by decide +kernel
theorem dX3_fewestOf_9 : decode cX3_fewestOf 9 = .ok (.getfield 53, 3) := by decide +kernel
theorem dX3_fewestOf_12 : decode cX3_fewestOf 12 = .ok (.if_icmp .ge 42, 3) := by decide +kernel
theorem dX3_fewestOf_15 : decode cX3_fewestOf 15 = .ok (.iload 4, 2) := by decide +kernel
theorem dX3_fewestOf_17 : decode cX3_fewestOf 17 = .ok (.bipush 68, 2) := by decide +kernel
theorem dX3_fewestOf_19 : decode cX3_fewestOf 19 = .ok (.if_icmp .ge 35, 3) := by decide +kernel
theorem dX3_fewestOf_22 : decode cX3_fewestOf 22 = .ok (.aload_n 0, 1) := by decide +kernel
theorem dX3_fewestOf_23 : decode cX3_fewestOf 23 = .ok (.getfield 22, 3) := by decide +kernel
theorem dX3_fewestOf_26 : decode cX3_fewestOf 26 = .ok (.iload 4, 2) := by decide +kernel
theorem dX3_fewestOf_28 : decode cX3_fewestOf 28 = .ok (.iaload, 1) := by decide +kernel
theorem dX3_fewestOf_29 : decode cX3_fewestOf 29 = .ok (.iload_n 2, 1) := by decide +kernel
theorem dX3_fewestOf_30 : decode cX3_fewestOf 30 = .ok (.invokestatic 80, 3) := by decide +kernel
theorem dX3_fewestOf_33 : decode cX3_fewestOf 33 = .ok (.ifCond .eq 15, 3) := by decide +kernel
theorem dX3_fewestOf_36 : decode cX3_fewestOf 36 = .ok (.iload_n 3, 1) := by decide +kernel
theorem dX3_fewestOf_37 : decode cX3_fewestOf 37 = .ok (.aload_n 0, 1) := by decide +kernel
theorem dX3_fewestOf_38 : decode cX3_fewestOf 38 = .ok (.iload_n 1, 1) := by decide +kernel
theorem dX3_fewestOf_39 : decode cX3_fewestOf 39 = .ok (.iload 4, 2) := by decide +kernel
theorem dX3_fewestOf_41 : decode cX3_fewestOf 41 = .ok (.invokevirtual 115, 3) := by decide +kernel
theorem dX3_fewestOf_44 : decode cX3_fewestOf 44 = .ok (.invokestatic 99, 3) := by decide +kernel
theorem dX3_fewestOf_47 : decode cX3_fewestOf 47 = .ok (.istore_n 3, 1) := by decide +kernel
theorem dX3_fewestOf_48 : decode cX3_fewestOf 48 = .ok (.iinc 4 1, 3) := by decide +kernel
theorem dX3_fewestOf_51 : decode cX3_fewestOf 51 = .ok (.goto (-45), 3) := by decide +kernel
theorem dX3_fewestOf_54 : decode cX3_fewestOf 54 = .ok (.iload_n 3, 1) := by decide +kernel
theorem dX3_fewestOf_55 : decode cX3_fewestOf 55 = .ok (.ireturn, 1) := by decide +kernel
set_option maxRecDepth 20000 in
theorem ggX3_choose_X3_fewestOf : GoodIn wsX3_choose wsX3_fewestOf := goodIn_r _ [9, 10, 11, 12, 13, 14, 15, 16, 17, 8, 18, 19, 20, 21, 22, 23, 73, 74, 75, 76, 77, 78, 79, 80] (by decide +kernel) (by decide +kernel)
set_option maxRecDepth 20000 in
theorem gX3_choose_X3_fewestOf : GoodIn wsX3_choose (wsV RX3 96 RX3 yX3_fewestOf wsX3_fewestOf) := goodIn_app (goodIn_of _ (by decide +kernel)) ggX3_choose_X3_fewestOf
set_option maxRecDepth 20000 in
theorem ggX3_choose_X3_firstThatLeaves : GoodIn wsX3_choose wsX3_firstThatLeaves := goodIn_r _ [27, 10, 11, 16, 17, 8, 18, 19, 20, 21, 22, 23, 73, 74, 75, 76, 77, 78, 79, 80] (by decide +kernel) (by decide +kernel)
set_option maxRecDepth 20000 in
theorem gX3_choose_X3_firstThatLeaves : GoodIn wsX3_choose (wsV RX3 122 RX3 yX3_firstThatLeaves wsX3_firstThatLeaves) := goodIn_app (goodIn_of _ (by decide +kernel)) ggX3_choose_X3_firstThatLeaves
set_option maxRecDepth 20000 in
theorem ggX3_choose_X3_rowAt : GoodIn wsX3_choose wsX3_rowAt := goodIn_r _ [31, 32, 73, 74, 75, 76, 77, 78, 79, 80] (by decide +kernel) (by decide +kernel)
set_option maxRecDepth 20000 in
theorem gX3_choose_X3_rowAt : GoodIn wsX3_choose (wsV RX3 87 RX3 yX3_rowAt wsX3_rowAt) := goodIn_app (goodIn_of _ (by decide +kernel)) ggX3_choose_X3_rowAt
set_option maxRecDepth 20000 in
theorem ggX3_choose_X0_placeOfRow : GoodIn wsX3_choose wsX0_placeOfRow := goodIn_r _ [37, 38, 39, 40, 36, 41, 81, 82, 83, 84, 85] (by decide +kernel) (by decide +kernel)
set_option maxRecDepth 20000 in
theorem gX3_choose_X0_placeOfRow : GoodIn wsX3_choose (wsV RX3 126 RX0 yX0_placeOfRow wsX0_placeOfRow) := goodIn_app (goodIn_of _ (by decide +kernel)) ggX3_choose_X0_placeOfRow
set_option maxRecDepth 20000 in
theorem ggX3_choose_X3_changesTo : GoodIn wsX3_choose wsX3_changesTo := goodIn_r _ [45, 4, 46, 47, 48, 36, 49, 50, 51, 34, 35, 37, 38, 39, 40, 41, 52, 53, 54, 55, 56, 57, 58, 59, 60, 61, 62, 63, 64, 65, 66, 67, 73, 74, 75, 76, 77, 78, 79, 80, 81, 82, 83, 84, 85] (by decide +kernel) (by decide +kernel)
set_option maxRecDepth 20000 in
theorem gX3_choose_X3_changesTo : GoodIn wsX3_choose (wsV RX3 90 RX3 yX3_changesTo wsX3_changesTo) := goodIn_app (goodIn_of _ (by decide +kernel)) ggX3_choose_X3_changesTo
set_option maxRecDepth 20000 in
theorem ggX3_choose_X3_nearAt : GoodIn wsX3_choose wsX3_nearAt := goodIn_r _ [71, 72, 73, 74, 75, 76, 77, 78, 79, 80] (by decide +kernel) (by decide +kernel)
set_option maxRecDepth 20000 in
theorem gX3_choose_X3_nearAt : GoodIn wsX3_choose (wsV RX3 93 RX3 yX3_nearAt wsX3_nearAt) := goodIn_app (goodIn_of _ (by decide +kernel)) ggX3_choose_X3_nearAt
theorem dX3_choose_0 : decode cX3_choose 0 = .ok (.aload_n 0, 1) := by decide +kernel
theorem dX3_choose_1 : decode cX3_choose 1 = .ok (.iconst 0, 1) := by decide +kernel
theorem dX3_choose_2 : decode cX3_choose 2 = .ok (.ldc 118, 2) := by decide +kernel
theorem dX3_choose_4 : decode cX3_choose 4 = .ok (.invokevirtual 96, 3) := by decide +kernel
theorem dX3_choose_7 : decode cX3_choose 7 = .ok (.istore_n 1, 1) := by decide +kernel
theorem dX3_choose_8 : decode cX3_choose 8 = .ok (.ldc 118, 2) := by decide +kernel
theorem dX3_choose_10 : decode cX3_choose 10 = .ok (.istore_n 2, 1) := by decide +kernel
theorem dX3_choose_11 : decode cX3_choose 11 = .ok (.aload_n 0, 1) := by decide +kernel
theorem dX3_choose_12 : decode cX3_choose 12 = .ok (.iload_n 1, 1) := by decide +kernel
theorem dX3_choose_13 : decode cX3_choose 13 = .ok (.bipush 99, 2) := by decide +kernel
theorem dX3_choose_15 : decode cX3_choose 15 = .ok (.if_icmp .ge 7, 3) := by decide +kernel
theorem dX3_choose_18 : decode cX3_choose 18 = .ok (.iload_n 1, 1) := by decide +kernel
theorem dX3_choose_19 : decode cX3_choose 19 = .ok (.goto 5, 3) := by decide +kernel
theorem dX3_choose_22 : decode cX3_choose 22 = .ok (.bipush (-9), 2) := by decide +kernel
theorem dX3_choose_24 : decode cX3_choose 24 = .ok (.putfield 119, 3) := by decide +kernel
theorem dX3_choose_27 : decode cX3_choose 27 = .ok (.aload_n 0, 1) := by decide +kernel
theorem dX3_choose_28 : decode cX3_choose 28 = .ok (.lconst 0, 1) := by decide +kernel
theorem dX3_choose_29 : decode cX3_choose 29 = .ok (.putfield 31, 3) := by decide +kernel
theorem dX3_choose_32 : decode cX3_choose 32 = .ok (.iconst 0, 1) := by decide +kernel
theorem dX3_choose_33 : decode cX3_choose 33 = .ok (.istore_n 3, 1) := by decide +kernel
theorem dX3_choose_34 : decode cX3_choose 34 = .ok (.iload_n 3, 1) := by decide +kernel
theorem dX3_choose_35 : decode cX3_choose 35 = .ok (.aload_n 0, 1) := by decide +kernel
theorem dX3_choose_36 : decode cX3_choose 36 = .ok (.getfield 12, 3) := by decide +kernel
theorem dX3_choose_39 : decode cX3_choose 39 = .ok (.getfield 50, 3) := by decide +kernel
theorem dX3_choose_42 : decode cX3_choose 42 = .ok (.if_icmp .ge 73, 3) := by decide +kernel
theorem dX3_choose_45 : decode cX3_choose 45 = .ok (.aload_n 0, 1) := by decide +kernel
theorem dX3_choose_46 : decode cX3_choose 46 = .ok (.getfield 119, 3) := by decide +kernel
theorem dX3_choose_49 : decode cX3_choose 49 = .ok (.bipush (-9), 2) := by decide +kernel
theorem dX3_choose_51 : decode cX3_choose 51 = .ok (.if_icmp .eq 64, 3) := by decide +kernel
theorem dX3_choose_54 : decode cX3_choose 54 = .ok (.aload_n 0, 1) := by decide +kernel
theorem dX3_choose_55 : decode cX3_choose 55 = .ok (.iload_n 3, 1) := by decide +kernel
theorem dX3_choose_56 : decode cX3_choose 56 = .ok (.iload_n 2, 1) := by decide +kernel
theorem dX3_choose_57 : decode cX3_choose 57 = .ok (.iload_n 1, 1) := by decide +kernel
theorem dX3_choose_58 : decode cX3_choose 58 = .ok (.invokevirtual 122, 3) := by decide +kernel
theorem dX3_choose_61 : decode cX3_choose 61 = .ok (.istore 4, 2) := by decide +kernel
theorem dX3_choose_63 : decode cX3_choose 63 = .ok (.aload_n 0, 1) := by decide +kernel
theorem dX3_choose_64 : decode cX3_choose 64 = .ok (.dup, 1) := by decide +kernel
theorem dX3_choose_65 : decode cX3_choose 65 = .ok (.getfield 31, 3) := by decide +kernel
theorem dX3_choose_68 : decode cX3_choose 68 = .ok (.aload_n 0, 1) := by decide +kernel
theorem dX3_choose_69 : decode cX3_choose 69 = .ok (.iload 4, 2) := by decide +kernel
theorem dX3_choose_71 : decode cX3_choose 71 = .ok (.invokevirtual 87, 3) := by decide +kernel
theorem dX3_choose_74 : decode cX3_choose 74 = .ok (.i2l, 1) := by decide +kernel
theorem dX3_choose_75 : decode cX3_choose 75 = .ok (.aload_n 0, 1) := by decide +kernel
theorem dX3_choose_76 : decode cX3_choose 76 = .ok (.getfield 12, 3) := by decide +kernel
theorem dX3_choose_79 : decode cX3_choose 79 = .ok (.iload_n 3, 1) := by decide +kernel
theorem dX3_choose_80 : decode cX3_choose 80 = .ok (.invokevirtual 126, 3) := by decide +kernel
theorem dX3_choose_83 : decode cX3_choose 83 = .ok (.lshl, 1) := by decide +kernel
theorem dX3_choose_84 : decode cX3_choose 84 = .ok (.lor, 1) := by decide +kernel
theorem dX3_choose_85 : decode cX3_choose 85 = .ok (.putfield 31, 3) := by decide +kernel
theorem dX3_choose_88 : decode cX3_choose 88 = .ok (.iload_n 1, 1) := by decide +kernel
theorem dX3_choose_89 : decode cX3_choose 89 = .ok (.aload_n 0, 1) := by decide +kernel
theorem dX3_choose_90 : decode cX3_choose 90 = .ok (.iload_n 3, 1) := by decide +kernel
theorem dX3_choose_91 : decode cX3_choose 91 = .ok (.aload_n 0, 1) := by decide +kernel
theorem dX3_choose_92 : decode cX3_choose 92 = .ok (.iload 4, 2) := by decide +kernel
theorem dX3_choose_94 : decode cX3_choose 94 = .ok (.invokevirtual 87, 3) := by decide +kernel
theorem dX3_choose_97 : decode cX3_choose 97 = .ok (.invokevirtual 90, 3) := by decide +kernel
theorem dX3_choose_100 : decode cX3_choose 100 = .ok (.isub, 1) := by decide +kernel
theorem dX3_choose_101 : decode cX3_choose 101 = .ok (.istore_n 1, 1) := by decide +kernel
theorem dX3_choose_102 : decode cX3_choose 102 = .ok (.aload_n 0, 1) := by decide +kernel
theorem dX3_choose_103 : decode cX3_choose 103 = .ok (.iload 4, 2) := by decide +kernel
theorem dX3_choose_105 : decode cX3_choose 105 = .ok (.invokevirtual 93, 3) := by decide +kernel
theorem dX3_choose_108 : decode cX3_choose 108 = .ok (.istore_n 2, 1) := by decide +kernel
theorem dX3_choose_109 : decode cX3_choose 109 = .ok (.iinc 3 1, 3) := by decide +kernel
theorem dX3_choose_112 : decode cX3_choose 112 = .ok (.goto (-78), 3) := by decide +kernel
theorem dX3_choose_115 : decode cX3_choose 115 = .ok (.return_, 1) := by decide +kernel
set_option maxRecDepth 20000 in
theorem ggX3_firstThatLeaves_X3_meets : GoodIn wsX3_firstThatLeaves wsX3_meets := goodIn_r _ [6] (by decide +kernel) (by decide +kernel)
set_option maxRecDepth 20000 in
theorem gX3_firstThatLeaves_X3_meets : GoodIn wsX3_firstThatLeaves (va_wsS RX3 80 yX3_meets wsX3_meets) := goodIn_app (goodIn_of _ (by decide +kernel)) ggX3_firstThatLeaves_X3_meets
set_option maxRecDepth 20000 in
theorem ggX3_firstThatLeaves_X3_fewestAt : GoodIn wsX3_firstThatLeaves wsX3_fewestAt := goodIn_r _ [10, 11, 12, 13, 14, 15, 16, 17, 18, 19] (by decide +kernel) (by decide +kernel)
set_option maxRecDepth 20000 in
theorem gX3_firstThatLeaves_X3_fewestAt : GoodIn wsX3_firstThatLeaves (wsV RX3 115 RX3 yX3_fewestAt wsX3_fewestAt) := goodIn_app (goodIn_of _ (by decide +kernel)) ggX3_firstThatLeaves_X3_fewestAt
theorem dX3_firstThatLeaves_0 : decode cX3_firstThatLeaves 0 = .ok (.iconst 0, 1) := by decide +kernel
theorem dX3_firstThatLeaves_1 : decode cX3_firstThatLeaves 1 = .ok (.istore 4, 2) := by decide +kernel
theorem dX3_firstThatLeaves_3 : decode cX3_firstThatLeaves 3 = .ok (.iload 4, 2) := by decide +kernel
theorem dX3_firstThatLeaves_5 : decode cX3_firstThatLeaves 5 = .ok (.aload_n 0, 1) := by decide +kernel
theorem dX3_firstThatLeaves_6 : decode cX3_firstThatLeaves 6 = .ok (.getfield 53, 3) := by decide +kernel
theorem dX3_firstThatLeaves_9 : decode cX3_firstThatLeaves 9 = .ok (.if_icmp .ge 41, 3) := by decide +kernel
theorem dX3_firstThatLeaves_12 : decode cX3_firstThatLeaves 12 = .ok (.iload 4, 2) := by decide +kernel
theorem dX3_firstThatLeaves_14 : decode cX3_firstThatLeaves 14 = .ok (.bipush 68, 2) := by decide +kernel
theorem dX3_firstThatLeaves_16 : decode cX3_firstThatLeaves 16 = .ok (.if_icmp .ge 34, 3) := by decide +kernel
theorem dX3_firstThatLeaves_19 : decode cX3_firstThatLeaves 19 = .ok (.aload_n 0, 1) := by decide +kernel
theorem dX3_firstThatLeaves_20 : decode cX3_firstThatLeaves 20 = .ok (.getfield 22, 3) := by decide +kernel
theorem dX3_firstThatLeaves_23 : decode cX3_firstThatLeaves 23 = .ok (.iload 4, 2) := by decide +kernel
theorem dX3_firstThatLeaves_25 : decode cX3_firstThatLeaves 25 = .ok (.iaload, 1) := by decide +kernel
theorem dX3_firstThatLeaves_26 : decode cX3_firstThatLeaves 26 = .ok (.iload_n 2, 1) := by decide +kernel
theorem dX3_firstThatLeaves_27 : decode cX3_firstThatLeaves 27 = .ok (.invokestatic 80, 3) := by decide +kernel
theorem dX3_firstThatLeaves_30 : decode cX3_firstThatLeaves 30 = .ok (.ifCond .eq 14, 3) := by decide +kernel
theorem dX3_firstThatLeaves_33 : decode cX3_firstThatLeaves 33 = .ok (.aload_n 0, 1) := by decide +kernel
theorem dX3_firstThatLeaves_34 : decode cX3_firstThatLeaves 34 = .ok (.iload_n 1, 1) := by decide +kernel
theorem dX3_firstThatLeaves_35 : decode cX3_firstThatLeaves 35 = .ok (.iload 4, 2) := by decide +kernel
theorem dX3_firstThatLeaves_37 : decode cX3_firstThatLeaves 37 = .ok (.invokevirtual 115, 3) := by decide +kernel
theorem dX3_firstThatLeaves_40 : decode cX3_firstThatLeaves 40 = .ok (.iload_n 3, 1) := by decide +kernel
theorem dX3_firstThatLeaves_41 : decode cX3_firstThatLeaves 41 = .ok (.if_icmp .eq 9, 3) := by decide +kernel
theorem dX3_firstThatLeaves_44 : decode cX3_firstThatLeaves 44 = .ok (.iinc 4 1, 3) := by decide +kernel
theorem dX3_firstThatLeaves_47 : decode cX3_firstThatLeaves 47 = .ok (.goto (-44), 3) := by decide +kernel
theorem dX3_firstThatLeaves_50 : decode cX3_firstThatLeaves 50 = .ok (.iload 4, 2) := by decide +kernel
theorem dX3_firstThatLeaves_52 : decode cX3_firstThatLeaves 52 = .ok (.ireturn, 1) := by decide +kernel
theorem dX3_rowAt_0 : decode cX3_rowAt 0 = .ok (.iload_n 1, 1) := by decide +kernel
theorem dX3_rowAt_1 : decode cX3_rowAt 1 = .ok (.ifCond .lt 21, 3) := by decide +kernel
theorem dX3_rowAt_4 : decode cX3_rowAt 4 = .ok (.iload_n 1, 1) := by decide +kernel
theorem dX3_rowAt_5 : decode cX3_rowAt 5 = .ok (.aload_n 0, 1) := by decide +kernel
theorem dX3_rowAt_6 : decode cX3_rowAt 6 = .ok (.getfield 18, 3) := by decide +kernel
theorem dX3_rowAt_9 : decode cX3_rowAt 9 = .ok (.arraylength, 1) := by decide +kernel
theorem dX3_rowAt_10 : decode cX3_rowAt 10 = .ok (.if_icmp .ge 12, 3) := by decide +kernel
theorem dX3_rowAt_13 : decode cX3_rowAt 13 = .ok (.aload_n 0, 1) := by decide +kernel
theorem dX3_rowAt_14 : decode cX3_rowAt 14 = .ok (.getfield 18, 3) := by decide +kernel
theorem dX3_rowAt_17 : decode cX3_rowAt 17 = .ok (.iload_n 1, 1) := by decide +kernel
theorem dX3_rowAt_18 : decode cX3_rowAt 18 = .ok (.iaload, 1) := by decide +kernel
theorem dX3_rowAt_19 : decode cX3_rowAt 19 = .ok (.goto 4, 3) := by decide +kernel
theorem dX3_rowAt_22 : decode cX3_rowAt 22 = .ok (.iconst 0, 1) := by decide +kernel
theorem dX3_rowAt_23 : decode cX3_rowAt 23 = .ok (.ireturn, 1) := by decide +kernel
theorem dX3_nearAt_0 : decode cX3_nearAt 0 = .ok (.iload_n 1, 1) := by decide +kernel
theorem dX3_nearAt_1 : decode cX3_nearAt 1 = .ok (.ifCond .lt 21, 3) := by decide +kernel
theorem dX3_nearAt_4 : decode cX3_nearAt 4 = .ok (.iload_n 1, 1) := by decide +kernel
theorem dX3_nearAt_5 : decode cX3_nearAt 5 = .ok (.aload_n 0, 1) := by decide +kernel
theorem dX3_nearAt_6 : decode cX3_nearAt 6 = .ok (.getfield 25, 3) := by decide +kernel
theorem dX3_nearAt_9 : decode cX3_nearAt 9 = .ok (.arraylength, 1) := by decide +kernel
theorem dX3_nearAt_10 : decode cX3_nearAt 10 = .ok (.if_icmp .ge 12, 3) := by decide +kernel
theorem dX3_nearAt_13 : decode cX3_nearAt 13 = .ok (.aload_n 0, 1) := by decide +kernel
theorem dX3_nearAt_14 : decode cX3_nearAt 14 = .ok (.getfield 25, 3) := by decide +kernel
theorem dX3_nearAt_17 : decode cX3_nearAt 17 = .ok (.iload_n 1, 1) := by decide +kernel
theorem dX3_nearAt_18 : decode cX3_nearAt 18 = .ok (.iaload, 1) := by decide +kernel
theorem dX3_nearAt_19 : decode cX3_nearAt 19 = .ok (.goto 4, 3) := by decide +kernel
theorem dX3_nearAt_22 : decode cX3_nearAt 22 = .ok (.iconst 0, 1) := by decide +kernel
theorem dX3_nearAt_23 : decode cX3_nearAt 23 = .ok (.ireturn, 1) := by decide +kernel
theorem dX3_fewestAt_0 : decode cX3_fewestAt 0 = .ok (.iload_n 1, 1) := by decide +kernel
theorem dX3_fewestAt_1 : decode cX3_fewestAt 1 = .ok (.bipush 68, 2) := by decide +kernel
theorem dX3_fewestAt_3 : decode cX3_fewestAt 3 = .ok (.imul, 1) := by decide +kernel
theorem dX3_fewestAt_4 : decode cX3_fewestAt 4 = .ok (.iload_n 2, 1) := by decide +kernel
theorem dX3_fewestAt_5 : decode cX3_fewestAt 5 = .ok (.iadd, 1) := by decide +kernel
theorem dX3_fewestAt_6 : decode cX3_fewestAt 6 = .ok (.istore_n 3, 1) := by decide +kernel
theorem dX3_fewestAt_7 : decode cX3_fewestAt 7 = .ok (.iload_n 3, 1) := by decide +kernel
theorem dX3_fewestAt_8 : decode cX3_fewestAt 8 = .ok (.ifCond .lt 21, 3) := by decide +kernel
theorem dX3_fewestAt_11 : decode cX3_fewestAt 11 = .ok (.iload_n 3, 1) := by decide +kernel
theorem dX3_fewestAt_12 : decode cX3_fewestAt 12 = .ok (.aload_n 0, 1) := by decide +kernel
theorem dX3_fewestAt_13 : decode cX3_fewestAt 13 = .ok (.getfield 28, 3) := by decide +kernel
theorem dX3_fewestAt_16 : decode cX3_fewestAt 16 = .ok (.arraylength, 1) := by decide +kernel
theorem dX3_fewestAt_17 : decode cX3_fewestAt 17 = .ok (.if_icmp .ge 12, 3) := by decide +kernel
theorem dX3_fewestAt_20 : decode cX3_fewestAt 20 = .ok (.aload_n 0, 1) := by decide +kernel
theorem dX3_fewestAt_21 : decode cX3_fewestAt 21 = .ok (.getfield 28, 3) := by decide +kernel
theorem dX3_fewestAt_24 : decode cX3_fewestAt 24 = .ok (.iload_n 3, 1) := by decide +kernel
theorem dX3_fewestAt_25 : decode cX3_fewestAt 25 = .ok (.iaload, 1) := by decide +kernel
theorem dX3_fewestAt_26 : decode cX3_fewestAt 26 = .ok (.goto 5, 3) := by decide +kernel
theorem dX3_fewestAt_29 : decode cX3_fewestAt 29 = .ok (.bipush 99, 2) := by decide +kernel
theorem dX3_fewestAt_31 : decode cX3_fewestAt 31 = .ok (.ireturn, 1) := by decide +kernel
theorem dX3_setFewest_0 : decode cX3_setFewest 0 = .ok (.iload_n 1, 1) := by decide +kernel
theorem dX3_setFewest_1 : decode cX3_setFewest 1 = .ok (.bipush 68, 2) := by decide +kernel
theorem dX3_setFewest_3 : decode cX3_setFewest 3 = .ok (.imul, 1) := by decide +kernel
theorem dX3_setFewest_4 : decode cX3_setFewest 4 = .ok (.iload_n 2, 1) := by decide +kernel
theorem dX3_setFewest_5 : decode cX3_setFewest 5 = .ok (.iadd, 1) := by decide +kernel
theorem dX3_setFewest_6 : decode cX3_setFewest 6 = .ok (.istore 4, 2) := by decide +kernel
theorem dX3_setFewest_8 : decode cX3_setFewest 8 = .ok (.iload 4, 2) := by decide +kernel
theorem dX3_setFewest_10 : decode cX3_setFewest 10 = .ok (.ifCond .lt 21, 3) := by decide +kernel
theorem dX3_setFewest_13 : decode cX3_setFewest 13 = .ok (.iload 4, 2) := by decide +kernel
theorem dX3_setFewest_15 : decode cX3_setFewest 15 = .ok (.aload_n 0, 1) := by decide +kernel
theorem dX3_setFewest_16 : decode cX3_setFewest 16 = .ok (.getfield 28, 3) := by decide +kernel
theorem dX3_setFewest_19 : decode cX3_setFewest 19 = .ok (.arraylength, 1) := by decide +kernel
theorem dX3_setFewest_20 : decode cX3_setFewest 20 = .ok (.if_icmp .ge 11, 3) := by decide +kernel
theorem dX3_setFewest_23 : decode cX3_setFewest 23 = .ok (.aload_n 0, 1) := by decide +kernel
theorem dX3_setFewest_24 : decode cX3_setFewest 24 = .ok (.getfield 28, 3) := by decide +kernel
theorem dX3_setFewest_27 : decode cX3_setFewest 27 = .ok (.iload 4, 2) := by decide +kernel
theorem dX3_setFewest_29 : decode cX3_setFewest 29 = .ok (.iload_n 3, 1) := by decide +kernel
theorem dX3_setFewest_30 : decode cX3_setFewest 30 = .ok (.iastore, 1) := by decide +kernel
theorem dX3_setFewest_31 : decode cX3_setFewest 31 = .ok (.return_, 1) := by decide +kernel
set_option maxRecDepth 20000 in
theorem ggX4_init_X6_init : GoodIn wsX4_init wsX6_init := goodIn_r _ [10, 11, 2, 3, 12, 13, 14, 15, 16, 17, 18, 19, 20, 21, 22, 23, 24, 25, 26, 27, 30, 31, 32, 33, 34] (by decide +kernel) (by decide +kernel)
set_option maxRecDepth 20000 in
theorem gX4_init_X6_init : GoodIn wsX4_init (wsX6_init) := ggX4_init_X6_init
theorem dX4_init_0 : decode cX4_init 0 = .ok (.aload_n 0, 1) := by decide +kernel
theorem dX4_init_1 : decode cX4_init 1 = .ok (.invokespecial 3, 3) := by decide +kernel
theorem dX4_init_4 : decode cX4_init 4 = .ok (.aload_n 0, 1) := by decide +kernel
theorem dX4_init_5 : decode cX4_init 5 = .ok (.new 9, 3) := by decide +kernel
theorem dX4_init_8 : decode cX4_init 8 = .ok (.dup, 1) := by decide +kernel
theorem dX4_init_9 : decode cX4_init 9 = .ok (.bipush 6, 2) := by decide +kernel
theorem dX4_init_11 : decode cX4_init 11 = .ok (.invokespecial 11, 3) := by decide +kernel
theorem dX4_init_14 : decode cX4_init 14 = .ok (.putfield 14, 3) := by decide +kernel
theorem dX4_init_17 : decode cX4_init 17 = .ok (.return_, 1) := by decide +kernel
set_option maxRecDepth 20000 in
theorem ggX4_add_X6_moveUp : GoodIn wsX4_add wsX6_moveUp := goodIn_r _ [7, 8, 9, 10, 11, 6, 12, 13, 14, 15, 16, 17, 18, 19, 20, 21, 22, 23, 24, 25, 26, 30, 31, 32, 33, 34, 35] (by decide +kernel) (by decide +kernel)
set_option maxRecDepth 20000 in
theorem gX4_add_X6_moveUp : GoodIn wsX4_add (wsV RX4 24 RX6 yX6_moveUp wsX6_moveUp) := goodIn_app (goodIn_of _ (by decide +kernel)) ggX4_add_X6_moveUp
set_option maxRecDepth 20000 in
theorem ggX4_add_X6_put : GoodIn wsX4_add wsX6_put := goodIn_r _ [16, 9, 10, 11, 6, 12, 8, 17, 18, 19, 20, 21, 22, 23, 24, 25, 26, 30, 31, 32, 33, 34, 35] (by decide +kernel) (by decide +kernel)
set_option maxRecDepth 20000 in
theorem gX4_add_X6_put : GoodIn wsX4_add (wsV RX4 27 RX6 yX6_put wsX6_put) := goodIn_app (goodIn_of _ (by decide +kernel)) ggX4_add_X6_put
theorem dX4_add_0 : decode cX4_add 0 = .ok (.aload_n 0, 1) := by decide +kernel
theorem dX4_add_1 : decode cX4_add 1 = .ok (.getfield 20, 3) := by decide +kernel
theorem dX4_add_4 : decode cX4_add 4 = .ok (.bipush 6, 2) := by decide +kernel
theorem dX4_add_6 : decode cX4_add 6 = .ok (.if_icmp .lt 15, 3) := by decide +kernel
theorem dX4_add_9 : decode cX4_add 9 = .ok (.aload_n 0, 1) := by decide +kernel
theorem dX4_add_10 : decode cX4_add 10 = .ok (.getfield 14, 3) := by decide +kernel
theorem dX4_add_13 : decode cX4_add 13 = .ok (.invokevirtual 24, 3) := by decide +kernel
theorem dX4_add_16 : decode cX4_add 16 = .ok (.aload_n 0, 1) := by decide +kernel
theorem dX4_add_17 : decode cX4_add 17 = .ok (.iconst 5, 1) := by decide +kernel
theorem dX4_add_18 : decode cX4_add 18 = .ok (.putfield 20, 3) := by decide +kernel
theorem dX4_add_21 : decode cX4_add 21 = .ok (.aload_n 0, 1) := by decide +kernel
theorem dX4_add_22 : decode cX4_add 22 = .ok (.getfield 14, 3) := by decide +kernel
theorem dX4_add_25 : decode cX4_add 25 = .ok (.aload_n 0, 1) := by decide +kernel
theorem dX4_add_26 : decode cX4_add 26 = .ok (.getfield 20, 3) := by decide +kernel
theorem dX4_add_29 : decode cX4_add 29 = .ok (.aload_n 1, 1) := by decide +kernel
theorem dX4_add_30 : decode cX4_add 30 = .ok (.invokevirtual 27, 3) := by decide +kernel
theorem dX4_add_33 : decode cX4_add 33 = .ok (.aload_n 0, 1) := by decide +kernel
theorem dX4_add_34 : decode cX4_add 34 = .ok (.dup, 1) := by decide +kernel
theorem dX4_add_35 : decode cX4_add 35 = .ok (.getfield 20, 3) := by decide +kernel
theorem dX4_add_38 : decode cX4_add 38 = .ok (.iconst 1, 1) := by decide +kernel
theorem dX4_add_39 : decode cX4_add 39 = .ok (.iadd, 1) := by decide +kernel
theorem dX4_add_40 : decode cX4_add 40 = .ok (.putfield 20, 3) := by decide +kernel
theorem dX4_add_43 : decode cX4_add 43 = .ok (.return_, 1) := by decide +kernel
set_option maxRecDepth 20000 in
theorem ggX4_takeLatest_X6_copyTo : GoodIn wsX4_takeLatest wsX6_copyTo := goodIn_r _ [7, 8, 9, 10, 6, 11, 12, 13, 14, 15, 16, 17, 18, 19, 20, 21, 22, 25, 26, 27, 28, 29, 30] (by decide +kernel) (by decide +kernel)
set_option maxRecDepth 20000 in
theorem gX4_takeLatest_X6_copyTo : GoodIn wsX4_takeLatest (wsV RX4 31 RX6 yX6_copyTo wsX6_copyTo) := goodIn_app (goodIn_of _ (by decide +kernel)) ggX4_takeLatest_X6_copyTo
theorem dX4_takeLatest_0 : decode cX4_takeLatest 0 = .ok (.aload_n 0, 1) := by decide +kernel
theorem dX4_takeLatest_1 : decode cX4_takeLatest 1 = .ok (.dup, 1) := by decide +kernel
theorem dX4_takeLatest_2 : decode cX4_takeLatest 2 = .ok (.getfield 20, 3) := by decide +kernel
theorem dX4_takeLatest_5 : decode cX4_takeLatest 5 = .ok (.iconst 1, 1) := by decide +kernel
theorem dX4_takeLatest_6 : decode cX4_takeLatest 6 = .ok (.isub, 1) := by decide +kernel
theorem dX4_takeLatest_7 : decode cX4_takeLatest 7 = .ok (.putfield 20, 3) := by decide +kernel
theorem dX4_takeLatest_10 : decode cX4_takeLatest 10 = .ok (.aload_n 0, 1) := by decide +kernel
theorem dX4_takeLatest_11 : decode cX4_takeLatest 11 = .ok (.getfield 14, 3) := by decide +kernel
theorem dX4_takeLatest_14 : decode cX4_takeLatest 14 = .ok (.aload_n 0, 1) := by decide +kernel
theorem dX4_takeLatest_15 : decode cX4_takeLatest 15 = .ok (.getfield 20, 3) := by decide +kernel
theorem dX4_takeLatest_18 : decode cX4_takeLatest 18 = .ok (.aload_n 1, 1) := by decide +kernel
theorem dX4_takeLatest_19 : decode cX4_takeLatest 19 = .ok (.invokevirtual 31, 3) := by decide +kernel
theorem dX4_takeLatest_22 : decode cX4_takeLatest 22 = .ok (.return_, 1) := by decide +kernel
theorem dX5_init_0 : decode cX5_init 0 = .ok (.aload_n 0, 1) := by decide +kernel
theorem dX5_init_1 : decode cX5_init 1 = .ok (.invokespecial 3, 3) := by decide +kernel
theorem dX5_init_4 : decode cX5_init 4 = .ok (.aload_n 0, 1) := by decide +kernel
theorem dX5_init_5 : decode cX5_init 5 = .ok (.bipush 6, 2) := by decide +kernel
theorem dX5_init_7 : decode cX5_init 7 = .ok (.newarray .int, 2) := by decide +kernel
theorem dX5_init_9 : decode cX5_init 9 = .ok (.putfield 11, 3) := by decide +kernel
theorem dX5_init_12 : decode cX5_init 12 = .ok (.aload_n 0, 1) := by decide +kernel
theorem dX5_init_13 : decode cX5_init 13 = .ok (.bipush 6, 2) := by decide +kernel
theorem dX5_init_15 : decode cX5_init 15 = .ok (.newarray .int, 2) := by decide +kernel
theorem dX5_init_17 : decode cX5_init 17 = .ok (.putfield 15, 3) := by decide +kernel
theorem dX5_init_20 : decode cX5_init 20 = .ok (.aload_n 0, 1) := by decide +kernel
theorem dX5_init_21 : decode cX5_init 21 = .ok (.bipush 48, 2) := by decide +kernel
theorem dX5_init_23 : decode cX5_init 23 = .ok (.newarray .int, 2) := by decide +kernel
theorem dX5_init_25 : decode cX5_init 25 = .ok (.putfield 18, 3) := by decide +kernel
theorem dX5_init_28 : decode cX5_init 28 = .ok (.return_, 1) := by decide +kernel
theorem dX5_add_0 : decode cX5_add 0 = .ok (.aload_n 0, 1) := by decide +kernel
theorem dX5_add_1 : decode cX5_add 1 = .ok (.getfield 21, 3) := by decide +kernel
theorem dX5_add_4 : decode cX5_add 4 = .ok (.ifCond .lt 12, 3) := by decide +kernel
theorem dX5_add_7 : decode cX5_add 7 = .ok (.aload_n 0, 1) := by decide +kernel
theorem dX5_add_8 : decode cX5_add 8 = .ok (.getfield 21, 3) := by decide +kernel
theorem dX5_add_11 : decode cX5_add 11 = .ok (.bipush 6, 2) := by decide +kernel
theorem dX5_add_13 : decode cX5_add 13 = .ok (.if_icmp .lt 5, 3) := by decide +kernel
theorem dX5_add_16 : decode cX5_add 16 = .ok (.iconst 0, 1) := by decide +kernel
theorem dX5_add_17 : decode cX5_add 17 = .ok (.ireturn, 1) := by decide +kernel
theorem dX5_add_18 : decode cX5_add 18 = .ok (.aload_n 0, 1) := by decide +kernel
theorem dX5_add_19 : decode cX5_add 19 = .ok (.getfield 11, 3) := by decide +kernel
theorem dX5_add_22 : decode cX5_add 22 = .ok (.aload_n 0, 1) := by decide +kernel
theorem dX5_add_23 : decode cX5_add 23 = .ok (.getfield 21, 3) := by decide +kernel
theorem dX5_add_26 : decode cX5_add 26 = .ok (.iload_n 1, 1) := by decide +kernel
theorem dX5_add_27 : decode cX5_add 27 = .ok (.iastore, 1) := by decide +kernel
theorem dX5_add_28 : decode cX5_add 28 = .ok (.aload_n 0, 1) := by decide +kernel
theorem dX5_add_29 : decode cX5_add 29 = .ok (.getfield 15, 3) := by decide +kernel
theorem dX5_add_32 : decode cX5_add 32 = .ok (.aload_n 0, 1) := by decide +kernel
theorem dX5_add_33 : decode cX5_add 33 = .ok (.getfield 21, 3) := by decide +kernel
theorem dX5_add_36 : decode cX5_add 36 = .ok (.iload_n 2, 1) := by decide +kernel
theorem dX5_add_37 : decode cX5_add 37 = .ok (.iastore, 1) := by decide +kernel
theorem dX5_add_38 : decode cX5_add 38 = .ok (.aload_n 0, 1) := by decide +kernel
theorem dX5_add_39 : decode cX5_add 39 = .ok (.dup, 1) := by decide +kernel
theorem dX5_add_40 : decode cX5_add 40 = .ok (.getfield 21, 3) := by decide +kernel
theorem dX5_add_43 : decode cX5_add 43 = .ok (.iconst 1, 1) := by decide +kernel
theorem dX5_add_44 : decode cX5_add 44 = .ok (.iadd, 1) := by decide +kernel
theorem dX5_add_45 : decode cX5_add 45 = .ok (.putfield 21, 3) := by decide +kernel
theorem dX5_add_48 : decode cX5_add 48 = .ok (.iconst 1, 1) := by decide +kernel
theorem dX5_add_49 : decode cX5_add 49 = .ok (.ireturn, 1) := by decide +kernel
set_option maxRecDepth 20000 in
theorem ggX5_cellsThatFit_X5_fits : GoodIn wsX5_cellsThatFit wsX5_fits := goodIn_r _ [5, 6, 7, 8, 9, 10, 11, 12, 13, 14, 15, 16, 17, 18, 19, 20, 21, 22, 23, 24, 25, 26, 27, 28, 29, 30, 31, 32, 33, 34, 35, 36, 37, 38, 39, 40, 41, 42, 43, 44, 45, 46, 47, 54, 55, 56, 57, 49, 50, 51, 52, 53] (by decide +kernel) (by decide +kernel)
set_option maxRecDepth 20000 in
theorem gX5_cellsThatFit_X5_fits : GoodIn wsX5_cellsThatFit (wsV RX5 33 RX5 yX5_fits wsX5_fits) := goodIn_app (goodIn_of _ (by decide +kernel)) ggX5_cellsThatFit_X5_fits
set_option maxRecDepth 20000 in
theorem ggX5_cellsThatFit_X0_numberOf : GoodIn wsX5_cellsThatFit wsX0_numberOf := goodIn_r _ [36, 20, 49, 50, 51, 52, 53] (by decide +kernel) (by decide +kernel)
set_option maxRecDepth 20000 in
theorem gX5_cellsThatFit_X0_numberOf : GoodIn wsX5_cellsThatFit (wsV RX5 37 RX0 yX0_numberOf wsX0_numberOf) := goodIn_app (goodIn_of _ (by decide +kernel)) ggX5_cellsThatFit_X0_numberOf
theorem dX5_cellsThatFit_0 : decode cX5_cellsThatFit 0 = .ok (.iconst 0, 1) := by decide +kernel
theorem dX5_cellsThatFit_1 : decode cX5_cellsThatFit 1 = .ok (.istore_n 2, 1) := by decide +kernel
theorem dX5_cellsThatFit_2 : decode cX5_cellsThatFit 2 = .ok (.iconst 0, 1) := by decide +kernel
theorem dX5_cellsThatFit_3 : decode cX5_cellsThatFit 3 = .ok (.istore_n 3, 1) := by decide +kernel
theorem dX5_cellsThatFit_4 : decode cX5_cellsThatFit 4 = .ok (.iload_n 3, 1) := by decide +kernel
theorem dX5_cellsThatFit_5 : decode cX5_cellsThatFit 5 = .ok (.aload_n 1, 1) := by decide +kernel
theorem dX5_cellsThatFit_6 : decode cX5_cellsThatFit 6 = .ok (.getfield 25, 3) := by decide +kernel
theorem dX5_cellsThatFit_9 : decode cX5_cellsThatFit 9 = .ok (.if_icmp .ge 50, 3) := by decide +kernel
theorem dX5_cellsThatFit_12 : decode cX5_cellsThatFit 12 = .ok (.iconst 0, 1) := by decide +kernel
theorem dX5_cellsThatFit_13 : decode cX5_cellsThatFit 13 = .ok (.istore 4, 2) := by decide +kernel
theorem dX5_cellsThatFit_15 : decode cX5_cellsThatFit 15 = .ok (.iload 4, 2) := by decide +kernel
theorem dX5_cellsThatFit_17 : decode cX5_cellsThatFit 17 = .ok (.aload_n 1, 1) := by decide +kernel
theorem dX5_cellsThatFit_18 : decode cX5_cellsThatFit 18 = .ok (.getfield 30, 3) := by decide +kernel
theorem dX5_cellsThatFit_21 : decode cX5_cellsThatFit 21 = .ok (.if_icmp .ge 32, 3) := by decide +kernel
theorem dX5_cellsThatFit_24 : decode cX5_cellsThatFit 24 = .ok (.aload_n 0, 1) := by decide +kernel
theorem dX5_cellsThatFit_25 : decode cX5_cellsThatFit 25 = .ok (.aload_n 1, 1) := by decide +kernel
theorem dX5_cellsThatFit_26 : decode cX5_cellsThatFit 26 = .ok (.iload 4, 2) := by decide +kernel
theorem dX5_cellsThatFit_28 : decode cX5_cellsThatFit 28 = .ok (.iload_n 3, 1) := by decide +kernel
theorem dX5_cellsThatFit_29 : decode cX5_cellsThatFit 29 = .ok (.invokevirtual 33, 3) := by decide +kernel
theorem dX5_cellsThatFit_32 : decode cX5_cellsThatFit 32 = .ok (.ifCond .eq 15, 3) := by decide +kernel
theorem dX5_cellsThatFit_35 : decode cX5_cellsThatFit 35 = .ok (.iload_n 2, 1) := by decide +kernel
theorem dX5_cellsThatFit_36 : decode cX5_cellsThatFit 36 = .ok (.iconst 1, 1) := by decide +kernel
theorem dX5_cellsThatFit_37 : decode cX5_cellsThatFit 37 = .ok (.aload_n 1, 1) := by decide +kernel
theorem dX5_cellsThatFit_38 : decode cX5_cellsThatFit 38 = .ok (.iload 4, 2) := by decide +kernel
theorem dX5_cellsThatFit_40 : decode cX5_cellsThatFit 40 = .ok (.iload_n 3, 1) := by decide +kernel
theorem dX5_cellsThatFit_41 : decode cX5_cellsThatFit 41 = .ok (.invokevirtual 37, 3) := by decide +kernel
theorem dX5_cellsThatFit_44 : decode cX5_cellsThatFit 44 = .ok (.ishl, 1) := by decide +kernel
theorem dX5_cellsThatFit_45 : decode cX5_cellsThatFit 45 = .ok (.ior, 1) := by decide +kernel
theorem dX5_cellsThatFit_46 : decode cX5_cellsThatFit 46 = .ok (.istore_n 2, 1) := by decide +kernel
theorem dX5_cellsThatFit_47 : decode cX5_cellsThatFit 47 = .ok (.iinc 4 1, 3) := by decide +kernel
theorem dX5_cellsThatFit_50 : decode cX5_cellsThatFit 50 = .ok (.goto (-35), 3) := by decide +kernel
theorem dX5_cellsThatFit_53 : decode cX5_cellsThatFit 53 = .ok (.iinc 3 1, 3) := by decide +kernel
theorem dX5_cellsThatFit_56 : decode cX5_cellsThatFit 56 = .ok (.goto (-52), 3) := by decide +kernel
theorem dX5_cellsThatFit_59 : decode cX5_cellsThatFit 59 = .ok (.iload_n 2, 1) := by decide +kernel
theorem dX5_cellsThatFit_60 : decode cX5_cellsThatFit 60 = .ok (.ireturn, 1) := by decide +kernel
set_option maxRecDepth 20000 in
theorem ggX5_fits_X0_squareOf : GoodIn wsX5_fits wsX0_squareOf := goodIn_r _ [8, 9, 10, 11, 12, 7, 13, 14, 15, 16, 17, 18, 19, 20, 21, 22, 23, 24, 25, 26, 27, 28, 29, 30, 31, 32, 33, 34, 35, 36, 37, 38, 39, 40, 41, 42, 47, 48, 49, 50, 51] (by decide +kernel) (by decide +kernel)
set_option maxRecDepth 20000 in
theorem gX5_fits_X0_squareOf : GoodIn wsX5_fits (wsV RX5 41 RX0 yX0_squareOf wsX0_squareOf) := goodIn_app (goodIn_of _ (by decide +kernel)) ggX5_fits_X0_squareOf
theorem dX5_fits_0 : decode cX5_fits 0 = .ok (.iconst 0, 1) := by decide +kernel
theorem dX5_fits_1 : decode cX5_fits 1 = .ok (.istore 4, 2) := by decide +kernel
theorem dX5_fits_3 : decode cX5_fits 3 = .ok (.iload 4, 2) := by decide +kernel
theorem dX5_fits_5 : decode cX5_fits 5 = .ok (.aload_n 0, 1) := by decide +kernel
theorem dX5_fits_6 : decode cX5_fits 6 = .ok (.getfield 21, 3) := by decide +kernel
theorem dX5_fits_9 : decode cX5_fits 9 = .ok (.if_icmp .ge 41, 3) := by decide +kernel
theorem dX5_fits_12 : decode cX5_fits 12 = .ok (.iload 4, 2) := by decide +kernel
theorem dX5_fits_14 : decode cX5_fits 14 = .ok (.bipush 6, 2) := by decide +kernel
theorem dX5_fits_16 : decode cX5_fits 16 = .ok (.if_icmp .ge 34, 3) := by decide +kernel
theorem dX5_fits_19 : decode cX5_fits 19 = .ok (.aload_n 1, 1) := by decide +kernel
theorem dX5_fits_20 : decode cX5_fits 20 = .ok (.iload_n 2, 1) := by decide +kernel
theorem dX5_fits_21 : decode cX5_fits 21 = .ok (.iload_n 3, 1) := by decide +kernel
theorem dX5_fits_22 : decode cX5_fits 22 = .ok (.aload_n 0, 1) := by decide +kernel
theorem dX5_fits_23 : decode cX5_fits 23 = .ok (.getfield 11, 3) := by decide +kernel
theorem dX5_fits_26 : decode cX5_fits 26 = .ok (.iload 4, 2) := by decide +kernel
theorem dX5_fits_28 : decode cX5_fits 28 = .ok (.iaload, 1) := by decide +kernel
theorem dX5_fits_29 : decode cX5_fits 29 = .ok (.invokevirtual 41, 3) := by decide +kernel
theorem dX5_fits_32 : decode cX5_fits 32 = .ok (.aload_n 0, 1) := by decide +kernel
theorem dX5_fits_33 : decode cX5_fits 33 = .ok (.getfield 15, 3) := by decide +kernel
theorem dX5_fits_36 : decode cX5_fits 36 = .ok (.iload 4, 2) := by decide +kernel
theorem dX5_fits_38 : decode cX5_fits 38 = .ok (.iaload, 1) := by decide +kernel
theorem dX5_fits_39 : decode cX5_fits 39 = .ok (.if_icmp .eq 5, 3) := by decide +kernel
theorem dX5_fits_42 : decode cX5_fits 42 = .ok (.iconst 0, 1) := by decide +kernel
theorem dX5_fits_43 : decode cX5_fits 43 = .ok (.ireturn, 1) := by decide +kernel
theorem dX5_fits_44 : decode cX5_fits 44 = .ok (.iinc 4 1, 3) := by decide +kernel
theorem dX5_fits_47 : decode cX5_fits 47 = .ok (.goto (-44), 3) := by decide +kernel
theorem dX5_fits_50 : decode cX5_fits 50 = .ok (.iconst 1, 1) := by decide +kernel
theorem dX5_fits_51 : decode cX5_fits 51 = .ok (.ireturn, 1) := by decide +kernel
set_option maxRecDepth 20000 in
theorem ggX5_mostAlike_X0_squareOf : GoodIn wsX5_mostAlike wsX0_squareOf := goodIn_r _ [10, 11, 12, 13, 14, 9, 15, 16, 17, 18, 19, 4, 20, 21, 3, 5, 22, 23, 24, 25, 26, 27, 28, 29, 30, 31, 32, 33, 34, 35, 36, 37, 38, 39, 40, 41, 47, 48, 49, 50, 51] (by decide +kernel) (by decide +kernel)
set_option maxRecDepth 20000 in
theorem gX5_mostAlike_X0_squareOf : GoodIn wsX5_mostAlike (wsV RX5 41 RX0 yX0_squareOf wsX0_squareOf) := goodIn_app (goodIn_of _ (by decide +kernel)) ggX5_mostAlike_X0_squareOf
set_option maxRecDepth 20000 in
theorem ggX5_mostAlike_X0_numberOf : GoodIn wsX5_mostAlike wsX0_numberOf := goodIn_r _ [30, 17, 47, 48, 49, 50, 51] (by decide +kernel) (by decide +kernel)
set_option maxRecDepth 20000 in
theorem gX5_mostAlike_X0_numberOf : GoodIn wsX5_mostAlike (wsV RX5 37 RX0 yX0_numberOf wsX0_numberOf) := goodIn_app (goodIn_of _ (by decide +kernel)) ggX5_mostAlike_X0_numberOf
theorem dX5_mostAlike_0 : decode cX5_mostAlike 0 = .ok (.iconst 0, 1) := by decide +kernel
theorem dX5_mostAlike_1 : decode cX5_mostAlike 1 = .ok (.istore 4, 2) := by decide +kernel
theorem dX5_mostAlike_3 : decode cX5_mostAlike 3 = .ok (.iload 4, 2) := by decide +kernel
theorem dX5_mostAlike_5 : decode cX5_mostAlike 5 = .ok (.aload_n 0, 1) := by decide +kernel
theorem dX5_mostAlike_6 : decode cX5_mostAlike 6 = .ok (.getfield 18, 3) := by decide +kernel
theorem dX5_mostAlike_9 : decode cX5_mostAlike 9 = .ok (.arraylength, 1) := by decide +kernel
theorem dX5_mostAlike_10 : decode cX5_mostAlike 10 = .ok (.if_icmp .ge 17, 3) := by decide +kernel
theorem dX5_mostAlike_13 : decode cX5_mostAlike 13 = .ok (.aload_n 0, 1) := by decide +kernel
theorem dX5_mostAlike_14 : decode cX5_mostAlike 14 = .ok (.getfield 18, 3) := by decide +kernel
theorem dX5_mostAlike_17 : decode cX5_mostAlike 17 = .ok (.iload 4, 2) := by decide +kernel
theorem dX5_mostAlike_19 : decode cX5_mostAlike 19 = .ok (.iconst 0, 1) := by decide +kernel
theorem dX5_mostAlike_20 : decode cX5_mostAlike 20 = .ok (.iastore, 1) := by decide +kernel
theorem dX5_mostAlike_21 : decode cX5_mostAlike 21 = .ok (.iinc 4 1, 3) := by decide +kernel
theorem dX5_mostAlike_24 : decode cX5_mostAlike 24 = .ok (.goto (-21), 3) := by decide +kernel
theorem dX5_mostAlike_27 : decode cX5_mostAlike 27 = .ok (.iconst 0, 1) := by decide +kernel
theorem dX5_mostAlike_28 : decode cX5_mostAlike 28 = .ok (.istore 4, 2) := by decide +kernel
theorem dX5_mostAlike_30 : decode cX5_mostAlike 30 = .ok (.iconst 0, 1) := by decide +kernel
theorem dX5_mostAlike_31 : decode cX5_mostAlike 31 = .ok (.istore 5, 2) := by decide +kernel
theorem dX5_mostAlike_33 : decode cX5_mostAlike 33 = .ok (.iload 5, 2) := by decide +kernel
theorem dX5_mostAlike_35 : decode cX5_mostAlike 35 = .ok (.aload_n 1, 1) := by decide +kernel
theorem dX5_mostAlike_36 : decode cX5_mostAlike 36 = .ok (.getfield 25, 3) := by decide +kernel
theorem dX5_mostAlike_39 : decode cX5_mostAlike 39 = .ok (.if_icmp .ge 106, 3) := by decide +kernel
theorem dX5_mostAlike_42 : decode cX5_mostAlike 42 = .ok (.iconst 0, 1) := by decide +kernel
theorem dX5_mostAlike_43 : decode cX5_mostAlike 43 = .ok (.istore 6, 2) := by decide +kernel
theorem dX5_mostAlike_45 : decode cX5_mostAlike 45 = .ok (.iload 6, 2) := by decide +kernel
theorem dX5_mostAlike_47 : decode cX5_mostAlike 47 = .ok (.aload_n 1, 1) := by decide +kernel
theorem dX5_mostAlike_48 : decode cX5_mostAlike 48 = .ok (.getfield 30, 3) := by decide +kernel
theorem dX5_mostAlike_51 : decode cX5_mostAlike 51 = .ok (.if_icmp .ge 88, 3) := by decide +kernel
theorem dX5_mostAlike_54 : decode cX5_mostAlike 54 = .ok (.aload_n 1, 1) := by decide +kernel
theorem dX5_mostAlike_55 : decode cX5_mostAlike 55 = .ok (.iload 6, 2) := by decide +kernel
theorem dX5_mostAlike_57 : decode cX5_mostAlike 57 = .ok (.iload 5, 2) := by decide +kernel
theorem dX5_mostAlike_59 : decode cX5_mostAlike 59 = .ok (.iload_n 3, 1) := by decide +kernel
theorem dX5_mostAlike_60 : decode cX5_mostAlike 60 = .ok (.invokevirtual 41, 3) := by decide +kernel
theorem dX5_mostAlike_63 : decode cX5_mostAlike 63 = .ok (.istore 7, 2) := by decide +kernel
theorem dX5_mostAlike_65 : decode cX5_mostAlike 65 = .ok (.iload_n 2, 1) := by decide +kernel
theorem dX5_mostAlike_66 : decode cX5_mostAlike 66 = .ok (.aload_n 1, 1) := by decide +kernel
theorem dX5_mostAlike_67 : decode cX5_mostAlike 67 = .ok (.iload 6, 2) := by decide +kernel
theorem dX5_mostAlike_69 : decode cX5_mostAlike 69 = .ok (.iload 5, 2) := by decide +kernel
theorem dX5_mostAlike_71 : decode cX5_mostAlike 71 = .ok (.invokevirtual 37, 3) := by decide +kernel
theorem dX5_mostAlike_74 : decode cX5_mostAlike 74 = .ok (.ishr, 1) := by decide +kernel
theorem dX5_mostAlike_75 : decode cX5_mostAlike 75 = .ok (.iconst 1, 1) := by decide +kernel
theorem dX5_mostAlike_76 : decode cX5_mostAlike 76 = .ok (.iand, 1) := by decide +kernel
theorem dX5_mostAlike_77 : decode cX5_mostAlike 77 = .ok (.iconst 1, 1) := by decide +kernel
theorem dX5_mostAlike_78 : decode cX5_mostAlike 78 = .ok (.if_icmp .ne 7, 3) := by decide +kernel
theorem dX5_mostAlike_81 : decode cX5_mostAlike 81 = .ok (.iconst 1, 1) := by decide +kernel
theorem dX5_mostAlike_82 : decode cX5_mostAlike 82 = .ok (.goto 4, 3) := by decide +kernel
theorem dX5_mostAlike_85 : decode cX5_mostAlike 85 = .ok (.iconst 0, 1) := by decide +kernel
theorem dX5_mostAlike_86 : decode cX5_mostAlike 86 = .ok (.istore 8, 2) := by decide +kernel
theorem dX5_mostAlike_88 : decode cX5_mostAlike 88 = .ok (.iload 8, 2) := by decide +kernel
theorem dX5_mostAlike_90 : decode cX5_mostAlike 90 = .ok (.ifCond .eq 43, 3) := by decide +kernel
theorem dX5_mostAlike_93 : decode cX5_mostAlike 93 = .ok (.iload 7, 2) := by decide +kernel
theorem dX5_mostAlike_95 : decode cX5_mostAlike 95 = .ok (.ifCond .lt 38, 3) := by decide +kernel
theorem dX5_mostAlike_98 : decode cX5_mostAlike 98 = .ok (.iload 7, 2) := by decide +kernel
theorem dX5_mostAlike_100 : decode cX5_mostAlike 100 = .ok (.aload_n 0, 1) := by decide +kernel
theorem dX5_mostAlike_101 : decode cX5_mostAlike 101 = .ok (.getfield 18, 3) := by decide +kernel
theorem dX5_mostAlike_104 : decode cX5_mostAlike 104 = .ok (.arraylength, 1) := by decide +kernel
theorem dX5_mostAlike_105 : decode cX5_mostAlike 105 = .ok (.if_icmp .ge 28, 3) := by decide +kernel
theorem dX5_mostAlike_108 : decode cX5_mostAlike 108 = .ok (.aload_n 0, 1) := by decide +kernel
theorem dX5_mostAlike_109 : decode cX5_mostAlike 109 = .ok (.getfield 18, 3) := by decide +kernel
theorem dX5_mostAlike_112 : decode cX5_mostAlike 112 = .ok (.iload 7, 2) := by decide +kernel
theorem dX5_mostAlike_114 : decode cX5_mostAlike 114 = .ok (.dup2, 1) := by decide +kernel
theorem dX5_mostAlike_115 : decode cX5_mostAlike 115 = .ok (.iaload, 1) := by decide +kernel
theorem dX5_mostAlike_116 : decode cX5_mostAlike 116 = .ok (.iconst 1, 1) := by decide +kernel
theorem dX5_mostAlike_117 : decode cX5_mostAlike 117 = .ok (.iadd, 1) := by decide +kernel
theorem dX5_mostAlike_118 : decode cX5_mostAlike 118 = .ok (.iastore, 1) := by decide +kernel
theorem dX5_mostAlike_119 : decode cX5_mostAlike 119 = .ok (.iload 4, 2) := by decide +kernel
theorem dX5_mostAlike_121 : decode cX5_mostAlike 121 = .ok (.aload_n 0, 1) := by decide +kernel
theorem dX5_mostAlike_122 : decode cX5_mostAlike 122 = .ok (.getfield 18, 3) := by decide +kernel
theorem dX5_mostAlike_125 : decode cX5_mostAlike 125 = .ok (.iload 7, 2) := by decide +kernel
theorem dX5_mostAlike_127 : decode cX5_mostAlike 127 = .ok (.iaload, 1) := by decide +kernel
theorem dX5_mostAlike_128 : decode cX5_mostAlike 128 = .ok (.invokestatic 45, 3) := by decide +kernel
theorem dX5_mostAlike_131 : decode cX5_mostAlike 131 = .ok (.istore 4, 2) := by decide +kernel
theorem dX5_mostAlike_133 : decode cX5_mostAlike 133 = .ok (.iinc 6 1, 3) := by decide +kernel
theorem dX5_mostAlike_136 : decode cX5_mostAlike 136 = .ok (.goto (-91), 3) := by decide +kernel
theorem dX5_mostAlike_139 : decode cX5_mostAlike 139 = .ok (.iinc 5 1, 3) := by decide +kernel
theorem dX5_mostAlike_142 : decode cX5_mostAlike 142 = .ok (.goto (-109), 3) := by decide +kernel
theorem dX5_mostAlike_145 : decode cX5_mostAlike 145 = .ok (.iload 4, 2) := by decide +kernel
theorem dX5_mostAlike_147 : decode cX5_mostAlike 147 = .ok (.ireturn, 1) := by decide +kernel
set_option maxRecDepth 20000 in
theorem ggX6_init_X0_init : GoodIn wsX6_init wsX0_init := goodIn_r _ [14, 15, 2, 3, 16, 17, 18, 20, 21, 22, 23, 24] (by decide +kernel) (by decide +kernel)
set_option maxRecDepth 20000 in
theorem gX6_init_X0_init : GoodIn wsX6_init (wsX0_init) := ggX6_init_X0_init
theorem dX6_init_0 : decode cX6_init 0 = .ok (.aload_n 0, 1) := by decide +kernel
theorem dX6_init_1 : decode cX6_init 1 = .ok (.invokespecial 1, 3) := by decide +kernel
theorem dX6_init_4 : decode cX6_init 4 = .ok (.aload_n 0, 1) := by decide +kernel
theorem dX6_init_5 : decode cX6_init 5 = .ok (.iconst 0, 1) := by decide +kernel
theorem dX6_init_6 : decode cX6_init 6 = .ok (.iload_n 1, 1) := by decide +kernel
theorem dX6_init_7 : decode cX6_init 7 = .ok (.invokestatic 7, 3) := by decide +kernel
theorem dX6_init_10 : decode cX6_init 10 = .ok (.anewarray 13, 3) := by decide +kernel
theorem dX6_init_13 : decode cX6_init 13 = .ok (.putfield 15, 3) := by decide +kernel
theorem dX6_init_16 : decode cX6_init 16 = .ok (.iconst 0, 1) := by decide +kernel
theorem dX6_init_17 : decode cX6_init 17 = .ok (.istore_n 2, 1) := by decide +kernel
theorem dX6_init_18 : decode cX6_init 18 = .ok (.iload_n 2, 1) := by decide +kernel
theorem dX6_init_19 : decode cX6_init 19 = .ok (.aload_n 0, 1) := by decide +kernel
theorem dX6_init_20 : decode cX6_init 20 = .ok (.getfield 15, 3) := by decide +kernel
theorem dX6_init_23 : decode cX6_init 23 = .ok (.arraylength, 1) := by decide +kernel
theorem dX6_init_24 : decode cX6_init 24 = .ok (.if_icmp .ge 22, 3) := by decide +kernel
theorem dX6_init_27 : decode cX6_init 27 = .ok (.aload_n 0, 1) := by decide +kernel
theorem dX6_init_28 : decode cX6_init 28 = .ok (.getfield 15, 3) := by decide +kernel
theorem dX6_init_31 : decode cX6_init 31 = .ok (.iload_n 2, 1) := by decide +kernel
theorem dX6_init_32 : decode cX6_init 32 = .ok (.new 13, 3) := by decide +kernel
theorem dX6_init_35 : decode cX6_init 35 = .ok (.dup, 1) := by decide +kernel
theorem dX6_init_36 : decode cX6_init 36 = .ok (.invokespecial 21, 3) := by decide +kernel
theorem dX6_init_39 : decode cX6_init 39 = .ok (.aastore, 1) := by decide +kernel
theorem dX6_init_40 : decode cX6_init 40 = .ok (.iinc 2 1, 3) := by decide +kernel
theorem dX6_init_43 : decode cX6_init 43 = .ok (.goto (-25), 3) := by decide +kernel
theorem dX6_init_46 : decode cX6_init 46 = .ok (.return_, 1) := by decide +kernel
theorem dX6_at_0 : decode cX6_at 0 = .ok (.iload_n 1, 1) := by decide +kernel
theorem dX6_at_1 : decode cX6_at 1 = .ok (.ifCond .lt 21, 3) := by decide +kernel
theorem dX6_at_4 : decode cX6_at 4 = .ok (.iload_n 1, 1) := by decide +kernel
theorem dX6_at_5 : decode cX6_at 5 = .ok (.aload_n 0, 1) := by decide +kernel
theorem dX6_at_6 : decode cX6_at 6 = .ok (.getfield 15, 3) := by decide +kernel
theorem dX6_at_9 : decode cX6_at 9 = .ok (.arraylength, 1) := by decide +kernel
theorem dX6_at_10 : decode cX6_at 10 = .ok (.if_icmp .ge 12, 3) := by decide +kernel
theorem dX6_at_13 : decode cX6_at 13 = .ok (.aload_n 0, 1) := by decide +kernel
theorem dX6_at_14 : decode cX6_at 14 = .ok (.getfield 15, 3) := by decide +kernel
theorem dX6_at_17 : decode cX6_at 17 = .ok (.iload_n 1, 1) := by decide +kernel
theorem dX6_at_18 : decode cX6_at 18 = .ok (.aaload, 1) := by decide +kernel
theorem dX6_at_19 : decode cX6_at 19 = .ok (.goto 4, 3) := by decide +kernel
theorem dX6_at_22 : decode cX6_at 22 = .ok (.aconst_null, 1) := by decide +kernel
theorem dX6_at_23 : decode cX6_at 23 = .ok (.areturn, 1) := by decide +kernel
set_option maxRecDepth 20000 in
theorem ggX6_put_X6_at : GoodIn wsX6_put wsX6_at := goodIn_r _ [5, 6, 17] (by decide +kernel) (by decide +kernel)
set_option maxRecDepth 20000 in
theorem gX6_put_X6_at : GoodIn wsX6_put (wsV RX6 22 RX6 yX6_at wsX6_at) := goodIn_app (goodIn_of _ (by decide +kernel)) ggX6_put_X6_at
set_option maxRecDepth 20000 in
theorem ggX6_put_X0_become : GoodIn wsX6_put wsX0_become := goodIn_r _ [11, 12, 13, 14, 15, 16, 18, 19, 20, 21, 22] (by decide +kernel) (by decide +kernel)
set_option maxRecDepth 20000 in
theorem gX6_put_X0_become : GoodIn wsX6_put (wsV RX6 26 RX0 yX0_become wsX0_become) := goodIn_app (goodIn_of _ (by decide +kernel)) ggX6_put_X0_become
theorem dX6_put_0 : decode cX6_put 0 = .ok (.aload_n 0, 1) := by decide +kernel
theorem dX6_put_1 : decode cX6_put 1 = .ok (.iload_n 1, 1) := by decide +kernel
theorem dX6_put_2 : decode cX6_put 2 = .ok (.invokevirtual 22, 3) := by decide +kernel
theorem dX6_put_5 : decode cX6_put 5 = .ok (.astore_n 3, 1) := by decide +kernel
theorem dX6_put_6 : decode cX6_put 6 = .ok (.aload_n 3, 1) := by decide +kernel
theorem dX6_put_7 : decode cX6_put 7 = .ok (.ifnull 8, 3) := by decide +kernel
theorem dX6_put_10 : decode cX6_put 10 = .ok (.aload_n 3, 1) := by decide +kernel
theorem dX6_put_11 : decode cX6_put 11 = .ok (.aload_n 2, 1) := by decide +kernel
theorem dX6_put_12 : decode cX6_put 12 = .ok (.invokevirtual 26, 3) := by decide +kernel
theorem dX6_put_15 : decode cX6_put 15 = .ok (.return_, 1) := by decide +kernel
set_option maxRecDepth 20000 in
theorem ggX6_copyTo_X6_at : GoodIn wsX6_copyTo wsX6_at := goodIn_r _ [5, 6, 17] (by decide +kernel) (by decide +kernel)
set_option maxRecDepth 20000 in
theorem gX6_copyTo_X6_at : GoodIn wsX6_copyTo (wsV RX6 22 RX6 yX6_at wsX6_at) := goodIn_app (goodIn_of _ (by decide +kernel)) ggX6_copyTo_X6_at
set_option maxRecDepth 20000 in
theorem ggX6_copyTo_X0_become : GoodIn wsX6_copyTo wsX0_become := goodIn_r _ [11, 12, 13, 14, 15, 16, 18, 19, 20, 21, 22] (by decide +kernel) (by decide +kernel)
set_option maxRecDepth 20000 in
theorem gX6_copyTo_X0_become : GoodIn wsX6_copyTo (wsV RX6 26 RX0 yX0_become wsX0_become) := goodIn_app (goodIn_of _ (by decide +kernel)) ggX6_copyTo_X0_become
theorem dX6_copyTo_0 : decode cX6_copyTo 0 = .ok (.aload_n 0, 1) := by decide +kernel
theorem dX6_copyTo_1 : decode cX6_copyTo 1 = .ok (.iload_n 1, 1) := by decide +kernel
theorem dX6_copyTo_2 : decode cX6_copyTo 2 = .ok (.invokevirtual 22, 3) := by decide +kernel
theorem dX6_copyTo_5 : decode cX6_copyTo 5 = .ok (.astore_n 3, 1) := by decide +kernel
theorem dX6_copyTo_6 : decode cX6_copyTo 6 = .ok (.aload_n 3, 1) := by decide +kernel
theorem dX6_copyTo_7 : decode cX6_copyTo 7 = .ok (.ifnull 8, 3) := by decide +kernel
theorem dX6_copyTo_10 : decode cX6_copyTo 10 = .ok (.aload_n 2, 1) := by decide +kernel
theorem dX6_copyTo_11 : decode cX6_copyTo 11 = .ok (.aload_n 3, 1) := by decide +kernel
theorem dX6_copyTo_12 : decode cX6_copyTo 12 = .ok (.invokevirtual 26, 3) := by decide +kernel
theorem dX6_copyTo_15 : decode cX6_copyTo 15 = .ok (.return_, 1) := by decide +kernel
set_option maxRecDepth 20000 in
theorem ggX6_moveUp_X6_at : GoodIn wsX6_moveUp wsX6_at := goodIn_r _ [6, 1, 21] (by decide +kernel) (by decide +kernel)
set_option maxRecDepth 20000 in
theorem gX6_moveUp_X6_at : GoodIn wsX6_moveUp (wsV RX6 22 RX6 yX6_at wsX6_at) := goodIn_app (goodIn_of _ (by decide +kernel)) ggX6_moveUp_X6_at
set_option maxRecDepth 20000 in
theorem ggX6_moveUp_X6_put : GoodIn wsX6_moveUp wsX6_put := goodIn_r _ [10, 2, 3, 4, 5, 6, 1, 11, 12, 13, 14, 15, 16, 17, 18, 19, 20, 21, 22, 23, 24, 25, 26] (by decide +kernel) (by decide +kernel)
set_option maxRecDepth 20000 in
theorem gX6_moveUp_X6_put : GoodIn wsX6_moveUp (wsV RX6 30 RX6 yX6_put wsX6_put) := goodIn_app (goodIn_of _ (by decide +kernel)) ggX6_moveUp_X6_put
theorem dX6_moveUp_0 : decode cX6_moveUp 0 = .ok (.iconst 1, 1) := by decide +kernel
theorem dX6_moveUp_1 : decode cX6_moveUp 1 = .ok (.istore_n 1, 1) := by decide +kernel
theorem dX6_moveUp_2 : decode cX6_moveUp 2 = .ok (.iload_n 1, 1) := by decide +kernel
theorem dX6_moveUp_3 : decode cX6_moveUp 3 = .ok (.aload_n 0, 1) := by decide +kernel
theorem dX6_moveUp_4 : decode cX6_moveUp 4 = .ok (.getfield 15, 3) := by decide +kernel
theorem dX6_moveUp_7 : decode cX6_moveUp 7 = .ok (.arraylength, 1) := by decide +kernel
theorem dX6_moveUp_8 : decode cX6_moveUp 8 = .ok (.if_icmp .ge 27, 3) := by decide +kernel
theorem dX6_moveUp_11 : decode cX6_moveUp 11 = .ok (.aload_n 0, 1) := by decide +kernel
theorem dX6_moveUp_12 : decode cX6_moveUp 12 = .ok (.iload_n 1, 1) := by decide +kernel
theorem dX6_moveUp_13 : decode cX6_moveUp 13 = .ok (.invokevirtual 22, 3) := by decide +kernel
theorem dX6_moveUp_16 : decode cX6_moveUp 16 = .ok (.astore_n 2, 1) := by decide +kernel
theorem dX6_moveUp_17 : decode cX6_moveUp 17 = .ok (.aload_n 2, 1) := by decide +kernel
theorem dX6_moveUp_18 : decode cX6_moveUp 18 = .ok (.ifnull 11, 3) := by decide +kernel
theorem dX6_moveUp_21 : decode cX6_moveUp 21 = .ok (.aload_n 0, 1) := by decide +kernel
theorem dX6_moveUp_22 : decode cX6_moveUp 22 = .ok (.iload_n 1, 1) := by decide +kernel
theorem dX6_moveUp_23 : decode cX6_moveUp 23 = .ok (.iconst 1, 1) := by decide +kernel
theorem dX6_moveUp_24 : decode cX6_moveUp 24 = .ok (.isub, 1) := by decide +kernel
theorem dX6_moveUp_25 : decode cX6_moveUp 25 = .ok (.aload_n 2, 1) := by decide +kernel
theorem dX6_moveUp_26 : decode cX6_moveUp 26 = .ok (.invokevirtual 30, 3) := by decide +kernel
theorem dX6_moveUp_29 : decode cX6_moveUp 29 = .ok (.iinc 1 1, 3) := by decide +kernel
theorem dX6_moveUp_32 : decode cX6_moveUp 32 = .ok (.goto (-30), 3) := by decide +kernel
theorem dX6_moveUp_35 : decode cX6_moveUp 35 = .ok (.return_, 1) := by decide +kernel
set_option maxRecDepth 20000 in
theorem ggX7_init_X0_init : GoodIn wsX7_init wsX0_init := goodIn_r _ [12, 13, 2, 3, 14, 15, 16, 28, 29, 30, 31, 32] (by decide +kernel) (by decide +kernel)
set_option maxRecDepth 20000 in
theorem gX7_init_X0_init : GoodIn wsX7_init (wsX0_init) := ggX7_init_X0_init
theorem dX7_init_0 : decode cX7_init 0 = .ok (.aload_n 0, 1) := by decide +kernel
theorem dX7_init_1 : decode cX7_init 1 = .ok (.invokespecial 3, 3) := by decide +kernel
theorem dX7_init_4 : decode cX7_init 4 = .ok (.aload_n 0, 1) := by decide +kernel
theorem dX7_init_5 : decode cX7_init 5 = .ok (.bipush 120, 2) := by decide +kernel
theorem dX7_init_7 : decode cX7_init 7 = .ok (.newarray .char, 2) := by decide +kernel
theorem dX7_init_9 : decode cX7_init 9 = .ok (.putfield 11, 3) := by decide +kernel
theorem dX7_init_12 : decode cX7_init 12 = .ok (.aload_n 0, 1) := by decide +kernel
theorem dX7_init_13 : decode cX7_init 13 = .ok (.new 15, 3) := by decide +kernel
theorem dX7_init_16 : decode cX7_init 16 = .ok (.dup, 1) := by decide +kernel
theorem dX7_init_17 : decode cX7_init 17 = .ok (.invokespecial 17, 3) := by decide +kernel
theorem dX7_init_20 : decode cX7_init 20 = .ok (.putfield 18, 3) := by decide +kernel
theorem dX7_init_23 : decode cX7_init 23 = .ok (.return_, 1) := by decide +kernel
theorem dX7_add_0 : decode cX7_add 0 = .ok (.aload_n 0, 1) := by decide +kernel
theorem dX7_add_1 : decode cX7_add 1 = .ok (.getfield 22, 3) := by decide +kernel
theorem dX7_add_4 : decode cX7_add 4 = .ok (.ifCond .lt 15, 3) := by decide +kernel
theorem dX7_add_7 : decode cX7_add 7 = .ok (.aload_n 0, 1) := by decide +kernel
theorem dX7_add_8 : decode cX7_add 8 = .ok (.getfield 22, 3) := by decide +kernel
theorem dX7_add_11 : decode cX7_add 11 = .ok (.aload_n 0, 1) := by decide +kernel
theorem dX7_add_12 : decode cX7_add 12 = .ok (.getfield 11, 3) := by decide +kernel
theorem dX7_add_15 : decode cX7_add 15 = .ok (.arraylength, 1) := by decide +kernel
theorem dX7_add_16 : decode cX7_add 16 = .ok (.if_icmp .lt 5, 3) := by decide +kernel
theorem dX7_add_19 : decode cX7_add 19 = .ok (.iconst 0, 1) := by decide +kernel
theorem dX7_add_20 : decode cX7_add 20 = .ok (.ireturn, 1) := by decide +kernel
theorem dX7_add_21 : decode cX7_add 21 = .ok (.aload_n 0, 1) := by decide +kernel
theorem dX7_add_22 : decode cX7_add 22 = .ok (.getfield 11, 3) := by decide +kernel
theorem dX7_add_25 : decode cX7_add 25 = .ok (.aload_n 0, 1) := by decide +kernel
theorem dX7_add_26 : decode cX7_add 26 = .ok (.getfield 22, 3) := by decide +kernel
theorem dX7_add_29 : decode cX7_add 29 = .ok (.iload_n 1, 1) := by decide +kernel
theorem dX7_add_30 : decode cX7_add 30 = .ok (.castore, 1) := by decide +kernel
theorem dX7_add_31 : decode cX7_add 31 = .ok (.aload_n 0, 1) := by decide +kernel
theorem dX7_add_32 : decode cX7_add 32 = .ok (.dup, 1) := by decide +kernel
theorem dX7_add_33 : decode cX7_add 33 = .ok (.getfield 22, 3) := by decide +kernel
theorem dX7_add_36 : decode cX7_add 36 = .ok (.iconst 1, 1) := by decide +kernel
theorem dX7_add_37 : decode cX7_add 37 = .ok (.iadd, 1) := by decide +kernel
theorem dX7_add_38 : decode cX7_add 38 = .ok (.putfield 22, 3) := by decide +kernel
theorem dX7_add_41 : decode cX7_add 41 = .ok (.iconst 1, 1) := by decide +kernel
theorem dX7_add_42 : decode cX7_add 42 = .ok (.ireturn, 1) := by decide +kernel
set_option maxRecDepth 20000 in
theorem ggX7_read_X7_begin : GoodIn wsX7_read wsX7_begin := goodIn_r _ [9, 10, 11, 3, 12, 4, 13, 14, 15, 16, 17, 18, 19, 20, 21, 22, 23, 24, 135, 136, 137, 138, 139, 140, 141, 142, 143, 144, 145, 146, 147, 148, 149, 150] (by decide +kernel) (by decide +kernel)
set_option maxRecDepth 20000 in
theorem gX7_read_X7_begin : GoodIn wsX7_read (wsV RX7 26 RX7 yX7_begin wsX7_begin) := goodIn_app (goodIn_of _ (by decide +kernel)) ggX7_read_X7_begin
set_option maxRecDepth 20000 in
theorem ggX7_read_X7_takeToken : GoodIn wsX7_read wsX7_takeToken := goodIn_r _ [28, 11, 1, 2, 29, 30, 31, 8, 32, 33, 34, 35, 36, 135, 136, 137, 138, 139, 140, 141, 142, 143, 144, 145] (by decide +kernel) (by decide +kernel)
set_option maxRecDepth 20000 in
theorem gX7_read_X7_takeToken : GoodIn wsX7_read (wsV RX7 30 RX7 yX7_takeToken wsX7_takeToken) := goodIn_app (goodIn_of _ (by decide +kernel)) ggX7_read_X7_takeToken
set_option maxRecDepth 20000 in
theorem ggX7_read_X7_stands : GoodIn wsX7_read wsX7_stands := goodIn_r _ [40, 3, 41, 12, 1, 42, 43, 44, 8, 45, 4, 13, 14, 46, 47, 48, 49, 11, 50, 51, 52, 53, 54, 55, 56, 57, 58, 59, 60, 61, 29, 30, 31, 32, 2, 33, 62, 63, 64, 65, 66, 67, 68, 69, 70, 71, 72, 73, 74, 75, 76, 77, 78, 79, 80, 81, 82, 83, 84, 85, 86, 87, 88, 89, 90, 91, 92, 93, 94, 95, 96, 97, 98, 99, 100, 101, 102, 103, 104, 105, 106, 107, 108, 18, 109, 20, 110, 111, 112, 113, 22, 114, 115, 116, 117, 118, 119, 120, 121, 122, 34, 35, 36, 123, 124, 125, 126, 127, 128, 129, 130, 21, 131, 132, 133, 134, 23, 135, 136, 137, 138, 139, 140, 141, 142, 143, 144, 145, 146, 147, 148, 149, 150] (by decide +kernel) (by decide +kernel)
set_option maxRecDepth 20000 in
theorem gX7_read_X7_stands : GoodIn wsX7_read (wsV RX7 36 RX7 yX7_stands wsX7_stands) := goodIn_app (goodIn_of _ (by decide +kernel)) ggX7_read_X7_stands
theorem dX7_read_0 : decode cX7_read 0 = .ok (.aload_n 0, 1) := by decide +kernel
theorem dX7_read_1 : decode cX7_read 1 = .ok (.aload_n 1, 1) := by decide +kernel
theorem dX7_read_2 : decode cX7_read 2 = .ok (.invokevirtual 26, 3) := by decide +kernel
theorem dX7_read_5 : decode cX7_read 5 = .ok (.iconst 0, 1) := by decide +kernel
theorem dX7_read_6 : decode cX7_read 6 = .ok (.istore_n 2, 1) := by decide +kernel
theorem dX7_read_7 : decode cX7_read 7 = .ok (.iload_n 2, 1) := by decide +kernel
theorem dX7_read_8 : decode cX7_read 8 = .ok (.bipush 120, 2) := by decide +kernel
theorem dX7_read_10 : decode cX7_read 10 = .ok (.if_icmp .ge 40, 3) := by decide +kernel
theorem dX7_read_13 : decode cX7_read 13 = .ok (.aload_n 0, 1) := by decide +kernel
theorem dX7_read_14 : decode cX7_read 14 = .ok (.invokevirtual 30, 3) := by decide +kernel
theorem dX7_read_17 : decode cX7_read 17 = .ok (.aload_n 0, 1) := by decide +kernel
theorem dX7_read_18 : decode cX7_read 18 = .ok (.getfield 33, 3) := by decide +kernel
theorem dX7_read_21 : decode cX7_read 21 = .ok (.aload_n 0, 1) := by decide +kernel
theorem dX7_read_22 : decode cX7_read 22 = .ok (.getfield 22, 3) := by decide +kernel
theorem dX7_read_25 : decode cX7_read 25 = .ok (.if_icmp .lt 6, 3) := by decide +kernel
theorem dX7_read_28 : decode cX7_read 28 = .ok (.goto 22, 3) := by decide +kernel
theorem dX7_read_31 : decode cX7_read 31 = .ok (.aload_n 0, 1) := by decide +kernel
theorem dX7_read_32 : decode cX7_read 32 = .ok (.aload_n 1, 1) := by decide +kernel
theorem dX7_read_33 : decode cX7_read 33 = .ok (.invokevirtual 36, 3) := by decide +kernel
theorem dX7_read_36 : decode cX7_read 36 = .ok (.ifCond .ne 8, 3) := by decide +kernel
theorem dX7_read_39 : decode cX7_read 39 = .ok (.aload_n 0, 1) := by decide +kernel
theorem dX7_read_40 : decode cX7_read 40 = .ok (.getfield 33, 3) := by decide +kernel
theorem dX7_read_43 : decode cX7_read 43 = .ok (.ireturn, 1) := by decide +kernel
theorem dX7_read_44 : decode cX7_read 44 = .ok (.iinc 2 1, 3) := by decide +kernel
theorem dX7_read_47 : decode cX7_read 47 = .ok (.goto (-40), 3) := by decide +kernel
theorem dX7_read_50 : decode cX7_read 50 = .ok (.aload_n 0, 1) := by decide +kernel
theorem dX7_read_51 : decode cX7_read 51 = .ok (.getfield 40, 3) := by decide +kernel
theorem dX7_read_54 : decode cX7_read 54 = .ok (.ifCond .ne 14, 3) := by decide +kernel
theorem dX7_read_57 : decode cX7_read 57 = .ok (.aload_n 0, 1) := by decide +kernel
theorem dX7_read_58 : decode cX7_read 58 = .ok (.getfield 43, 3) := by decide +kernel
theorem dX7_read_61 : decode cX7_read 61 = .ok (.ifCond .le 7, 3) := by decide +kernel
theorem dX7_read_64 : decode cX7_read 64 = .ok (.iconst (-1), 1) := by decide +kernel
theorem dX7_read_65 : decode cX7_read 65 = .ok (.goto 7, 3) := by decide +kernel
theorem dX7_read_68 : decode cX7_read 68 = .ok (.aload_n 0, 1) := by decide +kernel
theorem dX7_read_69 : decode cX7_read 69 = .ok (.getfield 22, 3) := by decide +kernel
theorem dX7_read_72 : decode cX7_read 72 = .ok (.ireturn, 1) := by decide +kernel
set_option maxRecDepth 20000 in
theorem ggX7_begin_X0_become : GoodIn wsX7_begin wsX0_become := goodIn_r _ [12, 13, 14, 15, 16, 17, 29, 30, 31, 32, 33] (by decide +kernel) (by decide +kernel)
set_option maxRecDepth 20000 in
theorem gX7_begin_X0_become : GoodIn wsX7_begin (wsV RX7 46 RX0 yX0_become wsX0_become) := goodIn_app (goodIn_of _ (by decide +kernel)) ggX7_begin_X0_become
theorem dX7_begin_0 : decode cX7_begin 0 = .ok (.aload_n 1, 1) := by decide +kernel
theorem dX7_begin_1 : decode cX7_begin 1 = .ok (.aload_n 0, 1) := by decide +kernel
theorem dX7_begin_2 : decode cX7_begin 2 = .ok (.getfield 18, 3) := by decide +kernel
theorem dX7_begin_5 : decode cX7_begin 5 = .ok (.invokevirtual 46, 3) := by decide +kernel
theorem dX7_begin_8 : decode cX7_begin 8 = .ok (.aload_n 0, 1) := by decide +kernel
theorem dX7_begin_9 : decode cX7_begin 9 = .ok (.iconst 0, 1) := by decide +kernel
theorem dX7_begin_10 : decode cX7_begin 10 = .ok (.putfield 49, 3) := by decide +kernel
theorem dX7_begin_13 : decode cX7_begin 13 = .ok (.aload_n 0, 1) := by decide +kernel
theorem dX7_begin_14 : decode cX7_begin 14 = .ok (.iconst 0, 1) := by decide +kernel
theorem dX7_begin_15 : decode cX7_begin 15 = .ok (.putfield 40, 3) := by decide +kernel
theorem dX7_begin_18 : decode cX7_begin 18 = .ok (.aload_n 0, 1) := by decide +kernel
theorem dX7_begin_19 : decode cX7_begin 19 = .ok (.iconst 0, 1) := by decide +kernel
theorem dX7_begin_20 : decode cX7_begin 20 = .ok (.putfield 52, 3) := by decide +kernel
theorem dX7_begin_23 : decode cX7_begin 23 = .ok (.aload_n 0, 1) := by decide +kernel
theorem dX7_begin_24 : decode cX7_begin 24 = .ok (.iconst 0, 1) := by decide +kernel
theorem dX7_begin_25 : decode cX7_begin 25 = .ok (.putfield 43, 3) := by decide +kernel
theorem dX7_begin_28 : decode cX7_begin 28 = .ok (.aload_n 0, 1) := by decide +kernel
theorem dX7_begin_29 : decode cX7_begin 29 = .ok (.iconst 0, 1) := by decide +kernel
theorem dX7_begin_30 : decode cX7_begin 30 = .ok (.putfield 55, 3) := by decide +kernel
theorem dX7_begin_33 : decode cX7_begin 33 = .ok (.aload_n 0, 1) := by decide +kernel
theorem dX7_begin_34 : decode cX7_begin 34 = .ok (.iconst 0, 1) := by decide +kernel
theorem dX7_begin_35 : decode cX7_begin 35 = .ok (.putfield 59, 3) := by decide +kernel
theorem dX7_begin_38 : decode cX7_begin 38 = .ok (.return_, 1) := by decide +kernel
set_option maxRecDepth 20000 in
theorem ggX7_takeToken_X7_letterAt : GoodIn wsX7_takeToken wsX7_letterAt := goodIn_r _ [8, 3, 9, 13, 14, 15, 16, 17, 18, 19, 20, 21, 22, 23] (by decide +kernel) (by decide +kernel)
set_option maxRecDepth 20000 in
theorem gX7_takeToken_X7_letterAt : GoodIn wsX7_takeToken (wsV RX7 62 RX7 yX7_letterAt wsX7_letterAt) := goodIn_app (goodIn_of _ (by decide +kernel)) ggX7_takeToken_X7_letterAt
set_option maxRecDepth 20000 in
theorem ggX7_takeToken_X7_sortOf : GoodIn wsX7_takeToken wsX7_sortOf := goodIn_r _ [12] (by decide +kernel) (by decide +kernel)
set_option maxRecDepth 20000 in
theorem gX7_takeToken_X7_sortOf : GoodIn wsX7_takeToken (va_wsS RX7 66 yX7_sortOf wsX7_sortOf) := goodIn_app (goodIn_of _ (by decide +kernel)) ggX7_takeToken_X7_sortOf
theorem dX7_takeToken_0 : decode cX7_takeToken 0 = .ok (.aload_n 0, 1) := by decide +kernel
theorem dX7_takeToken_1 : decode cX7_takeToken 1 = .ok (.aload_n 0, 1) := by decide +kernel
theorem dX7_takeToken_2 : decode cX7_takeToken 2 = .ok (.getfield 49, 3) := by decide +kernel
theorem dX7_takeToken_5 : decode cX7_takeToken 5 = .ok (.putfield 33, 3) := by decide +kernel
theorem dX7_takeToken_8 : decode cX7_takeToken 8 = .ok (.aload_n 0, 1) := by decide +kernel
theorem dX7_takeToken_9 : decode cX7_takeToken 9 = .ok (.getfield 33, 3) := by decide +kernel
theorem dX7_takeToken_12 : decode cX7_takeToken 12 = .ok (.aload_n 0, 1) := by decide +kernel
theorem dX7_takeToken_13 : decode cX7_takeToken 13 = .ok (.getfield 22, 3) := by decide +kernel
theorem dX7_takeToken_16 : decode cX7_takeToken 16 = .ok (.if_icmp .ge 29, 3) := by decide +kernel
theorem dX7_takeToken_19 : decode cX7_takeToken 19 = .ok (.aload_n 0, 1) := by decide +kernel
theorem dX7_takeToken_20 : decode cX7_takeToken 20 = .ok (.aload_n 0, 1) := by decide +kernel
theorem dX7_takeToken_21 : decode cX7_takeToken 21 = .ok (.getfield 33, 3) := by decide +kernel
theorem dX7_takeToken_24 : decode cX7_takeToken 24 = .ok (.invokevirtual 62, 3) := by decide +kernel
theorem dX7_takeToken_27 : decode cX7_takeToken 27 = .ok (.bipush 32, 2) := by decide +kernel
theorem dX7_takeToken_29 : decode cX7_takeToken 29 = .ok (.if_icmp .ne 16, 3) := by decide +kernel
theorem dX7_takeToken_32 : decode cX7_takeToken 32 = .ok (.aload_n 0, 1) := by decide +kernel
theorem dX7_takeToken_33 : decode cX7_takeToken 33 = .ok (.dup, 1) := by decide +kernel
theorem dX7_takeToken_34 : decode cX7_takeToken 34 = .ok (.getfield 33, 3) := by decide +kernel
theorem dX7_takeToken_37 : decode cX7_takeToken 37 = .ok (.iconst 1, 1) := by decide +kernel
theorem dX7_takeToken_38 : decode cX7_takeToken 38 = .ok (.iadd, 1) := by decide +kernel
theorem dX7_takeToken_39 : decode cX7_takeToken 39 = .ok (.putfield 33, 3) := by decide +kernel
theorem dX7_takeToken_42 : decode cX7_takeToken 42 = .ok (.goto (-34), 3) := by decide +kernel
theorem dX7_takeToken_45 : decode cX7_takeToken 45 = .ok (.aload_n 0, 1) := by decide +kernel
theorem dX7_takeToken_46 : decode cX7_takeToken 46 = .ok (.aload_n 0, 1) := by decide +kernel
theorem dX7_takeToken_47 : decode cX7_takeToken 47 = .ok (.getfield 33, 3) := by decide +kernel
theorem dX7_takeToken_50 : decode cX7_takeToken 50 = .ok (.invokevirtual 62, 3) := by decide +kernel
theorem dX7_takeToken_53 : decode cX7_takeToken 53 = .ok (.invokestatic 66, 3) := by decide +kernel
theorem dX7_takeToken_56 : decode cX7_takeToken 56 = .ok (.istore_n 1, 1) := by decide +kernel
theorem dX7_takeToken_57 : decode cX7_takeToken 57 = .ok (.aload_n 0, 1) := by decide +kernel
theorem dX7_takeToken_58 : decode cX7_takeToken 58 = .ok (.aload_n 0, 1) := by decide +kernel
theorem dX7_takeToken_59 : decode cX7_takeToken 59 = .ok (.getfield 33, 3) := by decide +kernel
theorem dX7_takeToken_62 : decode cX7_takeToken 62 = .ok (.iconst 1, 1) := by decide +kernel
theorem dX7_takeToken_63 : decode cX7_takeToken 63 = .ok (.iadd, 1) := by decide +kernel
theorem dX7_takeToken_64 : decode cX7_takeToken 64 = .ok (.putfield 49, 3) := by decide +kernel
theorem dX7_takeToken_67 : decode cX7_takeToken 67 = .ok (.iload_n 1, 1) := by decide +kernel
theorem dX7_takeToken_68 : decode cX7_takeToken 68 = .ok (.iconst 2, 1) := by decide +kernel
theorem dX7_takeToken_69 : decode cX7_takeToken 69 = .ok (.if_icmp .eq 42, 3) := by decide +kernel
theorem dX7_takeToken_72 : decode cX7_takeToken 72 = .ok (.aload_n 0, 1) := by decide +kernel
theorem dX7_takeToken_73 : decode cX7_takeToken 73 = .ok (.getfield 49, 3) := by decide +kernel
theorem dX7_takeToken_76 : decode cX7_takeToken 76 = .ok (.aload_n 0, 1) := by decide +kernel
theorem dX7_takeToken_77 : decode cX7_takeToken 77 = .ok (.getfield 22, 3) := by decide +kernel
theorem dX7_takeToken_80 : decode cX7_takeToken 80 = .ok (.if_icmp .ge 31, 3) := by decide +kernel
theorem dX7_takeToken_83 : decode cX7_takeToken 83 = .ok (.aload_n 0, 1) := by decide +kernel
theorem dX7_takeToken_84 : decode cX7_takeToken 84 = .ok (.aload_n 0, 1) := by decide +kernel
theorem dX7_takeToken_85 : decode cX7_takeToken 85 = .ok (.getfield 49, 3) := by decide +kernel
theorem dX7_takeToken_88 : decode cX7_takeToken 88 = .ok (.invokevirtual 62, 3) := by decide +kernel
theorem dX7_takeToken_91 : decode cX7_takeToken 91 = .ok (.invokestatic 66, 3) := by decide +kernel
theorem dX7_takeToken_94 : decode cX7_takeToken 94 = .ok (.iload_n 1, 1) := by decide +kernel
theorem dX7_takeToken_95 : decode cX7_takeToken 95 = .ok (.if_icmp .ne 16, 3) := by decide +kernel
theorem dX7_takeToken_98 : decode cX7_takeToken 98 = .ok (.aload_n 0, 1) := by decide +kernel
theorem dX7_takeToken_99 : decode cX7_takeToken 99 = .ok (.dup, 1) := by decide +kernel
theorem dX7_takeToken_100 : decode cX7_takeToken 100 = .ok (.getfield 49, 3) := by decide +kernel
theorem dX7_takeToken_103 : decode cX7_takeToken 103 = .ok (.iconst 1, 1) := by decide +kernel
theorem dX7_takeToken_104 : decode cX7_takeToken 104 = .ok (.iadd, 1) := by decide +kernel
theorem dX7_takeToken_105 : decode cX7_takeToken 105 = .ok (.putfield 49, 3) := by decide +kernel
theorem dX7_takeToken_108 : decode cX7_takeToken 108 = .ok (.goto (-41), 3) := by decide +kernel
theorem dX7_takeToken_111 : decode cX7_takeToken 111 = .ok (.return_, 1) := by decide +kernel
theorem dX7_letterAt_0 : decode cX7_letterAt 0 = .ok (.iload_n 1, 1) := by decide +kernel
theorem dX7_letterAt_1 : decode cX7_letterAt 1 = .ok (.ifCond .lt 29, 3) := by decide +kernel
theorem dX7_letterAt_4 : decode cX7_letterAt 4 = .ok (.iload_n 1, 1) := by decide +kernel
theorem dX7_letterAt_5 : decode cX7_letterAt 5 = .ok (.aload_n 0, 1) := by decide +kernel
theorem dX7_letterAt_6 : decode cX7_letterAt 6 = .ok (.getfield 22, 3) := by decide +kernel
theorem dX7_letterAt_9 : decode cX7_letterAt 9 = .ok (.if_icmp .ge 21, 3) := by decide +kernel
theorem dX7_letterAt_12 : decode cX7_letterAt 12 = .ok (.iload_n 1, 1) := by decide +kernel
theorem dX7_letterAt_13 : decode cX7_letterAt 13 = .ok (.aload_n 0, 1) := by decide +kernel
theorem dX7_letterAt_14 : decode cX7_letterAt 14 = .ok (.getfield 11, 3) := by decide +kernel
theorem dX7_letterAt_17 : decode cX7_letterAt 17 = .ok (.arraylength, 1) := by decide +kernel
theorem dX7_letterAt_18 : decode cX7_letterAt 18 = .ok (.if_icmp .ge 12, 3) := by decide +kernel
theorem dX7_letterAt_21 : decode cX7_letterAt 21 = .ok (.aload_n 0, 1) := by decide +kernel
theorem dX7_letterAt_22 : decode cX7_letterAt 22 = .ok (.getfield 11, 3) := by decide +kernel
theorem dX7_letterAt_25 : decode cX7_letterAt 25 = .ok (.iload_n 1, 1) := by decide +kernel
theorem dX7_letterAt_26 : decode cX7_letterAt 26 = .ok (.caload, 1) := by decide +kernel
theorem dX7_letterAt_27 : decode cX7_letterAt 27 = .ok (.goto 5, 3) := by decide +kernel
theorem dX7_letterAt_30 : decode cX7_letterAt 30 = .ok (.bipush 32, 2) := by decide +kernel
theorem dX7_letterAt_32 : decode cX7_letterAt 32 = .ok (.ireturn, 1) := by decide +kernel
theorem dX7_sortOf_0 : decode cX7_sortOf 0 = .ok (.iload_n 0, 1) := by decide +kernel
theorem dX7_sortOf_1 : decode cX7_sortOf 1 = .ok (.bipush 97, 2) := by decide +kernel
theorem dX7_sortOf_3 : decode cX7_sortOf 3 = .ok (.if_icmp .lt 11, 3) := by decide +kernel
theorem dX7_sortOf_6 : decode cX7_sortOf 6 = .ok (.iload_n 0, 1) := by decide +kernel
theorem dX7_sortOf_7 : decode cX7_sortOf 7 = .ok (.bipush 122, 2) := by decide +kernel
theorem dX7_sortOf_9 : decode cX7_sortOf 9 = .ok (.if_icmp .gt 5, 3) := by decide +kernel
theorem dX7_sortOf_12 : decode cX7_sortOf 12 = .ok (.iconst 0, 1) := by decide +kernel
theorem dX7_sortOf_13 : decode cX7_sortOf 13 = .ok (.ireturn, 1) := by decide +kernel
theorem dX7_sortOf_14 : decode cX7_sortOf 14 = .ok (.iload_n 0, 1) := by decide +kernel
theorem dX7_sortOf_15 : decode cX7_sortOf 15 = .ok (.bipush 48, 2) := by decide +kernel
theorem dX7_sortOf_17 : decode cX7_sortOf 17 = .ok (.if_icmp .lt 13, 3) := by decide +kernel
theorem dX7_sortOf_20 : decode cX7_sortOf 20 = .ok (.iload_n 0, 1) := by decide +kernel
theorem dX7_sortOf_21 : decode cX7_sortOf 21 = .ok (.bipush 57, 2) := by decide +kernel
theorem dX7_sortOf_23 : decode cX7_sortOf 23 = .ok (.if_icmp .gt 7, 3) := by decide +kernel
theorem dX7_sortOf_26 : decode cX7_sortOf 26 = .ok (.iconst 1, 1) := by decide +kernel
theorem dX7_sortOf_27 : decode cX7_sortOf 27 = .ok (.goto 4, 3) := by decide +kernel
theorem dX7_sortOf_30 : decode cX7_sortOf 30 = .ok (.iconst 2, 1) := by decide +kernel
theorem dX7_sortOf_31 : decode cX7_sortOf 31 = .ok (.ireturn, 1) := by decide +kernel
set_option maxRecDepth 20000 in
theorem ggX7_stands_X7_standsAsWord : GoodIn wsX7_stands wsX7_standsAsWord := goodIn_r _ [9, 1, 10, 11, 12, 13, 14, 15, 8, 16, 17, 4, 18, 19, 20, 21, 22, 23, 24, 25, 26, 27, 28, 29, 30, 31, 32, 33, 34, 35, 36, 37, 38, 39, 40, 41, 42, 43, 44, 45, 46, 47, 48, 49, 50, 51, 52, 53, 54, 55, 56, 57, 58, 59, 60, 61, 62, 63, 64, 65, 66, 67, 68, 69, 70, 71, 72, 117, 118, 119, 120, 121, 122, 123, 124, 125, 126, 127] (by decide +kernel) (by decide +kernel)
set_option maxRecDepth 20000 in
theorem gX7_stands_X7_standsAsWord : GoodIn wsX7_stands (wsV RX7 70 RX7 yX7_standsAsWord wsX7_standsAsWord) := goodIn_app (goodIn_of _ (by decide +kernel)) ggX7_stands_X7_standsAsWord
set_option maxRecDepth 20000 in
theorem ggX7_stands_X7_standsAsRow : GoodIn wsX7_stands wsX7_standsAsRow := goodIn_r _ [76, 17, 4, 10, 1, 30, 31, 32, 8, 33, 34, 35, 77, 78, 79, 80, 81, 82, 83, 84, 85, 86, 87, 88, 89, 90, 91, 92, 93, 94, 95, 117, 118, 119, 120, 121, 122, 123, 124, 125, 126, 127, 128, 129, 130, 131, 132] (by decide +kernel) (by decide +kernel)
set_option maxRecDepth 20000 in
theorem gX7_stands_X7_standsAsRow : GoodIn wsX7_stands (wsV RX7 74 RX7 yX7_standsAsRow wsX7_standsAsRow) := goodIn_app (goodIn_of _ (by decide +kernel)) ggX7_stands_X7_standsAsRow
set_option maxRecDepth 20000 in
theorem ggX7_stands_X7_figure : GoodIn wsX7_stands wsX7_figure := goodIn_r _ [99, 17, 4, 30, 31, 32, 8, 33, 34, 35, 100, 101, 102, 117, 118, 119, 120, 121, 122, 123, 124, 125, 126, 127] (by decide +kernel) (by decide +kernel)
set_option maxRecDepth 20000 in
theorem gX7_stands_X7_figure : GoodIn wsX7_stands (wsV RX7 77 RX7 yX7_figure wsX7_figure) := goodIn_app (goodIn_of _ (by decide +kernel)) ggX7_stands_X7_figure
set_option maxRecDepth 20000 in
theorem ggX7_stands_X7_standsAsFixRow : GoodIn wsX7_stands wsX7_standsAsFixRow := goodIn_r _ [106, 1, 2, 96, 97, 98, 8, 99, 17, 4, 30, 31, 32, 33, 34, 35, 100, 101, 102, 107, 108, 109, 83, 110, 85, 111, 80, 81, 82, 84, 112, 113, 114, 115, 116, 92, 93, 94, 95, 117, 118, 119, 120, 121, 122, 123, 124, 125, 126, 127, 128, 129, 130, 131, 132] (by decide +kernel) (by decide +kernel)
set_option maxRecDepth 20000 in
theorem gX7_stands_X7_standsAsFixRow : GoodIn wsX7_stands (wsV RX7 87 RX7 yX7_standsAsFixRow wsX7_standsAsFixRow) := goodIn_app (goodIn_of _ (by decide +kernel)) ggX7_stands_X7_standsAsFixRow
set_option maxRecDepth 20000 in
theorem ggX7_stands_X8_isHeight : GoodIn wsX7_stands wsX8_isHeight := goodIn_r _ [79] (by decide +kernel) (by decide +kernel)
set_option maxRecDepth 20000 in
theorem gX7_stands_X8_isHeight_n93 : GoodIn wsX7_stands (wsX8_isHeight) := ggX7_stands_X8_isHeight
set_option maxRecDepth 20000 in
theorem ggX7_stands_X7_letterAt : GoodIn wsX7_stands wsX7_letterAt := goodIn_r _ [33, 34, 35, 117, 118, 119, 120, 121, 122, 123, 124, 125, 126, 127] (by decide +kernel) (by decide +kernel)
set_option maxRecDepth 20000 in
theorem gX7_stands_X7_letterAt : GoodIn wsX7_stands (wsV RX7 62 RX7 yX7_letterAt wsX7_letterAt) := goodIn_app (goodIn_of _ (by decide +kernel)) ggX7_stands_X7_letterAt
