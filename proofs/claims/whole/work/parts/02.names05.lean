theorem dX8_least_0 : decode cX8_least 0 = .ok (.iload_n 1, 1) := by decide +kernel
theorem dX8_least_1 : decode cX8_least 1 = .ok (.iconst (-1), 1) := by decide +kernel
theorem dX8_least_2 : decode cX8_least 2 = .ok (.if_icmp .lt 14, 3) := by decide +kernel
theorem dX8_least_5 : decode cX8_least 5 = .ok (.iload_n 1, 1) := by decide +kernel
theorem dX8_least_6 : decode cX8_least 6 = .ok (.aload_n 0, 1) := by decide +kernel
theorem dX8_least_7 : decode cX8_least 7 = .ok (.getfield 10, 3) := by decide +kernel
theorem dX8_least_10 : decode cX8_least 10 = .ok (.invokevirtual 106, 3) := by decide +kernel
theorem dX8_least_13 : decode cX8_least 13 = .ok (.if_icmp .lt 5, 3) := by decide +kernel
theorem dX8_least_16 : decode cX8_least 16 = .ok (.iconst (-1), 1) := by decide +kernel
theorem dX8_least_17 : decode cX8_least 17 = .ok (.ireturn, 1) := by decide +kernel
theorem dX8_least_18 : decode cX8_least 18 = .ok (.aload_n 0, 1) := by decide +kernel
theorem dX8_least_19 : decode cX8_least 19 = .ok (.getfield 50, 3) := by decide +kernel
theorem dX8_least_22 : decode cX8_least 22 = .ok (.aload_n 0, 1) := by decide +kernel
theorem dX8_least_23 : decode cX8_least 23 = .ok (.getfield 10, 3) := by decide +kernel
theorem dX8_least_26 : decode cX8_least 26 = .ok (.invokevirtual 118, 3) := by decide +kernel
theorem dX8_least_29 : decode cX8_least 29 = .ok (.iload_n 1, 1) := by decide +kernel
theorem dX8_least_30 : decode cX8_least 30 = .ok (.iconst (-1), 1) := by decide +kernel
theorem dX8_least_31 : decode cX8_least 31 = .ok (.if_icmp .eq 15, 3) := by decide +kernel
theorem dX8_least_34 : decode cX8_least 34 = .ok (.aload_n 0, 1) := by decide +kernel
theorem dX8_least_35 : decode cX8_least 35 = .ok (.getfield 50, 3) := by decide +kernel
theorem dX8_least_38 : decode cX8_least 38 = .ok (.getfield 121, 3) := by decide +kernel
theorem dX8_least_41 : decode cX8_least 41 = .ok (.bipush (-9), 2) := by decide +kernel
theorem dX8_least_43 : decode cX8_least 43 = .ok (.if_icmp .ne 11, 3) := by decide +kernel
theorem dX8_least_46 : decode cX8_least 46 = .ok (.aload_n 0, 1) := by decide +kernel
theorem dX8_least_47 : decode cX8_least 47 = .ok (.getfield 50, 3) := by decide +kernel
theorem dX8_least_50 : decode cX8_least 50 = .ok (.getfield 121, 3) := by decide +kernel
theorem dX8_least_53 : decode cX8_least 53 = .ok (.ireturn, 1) := by decide +kernel
theorem dX8_least_54 : decode cX8_least 54 = .ok (.aload_n 0, 1) := by decide +kernel
theorem dX8_least_55 : decode cX8_least 55 = .ok (.getfield 50, 3) := by decide +kernel
theorem dX8_least_58 : decode cX8_least 58 = .ok (.iload_n 1, 1) := by decide +kernel
theorem dX8_least_59 : decode cX8_least 59 = .ok (.invokevirtual 171, 3) := by decide +kernel
theorem dX8_least_62 : decode cX8_least 62 = .ok (.ireturn, 1) := by decide +kernel
set_option maxRecDepth 20000 in
theorem ggX8_sees_X8_isLayer : GoodIn wsX8_sees wsX8_isLayer := goodIn_r _ [5] (by decide +kernel) (by decide +kernel)
set_option maxRecDepth 20000 in
theorem gX8_sees_X8_isLayer : GoodIn wsX8_sees (va_wsS RX8 152 yX8_isLayer wsX8_isLayer) := goodIn_app (goodIn_of _ (by decide +kernel)) ggX8_sees_X8_isLayer
set_option maxRecDepth 20000 in
theorem ggX8_sees_X5_add : GoodIn wsX8_sees wsX5_add := goodIn_r _ [10, 11, 12, 13, 22, 23, 24, 25] (by decide +kernel) (by decide +kernel)
set_option maxRecDepth 20000 in
theorem gX8_sees_X5_add : GoodIn wsX8_sees (wsV RX8 172 RX5 yX5_add wsX5_add) := goodIn_app (goodIn_of _ (by decide +kernel)) ggX8_sees_X5_add
theorem dX8_sees_0 : decode cX8_sees 0 = .ok (.iload_n 1, 1) := by decide +kernel
theorem dX8_sees_1 : decode cX8_sees 1 = .ok (.invokestatic 152, 3) := by decide +kernel
theorem dX8_sees_4 : decode cX8_sees 4 = .ok (.ifCond .eq 19, 3) := by decide +kernel
theorem dX8_sees_7 : decode cX8_sees 7 = .ok (.iload_n 2, 1) := by decide +kernel
theorem dX8_sees_8 : decode cX8_sees 8 = .ok (.bipush (-9), 2) := by decide +kernel
theorem dX8_sees_10 : decode cX8_sees 10 = .ok (.if_icmp .eq 15, 3) := by decide +kernel
theorem dX8_sees_13 : decode cX8_sees 13 = .ok (.iload_n 2, 1) := by decide +kernel
theorem dX8_sees_14 : decode cX8_sees 14 = .ok (.ifCond .lt 9, 3) := by decide +kernel
theorem dX8_sees_17 : decode cX8_sees 17 = .ok (.iload_n 2, 1) := by decide +kernel
theorem dX8_sees_18 : decode cX8_sees 18 = .ok (.bipush 47, 2) := by decide +kernel
theorem dX8_sees_20 : decode cX8_sees 20 = .ok (.if_icmp .lt 5, 3) := by decide +kernel
theorem dX8_sees_23 : decode cX8_sees 23 = .ok (.iconst (-1), 1) := by decide +kernel
theorem dX8_sees_24 : decode cX8_sees 24 = .ok (.ireturn, 1) := by decide +kernel
theorem dX8_sees_25 : decode cX8_sees 25 = .ok (.aload_n 0, 1) := by decide +kernel
theorem dX8_sees_26 : decode cX8_sees 26 = .ok (.getfield 57, 3) := by decide +kernel
theorem dX8_sees_29 : decode cX8_sees 29 = .ok (.iload_n 1, 1) := by decide +kernel
theorem dX8_sees_30 : decode cX8_sees 30 = .ok (.iload_n 2, 1) := by decide +kernel
theorem dX8_sees_31 : decode cX8_sees 31 = .ok (.bipush (-9), 2) := by decide +kernel
theorem dX8_sees_33 : decode cX8_sees 33 = .ok (.if_icmp .ne 8, 3) := by decide +kernel
theorem dX8_sees_36 : decode cX8_sees 36 = .ok (.bipush 47, 2) := by decide +kernel
theorem dX8_sees_38 : decode cX8_sees 38 = .ok (.goto 4, 3) := by decide +kernel
theorem dX8_sees_41 : decode cX8_sees 41 = .ok (.iload_n 2, 1) := by decide +kernel
theorem dX8_sees_42 : decode cX8_sees 42 = .ok (.invokevirtual 172, 3) := by decide +kernel
theorem dX8_sees_45 : decode cX8_sees 45 = .ok (.ifCond .eq 13, 3) := by decide +kernel
theorem dX8_sees_48 : decode cX8_sees 48 = .ok (.aload_n 0, 1) := by decide +kernel
theorem dX8_sees_49 : decode cX8_sees 49 = .ok (.getfield 57, 3) := by decide +kernel
theorem dX8_sees_52 : decode cX8_sees 52 = .ok (.getfield 174, 3) := by decide +kernel
theorem dX8_sees_55 : decode cX8_sees 55 = .ok (.goto 5, 3) := by decide +kernel
theorem dX8_sees_58 : decode cX8_sees 58 = .ok (.bipush (-3), 2) := by decide +kernel
theorem dX8_sees_60 : decode cX8_sees 60 = .ok (.ireturn, 1) := by decide +kernel
theorem dX8_forget_0 : decode cX8_forget 0 = .ok (.aload_n 0, 1) := by decide +kernel
theorem dX8_forget_1 : decode cX8_forget 1 = .ok (.getfield 57, 3) := by decide +kernel
theorem dX8_forget_4 : decode cX8_forget 4 = .ok (.getfield 174, 3) := by decide +kernel
theorem dX8_forget_7 : decode cX8_forget 7 = .ok (.istore_n 1, 1) := by decide +kernel
theorem dX8_forget_8 : decode cX8_forget 8 = .ok (.aload_n 0, 1) := by decide +kernel
theorem dX8_forget_9 : decode cX8_forget 9 = .ok (.getfield 57, 3) := by decide +kernel
theorem dX8_forget_12 : decode cX8_forget 12 = .ok (.iconst 0, 1) := by decide +kernel
theorem dX8_forget_13 : decode cX8_forget 13 = .ok (.putfield 174, 3) := by decide +kernel
theorem dX8_forget_16 : decode cX8_forget 16 = .ok (.iload_n 1, 1) := by decide +kernel
theorem dX8_forget_17 : decode cX8_forget 17 = .ok (.ireturn, 1) := by decide +kernel
set_option maxRecDepth 20000 in
theorem ggX8_which_X5_cellsThatFit : GoodIn wsX8_which wsX5_cellsThatFit := goodIn_r _ [7, 8, 9, 10, 6, 11, 12, 13, 14, 15, 16, 17, 18, 19, 20, 21, 22, 23, 24, 25, 26, 27, 28, 29, 30, 31, 32, 33, 34, 35, 36, 37, 38, 39, 40, 41, 42, 43, 44, 45, 46, 47, 48, 49, 50, 51, 52, 53, 54, 74, 75, 76, 77, 78, 79, 80, 81, 82] (by decide +kernel) (by decide +kernel)
set_option maxRecDepth 20000 in
theorem gX8_which_X5_cellsThatFit : GoodIn wsX8_which (wsV RX8 175 RX5 yX5_cellsThatFit wsX5_cellsThatFit) := goodIn_app (goodIn_of _ (by decide +kernel)) ggX8_which_X5_cellsThatFit
set_option maxRecDepth 20000 in
theorem ggX8_which_J6_bitCount_0f7a4 : GoodIn wsX8_which wsJ6_bitCount_0f7a4 := goodIn_r _ [58, 59, 60, 61] (by decide +kernel) (by decide +kernel)
set_option maxRecDepth 20000 in
theorem gX8_which_J6_bitCount_0f7a4 : GoodIn wsX8_which (va_wsS RX8 110 yJ6_bitCount_0f7a4 wsJ6_bitCount_0f7a4) := goodIn_app (goodIn_of _ (by decide +kernel)) ggX8_which_J6_bitCount_0f7a4
set_option maxRecDepth 20000 in
theorem ggX8_which_X8_firstOf : GoodIn wsX8_which wsX8_firstOf := goodIn_r _ [65] (by decide +kernel) (by decide +kernel)
set_option maxRecDepth 20000 in
theorem gX8_which_X8_firstOf : GoodIn wsX8_which (va_wsS RX8 178 yX8_firstOf wsX8_firstOf) := goodIn_app (goodIn_of _ (by decide +kernel)) ggX8_which_X8_firstOf
theorem dX8_which_0 : decode cX8_which 0 = .ok (.iload_n 1, 1) := by decide +kernel
theorem dX8_which_1 : decode cX8_which 1 = .ok (.lookupswitch 57 #[(0, 27), (1, 42)], 27) := by decide +kernel
theorem dX8_which_28 : decode cX8_which 28 = .ok (.aload_n 0, 1) := by decide +kernel
theorem dX8_which_29 : decode cX8_which 29 = .ok (.getfield 57, 3) := by decide +kernel
theorem dX8_which_32 : decode cX8_which 32 = .ok (.aload_n 0, 1) := by decide +kernel
theorem dX8_which_33 : decode cX8_which 33 = .ok (.getfield 10, 3) := by decide +kernel
theorem dX8_which_36 : decode cX8_which 36 = .ok (.invokevirtual 175, 3) := by decide +kernel
theorem dX8_which_39 : decode cX8_which 39 = .ok (.invokestatic 110, 3) := by decide +kernel
theorem dX8_which_42 : decode cX8_which 42 = .ok (.ireturn, 1) := by decide +kernel
theorem dX8_which_43 : decode cX8_which 43 = .ok (.aload_n 0, 1) := by decide +kernel
theorem dX8_which_44 : decode cX8_which 44 = .ok (.getfield 57, 3) := by decide +kernel
theorem dX8_which_47 : decode cX8_which 47 = .ok (.aload_n 0, 1) := by decide +kernel
theorem dX8_which_48 : decode cX8_which 48 = .ok (.getfield 10, 3) := by decide +kernel
theorem dX8_which_51 : decode cX8_which 51 = .ok (.invokevirtual 175, 3) := by decide +kernel
theorem dX8_which_54 : decode cX8_which 54 = .ok (.invokestatic 178, 3) := by decide +kernel
theorem dX8_which_57 : decode cX8_which 57 = .ok (.ireturn, 1) := by decide +kernel
theorem dX8_which_58 : decode cX8_which 58 = .ok (.iconst (-1), 1) := by decide +kernel
theorem dX8_which_59 : decode cX8_which 59 = .ok (.ireturn, 1) := by decide +kernel
set_option maxRecDepth 20000 in
theorem ggX8_look_X5_cellsThatFit : GoodIn wsX8_look wsX5_cellsThatFit := goodIn_r _ [7, 8, 9, 10, 6, 11, 12, 13, 14, 15, 16, 17, 18, 19, 20, 21, 22, 23, 24, 25, 26, 27, 28, 29, 30, 31, 32, 33, 34, 35, 36, 37, 38, 39, 40, 41, 42, 43, 44, 45, 46, 47, 48, 49, 50, 51, 52, 53, 54, 76, 77, 78, 79, 80, 81, 82, 83, 84] (by decide +kernel) (by decide +kernel)
set_option maxRecDepth 20000 in
theorem gX8_look_X5_cellsThatFit : GoodIn wsX8_look (wsV RX8 175 RX5 yX5_cellsThatFit wsX5_cellsThatFit) := goodIn_app (goodIn_of _ (by decide +kernel)) ggX8_look_X5_cellsThatFit
set_option maxRecDepth 20000 in
theorem ggX8_look_J6_bitCount_0f7a4 : GoodIn wsX8_look wsJ6_bitCount_0f7a4 := goodIn_r _ [58, 59, 60, 61] (by decide +kernel) (by decide +kernel)
set_option maxRecDepth 20000 in
theorem gX8_look_J6_bitCount_0f7a4 : GoodIn wsX8_look (va_wsS RX8 110 yJ6_bitCount_0f7a4 wsJ6_bitCount_0f7a4) := goodIn_app (goodIn_of _ (by decide +kernel)) ggX8_look_J6_bitCount_0f7a4
set_option maxRecDepth 20000 in
theorem ggX8_look_X5_mostAlike : GoodIn wsX8_look wsX5_mostAlike := goodIn_r _ [65, 66, 67, 32, 29, 33, 15, 16, 17, 18, 19, 20, 21, 22, 23, 24, 25, 26, 27, 28, 30, 31, 34, 35, 36, 37, 38, 39, 40, 41, 42, 43, 44, 45, 46, 47, 48, 49, 50, 51, 52, 53, 54, 81, 82, 83, 84, 76, 77, 78, 79, 80] (by decide +kernel) (by decide +kernel)
set_option maxRecDepth 20000 in
theorem gX8_look_X5_mostAlike : GoodIn wsX8_look (wsV RX8 181 RX5 yX5_mostAlike wsX5_mostAlike) := goodIn_app (goodIn_of _ (by decide +kernel)) ggX8_look_X5_mostAlike
theorem dX8_look_0 : decode cX8_look 0 = .ok (.aload_n 0, 1) := by decide +kernel
theorem dX8_look_1 : decode cX8_look 1 = .ok (.getfield 57, 3) := by decide +kernel
theorem dX8_look_4 : decode cX8_look 4 = .ok (.aload_n 0, 1) := by decide +kernel
theorem dX8_look_5 : decode cX8_look 5 = .ok (.getfield 10, 3) := by decide +kernel
theorem dX8_look_8 : decode cX8_look 8 = .ok (.invokevirtual 175, 3) := by decide +kernel
theorem dX8_look_11 : decode cX8_look 11 = .ok (.istore_n 1, 1) := by decide +kernel
theorem dX8_look_12 : decode cX8_look 12 = .ok (.iload_n 1, 1) := by decide +kernel
theorem dX8_look_13 : decode cX8_look 13 = .ok (.invokestatic 110, 3) := by decide +kernel
theorem dX8_look_16 : decode cX8_look 16 = .ok (.iconst 1, 1) := by decide +kernel
theorem dX8_look_17 : decode cX8_look 17 = .ok (.if_icmp .gt 6, 3) := by decide +kernel
theorem dX8_look_20 : decode cX8_look 20 = .ok (.bipush (-9), 2) := by decide +kernel
theorem dX8_look_22 : decode cX8_look 22 = .ok (.ireturn, 1) := by decide +kernel
theorem dX8_look_23 : decode cX8_look 23 = .ok (.bipush (-9), 2) := by decide +kernel
theorem dX8_look_25 : decode cX8_look 25 = .ok (.istore_n 2, 1) := by decide +kernel
theorem dX8_look_26 : decode cX8_look 26 = .ok (.bipush 25, 2) := by decide +kernel
theorem dX8_look_28 : decode cX8_look 28 = .ok (.istore_n 3, 1) := by decide +kernel
theorem dX8_look_29 : decode cX8_look 29 = .ok (.iconst 1, 1) := by decide +kernel
theorem dX8_look_30 : decode cX8_look 30 = .ok (.istore 4, 2) := by decide +kernel
theorem dX8_look_32 : decode cX8_look 32 = .ok (.iload 4, 2) := by decide +kernel
theorem dX8_look_34 : decode cX8_look 34 = .ok (.iconst 3, 1) := by decide +kernel
theorem dX8_look_35 : decode cX8_look 35 = .ok (.if_icmp .gt 37, 3) := by decide +kernel
theorem dX8_look_38 : decode cX8_look 38 = .ok (.aload_n 0, 1) := by decide +kernel
theorem dX8_look_39 : decode cX8_look 39 = .ok (.getfield 57, 3) := by decide +kernel
theorem dX8_look_42 : decode cX8_look 42 = .ok (.aload_n 0, 1) := by decide +kernel
theorem dX8_look_43 : decode cX8_look 43 = .ok (.getfield 10, 3) := by decide +kernel
theorem dX8_look_46 : decode cX8_look 46 = .ok (.iload_n 1, 1) := by decide +kernel
theorem dX8_look_47 : decode cX8_look 47 = .ok (.iload 4, 2) := by decide +kernel
theorem dX8_look_49 : decode cX8_look 49 = .ok (.invokevirtual 181, 3) := by decide +kernel
theorem dX8_look_52 : decode cX8_look 52 = .ok (.istore 5, 2) := by decide +kernel
theorem dX8_look_54 : decode cX8_look 54 = .ok (.iload 5, 2) := by decide +kernel
theorem dX8_look_56 : decode cX8_look 56 = .ok (.iload_n 3, 1) := by decide +kernel
theorem dX8_look_57 : decode cX8_look 57 = .ok (.if_icmp .ge 9, 3) := by decide +kernel
theorem dX8_look_60 : decode cX8_look 60 = .ok (.iload 5, 2) := by decide +kernel
theorem dX8_look_62 : decode cX8_look 62 = .ok (.istore_n 3, 1) := by decide +kernel
theorem dX8_look_63 : decode cX8_look 63 = .ok (.iload 4, 2) := by decide +kernel
theorem dX8_look_65 : decode cX8_look 65 = .ok (.istore_n 2, 1) := by decide +kernel
theorem dX8_look_66 : decode cX8_look 66 = .ok (.iinc 4 1, 3) := by decide +kernel
theorem dX8_look_69 : decode cX8_look 69 = .ok (.goto (-37), 3) := by decide +kernel
theorem dX8_look_72 : decode cX8_look 72 = .ok (.iload_n 2, 1) := by decide +kernel
theorem dX8_look_73 : decode cX8_look 73 = .ok (.ireturn, 1) := by decide +kernel
set_option maxRecDepth 20000 in
theorem ggX8_keep_X1_put : GoodIn wsX8_keep wsX1_put := goodIn_r _ [7, 8, 9, 10, 11, 12, 13, 14, 15, 16, 17, 18, 19, 20, 21, 22, 23, 24, 25, 26, 27, 28, 29, 42, 43, 44, 45, 46, 47, 48, 49] (by decide +kernel) (by decide +kernel)
set_option maxRecDepth 20000 in
theorem gX8_keep_X1_put : GoodIn wsX8_keep (wsV RX8 185 RX1 yX1_put wsX1_put) := goodIn_app (goodIn_of _ (by decide +kernel)) ggX8_keep_X1_put
set_option maxRecDepth 20000 in
theorem ggX8_keep_X0_cells : GoodIn wsX8_keep wsX0_cells := goodIn_r _ [33, 25, 26, 45, 46, 47, 48, 49] (by decide +kernel) (by decide +kernel)
set_option maxRecDepth 20000 in
theorem gX8_keep_X0_cells : GoodIn wsX8_keep (wsV RX8 106 RX0 yX0_cells wsX0_cells) := goodIn_app (goodIn_of _ (by decide +kernel)) ggX8_keep_X0_cells
theorem dX8_keep_0 : decode cX8_keep 0 = .ok (.iload_n 1, 1) := by decide +kernel
theorem dX8_keep_1 : decode cX8_keep 1 = .ok (.ifCond .lt 8, 3) := by decide +kernel
theorem dX8_keep_4 : decode cX8_keep 4 = .ok (.iload_n 1, 1) := by decide +kernel
theorem dX8_keep_5 : decode cX8_keep 5 = .ok (.iconst 2, 1) := by decide +kernel
theorem dX8_keep_6 : decode cX8_keep 6 = .ok (.if_icmp .lt 5, 3) := by decide +kernel
theorem dX8_keep_9 : decode cX8_keep 9 = .ok (.iconst (-1), 1) := by decide +kernel
theorem dX8_keep_10 : decode cX8_keep 10 = .ok (.ireturn, 1) := by decide +kernel
theorem dX8_keep_11 : decode cX8_keep 11 = .ok (.aload_n 0, 1) := by decide +kernel
theorem dX8_keep_12 : decode cX8_keep 12 = .ok (.getfield 36, 3) := by decide +kernel
theorem dX8_keep_15 : decode cX8_keep 15 = .ok (.iload_n 1, 1) := by decide +kernel
theorem dX8_keep_16 : decode cX8_keep 16 = .ok (.aload_n 0, 1) := by decide +kernel
theorem dX8_keep_17 : decode cX8_keep 17 = .ok (.getfield 10, 3) := by decide +kernel
theorem dX8_keep_20 : decode cX8_keep 20 = .ok (.invokevirtual 185, 3) := by decide +kernel
theorem dX8_keep_23 : decode cX8_keep 23 = .ok (.aload_n 0, 1) := by decide +kernel
theorem dX8_keep_24 : decode cX8_keep 24 = .ok (.getfield 10, 3) := by decide +kernel
theorem dX8_keep_27 : decode cX8_keep 27 = .ok (.invokevirtual 106, 3) := by decide +kernel
theorem dX8_keep_30 : decode cX8_keep 30 = .ok (.ireturn, 1) := by decide +kernel
set_option maxRecDepth 20000 in
theorem ggX8_back_X1_isKept : GoodIn wsX8_back wsX1_isKept := goodIn_r _ [8, 9, 49, 50] (by decide +kernel) (by decide +kernel)
set_option maxRecDepth 20000 in
theorem gX8_back_X1_isKept : GoodIn wsX8_back (wsV RX8 189 RX1 yX1_isKept wsX1_isKept) := goodIn_app (goodIn_of _ (by decide +kernel)) ggX8_back_X1_isKept
set_option maxRecDepth 20000 in
theorem ggX8_back_X1_copyTo : GoodIn wsX8_back wsX1_copyTo := goodIn_r _ [13, 14, 15, 16, 17, 18, 19, 20, 21, 22, 23, 24, 25, 26, 27, 28, 29, 30, 31, 32, 33, 34, 49, 50, 51, 52, 53, 54, 55, 56] (by decide +kernel) (by decide +kernel)
set_option maxRecDepth 20000 in
theorem gX8_back_X1_copyTo : GoodIn wsX8_back (wsV RX8 192 RX1 yX1_copyTo wsX1_copyTo) := goodIn_app (goodIn_of _ (by decide +kernel)) ggX8_back_X1_copyTo
set_option maxRecDepth 20000 in
theorem ggX8_back_X0_cells : GoodIn wsX8_back wsX0_cells := goodIn_r _ [38, 30, 31, 52, 53, 54, 55, 56] (by decide +kernel) (by decide +kernel)
set_option maxRecDepth 20000 in
theorem gX8_back_X0_cells : GoodIn wsX8_back (wsV RX8 106 RX0 yX0_cells wsX0_cells) := goodIn_app (goodIn_of _ (by decide +kernel)) ggX8_back_X0_cells
theorem dX8_back_0 : decode cX8_back 0 = .ok (.iload_n 1, 1) := by decide +kernel
theorem dX8_back_1 : decode cX8_back 1 = .ok (.ifCond .lt 8, 3) := by decide +kernel
theorem dX8_back_4 : decode cX8_back 4 = .ok (.iload_n 1, 1) := by decide +kernel
theorem dX8_back_5 : decode cX8_back 5 = .ok (.iconst 2, 1) := by decide +kernel
theorem dX8_back_6 : decode cX8_back 6 = .ok (.if_icmp .lt 5, 3) := by decide +kernel
theorem dX8_back_9 : decode cX8_back 9 = .ok (.iconst (-1), 1) := by decide +kernel
theorem dX8_back_10 : decode cX8_back 10 = .ok (.ireturn, 1) := by decide +kernel
theorem dX8_back_11 : decode cX8_back 11 = .ok (.aload_n 0, 1) := by decide +kernel
theorem dX8_back_12 : decode cX8_back 12 = .ok (.getfield 36, 3) := by decide +kernel
theorem dX8_back_15 : decode cX8_back 15 = .ok (.iload_n 1, 1) := by decide +kernel
theorem dX8_back_16 : decode cX8_back 16 = .ok (.invokevirtual 189, 3) := by decide +kernel
theorem dX8_back_19 : decode cX8_back 19 = .ok (.ifCond .ne 6, 3) := by decide +kernel
theorem dX8_back_22 : decode cX8_back 22 = .ok (.bipush (-2), 2) := by decide +kernel
theorem dX8_back_24 : decode cX8_back 24 = .ok (.ireturn, 1) := by decide +kernel
theorem dX8_back_25 : decode cX8_back 25 = .ok (.aload_n 0, 1) := by decide +kernel
theorem dX8_back_26 : decode cX8_back 26 = .ok (.getfield 36, 3) := by decide +kernel
theorem dX8_back_29 : decode cX8_back 29 = .ok (.iload_n 1, 1) := by decide +kernel
theorem dX8_back_30 : decode cX8_back 30 = .ok (.aload_n 0, 1) := by decide +kernel
theorem dX8_back_31 : decode cX8_back 31 = .ok (.getfield 10, 3) := by decide +kernel
theorem dX8_back_34 : decode cX8_back 34 = .ok (.invokevirtual 192, 3) := by decide +kernel
theorem dX8_back_37 : decode cX8_back 37 = .ok (.aload_n 0, 1) := by decide +kernel
theorem dX8_back_38 : decode cX8_back 38 = .ok (.getfield 29, 3) := by decide +kernel
theorem dX8_back_41 : decode cX8_back 41 = .ok (.iconst 0, 1) := by decide +kernel
theorem dX8_back_42 : decode cX8_back 42 = .ok (.putfield 138, 3) := by decide +kernel
theorem dX8_back_45 : decode cX8_back 45 = .ok (.aload_n 0, 1) := by decide +kernel
theorem dX8_back_46 : decode cX8_back 46 = .ok (.getfield 10, 3) := by decide +kernel
theorem dX8_back_49 : decode cX8_back 49 = .ok (.invokevirtual 106, 3) := by decide +kernel
theorem dX8_back_52 : decode cX8_back 52 = .ok (.ireturn, 1) := by decide +kernel
set_option maxRecDepth 20000 in
theorem ggX8_count_X0_fixedCells : GoodIn wsX8_count wsX0_fixedCells := goodIn_r _ [9, 10, 11, 12, 13, 14, 15, 16, 17, 41, 42, 43, 44, 45] (by decide +kernel) (by decide +kernel)
set_option maxRecDepth 20000 in
theorem gX8_count_X0_fixedCells : GoodIn wsX8_count (wsV RX8 135 RX0 yX0_fixedCells wsX0_fixedCells) := goodIn_app (goodIn_of _ (by decide +kernel)) ggX8_count_X0_fixedCells
set_option maxRecDepth 20000 in
theorem ggX8_count_X0_heightsTogether : GoodIn wsX8_count wsX0_heightsTogether := goodIn_r _ [21, 22, 23, 24, 8, 25, 26, 27, 28, 29, 30, 31, 32, 41, 42, 43, 44, 45] (by decide +kernel) (by decide +kernel)
set_option maxRecDepth 20000 in
theorem gX8_count_X0_heightsTogether : GoodIn wsX8_count (wsV RX8 204 RX0 yX0_heightsTogether wsX0_heightsTogether) := goodIn_app (goodIn_of _ (by decide +kernel)) ggX8_count_X0_heightsTogether
theorem dX8_count_0 : decode cX8_count 0 = .ok (.iload_n 1, 1) := by decide +kernel
theorem dX8_count_1 : decode cX8_count 1 = .ok (.tableswitch 111 0 7 #[47, 55, 63, 71, 79, 87, 95, 103], 47) := by decide +kernel
theorem dX8_count_48 : decode cX8_count 48 = .ok (.aload_n 0, 1) := by decide +kernel
theorem dX8_count_49 : decode cX8_count 49 = .ok (.getfield 10, 3) := by decide +kernel
theorem dX8_count_52 : decode cX8_count 52 = .ok (.getfield 195, 3) := by decide +kernel
theorem dX8_count_55 : decode cX8_count 55 = .ok (.ireturn, 1) := by decide +kernel
theorem dX8_count_56 : decode cX8_count 56 = .ok (.aload_n 0, 1) := by decide +kernel
theorem dX8_count_57 : decode cX8_count 57 = .ok (.getfield 10, 3) := by decide +kernel
theorem dX8_count_60 : decode cX8_count 60 = .ok (.getfield 198, 3) := by decide +kernel
theorem dX8_count_63 : decode cX8_count 63 = .ok (.ireturn, 1) := by decide +kernel
theorem dX8_count_64 : decode cX8_count 64 = .ok (.aload_n 0, 1) := by decide +kernel
theorem dX8_count_65 : decode cX8_count 65 = .ok (.getfield 10, 3) := by decide +kernel
theorem dX8_count_68 : decode cX8_count 68 = .ok (.getfield 201, 3) := by decide +kernel
theorem dX8_count_71 : decode cX8_count 71 = .ok (.ireturn, 1) := by decide +kernel
theorem dX8_count_72 : decode cX8_count 72 = .ok (.aload_n 0, 1) := by decide +kernel
theorem dX8_count_73 : decode cX8_count 73 = .ok (.getfield 10, 3) := by decide +kernel
theorem dX8_count_76 : decode cX8_count 76 = .ok (.invokevirtual 135, 3) := by decide +kernel
theorem dX8_count_79 : decode cX8_count 79 = .ok (.ireturn, 1) := by decide +kernel
theorem dX8_count_80 : decode cX8_count 80 = .ok (.aload_n 0, 1) := by decide +kernel
theorem dX8_count_81 : decode cX8_count 81 = .ok (.getfield 10, 3) := by decide +kernel
theorem dX8_count_84 : decode cX8_count 84 = .ok (.invokevirtual 204, 3) := by decide +kernel
theorem dX8_count_87 : decode cX8_count 87 = .ok (.ireturn, 1) := by decide +kernel
theorem dX8_count_88 : decode cX8_count 88 = .ok (.aload_n 0, 1) := by decide +kernel
theorem dX8_count_89 : decode cX8_count 89 = .ok (.getfield 57, 3) := by decide +kernel
theorem dX8_count_92 : decode cX8_count 92 = .ok (.getfield 174, 3) := by decide +kernel
theorem dX8_count_95 : decode cX8_count 95 = .ok (.ireturn, 1) := by decide +kernel
theorem dX8_count_96 : decode cX8_count 96 = .ok (.aload_n 0, 1) := by decide +kernel
theorem dX8_count_97 : decode cX8_count 97 = .ok (.getfield 22, 3) := by decide +kernel
theorem dX8_count_100 : decode cX8_count 100 = .ok (.getfield 65, 3) := by decide +kernel
theorem dX8_count_103 : decode cX8_count 103 = .ok (.ireturn, 1) := by decide +kernel
theorem dX8_count_104 : decode cX8_count 104 = .ok (.aload_n 0, 1) := by decide +kernel
theorem dX8_count_105 : decode cX8_count 105 = .ok (.getfield 29, 3) := by decide +kernel
theorem dX8_count_108 : decode cX8_count 108 = .ok (.getfield 138, 3) := by decide +kernel
theorem dX8_count_111 : decode cX8_count 111 = .ok (.ireturn, 1) := by decide +kernel
theorem dX8_count_112 : decode cX8_count 112 = .ok (.iconst (-1), 1) := by decide +kernel
theorem dX8_count_113 : decode cX8_count 113 = .ok (.ireturn, 1) := by decide +kernel
set_option maxRecDepth 20000 in
theorem ggX8_draftIsDone_X4_add : GoodIn wsX8_draftIsDone wsX4_add := goodIn_r _ [8, 9, 10, 11, 12, 13, 14, 15, 16, 17, 18, 19, 20, 21, 22, 23, 24, 25, 26, 27, 28, 29, 30, 31, 32, 33, 34, 35, 45, 46, 47, 48, 49, 50, 51, 52] (by decide +kernel) (by decide +kernel)
set_option maxRecDepth 20000 in
theorem gX8_draftIsDone_X4_add : GoodIn wsX8_draftIsDone (wsV RX8 207 RX4 yX4_add wsX4_add) := goodIn_app (goodIn_of _ (by decide +kernel)) ggX8_draftIsDone_X4_add
set_option maxRecDepth 20000 in
theorem ggX8_draftIsDone_X0_become : GoodIn wsX8_draftIsDone wsX0_become := goodIn_r _ [29, 30, 31, 32, 33, 34, 48, 49, 50, 51, 52] (by decide +kernel) (by decide +kernel)
set_option maxRecDepth 20000 in
theorem gX8_draftIsDone_X0_become : GoodIn wsX8_draftIsDone (wsV RX8 87 RX0 yX0_become wsX0_become) := goodIn_app (goodIn_of _ (by decide +kernel)) ggX8_draftIsDone_X0_become
theorem dX8_draftIsDone_0 : decode cX8_draftIsDone 0 = .ok (.aload_n 0, 1) := by decide +kernel
theorem dX8_draftIsDone_1 : decode cX8_draftIsDone 1 = .ok (.getfield 29, 3) := by decide +kernel
theorem dX8_draftIsDone_4 : decode cX8_draftIsDone 4 = .ok (.aload_n 0, 1) := by decide +kernel
theorem dX8_draftIsDone_5 : decode cX8_draftIsDone 5 = .ok (.getfield 10, 3) := by decide +kernel
theorem dX8_draftIsDone_8 : decode cX8_draftIsDone 8 = .ok (.invokevirtual 207, 3) := by decide +kernel
theorem dX8_draftIsDone_11 : decode cX8_draftIsDone 11 = .ok (.aload_n 0, 1) := by decide +kernel
theorem dX8_draftIsDone_12 : decode cX8_draftIsDone 12 = .ok (.getfield 10, 3) := by decide +kernel
theorem dX8_draftIsDone_15 : decode cX8_draftIsDone 15 = .ok (.aload_n 0, 1) := by decide +kernel
theorem dX8_draftIsDone_16 : decode cX8_draftIsDone 16 = .ok (.getfield 16, 3) := by decide +kernel
theorem dX8_draftIsDone_19 : decode cX8_draftIsDone 19 = .ok (.invokevirtual 87, 3) := by decide +kernel
theorem dX8_draftIsDone_22 : decode cX8_draftIsDone 22 = .ok (.return_, 1) := by decide +kernel
theorem dX8_isHeight_0 : decode cX8_isHeight 0 = .ok (.iload_n 0, 1) := by decide +kernel
theorem dX8_isHeight_1 : decode cX8_isHeight 1 = .ok (.ifCond .lt 12, 3) := by decide +kernel
theorem dX8_isHeight_4 : decode cX8_isHeight 4 = .ok (.iload_n 0, 1) := by decide +kernel
theorem dX8_isHeight_5 : decode cX8_isHeight 5 = .ok (.iconst 4, 1) := by decide +kernel
theorem dX8_isHeight_6 : decode cX8_isHeight 6 = .ok (.if_icmp .ge 7, 3) := by decide +kernel
theorem dX8_isHeight_9 : decode cX8_isHeight 9 = .ok (.iconst 1, 1) := by decide +kernel
theorem dX8_isHeight_10 : decode cX8_isHeight 10 = .ok (.goto 4, 3) := by decide +kernel
theorem dX8_isHeight_13 : decode cX8_isHeight 13 = .ok (.iconst 0, 1) := by decide +kernel
theorem dX8_isHeight_14 : decode cX8_isHeight 14 = .ok (.ireturn, 1) := by decide +kernel
theorem dX8_isLayer_0 : decode cX8_isLayer 0 = .ok (.iload_n 0, 1) := by decide +kernel
theorem dX8_isLayer_1 : decode cX8_isLayer 1 = .ok (.iconst 1, 1) := by decide +kernel
theorem dX8_isLayer_2 : decode cX8_isLayer 2 = .ok (.if_icmp .lt 12, 3) := by decide +kernel
theorem dX8_isLayer_5 : decode cX8_isLayer 5 = .ok (.iload_n 0, 1) := by decide +kernel
theorem dX8_isLayer_6 : decode cX8_isLayer 6 = .ok (.iconst 3, 1) := by decide +kernel
theorem dX8_isLayer_7 : decode cX8_isLayer 7 = .ok (.if_icmp .gt 7, 3) := by decide +kernel
theorem dX8_isLayer_10 : decode cX8_isLayer 10 = .ok (.iconst 1, 1) := by decide +kernel
theorem dX8_isLayer_11 : decode cX8_isLayer 11 = .ok (.goto 4, 3) := by decide +kernel
theorem dX8_isLayer_14 : decode cX8_isLayer 14 = .ok (.iconst 0, 1) := by decide +kernel
theorem dX8_isLayer_15 : decode cX8_isLayer 15 = .ok (.ireturn, 1) := by decide +kernel
theorem dX8_squareAsAnswer_0 : decode cX8_squareAsAnswer 0 = .ok (.iload_n 0, 1) := by decide +kernel
theorem dX8_squareAsAnswer_1 : decode cX8_squareAsAnswer 1 = .ok (.bipush 47, 2) := by decide +kernel
theorem dX8_squareAsAnswer_3 : decode cX8_squareAsAnswer 3 = .ok (.if_icmp .ne 8, 3) := by decide +kernel
theorem dX8_squareAsAnswer_6 : decode cX8_squareAsAnswer 6 = .ok (.bipush (-9), 2) := by decide +kernel
theorem dX8_squareAsAnswer_8 : decode cX8_squareAsAnswer 8 = .ok (.goto 4, 3) := by decide +kernel
theorem dX8_squareAsAnswer_11 : decode cX8_squareAsAnswer 11 = .ok (.iload_n 0, 1) := by decide +kernel
theorem dX8_squareAsAnswer_12 : decode cX8_squareAsAnswer 12 = .ok (.ireturn, 1) := by decide +kernel
theorem dX8_firstOf_0 : decode cX8_firstOf 0 = .ok (.iconst 0, 1) := by decide +kernel
theorem dX8_firstOf_1 : decode cX8_firstOf 1 = .ok (.istore_n 1, 1) := by decide +kernel
theorem dX8_firstOf_2 : decode cX8_firstOf 2 = .ok (.iload_n 1, 1) := by decide +kernel
theorem dX8_firstOf_3 : decode cX8_firstOf 3 = .ok (.bipush 24, 2) := by decide +kernel
theorem dX8_firstOf_5 : decode cX8_firstOf 5 = .ok (.if_icmp .ge 20, 3) := by decide +kernel
theorem dX8_firstOf_8 : decode cX8_firstOf 8 = .ok (.iload_n 0, 1) := by decide +kernel
theorem dX8_firstOf_9 : decode cX8_firstOf 9 = .ok (.iload_n 1, 1) := by decide +kernel
theorem dX8_firstOf_10 : decode cX8_firstOf 10 = .ok (.ishr, 1) := by decide +kernel
theorem dX8_firstOf_11 : decode cX8_firstOf 11 = .ok (.iconst 1, 1) := by decide +kernel
theorem dX8_firstOf_12 : decode cX8_firstOf 12 = .ok (.iand, 1) := by decide +kernel
theorem dX8_firstOf_13 : decode cX8_firstOf 13 = .ok (.iconst 1, 1) := by decide +kernel
theorem dX8_firstOf_14 : decode cX8_firstOf 14 = .ok (.if_icmp .ne 5, 3) := by decide +kernel
theorem dX8_firstOf_17 : decode cX8_firstOf 17 = .ok (.iload_n 1, 1) := by decide +kernel
theorem dX8_firstOf_18 : decode cX8_firstOf 18 = .ok (.ireturn, 1) := by decide +kernel
theorem dX8_firstOf_19 : decode cX8_firstOf 19 = .ok (.iinc 1 1, 3) := by decide +kernel
theorem dX8_firstOf_22 : decode cX8_firstOf 22 = .ok (.goto (-20), 3) := by decide +kernel
theorem dX8_firstOf_25 : decode cX8_firstOf 25 = .ok (.bipush (-9), 2) := by decide +kernel
theorem dX8_firstOf_27 : decode cX8_firstOf 27 = .ok (.ireturn, 1) := by decide +kernel
theorem dX9_init_0 : decode cX9_init 0 = .ok (.aload_n 0, 1) := by decide +kernel
theorem dX9_init_1 : decode cX9_init 1 = .ok (.invokespecial 1, 3) := by decide +kernel
theorem dX9_init_4 : decode cX9_init 4 = .ok (.aload_n 0, 1) := by decide +kernel
theorem dX9_init_5 : decode cX9_init 5 = .ok (.bipush 51, 2) := by decide +kernel
theorem dX9_init_7 : decode cX9_init 7 = .ok (.newarray .int, 2) := by decide +kernel
theorem dX9_init_9 : decode cX9_init 9 = .ok (.putfield 7, 3) := by decide +kernel
theorem dX9_init_12 : decode cX9_init 12 = .ok (.aload_n 0, 1) := by decide +kernel
theorem dX9_init_13 : decode cX9_init 13 = .ok (.bipush 51, 2) := by decide +kernel
theorem dX9_init_15 : decode cX9_init 15 = .ok (.newarray .int, 2) := by decide +kernel
theorem dX9_init_17 : decode cX9_init 17 = .ok (.putfield 13, 3) := by decide +kernel
theorem dX9_init_20 : decode cX9_init 20 = .ok (.aload_n 0, 1) := by decide +kernel
theorem dX9_init_21 : decode cX9_init 21 = .ok (.sipush 306, 3) := by decide +kernel
theorem dX9_init_24 : decode cX9_init 24 = .ok (.newarray .int, 2) := by decide +kernel
theorem dX9_init_26 : decode cX9_init 26 = .ok (.putfield 16, 3) := by decide +kernel
theorem dX9_init_29 : decode cX9_init 29 = .ok (.aload_n 0, 1) := by decide +kernel
theorem dX9_init_30 : decode cX9_init 30 = .ok (.bipush 102, 2) := by decide +kernel
theorem dX9_init_32 : decode cX9_init 32 = .ok (.newarray .int, 2) := by decide +kernel
theorem dX9_init_34 : decode cX9_init 34 = .ok (.putfield 19, 3) := by decide +kernel
theorem dX9_init_37 : decode cX9_init 37 = .ok (.aload_n 0, 1) := by decide +kernel
theorem dX9_init_38 : decode cX9_init 38 = .ok (.iconst 2, 1) := by decide +kernel
theorem dX9_init_39 : decode cX9_init 39 = .ok (.newarray .boolean, 2) := by decide +kernel
theorem dX9_init_41 : decode cX9_init 41 = .ok (.putfield 22, 3) := by decide +kernel
theorem dX9_init_44 : decode cX9_init 44 = .ok (.aload_n 0, 1) := by decide +kernel
theorem dX9_init_45 : decode cX9_init 45 = .ok (.bipush 12, 2) := by decide +kernel
theorem dX9_init_47 : decode cX9_init 47 = .ok (.newarray .int, 2) := by decide +kernel
theorem dX9_init_49 : decode cX9_init 49 = .ok (.putfield 26, 3) := by decide +kernel
theorem dX9_init_52 : decode cX9_init 52 = .ok (.aload_n 0, 1) := by decide +kernel
theorem dX9_init_53 : decode cX9_init 53 = .ok (.bipush 120, 2) := by decide +kernel
theorem dX9_init_55 : decode cX9_init 55 = .ok (.newarray .byte, 2) := by decide +kernel
theorem dX9_init_57 : decode cX9_init 57 = .ok (.putfield 29, 3) := by decide +kernel
theorem dX9_init_60 : decode cX9_init 60 = .ok (.aload_n 0, 1) := by decide +kernel
theorem dX9_init_61 : decode cX9_init 61 = .ok (.bipush 24, 2) := by decide +kernel
theorem dX9_init_63 : decode cX9_init 63 = .ok (.newarray .boolean, 2) := by decide +kernel
theorem dX9_init_65 : decode cX9_init 65 = .ok (.putfield 33, 3) := by decide +kernel
theorem dX9_init_68 : decode cX9_init 68 = .ok (.aload_n 0, 1) := by decide +kernel
theorem dX9_init_69 : decode cX9_init 69 = .ok (.sipush 1536, 3) := by decide +kernel
theorem dX9_init_72 : decode cX9_init 72 = .ok (.newarray .int, 2) := by decide +kernel
theorem dX9_init_74 : decode cX9_init 74 = .ok (.putfield 36, 3) := by decide +kernel
theorem dX9_init_77 : decode cX9_init 77 = .ok (.aload_n 0, 1) := by decide +kernel
theorem dX9_init_78 : decode cX9_init 78 = .ok (.bipush 24, 2) := by decide +kernel
theorem dX9_init_80 : decode cX9_init 80 = .ok (.newarray .int, 2) := by decide +kernel
theorem dX9_init_82 : decode cX9_init 82 = .ok (.putfield 39, 3) := by decide +kernel
theorem dX9_init_85 : decode cX9_init 85 = .ok (.aload_n 0, 1) := by decide +kernel
theorem dX9_init_86 : decode cX9_init 86 = .ok (.bipush 72, 2) := by decide +kernel
theorem dX9_init_88 : decode cX9_init 88 = .ok (.newarray .int, 2) := by decide +kernel
theorem dX9_init_90 : decode cX9_init 90 = .ok (.putfield 42, 3) := by decide +kernel
theorem dX9_init_93 : decode cX9_init 93 = .ok (.aload_n 0, 1) := by decide +kernel
theorem dX9_init_94 : decode cX9_init 94 = .ok (.bipush 24, 2) := by decide +kernel
theorem dX9_init_96 : decode cX9_init 96 = .ok (.newarray .int, 2) := by decide +kernel
theorem dX9_init_98 : decode cX9_init 98 = .ok (.putfield 45, 3) := by decide +kernel
theorem dX9_init_101 : decode cX9_init 101 = .ok (.aload_n 0, 1) := by decide +kernel
theorem dX9_init_102 : decode cX9_init 102 = .ok (.bipush 24, 2) := by decide +kernel
theorem dX9_init_104 : decode cX9_init 104 = .ok (.newarray .int, 2) := by decide +kernel
theorem dX9_init_106 : decode cX9_init 106 = .ok (.putfield 48, 3) := by decide +kernel
theorem dX9_init_109 : decode cX9_init 109 = .ok (.aload_n 0, 1) := by decide +kernel
theorem dX9_init_110 : decode cX9_init 110 = .ok (.getfield 7, 3) := by decide +kernel
theorem dX9_init_113 : decode cX9_init 113 = .ok (.iconst 0, 1) := by decide +kernel
theorem dX9_init_114 : decode cX9_init 114 = .ok (.iconst 1, 1) := by decide +kernel
theorem dX9_init_115 : decode cX9_init 115 = .ok (.iastore, 1) := by decide +kernel
theorem dX9_init_116 : decode cX9_init 116 = .ok (.aload_n 0, 1) := by decide +kernel
theorem dX9_init_117 : decode cX9_init 117 = .ok (.getfield 7, 3) := by decide +kernel
theorem dX9_init_120 : decode cX9_init 120 = .ok (.iconst 1, 1) := by decide +kernel
theorem dX9_init_121 : decode cX9_init 121 = .ok (.iconst 1, 1) := by decide +kernel
theorem dX9_init_122 : decode cX9_init 122 = .ok (.iastore, 1) := by decide +kernel
theorem dX9_init_123 : decode cX9_init 123 = .ok (.aload_n 0, 1) := by decide +kernel
theorem dX9_init_124 : decode cX9_init 124 = .ok (.getfield 7, 3) := by decide +kernel
theorem dX9_init_127 : decode cX9_init 127 = .ok (.iconst 2, 1) := by decide +kernel
theorem dX9_init_128 : decode cX9_init 128 = .ok (.bipush (-9), 2) := by decide +kernel
theorem dX9_init_130 : decode cX9_init 130 = .ok (.iastore, 1) := by decide +kernel
theorem dX9_init_131 : decode cX9_init 131 = .ok (.return_, 1) := by decide +kernel
theorem dX9_in_0 : decode cX9_in 0 = .ok (.iload_n 0, 1) := by decide +kernel
theorem dX9_in_1 : decode cX9_in 1 = .ok (.iload_n 1, 1) := by decide +kernel
theorem dX9_in_2 : decode cX9_in 2 = .ok (.if_icmp .lt 12, 3) := by decide +kernel
theorem dX9_in_5 : decode cX9_in 5 = .ok (.iload_n 0, 1) := by decide +kernel
theorem dX9_in_6 : decode cX9_in 6 = .ok (.iload_n 2, 1) := by decide +kernel
theorem dX9_in_7 : decode cX9_in 7 = .ok (.if_icmp .gt 7, 3) := by decide +kernel
theorem dX9_in_10 : decode cX9_in 10 = .ok (.iconst 1, 1) := by decide +kernel
theorem dX9_in_11 : decode cX9_in 11 = .ok (.goto 4, 3) := by decide +kernel
theorem dX9_in_14 : decode cX9_in 14 = .ok (.iconst 0, 1) := by decide +kernel
theorem dX9_in_15 : decode cX9_in 15 = .ok (.ireturn, 1) := by decide +kernel
set_option maxRecDepth 20000 in
theorem ggX9_type_X9_in : GoodIn wsX9_type wsX9_in := goodIn_r _ [7] (by decide +kernel) (by decide +kernel)
set_option maxRecDepth 20000 in
theorem gX9_type_X9_in : GoodIn wsX9_type (va_wsS RX9 55 yX9_in wsX9_in) := goodIn_app (goodIn_of _ (by decide +kernel)) ggX9_type_X9_in
theorem dX9_type_0 : decode cX9_type 0 = .ok (.aload_n 0, 1) := by decide +kernel
theorem dX9_type_1 : decode cX9_type 1 = .ok (.iconst 0, 1) := by decide +kernel
theorem dX9_type_2 : decode cX9_type 2 = .ok (.putfield 51, 3) := by decide +kernel
theorem dX9_type_5 : decode cX9_type 5 = .ok (.iload_n 1, 1) := by decide +kernel
theorem dX9_type_6 : decode cX9_type 6 = .ok (.iconst 0, 1) := by decide +kernel
theorem dX9_type_7 : decode cX9_type 7 = .ok (.sipush 255, 3) := by decide +kernel
theorem dX9_type_10 : decode cX9_type 10 = .ok (.invokestatic 55, 3) := by decide +kernel
theorem dX9_type_13 : decode cX9_type 13 = .ok (.ifCond .ne 5, 3) := by decide +kernel
theorem dX9_type_16 : decode cX9_type 16 = .ok (.iconst (-1), 1) := by decide +kernel
theorem dX9_type_17 : decode cX9_type 17 = .ok (.ireturn, 1) := by decide +kernel
theorem dX9_type_18 : decode cX9_type 18 = .ok (.aload_n 0, 1) := by decide +kernel
theorem dX9_type_19 : decode cX9_type 19 = .ok (.getfield 59, 3) := by decide +kernel
theorem dX9_type_22 : decode cX9_type 22 = .ok (.bipush 120, 2) := by decide +kernel
theorem dX9_type_24 : decode cX9_type 24 = .ok (.if_icmp .ne 6, 3) := by decide +kernel
theorem dX9_type_27 : decode cX9_type 27 = .ok (.bipush (-3), 2) := by decide +kernel
theorem dX9_type_29 : decode cX9_type 29 = .ok (.ireturn, 1) := by decide +kernel
theorem dX9_type_30 : decode cX9_type 30 = .ok (.aload_n 0, 1) := by decide +kernel
theorem dX9_type_31 : decode cX9_type 31 = .ok (.getfield 29, 3) := by decide +kernel
theorem dX9_type_34 : decode cX9_type 34 = .ok (.aload_n 0, 1) := by decide +kernel
theorem dX9_type_35 : decode cX9_type 35 = .ok (.getfield 59, 3) := by decide +kernel
theorem dX9_type_38 : decode cX9_type 38 = .ok (.iload_n 1, 1) := by decide +kernel
theorem dX9_type_39 : decode cX9_type 39 = .ok (.i2b, 1) := by decide +kernel
theorem dX9_type_40 : decode cX9_type 40 = .ok (.bastore, 1) := by decide +kernel
theorem dX9_type_41 : decode cX9_type 41 = .ok (.aload_n 0, 1) := by decide +kernel
theorem dX9_type_42 : decode cX9_type 42 = .ok (.dup, 1) := by decide +kernel
theorem dX9_type_43 : decode cX9_type 43 = .ok (.getfield 59, 3) := by decide +kernel
theorem dX9_type_46 : decode cX9_type 46 = .ok (.iconst 1, 1) := by decide +kernel
theorem dX9_type_47 : decode cX9_type 47 = .ok (.iadd, 1) := by decide +kernel
theorem dX9_type_48 : decode cX9_type 48 = .ok (.putfield 59, 3) := by decide +kernel
theorem dX9_type_51 : decode cX9_type 51 = .ok (.aload_n 0, 1) := by decide +kernel
theorem dX9_type_52 : decode cX9_type 52 = .ok (.getfield 59, 3) := by decide +kernel
theorem dX9_type_55 : decode cX9_type 55 = .ok (.ireturn, 1) := by decide +kernel
theorem dX9_clear_0 : decode cX9_clear 0 = .ok (.aload_n 0, 1) := by decide +kernel
theorem dX9_clear_1 : decode cX9_clear 1 = .ok (.iconst 0, 1) := by decide +kernel
theorem dX9_clear_2 : decode cX9_clear 2 = .ok (.putfield 51, 3) := by decide +kernel
theorem dX9_clear_5 : decode cX9_clear 5 = .ok (.aload_n 0, 1) := by decide +kernel
theorem dX9_clear_6 : decode cX9_clear 6 = .ok (.getfield 59, 3) := by decide +kernel
theorem dX9_clear_9 : decode cX9_clear 9 = .ok (.istore_n 1, 1) := by decide +kernel
theorem dX9_clear_10 : decode cX9_clear 10 = .ok (.aload_n 0, 1) := by decide +kernel
theorem dX9_clear_11 : decode cX9_clear 11 = .ok (.iconst 0, 1) := by decide +kernel
theorem dX9_clear_12 : decode cX9_clear 12 = .ok (.putfield 59, 3) := by decide +kernel
theorem dX9_clear_15 : decode cX9_clear 15 = .ok (.iload_n 1, 1) := by decide +kernel
theorem dX9_clear_16 : decode cX9_clear 16 = .ok (.ireturn, 1) := by decide +kernel
theorem dX9_at_0 : decode cX9_at 0 = .ok (.iload_n 1, 1) := by decide +kernel
theorem dX9_at_1 : decode cX9_at 1 = .ok (.aload_n 0, 1) := by decide +kernel
theorem dX9_at_2 : decode cX9_at 2 = .ok (.getfield 59, 3) := by decide +kernel
theorem dX9_at_5 : decode cX9_at 5 = .ok (.if_icmp .ge 16, 3) := by decide +kernel
theorem dX9_at_8 : decode cX9_at 8 = .ok (.aload_n 0, 1) := by decide +kernel
theorem dX9_at_9 : decode cX9_at 9 = .ok (.getfield 29, 3) := by decide +kernel
theorem dX9_at_12 : decode cX9_at 12 = .ok (.iload_n 1, 1) := by decide +kernel
theorem dX9_at_13 : decode cX9_at 13 = .ok (.baload, 1) := by decide +kernel
theorem dX9_at_14 : decode cX9_at 14 = .ok (.sipush 255, 3) := by decide +kernel
theorem dX9_at_17 : decode cX9_at 17 = .ok (.iand, 1) := by decide +kernel
theorem dX9_at_18 : decode cX9_at 18 = .ok (.goto 4, 3) := by decide +kernel
theorem dX9_at_21 : decode cX9_at 21 = .ok (.iconst (-1), 1) := by decide +kernel
theorem dX9_at_22 : decode cX9_at 22 = .ok (.ireturn, 1) := by decide +kernel
set_option maxRecDepth 20000 in
theorem ggX9_wordOf_X9_at : GoodIn wsX9_wordOf wsX9_at := goodIn_r _ [7, 8, 9, 10, 11, 12, 13, 14, 15, 16, 17, 18, 19, 20, 21, 22, 23, 24, 25, 26, 27, 28, 29, 30, 31, 32, 33] (by decide +kernel) (by decide +kernel)
set_option maxRecDepth 20000 in
theorem gX9_wordOf_X9_at : GoodIn wsX9_wordOf (wsV RX9 68 RX9 yX9_at wsX9_at) := goodIn_app (goodIn_of _ (by decide +kernel)) ggX9_wordOf_X9_at
theorem dX9_wordOf_0 : decode cX9_wordOf 0 = .ok (.aload_n 0, 1) := by decide +kernel
theorem dX9_wordOf_1 : decode cX9_wordOf 1 = .ok (.getfield 62, 3) := by decide +kernel
theorem dX9_wordOf_4 : decode cX9_wordOf 4 = .ok (.aload_n 0, 1) := by decide +kernel
theorem dX9_wordOf_5 : decode cX9_wordOf 5 = .ok (.getfield 65, 3) := by decide +kernel
theorem dX9_wordOf_8 : decode cX9_wordOf 8 = .ok (.isub, 1) := by decide +kernel
theorem dX9_wordOf_9 : decode cX9_wordOf 9 = .ok (.istore_n 1, 1) := by decide +kernel
theorem dX9_wordOf_10 : decode cX9_wordOf 10 = .ok (.aload_n 0, 1) := by decide +kernel
theorem dX9_wordOf_11 : decode cX9_wordOf 11 = .ok (.aload_n 0, 1) := by decide +kernel
theorem dX9_wordOf_12 : decode cX9_wordOf 12 = .ok (.getfield 65, 3) := by decide +kernel
theorem dX9_wordOf_15 : decode cX9_wordOf 15 = .ok (.invokevirtual 68, 3) := by decide +kernel
theorem dX9_wordOf_18 : decode cX9_wordOf 18 = .ok (.istore_n 2, 1) := by decide +kernel
theorem dX9_wordOf_19 : decode cX9_wordOf 19 = .ok (.aload_n 0, 1) := by decide +kernel
theorem dX9_wordOf_20 : decode cX9_wordOf 20 = .ok (.aload_n 0, 1) := by decide +kernel
theorem dX9_wordOf_21 : decode cX9_wordOf 21 = .ok (.getfield 65, 3) := by decide +kernel
theorem dX9_wordOf_24 : decode cX9_wordOf 24 = .ok (.iconst 1, 1) := by decide +kernel
theorem dX9_wordOf_25 : decode cX9_wordOf 25 = .ok (.iadd, 1) := by decide +kernel
theorem dX9_wordOf_26 : decode cX9_wordOf 26 = .ok (.invokevirtual 68, 3) := by decide +kernel
theorem dX9_wordOf_29 : decode cX9_wordOf 29 = .ok (.istore_n 3, 1) := by decide +kernel
theorem dX9_wordOf_30 : decode cX9_wordOf 30 = .ok (.aload_n 0, 1) := by decide +kernel
theorem dX9_wordOf_31 : decode cX9_wordOf 31 = .ok (.aload_n 0, 1) := by decide +kernel
theorem dX9_wordOf_32 : decode cX9_wordOf 32 = .ok (.getfield 65, 3) := by decide +kernel
theorem dX9_wordOf_35 : decode cX9_wordOf 35 = .ok (.iconst 2, 1) := by decide +kernel
theorem dX9_wordOf_36 : decode cX9_wordOf 36 = .ok (.iadd, 1) := by decide +kernel
theorem dX9_wordOf_37 : decode cX9_wordOf 37 = .ok (.invokevirtual 68, 3) := by decide +kernel
theorem dX9_wordOf_40 : decode cX9_wordOf 40 = .ok (.istore 4, 2) := by decide +kernel
theorem dX9_wordOf_42 : decode cX9_wordOf 42 = .ok (.iload_n 1, 1) := by decide +kernel
theorem dX9_wordOf_43 : decode cX9_wordOf 43 = .ok (.iconst 3, 1) := by decide +kernel
theorem dX9_wordOf_44 : decode cX9_wordOf 44 = .ok (.if_icmp .ne 24, 3) := by decide +kernel
theorem dX9_wordOf_47 : decode cX9_wordOf 47 = .ok (.iload_n 2, 1) := by decide +kernel
theorem dX9_wordOf_48 : decode cX9_wordOf 48 = .ok (.bipush 114, 2) := by decide +kernel
theorem dX9_wordOf_50 : decode cX9_wordOf 50 = .ok (.if_icmp .ne 18, 3) := by decide +kernel
theorem dX9_wordOf_53 : decode cX9_wordOf 53 = .ok (.iload_n 3, 1) := by decide +kernel
theorem dX9_wordOf_54 : decode cX9_wordOf 54 = .ok (.bipush 111, 2) := by decide +kernel
theorem dX9_wordOf_56 : decode cX9_wordOf 56 = .ok (.if_icmp .ne 12, 3) := by decide +kernel
theorem dX9_wordOf_59 : decode cX9_wordOf 59 = .ok (.iload 4, 2) := by decide +kernel
theorem dX9_wordOf_61 : decode cX9_wordOf 61 = .ok (.bipush 119, 2) := by decide +kernel
theorem dX9_wordOf_63 : decode cX9_wordOf 63 = .ok (.if_icmp .ne 5, 3) := by decide +kernel
theorem dX9_wordOf_66 : decode cX9_wordOf 66 = .ok (.iconst 1, 1) := by decide +kernel
theorem dX9_wordOf_67 : decode cX9_wordOf 67 = .ok (.ireturn, 1) := by decide +kernel
theorem dX9_wordOf_68 : decode cX9_wordOf 68 = .ok (.iload_n 1, 1) := by decide +kernel
theorem dX9_wordOf_69 : decode cX9_wordOf 69 = .ok (.iconst 3, 1) := by decide +kernel
theorem dX9_wordOf_70 : decode cX9_wordOf 70 = .ok (.if_icmp .ne 24, 3) := by decide +kernel
theorem dX9_wordOf_73 : decode cX9_wordOf 73 = .ok (.iload_n 2, 1) := by decide +kernel
theorem dX9_wordOf_74 : decode cX9_wordOf 74 = .ok (.bipush 102, 2) := by decide +kernel
theorem dX9_wordOf_76 : decode cX9_wordOf 76 = .ok (.if_icmp .ne 18, 3) := by decide +kernel
theorem dX9_wordOf_79 : decode cX9_wordOf 79 = .ok (.iload_n 3, 1) := by decide +kernel
theorem dX9_wordOf_80 : decode cX9_wordOf 80 = .ok (.bipush 105, 2) := by decide +kernel
theorem dX9_wordOf_82 : decode cX9_wordOf 82 = .ok (.if_icmp .ne 12, 3) := by decide +kernel
theorem dX9_wordOf_85 : decode cX9_wordOf 85 = .ok (.iload 4, 2) := by decide +kernel
theorem dX9_wordOf_87 : decode cX9_wordOf 87 = .ok (.bipush 120, 2) := by decide +kernel
theorem dX9_wordOf_89 : decode cX9_wordOf 89 = .ok (.if_icmp .ne 5, 3) := by decide +kernel
theorem dX9_wordOf_92 : decode cX9_wordOf 92 = .ok (.iconst 2, 1) := by decide +kernel
theorem dX9_wordOf_93 : decode cX9_wordOf 93 = .ok (.ireturn, 1) := by decide +kernel
theorem dX9_wordOf_94 : decode cX9_wordOf 94 = .ok (.iload_n 1, 1) := by decide +kernel
theorem dX9_wordOf_95 : decode cX9_wordOf 95 = .ok (.bipush 6, 2) := by decide +kernel
theorem dX9_wordOf_97 : decode cX9_wordOf 97 = .ok (.if_icmp .ne 71, 3) := by decide +kernel
theorem dX9_wordOf_100 : decode cX9_wordOf 100 = .ok (.iload_n 2, 1) := by decide +kernel
theorem dX9_wordOf_101 : decode cX9_wordOf 101 = .ok (.bipush 98, 2) := by decide +kernel
theorem dX9_wordOf_103 : decode cX9_wordOf 103 = .ok (.if_icmp .ne 65, 3) := by decide +kernel
theorem dX9_wordOf_106 : decode cX9_wordOf 106 = .ok (.iload_n 3, 1) := by decide +kernel
theorem dX9_wordOf_107 : decode cX9_wordOf 107 = .ok (.bipush 101, 2) := by decide +kernel
theorem dX9_wordOf_109 : decode cX9_wordOf 109 = .ok (.if_icmp .ne 59, 3) := by decide +kernel
theorem dX9_wordOf_112 : decode cX9_wordOf 112 = .ok (.iload 4, 2) := by decide +kernel
theorem dX9_wordOf_114 : decode cX9_wordOf 114 = .ok (.bipush 121, 2) := by decide +kernel
theorem dX9_wordOf_116 : decode cX9_wordOf 116 = .ok (.if_icmp .ne 52, 3) := by decide +kernel
theorem dX9_wordOf_119 : decode cX9_wordOf 119 = .ok (.aload_n 0, 1) := by decide +kernel
theorem dX9_wordOf_120 : decode cX9_wordOf 120 = .ok (.aload_n 0, 1) := by decide +kernel
theorem dX9_wordOf_121 : decode cX9_wordOf 121 = .ok (.getfield 65, 3) := by decide +kernel
theorem dX9_wordOf_124 : decode cX9_wordOf 124 = .ok (.iconst 3, 1) := by decide +kernel
theorem dX9_wordOf_125 : decode cX9_wordOf 125 = .ok (.iadd, 1) := by decide +kernel
theorem dX9_wordOf_126 : decode cX9_wordOf 126 = .ok (.invokevirtual 68, 3) := by decide +kernel
theorem dX9_wordOf_129 : decode cX9_wordOf 129 = .ok (.bipush 111, 2) := by decide +kernel
theorem dX9_wordOf_131 : decode cX9_wordOf 131 = .ok (.if_icmp .ne 37, 3) := by decide +kernel
theorem dX9_wordOf_134 : decode cX9_wordOf 134 = .ok (.aload_n 0, 1) := by decide +kernel
theorem dX9_wordOf_135 : decode cX9_wordOf 135 = .ok (.aload_n 0, 1) := by decide +kernel
theorem dX9_wordOf_136 : decode cX9_wordOf 136 = .ok (.getfield 65, 3) := by decide +kernel
theorem dX9_wordOf_139 : decode cX9_wordOf 139 = .ok (.iconst 4, 1) := by decide +kernel
theorem dX9_wordOf_140 : decode cX9_wordOf 140 = .ok (.iadd, 1) := by decide +kernel
theorem dX9_wordOf_141 : decode cX9_wordOf 141 = .ok (.invokevirtual 68, 3) := by decide +kernel
theorem dX9_wordOf_144 : decode cX9_wordOf 144 = .ok (.bipush 110, 2) := by decide +kernel
theorem dX9_wordOf_146 : decode cX9_wordOf 146 = .ok (.if_icmp .ne 22, 3) := by decide +kernel
theorem dX9_wordOf_149 : decode cX9_wordOf 149 = .ok (.aload_n 0, 1) := by decide +kernel
theorem dX9_wordOf_150 : decode cX9_wordOf 150 = .ok (.aload_n 0, 1) := by decide +kernel
theorem dX9_wordOf_151 : decode cX9_wordOf 151 = .ok (.getfield 65, 3) := by decide +kernel
theorem dX9_wordOf_154 : decode cX9_wordOf 154 = .ok (.iconst 5, 1) := by decide +kernel
theorem dX9_wordOf_155 : decode cX9_wordOf 155 = .ok (.iadd, 1) := by decide +kernel
theorem dX9_wordOf_156 : decode cX9_wordOf 156 = .ok (.invokevirtual 68, 3) := by decide +kernel
theorem dX9_wordOf_159 : decode cX9_wordOf 159 = .ok (.bipush 100, 2) := by decide +kernel
theorem dX9_wordOf_161 : decode cX9_wordOf 161 = .ok (.if_icmp .ne 7, 3) := by decide +kernel
theorem dX9_wordOf_164 : decode cX9_wordOf 164 = .ok (.iconst 1, 1) := by decide +kernel
theorem dX9_wordOf_165 : decode cX9_wordOf 165 = .ok (.goto 4, 3) := by decide +kernel
theorem dX9_wordOf_168 : decode cX9_wordOf 168 = .ok (.iconst 0, 1) := by decide +kernel
theorem dX9_wordOf_169 : decode cX9_wordOf 169 = .ok (.istore 5, 2) := by decide +kernel
theorem dX9_wordOf_171 : decode cX9_wordOf 171 = .ok (.iload 5, 2) := by decide +kernel
theorem dX9_wordOf_173 : decode cX9_wordOf 173 = .ok (.ifCond .eq 7, 3) := by decide +kernel
theorem dX9_wordOf_176 : decode cX9_wordOf 176 = .ok (.iconst 3, 1) := by decide +kernel
theorem dX9_wordOf_177 : decode cX9_wordOf 177 = .ok (.goto 5, 3) := by decide +kernel
theorem dX9_wordOf_180 : decode cX9_wordOf 180 = .ok (.bipush 6, 2) := by decide +kernel
theorem dX9_wordOf_182 : decode cX9_wordOf 182 = .ok (.ireturn, 1) := by decide +kernel
set_option maxRecDepth 20000 in
theorem ggX9_steps_X9_at : GoodIn wsX9_steps wsX9_at := goodIn_r _ [8, 9, 10, 18, 19, 20, 21, 22, 23, 24, 25, 26, 27, 28, 29, 30, 31, 32, 33, 34, 35, 36, 37, 38, 39, 40, 41] (by decide +kernel) (by decide +kernel)
set_option maxRecDepth 20000 in
theorem gX9_steps_X9_at : GoodIn wsX9_steps (wsV RX9 68 RX9 yX9_at wsX9_at) := goodIn_app (goodIn_of _ (by decide +kernel)) ggX9_steps_X9_at
set_option maxRecDepth 20000 in
theorem ggX9_steps_X9_in : GoodIn wsX9_steps wsX9_in := goodIn_r _ [13] (by decide +kernel) (by decide +kernel)
set_option maxRecDepth 20000 in
theorem gX9_steps_X9_in : GoodIn wsX9_steps (va_wsS RX9 55 yX9_in wsX9_in) := goodIn_app (goodIn_of _ (by decide +kernel)) ggX9_steps_X9_in
set_option maxRecDepth 20000 in
theorem ggX9_steps_X9_wordOf : GoodIn wsX9_steps wsX9_wordOf := goodIn_r _ [17, 1, 2, 4, 5, 6, 7, 8, 9, 10, 18, 19, 20, 21, 22, 23, 24, 25, 26, 27, 28, 29, 30, 31, 32, 33, 34, 35, 36, 37, 38, 39, 40, 41] (by decide +kernel) (by decide +kernel)
set_option maxRecDepth 20000 in
theorem gX9_steps_X9_wordOf : GoodIn wsX9_steps (wsV RX9 75 RX9 yX9_wordOf wsX9_wordOf) := goodIn_app (goodIn_of _ (by decide +kernel)) ggX9_steps_X9_wordOf
theorem dX9_steps_0 : decode cX9_steps 0 = .ok (.aload_n 0, 1) := by decide +kernel
theorem dX9_steps_1 : decode cX9_steps 1 = .ok (.aload_n 0, 1) := by decide +kernel
theorem dX9_steps_2 : decode cX9_steps 2 = .ok (.getfield 62, 3) := by decide +kernel
theorem dX9_steps_5 : decode cX9_steps 5 = .ok (.putfield 65, 3) := by decide +kernel
theorem dX9_steps_8 : decode cX9_steps 8 = .ok (.aload_n 0, 1) := by decide +kernel
theorem dX9_steps_9 : decode cX9_steps 9 = .ok (.aload_n 0, 1) := by decide +kernel
theorem dX9_steps_10 : decode cX9_steps 10 = .ok (.getfield 65, 3) := by decide +kernel
theorem dX9_steps_13 : decode cX9_steps 13 = .ok (.invokevirtual 68, 3) := by decide +kernel
theorem dX9_steps_16 : decode cX9_steps 16 = .ok (.bipush 32, 2) := by decide +kernel
theorem dX9_steps_18 : decode cX9_steps 18 = .ok (.if_icmp .ne 16, 3) := by decide +kernel
theorem dX9_steps_21 : decode cX9_steps 21 = .ok (.aload_n 0, 1) := by decide +kernel
theorem dX9_steps_22 : decode cX9_steps 22 = .ok (.dup, 1) := by decide +kernel
theorem dX9_steps_23 : decode cX9_steps 23 = .ok (.getfield 65, 3) := by decide +kernel
theorem dX9_steps_26 : decode cX9_steps 26 = .ok (.iconst 1, 1) := by decide +kernel
theorem dX9_steps_27 : decode cX9_steps 27 = .ok (.iadd, 1) := by decide +kernel
theorem dX9_steps_28 : decode cX9_steps 28 = .ok (.putfield 65, 3) := by decide +kernel
theorem dX9_steps_31 : decode cX9_steps 31 = .ok (.goto (-23), 3) := by decide +kernel
theorem dX9_steps_34 : decode cX9_steps 34 = .ok (.aload_n 0, 1) := by decide +kernel
theorem dX9_steps_35 : decode cX9_steps 35 = .ok (.aload_n 0, 1) := by decide +kernel
theorem dX9_steps_36 : decode cX9_steps 36 = .ok (.getfield 65, 3) := by decide +kernel
theorem dX9_steps_39 : decode cX9_steps 39 = .ok (.putfield 62, 3) := by decide +kernel
theorem dX9_steps_42 : decode cX9_steps 42 = .ok (.aload_n 0, 1) := by decide +kernel
theorem dX9_steps_43 : decode cX9_steps 43 = .ok (.aload_n 0, 1) := by decide +kernel
theorem dX9_steps_44 : decode cX9_steps 44 = .ok (.getfield 62, 3) := by decide +kernel
theorem dX9_steps_47 : decode cX9_steps 47 = .ok (.invokevirtual 68, 3) := by decide +kernel
theorem dX9_steps_50 : decode cX9_steps 50 = .ok (.ifCond .ge 11, 3) := by decide +kernel
theorem dX9_steps_53 : decode cX9_steps 53 = .ok (.aload_n 0, 1) := by decide +kernel
theorem dX9_steps_54 : decode cX9_steps 54 = .ok (.iconst 0, 1) := by decide +kernel
theorem dX9_steps_55 : decode cX9_steps 55 = .ok (.putfield 72, 3) := by decide +kernel
theorem dX9_steps_58 : decode cX9_steps 58 = .ok (.goto 153, 3) := by decide +kernel
theorem dX9_steps_61 : decode cX9_steps 61 = .ok (.aload_n 0, 1) := by decide +kernel
theorem dX9_steps_62 : decode cX9_steps 62 = .ok (.aload_n 0, 1) := by decide +kernel
theorem dX9_steps_63 : decode cX9_steps 63 = .ok (.getfield 62, 3) := by decide +kernel
theorem dX9_steps_66 : decode cX9_steps 66 = .ok (.invokevirtual 68, 3) := by decide +kernel
theorem dX9_steps_69 : decode cX9_steps 69 = .ok (.bipush 48, 2) := by decide +kernel
theorem dX9_steps_71 : decode cX9_steps 71 = .ok (.bipush 57, 2) := by decide +kernel
theorem dX9_steps_73 : decode cX9_steps 73 = .ok (.invokestatic 55, 3) := by decide +kernel
theorem dX9_steps_76 : decode cX9_steps 76 = .ok (.ifCond .eq 42, 3) := by decide +kernel
theorem dX9_steps_79 : decode cX9_steps 79 = .ok (.aload_n 0, 1) := by decide +kernel
theorem dX9_steps_80 : decode cX9_steps 80 = .ok (.aload_n 0, 1) := by decide +kernel
theorem dX9_steps_81 : decode cX9_steps 81 = .ok (.getfield 62, 3) := by decide +kernel
theorem dX9_steps_84 : decode cX9_steps 84 = .ok (.invokevirtual 68, 3) := by decide +kernel
theorem dX9_steps_87 : decode cX9_steps 87 = .ok (.bipush 48, 2) := by decide +kernel
theorem dX9_steps_89 : decode cX9_steps 89 = .ok (.bipush 57, 2) := by decide +kernel
theorem dX9_steps_91 : decode cX9_steps 91 = .ok (.invokestatic 55, 3) := by decide +kernel
theorem dX9_steps_94 : decode cX9_steps 94 = .ok (.ifCond .eq 16, 3) := by decide +kernel
theorem dX9_steps_97 : decode cX9_steps 97 = .ok (.aload_n 0, 1) := by decide +kernel
theorem dX9_steps_98 : decode cX9_steps 98 = .ok (.dup, 1) := by decide +kernel
theorem dX9_steps_99 : decode cX9_steps 99 = .ok (.getfield 62, 3) := by decide +kernel
theorem dX9_steps_102 : decode cX9_steps 102 = .ok (.iconst 1, 1) := by decide +kernel
theorem dX9_steps_103 : decode cX9_steps 103 = .ok (.iadd, 1) := by decide +kernel
theorem dX9_steps_104 : decode cX9_steps 104 = .ok (.putfield 62, 3) := by decide +kernel
theorem dX9_steps_107 : decode cX9_steps 107 = .ok (.goto (-28), 3) := by decide +kernel
theorem dX9_steps_110 : decode cX9_steps 110 = .ok (.aload_n 0, 1) := by decide +kernel
theorem dX9_steps_111 : decode cX9_steps 111 = .ok (.iconst 4, 1) := by decide +kernel
theorem dX9_steps_112 : decode cX9_steps 112 = .ok (.putfield 72, 3) := by decide +kernel
theorem dX9_steps_115 : decode cX9_steps 115 = .ok (.goto 96, 3) := by decide +kernel
theorem dX9_steps_118 : decode cX9_steps 118 = .ok (.aload_n 0, 1) := by decide +kernel
theorem dX9_steps_119 : decode cX9_steps 119 = .ok (.aload_n 0, 1) := by decide +kernel
theorem dX9_steps_120 : decode cX9_steps 120 = .ok (.getfield 62, 3) := by decide +kernel
theorem dX9_steps_123 : decode cX9_steps 123 = .ok (.invokevirtual 68, 3) := by decide +kernel
theorem dX9_steps_126 : decode cX9_steps 126 = .ok (.bipush 97, 2) := by decide +kernel
theorem dX9_steps_128 : decode cX9_steps 128 = .ok (.bipush 122, 2) := by decide +kernel
theorem dX9_steps_130 : decode cX9_steps 130 = .ok (.invokestatic 55, 3) := by decide +kernel
theorem dX9_steps_133 : decode cX9_steps 133 = .ok (.ifCond .eq 45, 3) := by decide +kernel
theorem dX9_steps_136 : decode cX9_steps 136 = .ok (.aload_n 0, 1) := by decide +kernel
theorem dX9_steps_137 : decode cX9_steps 137 = .ok (.aload_n 0, 1) := by decide +kernel
theorem dX9_steps_138 : decode cX9_steps 138 = .ok (.getfield 62, 3) := by decide +kernel
theorem dX9_steps_141 : decode cX9_steps 141 = .ok (.invokevirtual 68, 3) := by decide +kernel
theorem dX9_steps_144 : decode cX9_steps 144 = .ok (.bipush 97, 2) := by decide +kernel
theorem dX9_steps_146 : decode cX9_steps 146 = .ok (.bipush 122, 2) := by decide +kernel
theorem dX9_steps_148 : decode cX9_steps 148 = .ok (.invokestatic 55, 3) := by decide +kernel
theorem dX9_steps_151 : decode cX9_steps 151 = .ok (.ifCond .eq 16, 3) := by decide +kernel
theorem dX9_steps_154 : decode cX9_steps 154 = .ok (.aload_n 0, 1) := by decide +kernel
theorem dX9_steps_155 : decode cX9_steps 155 = .ok (.dup, 1) := by decide +kernel
theorem dX9_steps_156 : decode cX9_steps 156 = .ok (.getfield 62, 3) := by decide +kernel
theorem dX9_steps_159 : decode cX9_steps 159 = .ok (.iconst 1, 1) := by decide +kernel
theorem dX9_steps_160 : decode cX9_steps 160 = .ok (.iadd, 1) := by decide +kernel
theorem dX9_steps_161 : decode cX9_steps 161 = .ok (.putfield 62, 3) := by decide +kernel
theorem dX9_steps_164 : decode cX9_steps 164 = .ok (.goto (-28), 3) := by decide +kernel
theorem dX9_steps_167 : decode cX9_steps 167 = .ok (.aload_n 0, 1) := by decide +kernel
theorem dX9_steps_168 : decode cX9_steps 168 = .ok (.aload_n 0, 1) := by decide +kernel
theorem dX9_steps_169 : decode cX9_steps 169 = .ok (.invokevirtual 75, 3) := by decide +kernel
theorem dX9_steps_172 : decode cX9_steps 172 = .ok (.putfield 72, 3) := by decide +kernel
theorem dX9_steps_175 : decode cX9_steps 175 = .ok (.goto 36, 3) := by decide +kernel
theorem dX9_steps_178 : decode cX9_steps 178 = .ok (.aload_n 0, 1) := by decide +kernel
theorem dX9_steps_179 : decode cX9_steps 179 = .ok (.aload_n 0, 1) := by decide +kernel
theorem dX9_steps_180 : decode cX9_steps 180 = .ok (.aload_n 0, 1) := by decide +kernel
theorem dX9_steps_181 : decode cX9_steps 181 = .ok (.getfield 62, 3) := by decide +kernel
theorem dX9_steps_184 : decode cX9_steps 184 = .ok (.invokevirtual 68, 3) := by decide +kernel
theorem dX9_steps_187 : decode cX9_steps 187 = .ok (.bipush 59, 2) := by decide +kernel
theorem dX9_steps_189 : decode cX9_steps 189 = .ok (.if_icmp .ne 7, 3) := by decide +kernel
theorem dX9_steps_192 : decode cX9_steps 192 = .ok (.iconst 5, 1) := by decide +kernel
theorem dX9_steps_193 : decode cX9_steps 193 = .ok (.goto 5, 3) := by decide +kernel
theorem dX9_steps_196 : decode cX9_steps 196 = .ok (.bipush 6, 2) := by decide +kernel
theorem dX9_steps_198 : decode cX9_steps 198 = .ok (.putfield 72, 3) := by decide +kernel
theorem dX9_steps_201 : decode cX9_steps 201 = .ok (.aload_n 0, 1) := by decide +kernel
theorem dX9_steps_202 : decode cX9_steps 202 = .ok (.dup, 1) := by decide +kernel
theorem dX9_steps_203 : decode cX9_steps 203 = .ok (.getfield 62, 3) := by decide +kernel
theorem dX9_steps_206 : decode cX9_steps 206 = .ok (.iconst 1, 1) := by decide +kernel
theorem dX9_steps_207 : decode cX9_steps 207 = .ok (.iadd, 1) := by decide +kernel
theorem dX9_steps_208 : decode cX9_steps 208 = .ok (.putfield 62, 3) := by decide +kernel
theorem dX9_steps_211 : decode cX9_steps 211 = .ok (.return_, 1) := by decide +kernel
set_option maxRecDepth 20000 in
theorem ggX9_takes_X9_steps : GoodIn wsX9_takes wsX9_steps := goodIn_r _ [7, 8, 2, 9, 10, 11, 12, 6, 13, 14, 15, 16, 17, 18, 19, 20, 21, 22, 23, 24, 25, 26, 27, 28, 29, 30, 31, 32, 33, 34, 35, 36, 37, 38, 39, 40, 41, 42, 43, 44, 45, 46] (by decide +kernel) (by decide +kernel)
set_option maxRecDepth 20000 in
theorem gX9_takes_X9_steps : GoodIn wsX9_takes (wsV RX9 82 RX9 yX9_steps wsX9_steps) := goodIn_app (goodIn_of _ (by decide +kernel)) ggX9_takes_X9_steps
theorem dX9_takes_0 : decode cX9_takes 0 = .ok (.aload_n 0, 1) := by decide +kernel
theorem dX9_takes_1 : decode cX9_takes 1 = .ok (.getfield 79, 3) := by decide +kernel
theorem dX9_takes_4 : decode cX9_takes 4 = .ok (.bipush (-9), 2) := by decide +kernel
theorem dX9_takes_6 : decode cX9_takes 6 = .ok (.if_icmp .ne 22, 3) := by decide +kernel
theorem dX9_takes_9 : decode cX9_takes 9 = .ok (.iload_n 1, 1) := by decide +kernel
theorem dX9_takes_10 : decode cX9_takes 10 = .ok (.ifCond .eq 10, 3) := by decide +kernel
theorem dX9_takes_13 : decode cX9_takes 13 = .ok (.aload_n 0, 1) := by decide +kernel
theorem dX9_takes_14 : decode cX9_takes 14 = .ok (.invokevirtual 82, 3) := by decide +kernel
theorem dX9_takes_17 : decode cX9_takes 17 = .ok (.goto 11, 3) := by decide +kernel
theorem dX9_takes_20 : decode cX9_takes 20 = .ok (.aload_n 0, 1) := by decide +kernel
theorem dX9_takes_21 : decode cX9_takes 21 = .ok (.aload_n 0, 1) := by decide +kernel
theorem dX9_takes_22 : decode cX9_takes 22 = .ok (.getfield 65, 3) := by decide +kernel
theorem dX9_takes_25 : decode cX9_takes 25 = .ok (.putfield 79, 3) := by decide +kernel
theorem dX9_takes_28 : decode cX9_takes 28 = .ok (.return_, 1) := by decide +kernel
set_option maxRecDepth 20000 in
theorem ggX9_readsRow_X9_takes : GoodIn wsX9_readsRow wsX9_takes := goodIn_r _ [11, 6, 4, 12, 13, 14, 10, 15, 3, 5, 16, 17, 18, 19, 20, 21, 22, 23, 24, 25, 26, 27, 28, 29, 30, 31, 32, 33, 34, 35, 36, 37, 38, 39, 40, 41, 42, 43, 44, 45, 46, 47, 48, 49, 50, 51, 52] (by decide +kernel) (by decide +kernel)
set_option maxRecDepth 20000 in
theorem gX9_readsRow_X9_takes : GoodIn wsX9_readsRow (wsV RX9 89 RX9 yX9_takes wsX9_takes) := goodIn_app (goodIn_of _ (by decide +kernel)) ggX9_readsRow_X9_takes
set_option maxRecDepth 20000 in
theorem ggX9_readsRow_X9_in : GoodIn wsX9_readsRow wsX9_in := goodIn_r _ [24] (by decide +kernel) (by decide +kernel)
set_option maxRecDepth 20000 in
theorem gX9_readsRow_X9_in : GoodIn wsX9_readsRow (va_wsS RX9 55 yX9_in wsX9_in) := goodIn_app (goodIn_of _ (by decide +kernel)) ggX9_readsRow_X9_in
set_option maxRecDepth 20000 in
theorem ggX9_readsRow_X9_at : GoodIn wsX9_readsRow wsX9_at := goodIn_r _ [19, 20, 21, 29, 30, 31, 32, 33, 34, 35, 36, 37, 38, 39, 40, 41, 42, 43, 44, 45, 46, 47, 48, 49, 50, 51, 52] (by decide +kernel) (by decide +kernel)
set_option maxRecDepth 20000 in
theorem gX9_readsRow_X9_at : GoodIn wsX9_readsRow (wsV RX9 68 RX9 yX9_at wsX9_at) := goodIn_app (goodIn_of _ (by decide +kernel)) ggX9_readsRow_X9_at
theorem dX9_readsRow_0 : decode cX9_readsRow 0 = .ok (.aload_n 0, 1) := by decide +kernel
theorem dX9_readsRow_1 : decode cX9_readsRow 1 = .ok (.aload_n 0, 1) := by decide +kernel
theorem dX9_readsRow_2 : decode cX9_readsRow 2 = .ok (.getfield 13, 3) := by decide +kernel
theorem dX9_readsRow_5 : decode cX9_readsRow 5 = .ok (.iconst 1, 1) := by decide +kernel
theorem dX9_readsRow_6 : decode cX9_readsRow 6 = .ok (.iaload, 1) := by decide +kernel
theorem dX9_readsRow_7 : decode cX9_readsRow 7 = .ok (.bipush 6, 2) := by decide +kernel
theorem dX9_readsRow_9 : decode cX9_readsRow 9 = .ok (.if_icmp .ge 14, 3) := by decide +kernel
theorem dX9_readsRow_12 : decode cX9_readsRow 12 = .ok (.aload_n 0, 1) := by decide +kernel
theorem dX9_readsRow_13 : decode cX9_readsRow 13 = .ok (.getfield 85, 3) := by decide +kernel
theorem dX9_readsRow_16 : decode cX9_readsRow 16 = .ok (.ifCond .ne 7, 3) := by decide +kernel
theorem dX9_readsRow_19 : decode cX9_readsRow 19 = .ok (.iconst 1, 1) := by decide +kernel
theorem dX9_readsRow_20 : decode cX9_readsRow 20 = .ok (.goto 4, 3) := by decide +kernel
theorem dX9_readsRow_23 : decode cX9_readsRow 23 = .ok (.iconst 0, 1) := by decide +kernel
theorem dX9_readsRow_24 : decode cX9_readsRow 24 = .ok (.invokevirtual 89, 3) := by decide +kernel
theorem dX9_readsRow_27 : decode cX9_readsRow 27 = .ok (.aload_n 0, 1) := by decide +kernel
theorem dX9_readsRow_28 : decode cX9_readsRow 28 = .ok (.getfield 62, 3) := by decide +kernel
theorem dX9_readsRow_31 : decode cX9_readsRow 31 = .ok (.aload_n 0, 1) := by decide +kernel
theorem dX9_readsRow_32 : decode cX9_readsRow 32 = .ok (.getfield 65, 3) := by decide +kernel
theorem dX9_readsRow_35 : decode cX9_readsRow 35 = .ok (.isub, 1) := by decide +kernel
theorem dX9_readsRow_36 : decode cX9_readsRow 36 = .ok (.istore_n 1, 1) := by decide +kernel
theorem dX9_readsRow_37 : decode cX9_readsRow 37 = .ok (.aload_n 0, 1) := by decide +kernel
theorem dX9_readsRow_38 : decode cX9_readsRow 38 = .ok (.getfield 72, 3) := by decide +kernel
theorem dX9_readsRow_41 : decode cX9_readsRow 41 = .ok (.iconst 4, 1) := by decide +kernel
theorem dX9_readsRow_42 : decode cX9_readsRow 42 = .ok (.if_icmp .ne 35, 3) := by decide +kernel
theorem dX9_readsRow_45 : decode cX9_readsRow 45 = .ok (.iload_n 1, 1) := by decide +kernel
theorem dX9_readsRow_46 : decode cX9_readsRow 46 = .ok (.iconst 1, 1) := by decide +kernel
theorem dX9_readsRow_47 : decode cX9_readsRow 47 = .ok (.iconst 4, 1) := by decide +kernel
theorem dX9_readsRow_48 : decode cX9_readsRow 48 = .ok (.invokestatic 55, 3) := by decide +kernel
theorem dX9_readsRow_51 : decode cX9_readsRow 51 = .ok (.ifCond .eq 26, 3) := by decide +kernel
theorem dX9_readsRow_54 : decode cX9_readsRow 54 = .ok (.aload_n 0, 1) := by decide +kernel
theorem dX9_readsRow_55 : decode cX9_readsRow 55 = .ok (.getfield 13, 3) := by decide +kernel
theorem dX9_readsRow_58 : decode cX9_readsRow 58 = .ok (.iconst 1, 1) := by decide +kernel
theorem dX9_readsRow_59 : decode cX9_readsRow 59 = .ok (.iaload, 1) := by decide +kernel
theorem dX9_readsRow_60 : decode cX9_readsRow 60 = .ok (.ifCond .eq 13, 3) := by decide +kernel
theorem dX9_readsRow_63 : decode cX9_readsRow 63 = .ok (.iload_n 1, 1) := by decide +kernel
theorem dX9_readsRow_64 : decode cX9_readsRow 64 = .ok (.aload_n 0, 1) := by decide +kernel
theorem dX9_readsRow_65 : decode cX9_readsRow 65 = .ok (.getfield 13, 3) := by decide +kernel
theorem dX9_readsRow_68 : decode cX9_readsRow 68 = .ok (.iconst 0, 1) := by decide +kernel
theorem dX9_readsRow_69 : decode cX9_readsRow 69 = .ok (.iaload, 1) := by decide +kernel
theorem dX9_readsRow_70 : decode cX9_readsRow 70 = .ok (.if_icmp .ne 7, 3) := by decide +kernel
theorem dX9_readsRow_73 : decode cX9_readsRow 73 = .ok (.iconst 1, 1) := by decide +kernel
theorem dX9_readsRow_74 : decode cX9_readsRow 74 = .ok (.goto 4, 3) := by decide +kernel
theorem dX9_readsRow_77 : decode cX9_readsRow 77 = .ok (.iconst 0, 1) := by decide +kernel
theorem dX9_readsRow_78 : decode cX9_readsRow 78 = .ok (.istore_n 2, 1) := by decide +kernel
theorem dX9_readsRow_79 : decode cX9_readsRow 79 = .ok (.aload_n 0, 1) := by decide +kernel
theorem dX9_readsRow_80 : decode cX9_readsRow 80 = .ok (.getfield 65, 3) := by decide +kernel
theorem dX9_readsRow_83 : decode cX9_readsRow 83 = .ok (.istore_n 3, 1) := by decide +kernel
theorem dX9_readsRow_84 : decode cX9_readsRow 84 = .ok (.iload_n 3, 1) := by decide +kernel
theorem dX9_readsRow_85 : decode cX9_readsRow 85 = .ok (.aload_n 0, 1) := by decide +kernel
theorem dX9_readsRow_86 : decode cX9_readsRow 86 = .ok (.getfield 62, 3) := by decide +kernel
theorem dX9_readsRow_89 : decode cX9_readsRow 89 = .ok (.if_icmp .ge 29, 3) := by decide +kernel
theorem dX9_readsRow_92 : decode cX9_readsRow 92 = .ok (.iload_n 2, 1) := by decide +kernel
theorem dX9_readsRow_93 : decode cX9_readsRow 93 = .ok (.ifCond .eq 25, 3) := by decide +kernel
theorem dX9_readsRow_96 : decode cX9_readsRow 96 = .ok (.aload_n 0, 1) := by decide +kernel
theorem dX9_readsRow_97 : decode cX9_readsRow 97 = .ok (.iload_n 3, 1) := by decide +kernel
theorem dX9_readsRow_98 : decode cX9_readsRow 98 = .ok (.invokevirtual 68, 3) := by decide +kernel
theorem dX9_readsRow_101 : decode cX9_readsRow 101 = .ok (.bipush 51, 2) := by decide +kernel
theorem dX9_readsRow_103 : decode cX9_readsRow 103 = .ok (.if_icmp .gt 7, 3) := by decide +kernel
theorem dX9_readsRow_106 : decode cX9_readsRow 106 = .ok (.iconst 1, 1) := by decide +kernel
theorem dX9_readsRow_107 : decode cX9_readsRow 107 = .ok (.goto 4, 3) := by decide +kernel
theorem dX9_readsRow_110 : decode cX9_readsRow 110 = .ok (.iconst 0, 1) := by decide +kernel
theorem dX9_readsRow_111 : decode cX9_readsRow 111 = .ok (.istore_n 2, 1) := by decide +kernel
theorem dX9_readsRow_112 : decode cX9_readsRow 112 = .ok (.iinc 3 1, 3) := by decide +kernel
theorem dX9_readsRow_115 : decode cX9_readsRow 115 = .ok (.goto (-31), 3) := by decide +kernel
theorem dX9_readsRow_118 : decode cX9_readsRow 118 = .ok (.aload_n 0, 1) := by decide +kernel
theorem dX9_readsRow_119 : decode cX9_readsRow 119 = .ok (.getfield 79, 3) := by decide +kernel
theorem dX9_readsRow_122 : decode cX9_readsRow 122 = .ok (.bipush (-9), 2) := by decide +kernel
theorem dX9_readsRow_124 : decode cX9_readsRow 124 = .ok (.if_icmp .ne 67, 3) := by decide +kernel
theorem dX9_readsRow_127 : decode cX9_readsRow 127 = .ok (.iload_n 2, 1) := by decide +kernel
theorem dX9_readsRow_128 : decode cX9_readsRow 128 = .ok (.ifCond .eq 63, 3) := by decide +kernel
theorem dX9_readsRow_131 : decode cX9_readsRow 131 = .ok (.aload_n 0, 1) := by decide +kernel
theorem dX9_readsRow_132 : decode cX9_readsRow 132 = .ok (.getfield 13, 3) := by decide +kernel
theorem dX9_readsRow_135 : decode cX9_readsRow 135 = .ok (.iconst 0, 1) := by decide +kernel
theorem dX9_readsRow_136 : decode cX9_readsRow 136 = .ok (.iload_n 1, 1) := by decide +kernel
theorem dX9_readsRow_137 : decode cX9_readsRow 137 = .ok (.iastore, 1) := by decide +kernel
theorem dX9_readsRow_138 : decode cX9_readsRow 138 = .ok (.iconst 0, 1) := by decide +kernel
theorem dX9_readsRow_139 : decode cX9_readsRow 139 = .ok (.istore_n 3, 1) := by decide +kernel
theorem dX9_readsRow_140 : decode cX9_readsRow 140 = .ok (.iload_n 3, 1) := by decide +kernel
theorem dX9_readsRow_141 : decode cX9_readsRow 141 = .ok (.iload_n 1, 1) := by decide +kernel
theorem dX9_readsRow_142 : decode cX9_readsRow 142 = .ok (.if_icmp .ge 39, 3) := by decide +kernel
theorem dX9_readsRow_145 : decode cX9_readsRow 145 = .ok (.aload_n 0, 1) := by decide +kernel
theorem dX9_readsRow_146 : decode cX9_readsRow 146 = .ok (.getfield 13, 3) := by decide +kernel
theorem dX9_readsRow_149 : decode cX9_readsRow 149 = .ok (.iconst 3, 1) := by decide +kernel
theorem dX9_readsRow_150 : decode cX9_readsRow 150 = .ok (.iload_n 1, 1) := by decide +kernel
theorem dX9_readsRow_151 : decode cX9_readsRow 151 = .ok (.aload_n 0, 1) := by decide +kernel
theorem dX9_readsRow_152 : decode cX9_readsRow 152 = .ok (.getfield 13, 3) := by decide +kernel
theorem dX9_readsRow_155 : decode cX9_readsRow 155 = .ok (.iconst 1, 1) := by decide +kernel
theorem dX9_readsRow_156 : decode cX9_readsRow 156 = .ok (.iaload, 1) := by decide +kernel
theorem dX9_readsRow_157 : decode cX9_readsRow 157 = .ok (.imul, 1) := by decide +kernel
theorem dX9_readsRow_158 : decode cX9_readsRow 158 = .ok (.iadd, 1) := by decide +kernel
theorem dX9_readsRow_159 : decode cX9_readsRow 159 = .ok (.iload_n 3, 1) := by decide +kernel
theorem dX9_readsRow_160 : decode cX9_readsRow 160 = .ok (.iadd, 1) := by decide +kernel
theorem dX9_readsRow_161 : decode cX9_readsRow 161 = .ok (.aload_n 0, 1) := by decide +kernel
theorem dX9_readsRow_162 : decode cX9_readsRow 162 = .ok (.aload_n 0, 1) := by decide +kernel
theorem dX9_readsRow_163 : decode cX9_readsRow 163 = .ok (.getfield 65, 3) := by decide +kernel
theorem dX9_readsRow_166 : decode cX9_readsRow 166 = .ok (.iload_n 3, 1) := by decide +kernel
theorem dX9_readsRow_167 : decode cX9_readsRow 167 = .ok (.iadd, 1) := by decide +kernel
theorem dX9_readsRow_168 : decode cX9_readsRow 168 = .ok (.invokevirtual 68, 3) := by decide +kernel
theorem dX9_readsRow_171 : decode cX9_readsRow 171 = .ok (.bipush 48, 2) := by decide +kernel
theorem dX9_readsRow_173 : decode cX9_readsRow 173 = .ok (.isub, 1) := by decide +kernel
theorem dX9_readsRow_174 : decode cX9_readsRow 174 = .ok (.iastore, 1) := by decide +kernel
theorem dX9_readsRow_175 : decode cX9_readsRow 175 = .ok (.iinc 3 1, 3) := by decide +kernel
theorem dX9_readsRow_178 : decode cX9_readsRow 178 = .ok (.goto (-38), 3) := by decide +kernel
theorem dX9_readsRow_181 : decode cX9_readsRow 181 = .ok (.aload_n 0, 1) := by decide +kernel
theorem dX9_readsRow_182 : decode cX9_readsRow 182 = .ok (.getfield 13, 3) := by decide +kernel
theorem dX9_readsRow_185 : decode cX9_readsRow 185 = .ok (.iconst 1, 1) := by decide +kernel
theorem dX9_readsRow_186 : decode cX9_readsRow 186 = .ok (.dup2, 1) := by decide +kernel
theorem dX9_readsRow_187 : decode cX9_readsRow 187 = .ok (.iaload, 1) := by decide +kernel
theorem dX9_readsRow_188 : decode cX9_readsRow 188 = .ok (.iconst 1, 1) := by decide +kernel
theorem dX9_readsRow_189 : decode cX9_readsRow 189 = .ok (.iadd, 1) := by decide +kernel
theorem dX9_readsRow_190 : decode cX9_readsRow 190 = .ok (.iastore, 1) := by decide +kernel
theorem dX9_readsRow_191 : decode cX9_readsRow 191 = .ok (.aload_n 0, 1) := by decide +kernel
theorem dX9_readsRow_192 : decode cX9_readsRow 192 = .ok (.iload_n 2, 1) := by decide +kernel
theorem dX9_readsRow_193 : decode cX9_readsRow 193 = .ok (.invokevirtual 89, 3) := by decide +kernel
theorem dX9_readsRow_196 : decode cX9_readsRow 196 = .ok (.return_, 1) := by decide +kernel
set_option maxRecDepth 20000 in
theorem ggX9_figure_X9_at : GoodIn wsX9_figure wsX9_at := goodIn_r _ [8, 9, 10, 27, 28, 29, 30, 31, 32, 33, 34, 35, 36, 37, 38, 39, 40, 41, 42, 43, 44, 45, 46, 47, 48, 49, 50] (by decide +kernel) (by decide +kernel)
set_option maxRecDepth 20000 in
theorem gX9_figure_X9_at : GoodIn wsX9_figure (wsV RX9 68 RX9 yX9_at wsX9_at) := goodIn_app (goodIn_of _ (by decide +kernel)) ggX9_figure_X9_at
set_option maxRecDepth 20000 in
theorem ggX9_figure_X9_takes : GoodIn wsX9_figure wsX9_takes := goodIn_r _ [14, 15, 1, 16, 17, 18, 7, 19, 3, 2, 4, 5, 6, 8, 9, 10, 20, 21, 22, 23, 24, 25, 26, 27, 28, 29, 30, 31, 32, 33, 34, 35, 36, 37, 38, 39, 40, 41, 42, 43, 44, 45, 46, 47, 48, 49, 50] (by decide +kernel) (by decide +kernel)
set_option maxRecDepth 20000 in
theorem gX9_figure_X9_takes : GoodIn wsX9_figure (wsV RX9 89 RX9 yX9_takes wsX9_takes) := goodIn_app (goodIn_of _ (by decide +kernel)) ggX9_figure_X9_takes
theorem dX9_figure_0 : decode cX9_figure 0 = .ok (.aload_n 0, 1) := by decide +kernel
theorem dX9_figure_1 : decode cX9_figure 1 = .ok (.aload_n 0, 1) := by decide +kernel
theorem dX9_figure_2 : decode cX9_figure 2 = .ok (.getfield 65, 3) := by decide +kernel
theorem dX9_figure_5 : decode cX9_figure 5 = .ok (.invokevirtual 68, 3) := by decide +kernel
theorem dX9_figure_8 : decode cX9_figure 8 = .ok (.bipush 48, 2) := by decide +kernel
theorem dX9_figure_10 : decode cX9_figure 10 = .ok (.isub, 1) := by decide +kernel
theorem dX9_figure_11 : decode cX9_figure 11 = .ok (.istore_n 2, 1) := by decide +kernel
theorem dX9_figure_12 : decode cX9_figure 12 = .ok (.aload_n 0, 1) := by decide +kernel
theorem dX9_figure_13 : decode cX9_figure 13 = .ok (.aload_n 0, 1) := by decide +kernel
theorem dX9_figure_14 : decode cX9_figure 14 = .ok (.getfield 72, 3) := by decide +kernel
theorem dX9_figure_17 : decode cX9_figure 17 = .ok (.iconst 4, 1) := by decide +kernel
theorem dX9_figure_18 : decode cX9_figure 18 = .ok (.if_icmp .ne 25, 3) := by decide +kernel
theorem dX9_figure_21 : decode cX9_figure 21 = .ok (.aload_n 0, 1) := by decide +kernel
theorem dX9_figure_22 : decode cX9_figure 22 = .ok (.getfield 62, 3) := by decide +kernel
theorem dX9_figure_25 : decode cX9_figure 25 = .ok (.aload_n 0, 1) := by decide +kernel
theorem dX9_figure_26 : decode cX9_figure 26 = .ok (.getfield 65, 3) := by decide +kernel
theorem dX9_figure_29 : decode cX9_figure 29 = .ok (.isub, 1) := by decide +kernel
theorem dX9_figure_30 : decode cX9_figure 30 = .ok (.iconst 1, 1) := by decide +kernel
theorem dX9_figure_31 : decode cX9_figure 31 = .ok (.if_icmp .ne 12, 3) := by decide +kernel
theorem dX9_figure_34 : decode cX9_figure 34 = .ok (.iload_n 2, 1) := by decide +kernel
theorem dX9_figure_35 : decode cX9_figure 35 = .ok (.iload_n 1, 1) := by decide +kernel
theorem dX9_figure_36 : decode cX9_figure 36 = .ok (.if_icmp .ge 7, 3) := by decide +kernel
theorem dX9_figure_39 : decode cX9_figure 39 = .ok (.iconst 1, 1) := by decide +kernel
theorem dX9_figure_40 : decode cX9_figure 40 = .ok (.goto 4, 3) := by decide +kernel
theorem dX9_figure_43 : decode cX9_figure 43 = .ok (.iconst 0, 1) := by decide +kernel
theorem dX9_figure_44 : decode cX9_figure 44 = .ok (.invokevirtual 89, 3) := by decide +kernel
theorem dX9_figure_47 : decode cX9_figure 47 = .ok (.iload_n 2, 1) := by decide +kernel
theorem dX9_figure_48 : decode cX9_figure 48 = .ok (.ireturn, 1) := by decide +kernel
set_option maxRecDepth 20000 in
theorem ggX9_readsFix_X9_takes : GoodIn wsX9_readsFix wsX9_takes := goodIn_r _ [8, 3, 9, 10, 11, 12, 7, 13, 14, 15, 16, 17, 18, 19, 20, 21, 22, 23, 24, 25, 26, 27, 28, 33, 34, 35, 36, 37, 38, 39, 40, 41, 42, 43, 44, 45, 46, 47, 48, 49, 50, 51, 52, 53, 54, 55, 56] (by decide +kernel) (by decide +kernel)
set_option maxRecDepth 20000 in
theorem gX9_readsFix_X9_takes : GoodIn wsX9_readsFix (wsV RX9 89 RX9 yX9_takes wsX9_takes) := goodIn_app (goodIn_of _ (by decide +kernel)) ggX9_readsFix_X9_takes
set_option maxRecDepth 20000 in
theorem ggX9_readsFix_X9_figure : GoodIn wsX9_readsFix wsX9_figure := goodIn_r _ [32, 9, 15, 14, 16, 17, 18, 7, 19, 20, 21, 4, 5, 6, 8, 3, 10, 11, 12, 13, 22, 23, 24, 25, 26, 27, 28, 33, 34, 35, 36, 37, 38, 39, 40, 41, 42, 43, 44, 45, 46, 47, 48, 49, 50, 51, 52, 53, 54, 55, 56] (by decide +kernel) (by decide +kernel)
set_option maxRecDepth 20000 in
theorem gX9_readsFix_X9_figure : GoodIn wsX9_readsFix (wsV RX9 93 RX9 yX9_figure wsX9_figure) := goodIn_app (goodIn_of _ (by decide +kernel)) ggX9_readsFix_X9_figure
theorem dX9_readsFix_0 : decode cX9_readsFix 0 = .ok (.aload_n 0, 1) := by decide +kernel
theorem dX9_readsFix_1 : decode cX9_readsFix 1 = .ok (.aload_n 0, 1) := by decide +kernel
theorem dX9_readsFix_2 : decode cX9_readsFix 2 = .ok (.getfield 13, 3) := by decide +kernel
theorem dX9_readsFix_5 : decode cX9_readsFix 5 = .ok (.iconst 1, 1) := by decide +kernel
theorem dX9_readsFix_6 : decode cX9_readsFix 6 = .ok (.iaload, 1) := by decide +kernel
theorem dX9_readsFix_7 : decode cX9_readsFix 7 = .ok (.ifCond .le 7, 3) := by decide +kernel
theorem dX9_readsFix_10 : decode cX9_readsFix 10 = .ok (.iconst 1, 1) := by decide +kernel
theorem dX9_readsFix_11 : decode cX9_readsFix 11 = .ok (.goto 4, 3) := by decide +kernel
theorem dX9_readsFix_14 : decode cX9_readsFix 14 = .ok (.iconst 0, 1) := by decide +kernel
theorem dX9_readsFix_15 : decode cX9_readsFix 15 = .ok (.invokevirtual 89, 3) := by decide +kernel
theorem dX9_readsFix_18 : decode cX9_readsFix 18 = .ok (.aload_n 0, 1) := by decide +kernel
theorem dX9_readsFix_19 : decode cX9_readsFix 19 = .ok (.iconst 1, 1) := by decide +kernel
theorem dX9_readsFix_20 : decode cX9_readsFix 20 = .ok (.putfield 85, 3) := by decide +kernel
theorem dX9_readsFix_23 : decode cX9_readsFix 23 = .ok (.aload_n 0, 1) := by decide +kernel
theorem dX9_readsFix_24 : decode cX9_readsFix 24 = .ok (.aload_n 0, 1) := by decide +kernel
theorem dX9_readsFix_25 : decode cX9_readsFix 25 = .ok (.getfield 13, 3) := by decide +kernel
theorem dX9_readsFix_28 : decode cX9_readsFix 28 = .ok (.iconst 0, 1) := by decide +kernel
theorem dX9_readsFix_29 : decode cX9_readsFix 29 = .ok (.iaload, 1) := by decide +kernel
theorem dX9_readsFix_30 : decode cX9_readsFix 30 = .ok (.invokevirtual 93, 3) := by decide +kernel
theorem dX9_readsFix_33 : decode cX9_readsFix 33 = .ok (.istore_n 1, 1) := by decide +kernel
theorem dX9_readsFix_34 : decode cX9_readsFix 34 = .ok (.aload_n 0, 1) := by decide +kernel
theorem dX9_readsFix_35 : decode cX9_readsFix 35 = .ok (.aload_n 0, 1) := by decide +kernel
theorem dX9_readsFix_36 : decode cX9_readsFix 36 = .ok (.getfield 13, 3) := by decide +kernel
theorem dX9_readsFix_39 : decode cX9_readsFix 39 = .ok (.iconst 1, 1) := by decide +kernel
theorem dX9_readsFix_40 : decode cX9_readsFix 40 = .ok (.iaload, 1) := by decide +kernel
theorem dX9_readsFix_41 : decode cX9_readsFix 41 = .ok (.invokevirtual 93, 3) := by decide +kernel
theorem dX9_readsFix_44 : decode cX9_readsFix 44 = .ok (.istore_n 2, 1) := by decide +kernel
theorem dX9_readsFix_45 : decode cX9_readsFix 45 = .ok (.aload_n 0, 1) := by decide +kernel
theorem dX9_readsFix_46 : decode cX9_readsFix 46 = .ok (.getfield 79, 3) := by decide +kernel
theorem dX9_readsFix_49 : decode cX9_readsFix 49 = .ok (.bipush (-9), 2) := by decide +kernel
theorem dX9_readsFix_51 : decode cX9_readsFix 51 = .ok (.if_icmp .ne 22, 3) := by decide +kernel
theorem dX9_readsFix_54 : decode cX9_readsFix 54 = .ok (.aload_n 0, 1) := by decide +kernel
theorem dX9_readsFix_55 : decode cX9_readsFix 55 = .ok (.getfield 13, 3) := by decide +kernel
theorem dX9_readsFix_58 : decode cX9_readsFix 58 = .ok (.bipush 27, 2) := by decide +kernel
theorem dX9_readsFix_60 : decode cX9_readsFix 60 = .ok (.aload_n 0, 1) := by decide +kernel
theorem dX9_readsFix_61 : decode cX9_readsFix 61 = .ok (.getfield 13, 3) := by decide +kernel
theorem dX9_readsFix_64 : decode cX9_readsFix 64 = .ok (.iconst 0, 1) := by decide +kernel
theorem dX9_readsFix_65 : decode cX9_readsFix 65 = .ok (.iaload, 1) := by decide +kernel
theorem dX9_readsFix_66 : decode cX9_readsFix 66 = .ok (.iload_n 2, 1) := by decide +kernel
theorem dX9_readsFix_67 : decode cX9_readsFix 67 = .ok (.imul, 1) := by decide +kernel
theorem dX9_readsFix_68 : decode cX9_readsFix 68 = .ok (.iadd, 1) := by decide +kernel
theorem dX9_readsFix_69 : decode cX9_readsFix 69 = .ok (.iload_n 1, 1) := by decide +kernel
theorem dX9_readsFix_70 : decode cX9_readsFix 70 = .ok (.iadd, 1) := by decide +kernel
theorem dX9_readsFix_71 : decode cX9_readsFix 71 = .ok (.iconst 1, 1) := by decide +kernel
theorem dX9_readsFix_72 : decode cX9_readsFix 72 = .ok (.iastore, 1) := by decide +kernel
theorem dX9_readsFix_73 : decode cX9_readsFix 73 = .ok (.return_, 1) := by decide +kernel
set_option maxRecDepth 20000 in
theorem ggX9_readsOutside_X9_takes : GoodIn wsX9_readsOutside wsX9_takes := goodIn_r _ [8, 3, 9, 10, 11, 12, 7, 13, 14, 15, 16, 17, 18, 19, 20, 21, 22, 23, 24, 25, 26, 27, 28, 33, 34, 35, 36, 37, 38, 39, 40, 41, 42, 43, 44, 45, 46, 47, 48, 49, 50, 51, 52, 53, 54, 55, 56] (by decide +kernel) (by decide +kernel)
set_option maxRecDepth 20000 in
theorem gX9_readsOutside_X9_takes : GoodIn wsX9_readsOutside (wsV RX9 89 RX9 yX9_takes wsX9_takes) := goodIn_app (goodIn_of _ (by decide +kernel)) ggX9_readsOutside_X9_takes
set_option maxRecDepth 20000 in
theorem ggX9_readsOutside_X9_figure : GoodIn wsX9_readsOutside wsX9_figure := goodIn_r _ [32, 9, 15, 14, 16, 17, 18, 7, 19, 20, 21, 4, 5, 6, 8, 3, 10, 11, 12, 13, 22, 23, 24, 25, 26, 27, 28, 33, 34, 35, 36, 37, 38, 39, 40, 41, 42, 43, 44, 45, 46, 47, 48, 49, 50, 51, 52, 53, 54, 55, 56] (by decide +kernel) (by decide +kernel)
set_option maxRecDepth 20000 in
theorem gX9_readsOutside_X9_figure : GoodIn wsX9_readsOutside (wsV RX9 93 RX9 yX9_figure wsX9_figure) := goodIn_app (goodIn_of _ (by decide +kernel)) ggX9_readsOutside_X9_figure
theorem dX9_readsOutside_0 : decode cX9_readsOutside 0 = .ok (.aload_n 0, 1) := by decide +kernel
theorem dX9_readsOutside_1 : decode cX9_readsOutside 1 = .ok (.aload_n 0, 1) := by decide +kernel
theorem dX9_readsOutside_2 : decode cX9_readsOutside 2 = .ok (.getfield 96, 3) := by decide +kernel
theorem dX9_readsOutside_5 : decode cX9_readsOutside 5 = .ok (.ifCond .ne 7, 3) := by decide +kernel
theorem dX9_readsOutside_8 : decode cX9_readsOutside 8 = .ok (.iconst 1, 1) := by decide +kernel
theorem dX9_readsOutside_9 : decode cX9_readsOutside 9 = .ok (.goto 4, 3) := by decide +kernel
theorem dX9_readsOutside_12 : decode cX9_readsOutside 12 = .ok (.iconst 0, 1) := by decide +kernel
theorem dX9_readsOutside_13 : decode cX9_readsOutside 13 = .ok (.invokevirtual 89, 3) := by decide +kernel
theorem dX9_readsOutside_16 : decode cX9_readsOutside 16 = .ok (.aload_n 0, 1) := by decide +kernel
theorem dX9_readsOutside_17 : decode cX9_readsOutside 17 = .ok (.iconst 1, 1) := by decide +kernel
theorem dX9_readsOutside_18 : decode cX9_readsOutside 18 = .ok (.putfield 96, 3) := by decide +kernel
theorem dX9_readsOutside_21 : decode cX9_readsOutside 21 = .ok (.aload_n 0, 1) := by decide +kernel
theorem dX9_readsOutside_22 : decode cX9_readsOutside 22 = .ok (.iconst 4, 1) := by decide +kernel
theorem dX9_readsOutside_23 : decode cX9_readsOutside 23 = .ok (.invokevirtual 93, 3) := by decide +kernel
theorem dX9_readsOutside_26 : decode cX9_readsOutside 26 = .ok (.istore_n 1, 1) := by decide +kernel
theorem dX9_readsOutside_27 : decode cX9_readsOutside 27 = .ok (.aload_n 0, 1) := by decide +kernel
theorem dX9_readsOutside_28 : decode cX9_readsOutside 28 = .ok (.getfield 13, 3) := by decide +kernel
theorem dX9_readsOutside_31 : decode cX9_readsOutside 31 = .ok (.iconst 2, 1) := by decide +kernel
theorem dX9_readsOutside_32 : decode cX9_readsOutside 32 = .ok (.aload_n 0, 1) := by decide +kernel
theorem dX9_readsOutside_33 : decode cX9_readsOutside 33 = .ok (.getfield 79, 3) := by decide +kernel
theorem dX9_readsOutside_36 : decode cX9_readsOutside 36 = .ok (.bipush (-9), 2) := by decide +kernel
theorem dX9_readsOutside_38 : decode cX9_readsOutside 38 = .ok (.if_icmp .ne 7, 3) := by decide +kernel
theorem dX9_readsOutside_41 : decode cX9_readsOutside 41 = .ok (.iload_n 1, 1) := by decide +kernel
theorem dX9_readsOutside_42 : decode cX9_readsOutside 42 = .ok (.goto 5, 3) := by decide +kernel
theorem dX9_readsOutside_45 : decode cX9_readsOutside 45 = .ok (.bipush (-9), 2) := by decide +kernel
theorem dX9_readsOutside_47 : decode cX9_readsOutside 47 = .ok (.iastore, 1) := by decide +kernel
theorem dX9_readsOutside_48 : decode cX9_readsOutside 48 = .ok (.return_, 1) := by decide +kernel
set_option maxRecDepth 20000 in
theorem ggX9_reads_X9_steps : GoodIn wsX9_reads wsX9_steps := goodIn_r _ [11, 5, 12, 6, 13, 14, 15, 10, 16, 17, 18, 19, 20, 21, 22, 23, 24, 25, 46, 47, 48, 49, 50, 51, 52, 53, 54, 55, 56, 57, 58, 59, 60, 61, 62, 63, 64, 65, 66, 67, 68, 69] (by decide +kernel) (by decide +kernel)
set_option maxRecDepth 20000 in
theorem gX9_reads_X9_steps : GoodIn wsX9_reads (wsV RX9 82 RX9 yX9_steps wsX9_steps) := goodIn_app (goodIn_of _ (by decide +kernel)) ggX9_reads_X9_steps
set_option maxRecDepth 20000 in
theorem ggX9_reads_X9_readsRow : GoodIn wsX9_reads wsX9_readsRow := goodIn_r _ [29, 1, 2, 5, 12, 6, 4, 30, 31, 32, 10, 33, 7, 8, 9, 11, 13, 14, 15, 16, 17, 18, 19, 20, 21, 22, 23, 24, 25, 46, 47, 48, 49, 50, 51, 52, 53, 54, 55, 56, 57, 58, 59, 60, 61, 62, 63, 64, 65, 66, 67, 68, 69] (by decide +kernel) (by decide +kernel)
set_option maxRecDepth 20000 in
theorem gX9_reads_X9_readsRow : GoodIn wsX9_reads (wsV RX9 99 RX9 yX9_readsRow wsX9_readsRow) := goodIn_app (goodIn_of _ (by decide +kernel)) ggX9_reads_X9_readsRow
set_option maxRecDepth 20000 in
theorem ggX9_reads_X9_readsFix : GoodIn wsX9_reads wsX9_readsFix := goodIn_r _ [37, 1, 2, 4, 30, 31, 32, 10, 33, 12, 7, 8, 9, 11, 5, 6, 13, 14, 15, 16, 17, 18, 19, 20, 21, 22, 23, 24, 25, 38, 39, 40, 41, 46, 47, 48, 49, 50, 51, 52, 53, 54, 55, 56, 57, 58, 59, 60, 61, 62, 63, 64, 65, 66, 67, 68, 69] (by decide +kernel) (by decide +kernel)
set_option maxRecDepth 20000 in
theorem gX9_reads_X9_readsFix : GoodIn wsX9_reads (wsV RX9 102 RX9 yX9_readsFix wsX9_readsFix) := goodIn_app (goodIn_of _ (by decide +kernel)) ggX9_reads_X9_readsFix
set_option maxRecDepth 20000 in
theorem ggX9_reads_X9_readsOutside : GoodIn wsX9_reads wsX9_readsOutside := goodIn_r _ [45, 3, 1, 4, 30, 31, 32, 10, 33, 12, 7, 8, 9, 11, 5, 6, 13, 14, 15, 16, 17, 18, 19, 20, 21, 22, 23, 24, 25, 38, 39, 40, 41, 46, 47, 48, 49, 50, 51, 52, 53, 54, 55, 56, 57, 58, 59, 60, 61, 62, 63, 64, 65, 66, 67, 68, 69] (by decide +kernel) (by decide +kernel)
set_option maxRecDepth 20000 in
theorem gX9_reads_X9_readsOutside : GoodIn wsX9_reads (wsV RX9 105 RX9 yX9_readsOutside wsX9_readsOutside) := goodIn_app (goodIn_of _ (by decide +kernel)) ggX9_reads_X9_readsOutside
set_option maxRecDepth 20000 in
theorem ggX9_reads_X9_takes : GoodIn wsX9_reads wsX9_takes := goodIn_r _ [33, 4, 12, 7, 8, 9, 10, 11, 5, 6, 13, 14, 15, 16, 17, 18, 19, 20, 21, 22, 23, 24, 25, 46, 47, 48, 49, 50, 51, 52, 53, 54, 55, 56, 57, 58, 59, 60, 61, 62, 63, 64, 65, 66, 67, 68, 69] (by decide +kernel) (by decide +kernel)
set_option maxRecDepth 20000 in
theorem gX9_reads_X9_takes : GoodIn wsX9_reads (wsV RX9 89 RX9 yX9_takes wsX9_takes) := goodIn_app (goodIn_of _ (by decide +kernel)) ggX9_reads_X9_takes
theorem dX9_reads_0 : decode cX9_reads 0 = .ok (.iconst 0, 1) := by decide +kernel
theorem dX9_reads_1 : decode cX9_reads 1 = .ok (.istore_n 1, 1) := by decide +kernel
theorem dX9_reads_2 : decode cX9_reads 2 = .ok (.iload_n 1, 1) := by decide +kernel
theorem dX9_reads_3 : decode cX9_reads 3 = .ok (.bipush 51, 2) := by decide +kernel
theorem dX9_reads_5 : decode cX9_reads 5 = .ok (.if_icmp .ge 16, 3) := by decide +kernel
theorem dX9_reads_8 : decode cX9_reads 8 = .ok (.aload_n 0, 1) := by decide +kernel
theorem dX9_reads_9 : decode cX9_reads 9 = .ok (.getfield 13, 3) := by decide +kernel
theorem dX9_reads_12 : decode cX9_reads 12 = .ok (.iload_n 1, 1) := by decide +kernel
theorem dX9_reads_13 : decode cX9_reads 13 = .ok (.iconst 0, 1) := by decide +kernel
theorem dX9_reads_14 : decode cX9_reads 14 = .ok (.iastore, 1) := by decide +kernel
theorem dX9_reads_15 : decode cX9_reads 15 = .ok (.iinc 1 1, 3) := by decide +kernel
theorem dX9_reads_18 : decode cX9_reads 18 = .ok (.goto (-16), 3) := by decide +kernel
theorem dX9_reads_21 : decode cX9_reads 21 = .ok (.aload_n 0, 1) := by decide +kernel
theorem dX9_reads_22 : decode cX9_reads 22 = .ok (.getfield 13, 3) := by decide +kernel
theorem dX9_reads_25 : decode cX9_reads 25 = .ok (.iconst 2, 1) := by decide +kernel
theorem dX9_reads_26 : decode cX9_reads 26 = .ok (.bipush (-9), 2) := by decide +kernel
theorem dX9_reads_28 : decode cX9_reads 28 = .ok (.iastore, 1) := by decide +kernel
theorem dX9_reads_29 : decode cX9_reads 29 = .ok (.aload_n 0, 1) := by decide +kernel
