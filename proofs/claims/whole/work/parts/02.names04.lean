theorem dX7_stands_0 : decode cX7_stands 0 = .ok (.aload_n 0, 1) := by decide +kernel
theorem dX7_stands_1 : decode cX7_stands 1 = .ok (.getfield 40, 3) := by decide +kernel
theorem dX7_stands_4 : decode cX7_stands 4 = .ok (.tableswitch 111 0 4 #[36, 41, 47, 84, 90], 36) := by decide +kernel
theorem dX7_stands_40 : decode cX7_stands 40 = .ok (.aload_n 0, 1) := by decide +kernel
theorem dX7_stands_41 : decode cX7_stands 41 = .ok (.invokevirtual 70, 3) := by decide +kernel
theorem dX7_stands_44 : decode cX7_stands 44 = .ok (.ireturn, 1) := by decide +kernel
theorem dX7_stands_45 : decode cX7_stands 45 = .ok (.aload_n 0, 1) := by decide +kernel
theorem dX7_stands_46 : decode cX7_stands 46 = .ok (.aload_n 1, 1) := by decide +kernel
theorem dX7_stands_47 : decode cX7_stands 47 = .ok (.invokevirtual 74, 3) := by decide +kernel
theorem dX7_stands_50 : decode cX7_stands 50 = .ok (.ireturn, 1) := by decide +kernel
theorem dX7_stands_51 : decode cX7_stands 51 = .ok (.aload_n 0, 1) := by decide +kernel
theorem dX7_stands_52 : decode cX7_stands 52 = .ok (.aload_n 0, 1) := by decide +kernel
theorem dX7_stands_53 : decode cX7_stands 53 = .ok (.invokevirtual 77, 3) := by decide +kernel
theorem dX7_stands_56 : decode cX7_stands 56 = .ok (.putfield 81, 3) := by decide +kernel
theorem dX7_stands_59 : decode cX7_stands 59 = .ok (.aload_n 0, 1) := by decide +kernel
theorem dX7_stands_60 : decode cX7_stands 60 = .ok (.iconst 3, 1) := by decide +kernel
theorem dX7_stands_61 : decode cX7_stands 61 = .ok (.putfield 40, 3) := by decide +kernel
theorem dX7_stands_64 : decode cX7_stands 64 = .ok (.aload_n 0, 1) := by decide +kernel
theorem dX7_stands_65 : decode cX7_stands 65 = .ok (.getfield 81, 3) := by decide +kernel
theorem dX7_stands_68 : decode cX7_stands 68 = .ok (.ifCond .lt 18, 3) := by decide +kernel
theorem dX7_stands_71 : decode cX7_stands 71 = .ok (.aload_n 0, 1) := by decide +kernel
theorem dX7_stands_72 : decode cX7_stands 72 = .ok (.getfield 81, 3) := by decide +kernel
theorem dX7_stands_75 : decode cX7_stands 75 = .ok (.aload_n 1, 1) := by decide +kernel
theorem dX7_stands_76 : decode cX7_stands 76 = .ok (.getfield 84, 3) := by decide +kernel
theorem dX7_stands_79 : decode cX7_stands 79 = .ok (.if_icmp .ge 7, 3) := by decide +kernel
theorem dX7_stands_82 : decode cX7_stands 82 = .ok (.iconst 1, 1) := by decide +kernel
theorem dX7_stands_83 : decode cX7_stands 83 = .ok (.goto 4, 3) := by decide +kernel
theorem dX7_stands_86 : decode cX7_stands 86 = .ok (.iconst 0, 1) := by decide +kernel
theorem dX7_stands_87 : decode cX7_stands 87 = .ok (.ireturn, 1) := by decide +kernel
theorem dX7_stands_88 : decode cX7_stands 88 = .ok (.aload_n 0, 1) := by decide +kernel
theorem dX7_stands_89 : decode cX7_stands 89 = .ok (.aload_n 1, 1) := by decide +kernel
theorem dX7_stands_90 : decode cX7_stands 90 = .ok (.invokevirtual 87, 3) := by decide +kernel
theorem dX7_stands_93 : decode cX7_stands 93 = .ok (.ireturn, 1) := by decide +kernel
theorem dX7_stands_94 : decode cX7_stands 94 = .ok (.aload_n 1, 1) := by decide +kernel
theorem dX7_stands_95 : decode cX7_stands 95 = .ok (.aload_n 0, 1) := by decide +kernel
theorem dX7_stands_96 : decode cX7_stands 96 = .ok (.invokevirtual 77, 3) := by decide +kernel
theorem dX7_stands_99 : decode cX7_stands 99 = .ok (.putfield 90, 3) := by decide +kernel
theorem dX7_stands_102 : decode cX7_stands 102 = .ok (.aload_n 0, 1) := by decide +kernel
theorem dX7_stands_103 : decode cX7_stands 103 = .ok (.iconst 5, 1) := by decide +kernel
theorem dX7_stands_104 : decode cX7_stands 104 = .ok (.putfield 40, 3) := by decide +kernel
theorem dX7_stands_107 : decode cX7_stands 107 = .ok (.aload_n 1, 1) := by decide +kernel
theorem dX7_stands_108 : decode cX7_stands 108 = .ok (.getfield 90, 3) := by decide +kernel
theorem dX7_stands_111 : decode cX7_stands 111 = .ok (.invokestatic 93, 3) := by decide +kernel
theorem dX7_stands_114 : decode cX7_stands 114 = .ok (.ireturn, 1) := by decide +kernel
theorem dX7_stands_115 : decode cX7_stands 115 = .ok (.aload_n 0, 1) := by decide +kernel
theorem dX7_stands_116 : decode cX7_stands 116 = .ok (.dup, 1) := by decide +kernel
theorem dX7_stands_117 : decode cX7_stands 117 = .ok (.getfield 52, 3) := by decide +kernel
theorem dX7_stands_120 : decode cX7_stands 120 = .ok (.iconst 1, 1) := by decide +kernel
theorem dX7_stands_121 : decode cX7_stands 121 = .ok (.iadd, 1) := by decide +kernel
theorem dX7_stands_122 : decode cX7_stands 122 = .ok (.putfield 52, 3) := by decide +kernel
theorem dX7_stands_125 : decode cX7_stands 125 = .ok (.aload_n 0, 1) := by decide +kernel
theorem dX7_stands_126 : decode cX7_stands 126 = .ok (.iconst 0, 1) := by decide +kernel
theorem dX7_stands_127 : decode cX7_stands 127 = .ok (.putfield 40, 3) := by decide +kernel
theorem dX7_stands_130 : decode cX7_stands 130 = .ok (.aload_n 0, 1) := by decide +kernel
theorem dX7_stands_131 : decode cX7_stands 131 = .ok (.aload_n 0, 1) := by decide +kernel
theorem dX7_stands_132 : decode cX7_stands 132 = .ok (.getfield 33, 3) := by decide +kernel
theorem dX7_stands_135 : decode cX7_stands 135 = .ok (.invokevirtual 62, 3) := by decide +kernel
theorem dX7_stands_138 : decode cX7_stands 138 = .ok (.bipush 59, 2) := by decide +kernel
theorem dX7_stands_140 : decode cX7_stands 140 = .ok (.if_icmp .ne 7, 3) := by decide +kernel
theorem dX7_stands_143 : decode cX7_stands 143 = .ok (.iconst 1, 1) := by decide +kernel
theorem dX7_stands_144 : decode cX7_stands 144 = .ok (.goto 4, 3) := by decide +kernel
theorem dX7_stands_147 : decode cX7_stands 147 = .ok (.iconst 0, 1) := by decide +kernel
theorem dX7_stands_148 : decode cX7_stands 148 = .ok (.ireturn, 1) := by decide +kernel
set_option maxRecDepth 20000 in
theorem ggX7_standsAsWord_X7_isWord : GoodIn wsX7_standsAsWord wsX7_isWord := goodIn_r _ [9, 10, 11, 12, 13, 14, 15, 16, 17, 18, 19, 20, 21, 22, 23, 24, 25, 26, 8, 27, 28, 29, 30, 31, 32, 33, 34, 35, 36, 37, 38, 39, 40, 41, 42, 43, 44, 45, 46, 47, 48, 49, 50, 51, 52, 53, 54, 55, 56, 57, 58, 59, 60, 61, 62, 63, 64, 65, 66, 67, 68, 69, 70, 71, 72, 73, 74, 75, 76, 77] (by decide +kernel) (by decide +kernel)
set_option maxRecDepth 20000 in
theorem gX7_standsAsWord_X7_isWord : GoodIn wsX7_standsAsWord (wsV RX7 99 RX7 yX7_isWord wsX7_isWord) := goodIn_app (goodIn_of _ (by decide +kernel)) ggX7_standsAsWord_X7_isWord
theorem dX7_standsAsWord_0 : decode cX7_standsAsWord 0 = .ok (.aload_n 0, 1) := by decide +kernel
theorem dX7_standsAsWord_1 : decode cX7_standsAsWord 1 = .ok (.ldc 97, 2) := by decide +kernel
theorem dX7_standsAsWord_3 : decode cX7_standsAsWord 3 = .ok (.invokevirtual 99, 3) := by decide +kernel
theorem dX7_standsAsWord_6 : decode cX7_standsAsWord 6 = .ok (.ifCond .eq 30, 3) := by decide +kernel
theorem dX7_standsAsWord_9 : decode cX7_standsAsWord 9 = .ok (.aload_n 0, 1) := by decide +kernel
theorem dX7_standsAsWord_10 : decode cX7_standsAsWord 10 = .ok (.iconst 1, 1) := by decide +kernel
theorem dX7_standsAsWord_11 : decode cX7_standsAsWord 11 = .ok (.putfield 40, 3) := by decide +kernel
theorem dX7_standsAsWord_14 : decode cX7_standsAsWord 14 = .ok (.aload_n 0, 1) := by decide +kernel
theorem dX7_standsAsWord_15 : decode cX7_standsAsWord 15 = .ok (.getfield 43, 3) := by decide +kernel
theorem dX7_standsAsWord_18 : decode cX7_standsAsWord 18 = .ok (.bipush 6, 2) := by decide +kernel
theorem dX7_standsAsWord_20 : decode cX7_standsAsWord 20 = .ok (.if_icmp .ge 14, 3) := by decide +kernel
theorem dX7_standsAsWord_23 : decode cX7_standsAsWord 23 = .ok (.aload_n 0, 1) := by decide +kernel
theorem dX7_standsAsWord_24 : decode cX7_standsAsWord 24 = .ok (.getfield 55, 3) := by decide +kernel
theorem dX7_standsAsWord_27 : decode cX7_standsAsWord 27 = .ok (.ifCond .ne 7, 3) := by decide +kernel
theorem dX7_standsAsWord_30 : decode cX7_standsAsWord 30 = .ok (.iconst 1, 1) := by decide +kernel
theorem dX7_standsAsWord_31 : decode cX7_standsAsWord 31 = .ok (.goto 4, 3) := by decide +kernel
theorem dX7_standsAsWord_34 : decode cX7_standsAsWord 34 = .ok (.iconst 0, 1) := by decide +kernel
theorem dX7_standsAsWord_35 : decode cX7_standsAsWord 35 = .ok (.ireturn, 1) := by decide +kernel
theorem dX7_standsAsWord_36 : decode cX7_standsAsWord 36 = .ok (.aload_n 0, 1) := by decide +kernel
theorem dX7_standsAsWord_37 : decode cX7_standsAsWord 37 = .ok (.ldc 103, 2) := by decide +kernel
theorem dX7_standsAsWord_39 : decode cX7_standsAsWord 39 = .ok (.invokevirtual 99, 3) := by decide +kernel
theorem dX7_standsAsWord_42 : decode cX7_standsAsWord 42 = .ok (.ifCond .eq 26, 3) := by decide +kernel
theorem dX7_standsAsWord_45 : decode cX7_standsAsWord 45 = .ok (.aload_n 0, 1) := by decide +kernel
theorem dX7_standsAsWord_46 : decode cX7_standsAsWord 46 = .ok (.iconst 2, 1) := by decide +kernel
theorem dX7_standsAsWord_47 : decode cX7_standsAsWord 47 = .ok (.putfield 40, 3) := by decide +kernel
theorem dX7_standsAsWord_50 : decode cX7_standsAsWord 50 = .ok (.aload_n 0, 1) := by decide +kernel
theorem dX7_standsAsWord_51 : decode cX7_standsAsWord 51 = .ok (.iconst 1, 1) := by decide +kernel
theorem dX7_standsAsWord_52 : decode cX7_standsAsWord 52 = .ok (.putfield 55, 3) := by decide +kernel
theorem dX7_standsAsWord_55 : decode cX7_standsAsWord 55 = .ok (.aload_n 0, 1) := by decide +kernel
theorem dX7_standsAsWord_56 : decode cX7_standsAsWord 56 = .ok (.getfield 43, 3) := by decide +kernel
theorem dX7_standsAsWord_59 : decode cX7_standsAsWord 59 = .ok (.ifCond .le 7, 3) := by decide +kernel
theorem dX7_standsAsWord_62 : decode cX7_standsAsWord 62 = .ok (.iconst 1, 1) := by decide +kernel
theorem dX7_standsAsWord_63 : decode cX7_standsAsWord 63 = .ok (.goto 4, 3) := by decide +kernel
theorem dX7_standsAsWord_66 : decode cX7_standsAsWord 66 = .ok (.iconst 0, 1) := by decide +kernel
theorem dX7_standsAsWord_67 : decode cX7_standsAsWord 67 = .ok (.ireturn, 1) := by decide +kernel
theorem dX7_standsAsWord_68 : decode cX7_standsAsWord 68 = .ok (.aload_n 0, 1) := by decide +kernel
theorem dX7_standsAsWord_69 : decode cX7_standsAsWord 69 = .ok (.ldc 105, 2) := by decide +kernel
theorem dX7_standsAsWord_71 : decode cX7_standsAsWord 71 = .ok (.invokevirtual 99, 3) := by decide +kernel
theorem dX7_standsAsWord_74 : decode cX7_standsAsWord 74 = .ok (.ifCond .eq 28, 3) := by decide +kernel
theorem dX7_standsAsWord_77 : decode cX7_standsAsWord 77 = .ok (.aload_n 0, 1) := by decide +kernel
theorem dX7_standsAsWord_78 : decode cX7_standsAsWord 78 = .ok (.getfield 59, 3) := by decide +kernel
theorem dX7_standsAsWord_81 : decode cX7_standsAsWord 81 = .ok (.istore_n 1, 1) := by decide +kernel
theorem dX7_standsAsWord_82 : decode cX7_standsAsWord 82 = .ok (.aload_n 0, 1) := by decide +kernel
theorem dX7_standsAsWord_83 : decode cX7_standsAsWord 83 = .ok (.iconst 4, 1) := by decide +kernel
theorem dX7_standsAsWord_84 : decode cX7_standsAsWord 84 = .ok (.putfield 40, 3) := by decide +kernel
theorem dX7_standsAsWord_87 : decode cX7_standsAsWord 87 = .ok (.aload_n 0, 1) := by decide +kernel
theorem dX7_standsAsWord_88 : decode cX7_standsAsWord 88 = .ok (.iconst 1, 1) := by decide +kernel
theorem dX7_standsAsWord_89 : decode cX7_standsAsWord 89 = .ok (.putfield 59, 3) := by decide +kernel
theorem dX7_standsAsWord_92 : decode cX7_standsAsWord 92 = .ok (.iload_n 1, 1) := by decide +kernel
theorem dX7_standsAsWord_93 : decode cX7_standsAsWord 93 = .ok (.ifCond .ne 7, 3) := by decide +kernel
theorem dX7_standsAsWord_96 : decode cX7_standsAsWord 96 = .ok (.iconst 1, 1) := by decide +kernel
theorem dX7_standsAsWord_97 : decode cX7_standsAsWord 97 = .ok (.goto 4, 3) := by decide +kernel
theorem dX7_standsAsWord_100 : decode cX7_standsAsWord 100 = .ok (.iconst 0, 1) := by decide +kernel
theorem dX7_standsAsWord_101 : decode cX7_standsAsWord 101 = .ok (.ireturn, 1) := by decide +kernel
theorem dX7_standsAsWord_102 : decode cX7_standsAsWord 102 = .ok (.iconst 0, 1) := by decide +kernel
theorem dX7_standsAsWord_103 : decode cX7_standsAsWord 103 = .ok (.ireturn, 1) := by decide +kernel
set_option maxRecDepth 20000 in
theorem ggX7_isWord_J0_length_8abf5 : GoodIn wsX7_isWord wsJ0_length_8abf5 := goodIn_r _ [7, 8, 9, 10, 11, 6, 12, 13, 14] (by decide +kernel) (by decide +kernel)
set_option maxRecDepth 20000 in
theorem gX7_isWord_J0_length_8abf5 : GoodIn wsX7_isWord (wsV RX7 106 RJ0 yJ0_length_8abf5 wsJ0_length_8abf5) := goodIn_app (goodIn_of _ (by decide +kernel)) ggX7_isWord_J0_length_8abf5
set_option maxRecDepth 20000 in
theorem ggX7_isWord_X7_letterAt : GoodIn wsX7_isWord wsX7_letterAt := goodIn_r _ [19, 20, 21, 59, 60, 61, 62, 63, 64, 65, 66, 67, 68, 69] (by decide +kernel) (by decide +kernel)
set_option maxRecDepth 20000 in
theorem gX7_isWord_X7_letterAt : GoodIn wsX7_isWord (wsV RX7 62 RX7 yX7_letterAt wsX7_letterAt) := goodIn_app (goodIn_of _ (by decide +kernel)) ggX7_isWord_X7_letterAt
set_option maxRecDepth 20000 in
theorem ggX7_isWord_J0_charAt_5068e : GoodIn wsX7_isWord wsJ0_charAt_5068e := goodIn_r _ [25, 8, 26, 27, 28, 6, 29, 13, 14, 30, 31, 32, 33, 34, 35, 36, 37, 38, 39, 40, 41, 42, 43, 44, 45, 46, 47, 48, 49, 50, 51, 52, 53, 54, 55, 56, 57, 58] (by decide +kernel) (by decide +kernel)
set_option maxRecDepth 20000 in
theorem gX7_isWord_J0_charAt_5068e : GoodIn wsX7_isWord (wsV RX7 110 RJ0 yJ0_charAt_5068e wsJ0_charAt_5068e) := goodIn_app (goodIn_of _ (by decide +kernel)) ggX7_isWord_J0_charAt_5068e
theorem dX7_isWord_0 : decode cX7_isWord 0 = .ok (.aload_n 0, 1) := by decide +kernel
theorem dX7_isWord_1 : decode cX7_isWord 1 = .ok (.getfield 49, 3) := by decide +kernel
theorem dX7_isWord_4 : decode cX7_isWord 4 = .ok (.aload_n 0, 1) := by decide +kernel
theorem dX7_isWord_5 : decode cX7_isWord 5 = .ok (.getfield 33, 3) := by decide +kernel
theorem dX7_isWord_8 : decode cX7_isWord 8 = .ok (.isub, 1) := by decide +kernel
theorem dX7_isWord_9 : decode cX7_isWord 9 = .ok (.aload_n 1, 1) := by decide +kernel
theorem dX7_isWord_10 : decode cX7_isWord 10 = .ok (.invokevirtual 106, 3) := by decide +kernel
theorem dX7_isWord_13 : decode cX7_isWord 13 = .ok (.if_icmp .eq 5, 3) := by decide +kernel
theorem dX7_isWord_16 : decode cX7_isWord 16 = .ok (.iconst 0, 1) := by decide +kernel
theorem dX7_isWord_17 : decode cX7_isWord 17 = .ok (.ireturn, 1) := by decide +kernel
theorem dX7_isWord_18 : decode cX7_isWord 18 = .ok (.iconst 0, 1) := by decide +kernel
theorem dX7_isWord_19 : decode cX7_isWord 19 = .ok (.istore_n 2, 1) := by decide +kernel
theorem dX7_isWord_20 : decode cX7_isWord 20 = .ok (.iload_n 2, 1) := by decide +kernel
theorem dX7_isWord_21 : decode cX7_isWord 21 = .ok (.aload_n 1, 1) := by decide +kernel
theorem dX7_isWord_22 : decode cX7_isWord 22 = .ok (.invokevirtual 106, 3) := by decide +kernel
theorem dX7_isWord_25 : decode cX7_isWord 25 = .ok (.if_icmp .ge 29, 3) := by decide +kernel
theorem dX7_isWord_28 : decode cX7_isWord 28 = .ok (.aload_n 0, 1) := by decide +kernel
theorem dX7_isWord_29 : decode cX7_isWord 29 = .ok (.aload_n 0, 1) := by decide +kernel
theorem dX7_isWord_30 : decode cX7_isWord 30 = .ok (.getfield 33, 3) := by decide +kernel
theorem dX7_isWord_33 : decode cX7_isWord 33 = .ok (.iload_n 2, 1) := by decide +kernel
theorem dX7_isWord_34 : decode cX7_isWord 34 = .ok (.iadd, 1) := by decide +kernel
theorem dX7_isWord_35 : decode cX7_isWord 35 = .ok (.invokevirtual 62, 3) := by decide +kernel
theorem dX7_isWord_38 : decode cX7_isWord 38 = .ok (.aload_n 1, 1) := by decide +kernel
theorem dX7_isWord_39 : decode cX7_isWord 39 = .ok (.iload_n 2, 1) := by decide +kernel
theorem dX7_isWord_40 : decode cX7_isWord 40 = .ok (.invokevirtual 110, 3) := by decide +kernel
theorem dX7_isWord_43 : decode cX7_isWord 43 = .ok (.if_icmp .eq 5, 3) := by decide +kernel
theorem dX7_isWord_46 : decode cX7_isWord 46 = .ok (.iconst 0, 1) := by decide +kernel
theorem dX7_isWord_47 : decode cX7_isWord 47 = .ok (.ireturn, 1) := by decide +kernel
theorem dX7_isWord_48 : decode cX7_isWord 48 = .ok (.iinc 2 1, 3) := by decide +kernel
theorem dX7_isWord_51 : decode cX7_isWord 51 = .ok (.goto (-31), 3) := by decide +kernel
theorem dX7_isWord_54 : decode cX7_isWord 54 = .ok (.iconst 1, 1) := by decide +kernel
theorem dX7_isWord_55 : decode cX7_isWord 55 = .ok (.ireturn, 1) := by decide +kernel
set_option maxRecDepth 20000 in
theorem ggX7_standsAsRow_X7_letterAt : GoodIn wsX7_standsAsRow wsX7_letterAt := goodIn_r _ [9, 10, 11, 31, 32, 33, 34, 35, 36, 37, 38, 39, 40, 41] (by decide +kernel) (by decide +kernel)
set_option maxRecDepth 20000 in
theorem gX7_standsAsRow_X7_letterAt : GoodIn wsX7_standsAsRow (wsV RX7 62 RX7 yX7_letterAt wsX7_letterAt) := goodIn_app (goodIn_of _ (by decide +kernel)) ggX7_standsAsRow_X7_letterAt
set_option maxRecDepth 20000 in
theorem ggX7_standsAsRow_X8_isHeight : GoodIn wsX7_standsAsRow wsX8_isHeight := goodIn_r _ [14] (by decide +kernel) (by decide +kernel)
set_option maxRecDepth 20000 in
theorem gX7_standsAsRow_X8_isHeight_n93 : GoodIn wsX7_standsAsRow (wsX8_isHeight) := ggX7_standsAsRow_X8_isHeight
set_option maxRecDepth 20000 in
theorem ggX7_standsAsRow_X0_numberOf : GoodIn wsX7_standsAsRow wsX0_numberOf := goodIn_r _ [19, 20, 42, 43, 44, 45, 46] (by decide +kernel) (by decide +kernel)
set_option maxRecDepth 20000 in
theorem gX7_standsAsRow_X0_numberOf : GoodIn wsX7_standsAsRow (wsV RX7 116 RX0 yX0_numberOf wsX0_numberOf) := goodIn_app (goodIn_of _ (by decide +kernel)) ggX7_standsAsRow_X0_numberOf
set_option maxRecDepth 20000 in
theorem ggX7_standsAsRow_X0_setHeight : GoodIn wsX7_standsAsRow wsX0_setHeight := goodIn_r _ [24, 25, 26, 27, 28, 29, 18, 30, 42, 43, 44, 45, 46] (by decide +kernel) (by decide +kernel)
set_option maxRecDepth 20000 in
theorem gX7_standsAsRow_X0_setHeight : GoodIn wsX7_standsAsRow (wsV RX7 120 RX0 yX0_setHeight wsX0_setHeight) := goodIn_app (goodIn_of _ (by decide +kernel)) ggX7_standsAsRow_X0_setHeight
theorem dX7_standsAsRow_0 : decode cX7_standsAsRow 0 = .ok (.aload_n 0, 1) := by decide +kernel
theorem dX7_standsAsRow_1 : decode cX7_standsAsRow 1 = .ok (.getfield 49, 3) := by decide +kernel
theorem dX7_standsAsRow_4 : decode cX7_standsAsRow 4 = .ok (.aload_n 0, 1) := by decide +kernel
theorem dX7_standsAsRow_5 : decode cX7_standsAsRow 5 = .ok (.getfield 33, 3) := by decide +kernel
theorem dX7_standsAsRow_8 : decode cX7_standsAsRow 8 = .ok (.isub, 1) := by decide +kernel
theorem dX7_standsAsRow_9 : decode cX7_standsAsRow 9 = .ok (.istore_n 2, 1) := by decide +kernel
theorem dX7_standsAsRow_10 : decode cX7_standsAsRow 10 = .ok (.iload_n 2, 1) := by decide +kernel
theorem dX7_standsAsRow_11 : decode cX7_standsAsRow 11 = .ok (.iconst 4, 1) := by decide +kernel
theorem dX7_standsAsRow_12 : decode cX7_standsAsRow 12 = .ok (.if_icmp .gt 18, 3) := by decide +kernel
theorem dX7_standsAsRow_15 : decode cX7_standsAsRow 15 = .ok (.aload_n 0, 1) := by decide +kernel
theorem dX7_standsAsRow_16 : decode cX7_standsAsRow 16 = .ok (.getfield 43, 3) := by decide +kernel
theorem dX7_standsAsRow_19 : decode cX7_standsAsRow 19 = .ok (.ifCond .le 13, 3) := by decide +kernel
theorem dX7_standsAsRow_22 : decode cX7_standsAsRow 22 = .ok (.iload_n 2, 1) := by decide +kernel
theorem dX7_standsAsRow_23 : decode cX7_standsAsRow 23 = .ok (.aload_n 1, 1) := by decide +kernel
theorem dX7_standsAsRow_24 : decode cX7_standsAsRow 24 = .ok (.getfield 84, 3) := by decide +kernel
theorem dX7_standsAsRow_27 : decode cX7_standsAsRow 27 = .ok (.if_icmp .eq 5, 3) := by decide +kernel
theorem dX7_standsAsRow_30 : decode cX7_standsAsRow 30 = .ok (.iconst 0, 1) := by decide +kernel
theorem dX7_standsAsRow_31 : decode cX7_standsAsRow 31 = .ok (.ireturn, 1) := by decide +kernel
theorem dX7_standsAsRow_32 : decode cX7_standsAsRow 32 = .ok (.aload_n 1, 1) := by decide +kernel
theorem dX7_standsAsRow_33 : decode cX7_standsAsRow 33 = .ok (.iload_n 2, 1) := by decide +kernel
theorem dX7_standsAsRow_34 : decode cX7_standsAsRow 34 = .ok (.putfield 84, 3) := by decide +kernel
theorem dX7_standsAsRow_37 : decode cX7_standsAsRow 37 = .ok (.aload_n 1, 1) := by decide +kernel
theorem dX7_standsAsRow_38 : decode cX7_standsAsRow 38 = .ok (.aload_n 0, 1) := by decide +kernel
theorem dX7_standsAsRow_39 : decode cX7_standsAsRow 39 = .ok (.getfield 43, 3) := by decide +kernel
theorem dX7_standsAsRow_42 : decode cX7_standsAsRow 42 = .ok (.iconst 1, 1) := by decide +kernel
theorem dX7_standsAsRow_43 : decode cX7_standsAsRow 43 = .ok (.iadd, 1) := by decide +kernel
theorem dX7_standsAsRow_44 : decode cX7_standsAsRow 44 = .ok (.putfield 113, 3) := by decide +kernel
theorem dX7_standsAsRow_47 : decode cX7_standsAsRow 47 = .ok (.iconst 0, 1) := by decide +kernel
theorem dX7_standsAsRow_48 : decode cX7_standsAsRow 48 = .ok (.istore_n 3, 1) := by decide +kernel
theorem dX7_standsAsRow_49 : decode cX7_standsAsRow 49 = .ok (.iload_n 3, 1) := by decide +kernel
theorem dX7_standsAsRow_50 : decode cX7_standsAsRow 50 = .ok (.iload_n 2, 1) := by decide +kernel
theorem dX7_standsAsRow_51 : decode cX7_standsAsRow 51 = .ok (.if_icmp .ge 49, 3) := by decide +kernel
theorem dX7_standsAsRow_54 : decode cX7_standsAsRow 54 = .ok (.aload_n 0, 1) := by decide +kernel
theorem dX7_standsAsRow_55 : decode cX7_standsAsRow 55 = .ok (.aload_n 0, 1) := by decide +kernel
theorem dX7_standsAsRow_56 : decode cX7_standsAsRow 56 = .ok (.getfield 33, 3) := by decide +kernel
theorem dX7_standsAsRow_59 : decode cX7_standsAsRow 59 = .ok (.iload_n 3, 1) := by decide +kernel
theorem dX7_standsAsRow_60 : decode cX7_standsAsRow 60 = .ok (.iadd, 1) := by decide +kernel
theorem dX7_standsAsRow_61 : decode cX7_standsAsRow 61 = .ok (.invokevirtual 62, 3) := by decide +kernel
theorem dX7_standsAsRow_64 : decode cX7_standsAsRow 64 = .ok (.bipush 48, 2) := by decide +kernel
theorem dX7_standsAsRow_66 : decode cX7_standsAsRow 66 = .ok (.isub, 1) := by decide +kernel
theorem dX7_standsAsRow_67 : decode cX7_standsAsRow 67 = .ok (.istore 4, 2) := by decide +kernel
theorem dX7_standsAsRow_69 : decode cX7_standsAsRow 69 = .ok (.iload 4, 2) := by decide +kernel
theorem dX7_standsAsRow_71 : decode cX7_standsAsRow 71 = .ok (.invokestatic 93, 3) := by decide +kernel
theorem dX7_standsAsRow_74 : decode cX7_standsAsRow 74 = .ok (.ifCond .ne 5, 3) := by decide +kernel
theorem dX7_standsAsRow_77 : decode cX7_standsAsRow 77 = .ok (.iconst 0, 1) := by decide +kernel
theorem dX7_standsAsRow_78 : decode cX7_standsAsRow 78 = .ok (.ireturn, 1) := by decide +kernel
theorem dX7_standsAsRow_79 : decode cX7_standsAsRow 79 = .ok (.aload_n 1, 1) := by decide +kernel
theorem dX7_standsAsRow_80 : decode cX7_standsAsRow 80 = .ok (.aload_n 1, 1) := by decide +kernel
theorem dX7_standsAsRow_81 : decode cX7_standsAsRow 81 = .ok (.iload_n 3, 1) := by decide +kernel
theorem dX7_standsAsRow_82 : decode cX7_standsAsRow 82 = .ok (.aload_n 0, 1) := by decide +kernel
theorem dX7_standsAsRow_83 : decode cX7_standsAsRow 83 = .ok (.getfield 43, 3) := by decide +kernel
theorem dX7_standsAsRow_86 : decode cX7_standsAsRow 86 = .ok (.invokevirtual 116, 3) := by decide +kernel
theorem dX7_standsAsRow_89 : decode cX7_standsAsRow 89 = .ok (.iload 4, 2) := by decide +kernel
theorem dX7_standsAsRow_91 : decode cX7_standsAsRow 91 = .ok (.invokevirtual 120, 3) := by decide +kernel
theorem dX7_standsAsRow_94 : decode cX7_standsAsRow 94 = .ok (.iinc 3 1, 3) := by decide +kernel
theorem dX7_standsAsRow_97 : decode cX7_standsAsRow 97 = .ok (.goto (-48), 3) := by decide +kernel
theorem dX7_standsAsRow_100 : decode cX7_standsAsRow 100 = .ok (.aload_n 0, 1) := by decide +kernel
theorem dX7_standsAsRow_101 : decode cX7_standsAsRow 101 = .ok (.dup, 1) := by decide +kernel
theorem dX7_standsAsRow_102 : decode cX7_standsAsRow 102 = .ok (.getfield 43, 3) := by decide +kernel
theorem dX7_standsAsRow_105 : decode cX7_standsAsRow 105 = .ok (.iconst 1, 1) := by decide +kernel
theorem dX7_standsAsRow_106 : decode cX7_standsAsRow 106 = .ok (.iadd, 1) := by decide +kernel
theorem dX7_standsAsRow_107 : decode cX7_standsAsRow 107 = .ok (.putfield 43, 3) := by decide +kernel
theorem dX7_standsAsRow_110 : decode cX7_standsAsRow 110 = .ok (.aload_n 0, 1) := by decide +kernel
theorem dX7_standsAsRow_111 : decode cX7_standsAsRow 111 = .ok (.iconst 5, 1) := by decide +kernel
theorem dX7_standsAsRow_112 : decode cX7_standsAsRow 112 = .ok (.putfield 40, 3) := by decide +kernel
theorem dX7_standsAsRow_115 : decode cX7_standsAsRow 115 = .ok (.iconst 1, 1) := by decide +kernel
theorem dX7_standsAsRow_116 : decode cX7_standsAsRow 116 = .ok (.ireturn, 1) := by decide +kernel
set_option maxRecDepth 20000 in
theorem ggX7_standsAsFixRow_X7_figure : GoodIn wsX7_standsAsFixRow wsX7_figure := goodIn_r _ [7, 8, 9, 10, 11, 12, 6, 13, 14, 15, 16, 17, 18, 39, 40, 41, 42, 43, 44, 45, 46, 47, 48, 49] (by decide +kernel) (by decide +kernel)
set_option maxRecDepth 20000 in
theorem gX7_standsAsFixRow_X7_figure : GoodIn wsX7_standsAsFixRow (wsV RX7 77 RX7 yX7_figure wsX7_figure) := goodIn_app (goodIn_of _ (by decide +kernel)) ggX7_standsAsFixRow_X7_figure
set_option maxRecDepth 20000 in
theorem ggX7_standsAsFixRow_X0_has : GoodIn wsX7_standsAsFixRow wsX0_has := goodIn_r _ [23, 24, 25, 50, 51, 52, 53, 54] (by decide +kernel) (by decide +kernel)
set_option maxRecDepth 20000 in
theorem gX7_standsAsFixRow_X0_has : GoodIn wsX7_standsAsFixRow (wsV RX7 124 RX0 yX0_has wsX0_has) := goodIn_app (goodIn_of _ (by decide +kernel)) ggX7_standsAsFixRow_X0_has
set_option maxRecDepth 20000 in
theorem ggX7_standsAsFixRow_X0_numberOf : GoodIn wsX7_standsAsFixRow wsX0_numberOf := goodIn_r _ [29, 24, 50, 51, 52, 53, 54] (by decide +kernel) (by decide +kernel)
set_option maxRecDepth 20000 in
theorem gX7_standsAsFixRow_X0_numberOf : GoodIn wsX7_standsAsFixRow (wsV RX7 116 RX0 yX0_numberOf wsX0_numberOf) := goodIn_app (goodIn_of _ (by decide +kernel)) ggX7_standsAsFixRow_X0_numberOf
set_option maxRecDepth 20000 in
theorem ggX7_standsAsFixRow_X0_setFixed : GoodIn wsX7_standsAsFixRow wsX0_setFixed := goodIn_r _ [33, 34, 35, 36, 37, 22, 38, 50, 51, 52, 53, 54] (by decide +kernel) (by decide +kernel)
set_option maxRecDepth 20000 in
theorem gX7_standsAsFixRow_X0_setFixed : GoodIn wsX7_standsAsFixRow (wsV RX7 128 RX0 yX0_setFixed wsX0_setFixed) := goodIn_app (goodIn_of _ (by decide +kernel)) ggX7_standsAsFixRow_X0_setFixed
theorem dX7_standsAsFixRow_0 : decode cX7_standsAsFixRow 0 = .ok (.aload_n 0, 1) := by decide +kernel
theorem dX7_standsAsFixRow_1 : decode cX7_standsAsFixRow 1 = .ok (.invokevirtual 77, 3) := by decide +kernel
theorem dX7_standsAsFixRow_4 : decode cX7_standsAsFixRow 4 = .ok (.istore_n 2, 1) := by decide +kernel
theorem dX7_standsAsFixRow_5 : decode cX7_standsAsFixRow 5 = .ok (.aload_n 0, 1) := by decide +kernel
theorem dX7_standsAsFixRow_6 : decode cX7_standsAsFixRow 6 = .ok (.iconst 5, 1) := by decide +kernel
theorem dX7_standsAsFixRow_7 : decode cX7_standsAsFixRow 7 = .ok (.putfield 40, 3) := by decide +kernel
theorem dX7_standsAsFixRow_10 : decode cX7_standsAsFixRow 10 = .ok (.aload_n 1, 1) := by decide +kernel
theorem dX7_standsAsFixRow_11 : decode cX7_standsAsFixRow 11 = .ok (.aload_n 0, 1) := by decide +kernel
theorem dX7_standsAsFixRow_12 : decode cX7_standsAsFixRow 12 = .ok (.getfield 81, 3) := by decide +kernel
theorem dX7_standsAsFixRow_15 : decode cX7_standsAsFixRow 15 = .ok (.iload_n 2, 1) := by decide +kernel
theorem dX7_standsAsFixRow_16 : decode cX7_standsAsFixRow 16 = .ok (.invokevirtual 124, 3) := by decide +kernel
theorem dX7_standsAsFixRow_19 : decode cX7_standsAsFixRow 19 = .ok (.ifCond .ne 5, 3) := by decide +kernel
theorem dX7_standsAsFixRow_22 : decode cX7_standsAsFixRow 22 = .ok (.iconst 0, 1) := by decide +kernel
theorem dX7_standsAsFixRow_23 : decode cX7_standsAsFixRow 23 = .ok (.ireturn, 1) := by decide +kernel
theorem dX7_standsAsFixRow_24 : decode cX7_standsAsFixRow 24 = .ok (.aload_n 1, 1) := by decide +kernel
theorem dX7_standsAsFixRow_25 : decode cX7_standsAsFixRow 25 = .ok (.aload_n 1, 1) := by decide +kernel
theorem dX7_standsAsFixRow_26 : decode cX7_standsAsFixRow 26 = .ok (.aload_n 0, 1) := by decide +kernel
theorem dX7_standsAsFixRow_27 : decode cX7_standsAsFixRow 27 = .ok (.getfield 81, 3) := by decide +kernel
theorem dX7_standsAsFixRow_30 : decode cX7_standsAsFixRow 30 = .ok (.iload_n 2, 1) := by decide +kernel
theorem dX7_standsAsFixRow_31 : decode cX7_standsAsFixRow 31 = .ok (.invokevirtual 116, 3) := by decide +kernel
theorem dX7_standsAsFixRow_34 : decode cX7_standsAsFixRow 34 = .ok (.iconst 1, 1) := by decide +kernel
theorem dX7_standsAsFixRow_35 : decode cX7_standsAsFixRow 35 = .ok (.invokevirtual 128, 3) := by decide +kernel
theorem dX7_standsAsFixRow_38 : decode cX7_standsAsFixRow 38 = .ok (.iconst 1, 1) := by decide +kernel
theorem dX7_standsAsFixRow_39 : decode cX7_standsAsFixRow 39 = .ok (.ireturn, 1) := by decide +kernel
set_option maxRecDepth 20000 in
theorem ggX7_figure_X7_letterAt : GoodIn wsX7_figure wsX7_letterAt := goodIn_r _ [7, 8, 9, 13, 14, 15, 16, 17, 18, 19, 20, 21, 22, 23] (by decide +kernel) (by decide +kernel)
set_option maxRecDepth 20000 in
theorem gX7_figure_X7_letterAt : GoodIn wsX7_figure (wsV RX7 62 RX7 yX7_letterAt wsX7_letterAt) := goodIn_app (goodIn_of _ (by decide +kernel)) ggX7_figure_X7_letterAt
set_option maxRecDepth 20000 in
theorem ggX7_figure_X7_sortOf : GoodIn wsX7_figure wsX7_sortOf := goodIn_r _ [12] (by decide +kernel) (by decide +kernel)
set_option maxRecDepth 20000 in
theorem gX7_figure_X7_sortOf : GoodIn wsX7_figure (va_wsS RX7 66 yX7_sortOf wsX7_sortOf) := goodIn_app (goodIn_of _ (by decide +kernel)) ggX7_figure_X7_sortOf
theorem dX7_figure_0 : decode cX7_figure 0 = .ok (.aload_n 0, 1) := by decide +kernel
theorem dX7_figure_1 : decode cX7_figure 1 = .ok (.getfield 49, 3) := by decide +kernel
theorem dX7_figure_4 : decode cX7_figure 4 = .ok (.aload_n 0, 1) := by decide +kernel
theorem dX7_figure_5 : decode cX7_figure 5 = .ok (.getfield 33, 3) := by decide +kernel
theorem dX7_figure_8 : decode cX7_figure 8 = .ok (.isub, 1) := by decide +kernel
theorem dX7_figure_9 : decode cX7_figure 9 = .ok (.iconst 1, 1) := by decide +kernel
theorem dX7_figure_10 : decode cX7_figure 10 = .ok (.if_icmp .ne 32, 3) := by decide +kernel
theorem dX7_figure_13 : decode cX7_figure 13 = .ok (.aload_n 0, 1) := by decide +kernel
theorem dX7_figure_14 : decode cX7_figure 14 = .ok (.aload_n 0, 1) := by decide +kernel
theorem dX7_figure_15 : decode cX7_figure 15 = .ok (.getfield 33, 3) := by decide +kernel
theorem dX7_figure_18 : decode cX7_figure 18 = .ok (.invokevirtual 62, 3) := by decide +kernel
theorem dX7_figure_21 : decode cX7_figure 21 = .ok (.invokestatic 66, 3) := by decide +kernel
theorem dX7_figure_24 : decode cX7_figure 24 = .ok (.iconst 1, 1) := by decide +kernel
theorem dX7_figure_25 : decode cX7_figure 25 = .ok (.if_icmp .ne 17, 3) := by decide +kernel
theorem dX7_figure_28 : decode cX7_figure 28 = .ok (.aload_n 0, 1) := by decide +kernel
theorem dX7_figure_29 : decode cX7_figure 29 = .ok (.aload_n 0, 1) := by decide +kernel
theorem dX7_figure_30 : decode cX7_figure 30 = .ok (.getfield 33, 3) := by decide +kernel
theorem dX7_figure_33 : decode cX7_figure 33 = .ok (.invokevirtual 62, 3) := by decide +kernel
theorem dX7_figure_36 : decode cX7_figure 36 = .ok (.bipush 48, 2) := by decide +kernel
theorem dX7_figure_38 : decode cX7_figure 38 = .ok (.isub, 1) := by decide +kernel
theorem dX7_figure_39 : decode cX7_figure 39 = .ok (.goto 4, 3) := by decide +kernel
theorem dX7_figure_42 : decode cX7_figure 42 = .ok (.iconst (-1), 1) := by decide +kernel
theorem dX7_figure_43 : decode cX7_figure 43 = .ok (.ireturn, 1) := by decide +kernel
set_option maxRecDepth 20000 in
theorem ggX8_init_X0_init : GoodIn wsX8_init wsX0_init := goodIn_r _ [35, 36, 2, 3, 37, 38, 39, 100, 101, 102, 103, 104] (by decide +kernel) (by decide +kernel)
set_option maxRecDepth 20000 in
theorem gX8_init_X0_init : GoodIn wsX8_init (wsX0_init) := ggX8_init_X0_init
set_option maxRecDepth 20000 in
theorem ggX8_init_X7_init : GoodIn wsX8_init wsX7_init := goodIn_r _ [42, 43, 2, 3, 44, 45, 46, 5, 6, 47, 48, 34, 35, 36, 37, 38, 39, 113, 114, 115, 116, 117, 118, 119, 120, 121, 122, 123, 100, 101, 102, 103, 104] (by decide +kernel) (by decide +kernel)
set_option maxRecDepth 20000 in
theorem gX8_init_X7_init : GoodIn wsX8_init (wsX7_init) := ggX8_init_X7_init
set_option maxRecDepth 20000 in
theorem ggX8_init_X4_init : GoodIn wsX8_init wsX4_init := goodIn_r _ [51, 52, 2, 3, 53, 54, 55, 56, 57, 58, 59, 60, 61, 62, 63, 64, 65, 66, 5, 6, 67, 34, 35, 36, 37, 38, 39, 143, 124, 125, 100, 101, 102, 103, 104] (by decide +kernel) (by decide +kernel)
set_option maxRecDepth 20000 in
theorem gX8_init_X4_init : GoodIn wsX8_init (wsX4_init) := ggX8_init_X4_init
set_option maxRecDepth 20000 in
theorem ggX8_init_X1_init : GoodIn wsX8_init wsX1_init := goodIn_r _ [70, 71, 2, 3, 72, 54, 55, 73, 74, 58, 59, 60, 61, 62, 63, 64, 65, 66, 5, 6, 67, 34, 35, 36, 37, 38, 39, 143, 126, 127, 100, 101, 102, 103, 104] (by decide +kernel) (by decide +kernel)
set_option maxRecDepth 20000 in
theorem gX8_init_X1_init : GoodIn wsX8_init (wsX1_init) := ggX8_init_X1_init
set_option maxRecDepth 20000 in
theorem ggX8_init_X2_init : GoodIn wsX8_init wsX2_init := goodIn_r _ [77, 78, 2, 3, 79, 80, 81, 128, 129, 130] (by decide +kernel) (by decide +kernel)
set_option maxRecDepth 20000 in
theorem gX8_init_X2_init : GoodIn wsX8_init (wsX2_init) := ggX8_init_X2_init
set_option maxRecDepth 20000 in
theorem ggX8_init_X3_init : GoodIn wsX8_init wsX3_init := goodIn_r _ [84, 85, 2, 3, 86, 5, 6, 87, 79, 88, 89, 90, 91, 92, 34, 35, 36, 37, 38, 39, 100, 101, 102, 103, 104, 131, 132, 133, 134, 135, 136, 137, 138] (by decide +kernel) (by decide +kernel)
set_option maxRecDepth 20000 in
theorem gX8_init_X3_init : GoodIn wsX8_init (wsX3_init) := ggX8_init_X3_init
set_option maxRecDepth 20000 in
theorem ggX8_init_X5_init : GoodIn wsX8_init wsX5_init := goodIn_r _ [95, 96, 2, 3, 79, 97, 98, 99, 139, 140, 141, 142] (by decide +kernel) (by decide +kernel)
set_option maxRecDepth 20000 in
theorem gX8_init_X5_init : GoodIn wsX8_init (wsX5_init) := ggX8_init_X5_init
theorem dX8_init_0 : decode cX8_init 0 = .ok (.aload_n 0, 1) := by decide +kernel
theorem dX8_init_1 : decode cX8_init 1 = .ok (.invokespecial 1, 3) := by decide +kernel
theorem dX8_init_4 : decode cX8_init 4 = .ok (.aload_n 0, 1) := by decide +kernel
theorem dX8_init_5 : decode cX8_init 5 = .ok (.new 7, 3) := by decide +kernel
theorem dX8_init_8 : decode cX8_init 8 = .ok (.dup, 1) := by decide +kernel
theorem dX8_init_9 : decode cX8_init 9 = .ok (.invokespecial 9, 3) := by decide +kernel
theorem dX8_init_12 : decode cX8_init 12 = .ok (.putfield 10, 3) := by decide +kernel
theorem dX8_init_15 : decode cX8_init 15 = .ok (.aload_n 0, 1) := by decide +kernel
theorem dX8_init_16 : decode cX8_init 16 = .ok (.new 7, 3) := by decide +kernel
theorem dX8_init_19 : decode cX8_init 19 = .ok (.dup, 1) := by decide +kernel
theorem dX8_init_20 : decode cX8_init 20 = .ok (.invokespecial 9, 3) := by decide +kernel
theorem dX8_init_23 : decode cX8_init 23 = .ok (.putfield 16, 3) := by decide +kernel
theorem dX8_init_26 : decode cX8_init 26 = .ok (.aload_n 0, 1) := by decide +kernel
theorem dX8_init_27 : decode cX8_init 27 = .ok (.new 19, 3) := by decide +kernel
theorem dX8_init_30 : decode cX8_init 30 = .ok (.dup, 1) := by decide +kernel
theorem dX8_init_31 : decode cX8_init 31 = .ok (.invokespecial 21, 3) := by decide +kernel
theorem dX8_init_34 : decode cX8_init 34 = .ok (.putfield 22, 3) := by decide +kernel
theorem dX8_init_37 : decode cX8_init 37 = .ok (.aload_n 0, 1) := by decide +kernel
theorem dX8_init_38 : decode cX8_init 38 = .ok (.new 26, 3) := by decide +kernel
theorem dX8_init_41 : decode cX8_init 41 = .ok (.dup, 1) := by decide +kernel
theorem dX8_init_42 : decode cX8_init 42 = .ok (.invokespecial 28, 3) := by decide +kernel
theorem dX8_init_45 : decode cX8_init 45 = .ok (.putfield 29, 3) := by decide +kernel
theorem dX8_init_48 : decode cX8_init 48 = .ok (.aload_n 0, 1) := by decide +kernel
theorem dX8_init_49 : decode cX8_init 49 = .ok (.new 33, 3) := by decide +kernel
theorem dX8_init_52 : decode cX8_init 52 = .ok (.dup, 1) := by decide +kernel
theorem dX8_init_53 : decode cX8_init 53 = .ok (.invokespecial 35, 3) := by decide +kernel
theorem dX8_init_56 : decode cX8_init 56 = .ok (.putfield 36, 3) := by decide +kernel
theorem dX8_init_59 : decode cX8_init 59 = .ok (.aload_n 0, 1) := by decide +kernel
theorem dX8_init_60 : decode cX8_init 60 = .ok (.new 40, 3) := by decide +kernel
theorem dX8_init_63 : decode cX8_init 63 = .ok (.dup, 1) := by decide +kernel
theorem dX8_init_64 : decode cX8_init 64 = .ok (.invokespecial 42, 3) := by decide +kernel
theorem dX8_init_67 : decode cX8_init 67 = .ok (.putfield 43, 3) := by decide +kernel
theorem dX8_init_70 : decode cX8_init 70 = .ok (.aload_n 0, 1) := by decide +kernel
theorem dX8_init_71 : decode cX8_init 71 = .ok (.new 47, 3) := by decide +kernel
theorem dX8_init_74 : decode cX8_init 74 = .ok (.dup, 1) := by decide +kernel
theorem dX8_init_75 : decode cX8_init 75 = .ok (.invokespecial 49, 3) := by decide +kernel
theorem dX8_init_78 : decode cX8_init 78 = .ok (.putfield 50, 3) := by decide +kernel
theorem dX8_init_81 : decode cX8_init 81 = .ok (.aload_n 0, 1) := by decide +kernel
theorem dX8_init_82 : decode cX8_init 82 = .ok (.new 54, 3) := by decide +kernel
theorem dX8_init_85 : decode cX8_init 85 = .ok (.dup, 1) := by decide +kernel
theorem dX8_init_86 : decode cX8_init 86 = .ok (.invokespecial 56, 3) := by decide +kernel
theorem dX8_init_89 : decode cX8_init 89 = .ok (.putfield 57, 3) := by decide +kernel
theorem dX8_init_92 : decode cX8_init 92 = .ok (.return_, 1) := by decide +kernel
set_option maxRecDepth 20000 in
theorem ggX8_type_X7_add : GoodIn wsX8_type wsX7_add := goodIn_r _ [6, 7, 8, 17, 18, 19, 20, 21, 22, 23, 24, 25, 26, 27] (by decide +kernel) (by decide +kernel)
set_option maxRecDepth 20000 in
theorem gX8_type_X7_add : GoodIn wsX8_type (wsV RX8 61 RX7 yX7_add wsX7_add) := goodIn_app (goodIn_of _ (by decide +kernel)) ggX8_type_X7_add
theorem dX8_type_0 : decode cX8_type 0 = .ok (.iload_n 1, 1) := by decide +kernel
theorem dX8_type_1 : decode cX8_type 1 = .ok (.ifCond .lt 10, 3) := by decide +kernel
theorem dX8_type_4 : decode cX8_type 4 = .ok (.iload_n 1, 1) := by decide +kernel
theorem dX8_type_5 : decode cX8_type 5 = .ok (.sipush 255, 3) := by decide +kernel
theorem dX8_type_8 : decode cX8_type 8 = .ok (.if_icmp .le 5, 3) := by decide +kernel
theorem dX8_type_11 : decode cX8_type 11 = .ok (.iconst (-1), 1) := by decide +kernel
theorem dX8_type_12 : decode cX8_type 12 = .ok (.ireturn, 1) := by decide +kernel
theorem dX8_type_13 : decode cX8_type 13 = .ok (.aload_n 0, 1) := by decide +kernel
theorem dX8_type_14 : decode cX8_type 14 = .ok (.getfield 22, 3) := by decide +kernel
theorem dX8_type_17 : decode cX8_type 17 = .ok (.iload_n 1, 1) := by decide +kernel
theorem dX8_type_18 : decode cX8_type 18 = .ok (.i2c, 1) := by decide +kernel
theorem dX8_type_19 : decode cX8_type 19 = .ok (.invokevirtual 61, 3) := by decide +kernel
theorem dX8_type_22 : decode cX8_type 22 = .ok (.ifCond .eq 13, 3) := by decide +kernel
theorem dX8_type_25 : decode cX8_type 25 = .ok (.aload_n 0, 1) := by decide +kernel
theorem dX8_type_26 : decode cX8_type 26 = .ok (.getfield 22, 3) := by decide +kernel
theorem dX8_type_29 : decode cX8_type 29 = .ok (.getfield 65, 3) := by decide +kernel
theorem dX8_type_32 : decode cX8_type 32 = .ok (.goto 5, 3) := by decide +kernel
theorem dX8_type_35 : decode cX8_type 35 = .ok (.bipush (-3), 2) := by decide +kernel
theorem dX8_type_37 : decode cX8_type 37 = .ok (.ireturn, 1) := by decide +kernel
theorem dX8_clear_0 : decode cX8_clear 0 = .ok (.aload_n 0, 1) := by decide +kernel
theorem dX8_clear_1 : decode cX8_clear 1 = .ok (.getfield 22, 3) := by decide +kernel
theorem dX8_clear_4 : decode cX8_clear 4 = .ok (.getfield 65, 3) := by decide +kernel
theorem dX8_clear_7 : decode cX8_clear 7 = .ok (.istore_n 1, 1) := by decide +kernel
theorem dX8_clear_8 : decode cX8_clear 8 = .ok (.aload_n 0, 1) := by decide +kernel
theorem dX8_clear_9 : decode cX8_clear 9 = .ok (.getfield 22, 3) := by decide +kernel
theorem dX8_clear_12 : decode cX8_clear 12 = .ok (.iconst 0, 1) := by decide +kernel
theorem dX8_clear_13 : decode cX8_clear 13 = .ok (.putfield 65, 3) := by decide +kernel
theorem dX8_clear_16 : decode cX8_clear 16 = .ok (.iload_n 1, 1) := by decide +kernel
theorem dX8_clear_17 : decode cX8_clear 17 = .ok (.ireturn, 1) := by decide +kernel
set_option maxRecDepth 20000 in
theorem ggX8_tells_X7_read : GoodIn wsX8_tells wsX7_read := goodIn_r _ [7, 8, 9, 10, 11, 12, 13, 14, 6, 15, 16, 17, 18, 19, 20, 21, 22, 23, 24, 25, 26, 27, 28, 29, 30, 31, 32, 33, 34, 35, 36, 37, 38, 39, 40, 41, 42, 43, 44, 45, 46, 47, 48, 49, 50, 51, 52, 53, 54, 55, 56, 57, 58, 59, 60, 61, 62, 63, 64, 65, 66, 67, 68, 69, 70, 71, 72, 73, 74, 75, 76, 77, 78, 79, 80, 81, 82, 83, 84, 85, 86, 87, 88, 89, 90, 91, 92, 93, 94, 95, 96, 97, 98, 99, 100, 101, 102, 103, 104, 105, 106, 107, 108, 109, 110, 111, 112, 113, 114, 115, 116, 117, 118, 119, 120, 121, 122, 123, 124, 125, 126, 127, 128, 129, 130, 131, 132, 133, 134, 135, 136, 137, 138, 139, 140, 179, 180, 181, 182, 183, 184, 185, 186, 187, 188, 189, 190, 191, 192, 193, 194] (by decide +kernel) (by decide +kernel)
set_option maxRecDepth 20000 in
theorem gX8_tells_X7_read : GoodIn wsX8_tells (wsV RX8 69 RX7 yX7_read wsX7_read) := goodIn_app (goodIn_of _ (by decide +kernel)) ggX8_tells_X7_read
set_option maxRecDepth 20000 in
theorem ggX8_tells_X8_draftIsDone : GoodIn wsX8_tells wsX8_draftIsDone := goodIn_r _ [144, 145, 146, 2, 147, 148, 149, 150, 151, 152, 153, 154, 155, 156, 157, 158, 159, 160, 161, 162, 163, 164, 165, 166, 167, 168, 22, 23, 24, 25, 26, 27, 28, 29, 30, 169, 170, 171, 172, 173, 174, 175, 176, 177, 178, 195, 196, 197, 190, 191, 192, 193, 194] (by decide +kernel) (by decide +kernel)
set_option maxRecDepth 20000 in
theorem gX8_tells_X8_draftIsDone : GoodIn wsX8_tells (wsV RX8 73 RX8 yX8_draftIsDone wsX8_draftIsDone) := goodIn_app (goodIn_of _ (by decide +kernel)) ggX8_tells_X8_draftIsDone
theorem dX8_tells_0 : decode cX8_tells 0 = .ok (.aload_n 0, 1) := by decide +kernel
theorem dX8_tells_1 : decode cX8_tells 1 = .ok (.getfield 22, 3) := by decide +kernel
theorem dX8_tells_4 : decode cX8_tells 4 = .ok (.aload_n 0, 1) := by decide +kernel
theorem dX8_tells_5 : decode cX8_tells 5 = .ok (.getfield 16, 3) := by decide +kernel
theorem dX8_tells_8 : decode cX8_tells 8 = .ok (.invokevirtual 69, 3) := by decide +kernel
theorem dX8_tells_11 : decode cX8_tells 11 = .ok (.istore_n 1, 1) := by decide +kernel
theorem dX8_tells_12 : decode cX8_tells 12 = .ok (.iload_n 1, 1) := by decide +kernel
theorem dX8_tells_13 : decode cX8_tells 13 = .ok (.iconst (-1), 1) := by decide +kernel
theorem dX8_tells_14 : decode cX8_tells 14 = .ok (.if_icmp .eq 8, 3) := by decide +kernel
theorem dX8_tells_17 : decode cX8_tells 17 = .ok (.bipush (-10), 2) := by decide +kernel
theorem dX8_tells_19 : decode cX8_tells 19 = .ok (.iload_n 1, 1) := by decide +kernel
theorem dX8_tells_20 : decode cX8_tells 20 = .ok (.isub, 1) := by decide +kernel
theorem dX8_tells_21 : decode cX8_tells 21 = .ok (.ireturn, 1) := by decide +kernel
theorem dX8_tells_22 : decode cX8_tells 22 = .ok (.aload_n 0, 1) := by decide +kernel
theorem dX8_tells_23 : decode cX8_tells 23 = .ok (.getfield 22, 3) := by decide +kernel
theorem dX8_tells_26 : decode cX8_tells 26 = .ok (.iconst 0, 1) := by decide +kernel
theorem dX8_tells_27 : decode cX8_tells 27 = .ok (.putfield 65, 3) := by decide +kernel
theorem dX8_tells_30 : decode cX8_tells 30 = .ok (.aload_n 0, 1) := by decide +kernel
theorem dX8_tells_31 : decode cX8_tells 31 = .ok (.invokevirtual 73, 3) := by decide +kernel
theorem dX8_tells_34 : decode cX8_tells 34 = .ok (.aload_n 0, 1) := by decide +kernel
theorem dX8_tells_35 : decode cX8_tells 35 = .ok (.getfield 22, 3) := by decide +kernel
theorem dX8_tells_38 : decode cX8_tells 38 = .ok (.getfield 76, 3) := by decide +kernel
theorem dX8_tells_41 : decode cX8_tells 41 = .ok (.ireturn, 1) := by decide +kernel
set_option maxRecDepth 20000 in
theorem ggX8_paints_X0_has : GoodIn wsX8_paints wsX0_has := goodIn_r _ [7, 8, 9, 74, 75, 76, 77, 78] (by decide +kernel) (by decide +kernel)
set_option maxRecDepth 20000 in
theorem gX8_paints_X0_has : GoodIn wsX8_paints (wsV RX8 79 RX0 yX0_has wsX0_has) := goodIn_app (goodIn_of _ (by decide +kernel)) ggX8_paints_X0_has
set_option maxRecDepth 20000 in
theorem ggX8_paints_X8_isHeight : GoodIn wsX8_paints wsX8_isHeight := goodIn_r _ [13] (by decide +kernel) (by decide +kernel)
set_option maxRecDepth 20000 in
theorem gX8_paints_X8_isHeight : GoodIn wsX8_paints (va_wsS RX8 83 yX8_isHeight wsX8_isHeight) := goodIn_app (goodIn_of _ (by decide +kernel)) ggX8_paints_X8_isHeight
set_option maxRecDepth 20000 in
theorem ggX8_paints_X0_become : GoodIn wsX8_paints wsX0_become := goodIn_r _ [17, 8, 9, 18, 19, 20, 74, 75, 76, 77, 78] (by decide +kernel) (by decide +kernel)
set_option maxRecDepth 20000 in
theorem gX8_paints_X0_become : GoodIn wsX8_paints (wsV RX8 87 RX0 yX0_become wsX0_become) := goodIn_app (goodIn_of _ (by decide +kernel)) ggX8_paints_X0_become
set_option maxRecDepth 20000 in
theorem ggX8_paints_X0_numberOf : GoodIn wsX8_paints wsX0_numberOf := goodIn_r _ [24, 8, 74, 75, 76, 77, 78] (by decide +kernel) (by decide +kernel)
set_option maxRecDepth 20000 in
theorem gX8_paints_X0_numberOf : GoodIn wsX8_paints (wsV RX8 91 RX0 yX0_numberOf wsX0_numberOf) := goodIn_app (goodIn_of _ (by decide +kernel)) ggX8_paints_X0_numberOf
set_option maxRecDepth 20000 in
theorem ggX8_paints_X0_heightOf : GoodIn wsX8_paints wsX0_heightOf := goodIn_r _ [28, 18, 74, 75, 76, 77, 78] (by decide +kernel) (by decide +kernel)
set_option maxRecDepth 20000 in
theorem gX8_paints_X0_heightOf : GoodIn wsX8_paints (wsV RX8 95 RX0 yX0_heightOf wsX0_heightOf) := goodIn_app (goodIn_of _ (by decide +kernel)) ggX8_paints_X0_heightOf
set_option maxRecDepth 20000 in
theorem ggX8_paints_X0_setHeight : GoodIn wsX8_paints wsX0_setHeight := goodIn_r _ [32, 18, 33, 34, 35, 36, 6, 37, 74, 75, 76, 77, 78] (by decide +kernel) (by decide +kernel)
set_option maxRecDepth 20000 in
theorem gX8_paints_X0_setHeight : GoodIn wsX8_paints (wsV RX8 99 RX0 yX0_setHeight wsX0_setHeight) := goodIn_app (goodIn_of _ (by decide +kernel)) ggX8_paints_X0_setHeight
set_option maxRecDepth 20000 in
theorem ggX8_paints_X8_draftIsDone : GoodIn wsX8_paints wsX8_draftIsDone := goodIn_r _ [41, 42, 1, 2, 43, 44, 45, 46, 47, 48, 49, 50, 51, 52, 53, 54, 55, 56, 57, 58, 59, 60, 61, 62, 63, 64, 15, 16, 6, 17, 8, 9, 18, 19, 20, 65, 14, 66, 67, 68, 69, 70, 71, 72, 73, 79, 80, 81, 74, 75, 76, 77, 78] (by decide +kernel) (by decide +kernel)
set_option maxRecDepth 20000 in
theorem gX8_paints_X8_draftIsDone : GoodIn wsX8_paints (wsV RX8 73 RX8 yX8_draftIsDone wsX8_draftIsDone) := goodIn_app (goodIn_of _ (by decide +kernel)) ggX8_paints_X8_draftIsDone
theorem dX8_paints_0 : decode cX8_paints 0 = .ok (.aload_n 0, 1) := by decide +kernel
theorem dX8_paints_1 : decode cX8_paints 1 = .ok (.getfield 10, 3) := by decide +kernel
theorem dX8_paints_4 : decode cX8_paints 4 = .ok (.iload_n 1, 1) := by decide +kernel
theorem dX8_paints_5 : decode cX8_paints 5 = .ok (.iload_n 2, 1) := by decide +kernel
theorem dX8_paints_6 : decode cX8_paints 6 = .ok (.invokevirtual 79, 3) := by decide +kernel
theorem dX8_paints_9 : decode cX8_paints 9 = .ok (.ifCond .eq 35, 3) := by decide +kernel
theorem dX8_paints_12 : decode cX8_paints 12 = .ok (.aload_n 0, 1) := by decide +kernel
theorem dX8_paints_13 : decode cX8_paints 13 = .ok (.getfield 10, 3) := by decide +kernel
theorem dX8_paints_16 : decode cX8_paints 16 = .ok (.iload_n 3, 1) := by decide +kernel
theorem dX8_paints_17 : decode cX8_paints 17 = .ok (.iload 4, 2) := by decide +kernel
theorem dX8_paints_19 : decode cX8_paints 19 = .ok (.invokevirtual 79, 3) := by decide +kernel
theorem dX8_paints_22 : decode cX8_paints 22 = .ok (.ifCond .eq 22, 3) := by decide +kernel
theorem dX8_paints_25 : decode cX8_paints 25 = .ok (.iload_n 3, 1) := by decide +kernel
theorem dX8_paints_26 : decode cX8_paints 26 = .ok (.iload_n 1, 1) := by decide +kernel
theorem dX8_paints_27 : decode cX8_paints 27 = .ok (.if_icmp .lt 17, 3) := by decide +kernel
theorem dX8_paints_30 : decode cX8_paints 30 = .ok (.iload 4, 2) := by decide +kernel
theorem dX8_paints_32 : decode cX8_paints 32 = .ok (.iload_n 2, 1) := by decide +kernel
theorem dX8_paints_33 : decode cX8_paints 33 = .ok (.if_icmp .lt 11, 3) := by decide +kernel
theorem dX8_paints_36 : decode cX8_paints 36 = .ok (.iload 5, 2) := by decide +kernel
theorem dX8_paints_38 : decode cX8_paints 38 = .ok (.invokestatic 83, 3) := by decide +kernel
theorem dX8_paints_41 : decode cX8_paints 41 = .ok (.ifCond .ne 5, 3) := by decide +kernel
theorem dX8_paints_44 : decode cX8_paints 44 = .ok (.iconst (-1), 1) := by decide +kernel
theorem dX8_paints_45 : decode cX8_paints 45 = .ok (.ireturn, 1) := by decide +kernel
theorem dX8_paints_46 : decode cX8_paints 46 = .ok (.aload_n 0, 1) := by decide +kernel
theorem dX8_paints_47 : decode cX8_paints 47 = .ok (.getfield 16, 3) := by decide +kernel
theorem dX8_paints_50 : decode cX8_paints 50 = .ok (.aload_n 0, 1) := by decide +kernel
theorem dX8_paints_51 : decode cX8_paints 51 = .ok (.getfield 10, 3) := by decide +kernel
theorem dX8_paints_54 : decode cX8_paints 54 = .ok (.invokevirtual 87, 3) := by decide +kernel
theorem dX8_paints_57 : decode cX8_paints 57 = .ok (.iconst 0, 1) := by decide +kernel
theorem dX8_paints_58 : decode cX8_paints 58 = .ok (.istore 6, 2) := by decide +kernel
theorem dX8_paints_60 : decode cX8_paints 60 = .ok (.iload_n 2, 1) := by decide +kernel
theorem dX8_paints_61 : decode cX8_paints 61 = .ok (.istore 7, 2) := by decide +kernel
theorem dX8_paints_63 : decode cX8_paints 63 = .ok (.iload 7, 2) := by decide +kernel
theorem dX8_paints_65 : decode cX8_paints 65 = .ok (.iload 4, 2) := by decide +kernel
theorem dX8_paints_67 : decode cX8_paints 67 = .ok (.if_icmp .gt 65, 3) := by decide +kernel
theorem dX8_paints_70 : decode cX8_paints 70 = .ok (.iload_n 1, 1) := by decide +kernel
theorem dX8_paints_71 : decode cX8_paints 71 = .ok (.istore 8, 2) := by decide +kernel
theorem dX8_paints_73 : decode cX8_paints 73 = .ok (.iload 8, 2) := by decide +kernel
theorem dX8_paints_75 : decode cX8_paints 75 = .ok (.iload_n 3, 1) := by decide +kernel
theorem dX8_paints_76 : decode cX8_paints 76 = .ok (.if_icmp .gt 50, 3) := by decide +kernel
theorem dX8_paints_79 : decode cX8_paints 79 = .ok (.aload_n 0, 1) := by decide +kernel
theorem dX8_paints_80 : decode cX8_paints 80 = .ok (.getfield 10, 3) := by decide +kernel
theorem dX8_paints_83 : decode cX8_paints 83 = .ok (.iload 8, 2) := by decide +kernel
theorem dX8_paints_85 : decode cX8_paints 85 = .ok (.iload 7, 2) := by decide +kernel
theorem dX8_paints_87 : decode cX8_paints 87 = .ok (.invokevirtual 91, 3) := by decide +kernel
theorem dX8_paints_90 : decode cX8_paints 90 = .ok (.istore 9, 2) := by decide +kernel
theorem dX8_paints_92 : decode cX8_paints 92 = .ok (.aload_n 0, 1) := by decide +kernel
theorem dX8_paints_93 : decode cX8_paints 93 = .ok (.getfield 10, 3) := by decide +kernel
theorem dX8_paints_96 : decode cX8_paints 96 = .ok (.iload 9, 2) := by decide +kernel
theorem dX8_paints_98 : decode cX8_paints 98 = .ok (.invokevirtual 95, 3) := by decide +kernel
theorem dX8_paints_101 : decode cX8_paints 101 = .ok (.iload 5, 2) := by decide +kernel
theorem dX8_paints_103 : decode cX8_paints 103 = .ok (.if_icmp .eq 17, 3) := by decide +kernel
theorem dX8_paints_106 : decode cX8_paints 106 = .ok (.aload_n 0, 1) := by decide +kernel
theorem dX8_paints_107 : decode cX8_paints 107 = .ok (.getfield 16, 3) := by decide +kernel
theorem dX8_paints_110 : decode cX8_paints 110 = .ok (.iload 9, 2) := by decide +kernel
theorem dX8_paints_112 : decode cX8_paints 112 = .ok (.iload 5, 2) := by decide +kernel
theorem dX8_paints_114 : decode cX8_paints 114 = .ok (.invokevirtual 99, 3) := by decide +kernel
theorem dX8_paints_117 : decode cX8_paints 117 = .ok (.iinc 6 1, 3) := by decide +kernel
theorem dX8_paints_120 : decode cX8_paints 120 = .ok (.iinc 8 1, 3) := by decide +kernel
theorem dX8_paints_123 : decode cX8_paints 123 = .ok (.goto (-50), 3) := by decide +kernel
theorem dX8_paints_126 : decode cX8_paints 126 = .ok (.iinc 7 1, 3) := by decide +kernel
theorem dX8_paints_129 : decode cX8_paints 129 = .ok (.goto (-66), 3) := by decide +kernel
theorem dX8_paints_132 : decode cX8_paints 132 = .ok (.iload 6, 2) := by decide +kernel
theorem dX8_paints_134 : decode cX8_paints 134 = .ok (.ifCond .ne 6, 3) := by decide +kernel
theorem dX8_paints_137 : decode cX8_paints 137 = .ok (.bipush (-2), 2) := by decide +kernel
theorem dX8_paints_139 : decode cX8_paints 139 = .ok (.ireturn, 1) := by decide +kernel
theorem dX8_paints_140 : decode cX8_paints 140 = .ok (.aload_n 0, 1) := by decide +kernel
theorem dX8_paints_141 : decode cX8_paints 141 = .ok (.invokevirtual 73, 3) := by decide +kernel
theorem dX8_paints_144 : decode cX8_paints 144 = .ok (.iload 6, 2) := by decide +kernel
theorem dX8_paints_146 : decode cX8_paints 146 = .ok (.ireturn, 1) := by decide +kernel
set_option maxRecDepth 20000 in
theorem ggX8_floods_X0_has : GoodIn wsX8_floods wsX0_has := goodIn_r _ [7, 8, 9, 91, 92, 93, 94, 95] (by decide +kernel) (by decide +kernel)
set_option maxRecDepth 20000 in
theorem gX8_floods_X0_has : GoodIn wsX8_floods (wsV RX8 79 RX0 yX0_has wsX0_has) := goodIn_app (goodIn_of _ (by decide +kernel)) ggX8_floods_X0_has
set_option maxRecDepth 20000 in
theorem ggX8_floods_X8_isHeight : GoodIn wsX8_floods wsX8_isHeight := goodIn_r _ [13] (by decide +kernel) (by decide +kernel)
set_option maxRecDepth 20000 in
theorem gX8_floods_X8_isHeight : GoodIn wsX8_floods (va_wsS RX8 83 yX8_isHeight wsX8_isHeight) := goodIn_app (goodIn_of _ (by decide +kernel)) ggX8_floods_X8_isHeight
set_option maxRecDepth 20000 in
theorem ggX8_floods_X0_numberOf : GoodIn wsX8_floods wsX0_numberOf := goodIn_r _ [17, 8, 91, 92, 93, 94, 95] (by decide +kernel) (by decide +kernel)
set_option maxRecDepth 20000 in
theorem gX8_floods_X0_numberOf : GoodIn wsX8_floods (wsV RX8 91 RX0 yX0_numberOf wsX0_numberOf) := goodIn_app (goodIn_of _ (by decide +kernel)) ggX8_floods_X0_numberOf
set_option maxRecDepth 20000 in
theorem ggX8_floods_X0_heightOf : GoodIn wsX8_floods wsX0_heightOf := goodIn_r _ [21, 22, 91, 92, 93, 94, 95] (by decide +kernel) (by decide +kernel)
set_option maxRecDepth 20000 in
theorem gX8_floods_X0_heightOf : GoodIn wsX8_floods (wsV RX8 95 RX0 yX0_heightOf wsX0_heightOf) := goodIn_app (goodIn_of _ (by decide +kernel)) ggX8_floods_X0_heightOf
set_option maxRecDepth 20000 in
theorem ggX8_floods_X0_floodedFrom : GoodIn wsX8_floods wsX0_floodedFrom := goodIn_r _ [26, 9, 8, 27, 28, 29, 6, 30, 31, 19, 20, 21, 22, 91, 92, 93, 94, 95] (by decide +kernel) (by decide +kernel)
set_option maxRecDepth 20000 in
theorem gX8_floods_X0_floodedFrom : GoodIn wsX8_floods (wsV RX8 103 RX0 yX0_floodedFrom wsX0_floodedFrom) := goodIn_app (goodIn_of _ (by decide +kernel)) ggX8_floods_X0_floodedFrom
set_option maxRecDepth 20000 in
theorem ggX8_floods_X0_become : GoodIn wsX8_floods wsX0_become := goodIn_r _ [35, 8, 9, 22, 36, 37, 91, 92, 93, 94, 95] (by decide +kernel) (by decide +kernel)
set_option maxRecDepth 20000 in
theorem gX8_floods_X0_become : GoodIn wsX8_floods (wsV RX8 87 RX0 yX0_become wsX0_become) := goodIn_app (goodIn_of _ (by decide +kernel)) ggX8_floods_X0_become
set_option maxRecDepth 20000 in
theorem ggX8_floods_X0_cells : GoodIn wsX8_floods wsX0_cells := goodIn_r _ [30, 8, 9, 91, 92, 93, 94, 95] (by decide +kernel) (by decide +kernel)
set_option maxRecDepth 20000 in
theorem gX8_floods_X0_cells : GoodIn wsX8_floods (wsV RX8 106 RX0 yX0_cells wsX0_cells) := goodIn_app (goodIn_of _ (by decide +kernel)) ggX8_floods_X0_cells
set_option maxRecDepth 20000 in
theorem ggX8_floods_X0_setHeight : GoodIn wsX8_floods wsX0_setHeight := goodIn_r _ [42, 22, 43, 44, 45, 46, 6, 47, 91, 92, 93, 94, 95] (by decide +kernel) (by decide +kernel)
set_option maxRecDepth 20000 in
theorem gX8_floods_X0_setHeight : GoodIn wsX8_floods (wsV RX8 99 RX0 yX0_setHeight wsX0_setHeight) := goodIn_app (goodIn_of _ (by decide +kernel)) ggX8_floods_X0_setHeight
set_option maxRecDepth 20000 in
theorem ggX8_floods_X8_draftIsDone : GoodIn wsX8_floods wsX8_draftIsDone := goodIn_r _ [51, 52, 1, 2, 53, 54, 55, 56, 57, 58, 59, 60, 61, 62, 63, 64, 65, 66, 67, 68, 69, 70, 71, 72, 73, 74, 33, 34, 6, 35, 8, 9, 22, 36, 37, 75, 32, 83, 84, 85, 86, 87, 88, 89, 90, 96, 97, 98, 91, 92, 93, 94, 95] (by decide +kernel) (by decide +kernel)
set_option maxRecDepth 20000 in
theorem gX8_floods_X8_draftIsDone : GoodIn wsX8_floods (wsV RX8 73 RX8 yX8_draftIsDone wsX8_draftIsDone) := goodIn_app (goodIn_of _ (by decide +kernel)) ggX8_floods_X8_draftIsDone
set_option maxRecDepth 20000 in
theorem ggX8_floods_J6_bitCount_0f7a4 : GoodIn wsX8_floods wsJ6_bitCount_0f7a4 := goodIn_r _ [79, 80, 81, 82] (by decide +kernel) (by decide +kernel)
set_option maxRecDepth 20000 in
theorem gX8_floods_J6_bitCount_0f7a4 : GoodIn wsX8_floods (va_wsS RX8 110 yJ6_bitCount_0f7a4 wsJ6_bitCount_0f7a4) := goodIn_app (goodIn_of _ (by decide +kernel)) ggX8_floods_J6_bitCount_0f7a4
theorem dX8_floods_0 : decode cX8_floods 0 = .ok (.aload_n 0, 1) := by decide +kernel
theorem dX8_floods_1 : decode cX8_floods 1 = .ok (.getfield 10, 3) := by decide +kernel
theorem dX8_floods_4 : decode cX8_floods 4 = .ok (.iload_n 1, 1) := by decide +kernel
theorem dX8_floods_5 : decode cX8_floods 5 = .ok (.iload_n 2, 1) := by decide +kernel
theorem dX8_floods_6 : decode cX8_floods 6 = .ok (.invokevirtual 79, 3) := by decide +kernel
theorem dX8_floods_9 : decode cX8_floods 9 = .ok (.ifCond .eq 10, 3) := by decide +kernel
theorem dX8_floods_12 : decode cX8_floods 12 = .ok (.iload_n 3, 1) := by decide +kernel
theorem dX8_floods_13 : decode cX8_floods 13 = .ok (.invokestatic 83, 3) := by decide +kernel
theorem dX8_floods_16 : decode cX8_floods 16 = .ok (.ifCond .ne 5, 3) := by decide +kernel
theorem dX8_floods_19 : decode cX8_floods 19 = .ok (.iconst (-1), 1) := by decide +kernel
theorem dX8_floods_20 : decode cX8_floods 20 = .ok (.ireturn, 1) := by decide +kernel
theorem dX8_floods_21 : decode cX8_floods 21 = .ok (.aload_n 0, 1) := by decide +kernel
theorem dX8_floods_22 : decode cX8_floods 22 = .ok (.getfield 10, 3) := by decide +kernel
theorem dX8_floods_25 : decode cX8_floods 25 = .ok (.iload_n 1, 1) := by decide +kernel
theorem dX8_floods_26 : decode cX8_floods 26 = .ok (.iload_n 2, 1) := by decide +kernel
theorem dX8_floods_27 : decode cX8_floods 27 = .ok (.invokevirtual 91, 3) := by decide +kernel
theorem dX8_floods_30 : decode cX8_floods 30 = .ok (.istore 4, 2) := by decide +kernel
theorem dX8_floods_32 : decode cX8_floods 32 = .ok (.aload_n 0, 1) := by decide +kernel
theorem dX8_floods_33 : decode cX8_floods 33 = .ok (.getfield 10, 3) := by decide +kernel
theorem dX8_floods_36 : decode cX8_floods 36 = .ok (.iload 4, 2) := by decide +kernel
theorem dX8_floods_38 : decode cX8_floods 38 = .ok (.invokevirtual 95, 3) := by decide +kernel
theorem dX8_floods_41 : decode cX8_floods 41 = .ok (.iload_n 3, 1) := by decide +kernel
theorem dX8_floods_42 : decode cX8_floods 42 = .ok (.if_icmp .ne 6, 3) := by decide +kernel
theorem dX8_floods_45 : decode cX8_floods 45 = .ok (.bipush (-2), 2) := by decide +kernel
theorem dX8_floods_47 : decode cX8_floods 47 = .ok (.ireturn, 1) := by decide +kernel
theorem dX8_floods_48 : decode cX8_floods 48 = .ok (.aload_n 0, 1) := by decide +kernel
theorem dX8_floods_49 : decode cX8_floods 49 = .ok (.getfield 10, 3) := by decide +kernel
theorem dX8_floods_52 : decode cX8_floods 52 = .ok (.iload 4, 2) := by decide +kernel
theorem dX8_floods_54 : decode cX8_floods 54 = .ok (.invokevirtual 103, 3) := by decide +kernel
theorem dX8_floods_57 : decode cX8_floods 57 = .ok (.istore 5, 2) := by decide +kernel
theorem dX8_floods_59 : decode cX8_floods 59 = .ok (.aload_n 0, 1) := by decide +kernel
theorem dX8_floods_60 : decode cX8_floods 60 = .ok (.getfield 16, 3) := by decide +kernel
theorem dX8_floods_63 : decode cX8_floods 63 = .ok (.aload_n 0, 1) := by decide +kernel
theorem dX8_floods_64 : decode cX8_floods 64 = .ok (.getfield 10, 3) := by decide +kernel
theorem dX8_floods_67 : decode cX8_floods 67 = .ok (.invokevirtual 87, 3) := by decide +kernel
theorem dX8_floods_70 : decode cX8_floods 70 = .ok (.iconst 0, 1) := by decide +kernel
theorem dX8_floods_71 : decode cX8_floods 71 = .ok (.istore 6, 2) := by decide +kernel
theorem dX8_floods_73 : decode cX8_floods 73 = .ok (.iload 6, 2) := by decide +kernel
theorem dX8_floods_75 : decode cX8_floods 75 = .ok (.aload_n 0, 1) := by decide +kernel
theorem dX8_floods_76 : decode cX8_floods 76 = .ok (.getfield 10, 3) := by decide +kernel
theorem dX8_floods_79 : decode cX8_floods 79 = .ok (.invokevirtual 106, 3) := by decide +kernel
theorem dX8_floods_82 : decode cX8_floods 82 = .ok (.if_icmp .ge 30, 3) := by decide +kernel
theorem dX8_floods_85 : decode cX8_floods 85 = .ok (.iload 5, 2) := by decide +kernel
theorem dX8_floods_87 : decode cX8_floods 87 = .ok (.iload 6, 2) := by decide +kernel
theorem dX8_floods_89 : decode cX8_floods 89 = .ok (.ishr, 1) := by decide +kernel
theorem dX8_floods_90 : decode cX8_floods 90 = .ok (.iconst 1, 1) := by decide +kernel
theorem dX8_floods_91 : decode cX8_floods 91 = .ok (.iand, 1) := by decide +kernel
theorem dX8_floods_92 : decode cX8_floods 92 = .ok (.iconst 1, 1) := by decide +kernel
theorem dX8_floods_93 : decode cX8_floods 93 = .ok (.if_icmp .ne 13, 3) := by decide +kernel
theorem dX8_floods_96 : decode cX8_floods 96 = .ok (.aload_n 0, 1) := by decide +kernel
theorem dX8_floods_97 : decode cX8_floods 97 = .ok (.getfield 16, 3) := by decide +kernel
theorem dX8_floods_100 : decode cX8_floods 100 = .ok (.iload 6, 2) := by decide +kernel
theorem dX8_floods_102 : decode cX8_floods 102 = .ok (.iload_n 3, 1) := by decide +kernel
theorem dX8_floods_103 : decode cX8_floods 103 = .ok (.invokevirtual 99, 3) := by decide +kernel
theorem dX8_floods_106 : decode cX8_floods 106 = .ok (.iinc 6 1, 3) := by decide +kernel
theorem dX8_floods_109 : decode cX8_floods 109 = .ok (.goto (-36), 3) := by decide +kernel
theorem dX8_floods_112 : decode cX8_floods 112 = .ok (.aload_n 0, 1) := by decide +kernel
theorem dX8_floods_113 : decode cX8_floods 113 = .ok (.invokevirtual 73, 3) := by decide +kernel
theorem dX8_floods_116 : decode cX8_floods 116 = .ok (.iload 5, 2) := by decide +kernel
theorem dX8_floods_118 : decode cX8_floods 118 = .ok (.invokestatic 110, 3) := by decide +kernel
theorem dX8_floods_121 : decode cX8_floods 121 = .ok (.ireturn, 1) := by decide +kernel
set_option maxRecDepth 20000 in
theorem ggX8_settles_X0_jarringPairs : GoodIn wsX8_settles wsX0_jarringPairs := goodIn_r _ [8, 9, 10, 11, 12, 13, 7, 14, 15, 16, 17, 18, 19, 20, 21, 22, 23, 24, 25, 26, 27, 28, 29, 30, 31, 32, 33, 186, 187, 188, 189, 190] (by decide +kernel) (by decide +kernel)
set_option maxRecDepth 20000 in
theorem gX8_settles_X0_jarringPairs : GoodIn wsX8_settles (wsV RX8 115 RX0 yX0_jarringPairs wsX0_jarringPairs) := goodIn_app (goodIn_of _ (by decide +kernel)) ggX8_settles_X0_jarringPairs
set_option maxRecDepth 20000 in
theorem ggX8_settles_X3_find : GoodIn wsX8_settles wsX3_find := goodIn_r _ [38, 39, 40, 41, 42, 43, 37, 44, 45, 46, 47, 7, 48, 10, 9, 29, 49, 50, 51, 52, 53, 54, 55, 56, 57, 58, 59, 60, 61, 62, 63, 64, 65, 66, 67, 68, 69, 70, 71, 72, 73, 74, 75, 19, 76, 77, 78, 79, 80, 81, 82, 83, 84, 85, 86, 87, 88, 89, 90, 91, 92, 93, 94, 95, 96, 97, 98, 99, 100, 101, 102, 103, 104, 105, 106, 107, 108, 109, 110, 111, 112, 113, 114, 115, 116, 117, 118, 119, 120, 121, 122, 123, 124, 125, 126, 127, 128, 129, 130, 131, 132, 133, 134, 135, 136, 137, 138, 139, 178, 179, 180, 181, 182, 183, 184, 185, 186, 187, 188, 189, 190] (by decide +kernel) (by decide +kernel)
set_option maxRecDepth 20000 in
theorem gX8_settles_X3_find : GoodIn wsX8_settles (wsV RX8 118 RX3 yX3_find wsX3_find) := goodIn_app (goodIn_of _ (by decide +kernel)) ggX8_settles_X3_find
set_option maxRecDepth 20000 in
theorem ggX8_settles_X0_become : GoodIn wsX8_settles wsX0_become := goodIn_r _ [48, 10, 9, 29, 49, 50, 186, 187, 188, 189, 190] (by decide +kernel) (by decide +kernel)
set_option maxRecDepth 20000 in
theorem gX8_settles_X0_become : GoodIn wsX8_settles (wsV RX8 87 RX0 yX0_become wsX0_become) := goodIn_app (goodIn_of _ (by decide +kernel)) ggX8_settles_X0_become
set_option maxRecDepth 20000 in
theorem ggX8_settles_X8_draftIsDone : GoodIn wsX8_settles wsX8_draftIsDone := goodIn_r _ [145, 146, 1, 3, 147, 148, 149, 150, 151, 152, 153, 154, 155, 156, 157, 158, 159, 160, 161, 162, 163, 164, 165, 166, 167, 168, 46, 47, 7, 48, 10, 9, 29, 49, 50, 169, 140, 170, 171, 172, 173, 174, 175, 176, 177, 191, 192, 193, 186, 187, 188, 189, 190] (by decide +kernel) (by decide +kernel)
set_option maxRecDepth 20000 in
theorem gX8_settles_X8_draftIsDone : GoodIn wsX8_settles (wsV RX8 73 RX8 yX8_draftIsDone wsX8_draftIsDone) := goodIn_app (goodIn_of _ (by decide +kernel)) ggX8_settles_X8_draftIsDone
theorem dX8_settles_0 : decode cX8_settles 0 = .ok (.aload_n 0, 1) := by decide +kernel
theorem dX8_settles_1 : decode cX8_settles 1 = .ok (.getfield 10, 3) := by decide +kernel
theorem dX8_settles_4 : decode cX8_settles 4 = .ok (.invokevirtual 115, 3) := by decide +kernel
theorem dX8_settles_7 : decode cX8_settles 7 = .ok (.ifCond .ne 6, 3) := by decide +kernel
theorem dX8_settles_10 : decode cX8_settles 10 = .ok (.bipush (-2), 2) := by decide +kernel
theorem dX8_settles_12 : decode cX8_settles 12 = .ok (.ireturn, 1) := by decide +kernel
theorem dX8_settles_13 : decode cX8_settles 13 = .ok (.aload_n 0, 1) := by decide +kernel
theorem dX8_settles_14 : decode cX8_settles 14 = .ok (.getfield 50, 3) := by decide +kernel
theorem dX8_settles_17 : decode cX8_settles 17 = .ok (.aload_n 0, 1) := by decide +kernel
theorem dX8_settles_18 : decode cX8_settles 18 = .ok (.getfield 10, 3) := by decide +kernel
theorem dX8_settles_21 : decode cX8_settles 21 = .ok (.invokevirtual 118, 3) := by decide +kernel
theorem dX8_settles_24 : decode cX8_settles 24 = .ok (.aload_n 0, 1) := by decide +kernel
theorem dX8_settles_25 : decode cX8_settles 25 = .ok (.getfield 50, 3) := by decide +kernel
theorem dX8_settles_28 : decode cX8_settles 28 = .ok (.getfield 121, 3) := by decide +kernel
theorem dX8_settles_31 : decode cX8_settles 31 = .ok (.bipush (-9), 2) := by decide +kernel
theorem dX8_settles_33 : decode cX8_settles 33 = .ok (.if_icmp .ne 6, 3) := by decide +kernel
theorem dX8_settles_36 : decode cX8_settles 36 = .ok (.bipush (-2), 2) := by decide +kernel
theorem dX8_settles_38 : decode cX8_settles 38 = .ok (.ireturn, 1) := by decide +kernel
theorem dX8_settles_39 : decode cX8_settles 39 = .ok (.aload_n 0, 1) := by decide +kernel
theorem dX8_settles_40 : decode cX8_settles 40 = .ok (.getfield 16, 3) := by decide +kernel
theorem dX8_settles_43 : decode cX8_settles 43 = .ok (.aload_n 0, 1) := by decide +kernel
theorem dX8_settles_44 : decode cX8_settles 44 = .ok (.getfield 10, 3) := by decide +kernel
theorem dX8_settles_47 : decode cX8_settles 47 = .ok (.invokevirtual 87, 3) := by decide +kernel
theorem dX8_settles_50 : decode cX8_settles 50 = .ok (.aload_n 0, 1) := by decide +kernel
theorem dX8_settles_51 : decode cX8_settles 51 = .ok (.getfield 16, 3) := by decide +kernel
theorem dX8_settles_54 : decode cX8_settles 54 = .ok (.aload_n 0, 1) := by decide +kernel
theorem dX8_settles_55 : decode cX8_settles 55 = .ok (.getfield 50, 3) := by decide +kernel
theorem dX8_settles_58 : decode cX8_settles 58 = .ok (.getfield 124, 3) := by decide +kernel
theorem dX8_settles_61 : decode cX8_settles 61 = .ok (.putfield 128, 3) := by decide +kernel
theorem dX8_settles_64 : decode cX8_settles 64 = .ok (.aload_n 0, 1) := by decide +kernel
theorem dX8_settles_65 : decode cX8_settles 65 = .ok (.invokevirtual 73, 3) := by decide +kernel
theorem dX8_settles_68 : decode cX8_settles 68 = .ok (.aload_n 0, 1) := by decide +kernel
theorem dX8_settles_69 : decode cX8_settles 69 = .ok (.getfield 50, 3) := by decide +kernel
theorem dX8_settles_72 : decode cX8_settles 72 = .ok (.getfield 121, 3) := by decide +kernel
theorem dX8_settles_75 : decode cX8_settles 75 = .ok (.ireturn, 1) := by decide +kernel
set_option maxRecDepth 20000 in
theorem ggX8_fixes_X0_has : GoodIn wsX8_fixes wsX0_has := goodIn_r _ [7, 8, 9, 81, 82, 83, 84, 85] (by decide +kernel) (by decide +kernel)
set_option maxRecDepth 20000 in
theorem gX8_fixes_X0_has : GoodIn wsX8_fixes (wsV RX8 79 RX0 yX0_has wsX0_has) := goodIn_app (goodIn_of _ (by decide +kernel)) ggX8_fixes_X0_has
set_option maxRecDepth 20000 in
theorem ggX8_fixes_X0_numberOf : GoodIn wsX8_fixes wsX0_numberOf := goodIn_r _ [13, 8, 81, 82, 83, 84, 85] (by decide +kernel) (by decide +kernel)
set_option maxRecDepth 20000 in
theorem gX8_fixes_X0_numberOf : GoodIn wsX8_fixes (wsV RX8 91 RX0 yX0_numberOf wsX0_numberOf) := goodIn_app (goodIn_of _ (by decide +kernel)) ggX8_fixes_X0_numberOf
set_option maxRecDepth 20000 in
theorem ggX8_fixes_X0_fixedOf : GoodIn wsX8_fixes wsX0_fixedOf := goodIn_r _ [17, 18, 19, 20, 6, 21, 81, 82, 83, 84, 85] (by decide +kernel) (by decide +kernel)
set_option maxRecDepth 20000 in
theorem gX8_fixes_X0_fixedOf : GoodIn wsX8_fixes (wsV RX8 129 RX0 yX0_fixedOf wsX0_fixedOf) := goodIn_app (goodIn_of _ (by decide +kernel)) ggX8_fixes_X0_fixedOf
set_option maxRecDepth 20000 in
theorem ggX8_fixes_X0_become : GoodIn wsX8_fixes wsX0_become := goodIn_r _ [25, 8, 9, 26, 18, 27, 81, 82, 83, 84, 85] (by decide +kernel) (by decide +kernel)
set_option maxRecDepth 20000 in
theorem gX8_fixes_X0_become : GoodIn wsX8_fixes (wsV RX8 87 RX0 yX0_become wsX0_become) := goodIn_app (goodIn_of _ (by decide +kernel)) ggX8_fixes_X0_become
set_option maxRecDepth 20000 in
theorem ggX8_fixes_X0_setFixed : GoodIn wsX8_fixes wsX0_setFixed := goodIn_r _ [31, 18, 32, 19, 20, 6, 21, 81, 82, 83, 84, 85] (by decide +kernel) (by decide +kernel)
set_option maxRecDepth 20000 in
theorem gX8_fixes_X0_setFixed : GoodIn wsX8_fixes (wsV RX8 132 RX0 yX0_setFixed wsX0_setFixed) := goodIn_app (goodIn_of _ (by decide +kernel)) ggX8_fixes_X0_setFixed
set_option maxRecDepth 20000 in
theorem ggX8_fixes_X8_draftIsDone : GoodIn wsX8_fixes wsX8_draftIsDone := goodIn_r _ [37, 38, 1, 2, 39, 40, 41, 42, 43, 44, 45, 46, 47, 48, 49, 50, 51, 52, 53, 54, 55, 56, 57, 58, 59, 60, 23, 24, 6, 25, 8, 9, 26, 18, 27, 61, 22, 73, 74, 75, 76, 77, 78, 79, 80, 86, 87, 88, 81, 82, 83, 84, 85] (by decide +kernel) (by decide +kernel)
set_option maxRecDepth 20000 in
theorem gX8_fixes_X8_draftIsDone : GoodIn wsX8_fixes (wsV RX8 73 RX8 yX8_draftIsDone wsX8_draftIsDone) := goodIn_app (goodIn_of _ (by decide +kernel)) ggX8_fixes_X8_draftIsDone
set_option maxRecDepth 20000 in
theorem ggX8_fixes_X0_fixedCells : GoodIn wsX8_fixes wsX0_fixedCells := goodIn_r _ [65, 18, 66, 67, 68, 69, 70, 71, 72, 81, 82, 83, 84, 85] (by decide +kernel) (by decide +kernel)
set_option maxRecDepth 20000 in
theorem gX8_fixes_X0_fixedCells : GoodIn wsX8_fixes (wsV RX8 135 RX0 yX0_fixedCells wsX0_fixedCells) := goodIn_app (goodIn_of _ (by decide +kernel)) ggX8_fixes_X0_fixedCells
theorem dX8_fixes_0 : decode cX8_fixes 0 = .ok (.aload_n 0, 1) := by decide +kernel
theorem dX8_fixes_1 : decode cX8_fixes 1 = .ok (.getfield 10, 3) := by decide +kernel
theorem dX8_fixes_4 : decode cX8_fixes 4 = .ok (.iload_n 1, 1) := by decide +kernel
theorem dX8_fixes_5 : decode cX8_fixes 5 = .ok (.iload_n 2, 1) := by decide +kernel
theorem dX8_fixes_6 : decode cX8_fixes 6 = .ok (.invokevirtual 79, 3) := by decide +kernel
theorem dX8_fixes_9 : decode cX8_fixes 9 = .ok (.ifCond .eq 12, 3) := by decide +kernel
theorem dX8_fixes_12 : decode cX8_fixes 12 = .ok (.iload_n 3, 1) := by decide +kernel
theorem dX8_fixes_13 : decode cX8_fixes 13 = .ok (.ifCond .lt 8, 3) := by decide +kernel
theorem dX8_fixes_16 : decode cX8_fixes 16 = .ok (.iload_n 3, 1) := by decide +kernel
theorem dX8_fixes_17 : decode cX8_fixes 17 = .ok (.iconst 1, 1) := by decide +kernel
theorem dX8_fixes_18 : decode cX8_fixes 18 = .ok (.if_icmp .le 5, 3) := by decide +kernel
theorem dX8_fixes_21 : decode cX8_fixes 21 = .ok (.iconst (-1), 1) := by decide +kernel
theorem dX8_fixes_22 : decode cX8_fixes 22 = .ok (.ireturn, 1) := by decide +kernel
theorem dX8_fixes_23 : decode cX8_fixes 23 = .ok (.aload_n 0, 1) := by decide +kernel
theorem dX8_fixes_24 : decode cX8_fixes 24 = .ok (.getfield 10, 3) := by decide +kernel
theorem dX8_fixes_27 : decode cX8_fixes 27 = .ok (.iload_n 1, 1) := by decide +kernel
theorem dX8_fixes_28 : decode cX8_fixes 28 = .ok (.iload_n 2, 1) := by decide +kernel
theorem dX8_fixes_29 : decode cX8_fixes 29 = .ok (.invokevirtual 91, 3) := by decide +kernel
theorem dX8_fixes_32 : decode cX8_fixes 32 = .ok (.istore 4, 2) := by decide +kernel
theorem dX8_fixes_34 : decode cX8_fixes 34 = .ok (.aload_n 0, 1) := by decide +kernel
theorem dX8_fixes_35 : decode cX8_fixes 35 = .ok (.getfield 10, 3) := by decide +kernel
theorem dX8_fixes_38 : decode cX8_fixes 38 = .ok (.iload 4, 2) := by decide +kernel
theorem dX8_fixes_40 : decode cX8_fixes 40 = .ok (.invokevirtual 129, 3) := by decide +kernel
theorem dX8_fixes_43 : decode cX8_fixes 43 = .ok (.iload_n 3, 1) := by decide +kernel
theorem dX8_fixes_44 : decode cX8_fixes 44 = .ok (.if_icmp .ne 6, 3) := by decide +kernel
theorem dX8_fixes_47 : decode cX8_fixes 47 = .ok (.bipush (-2), 2) := by decide +kernel
theorem dX8_fixes_49 : decode cX8_fixes 49 = .ok (.ireturn, 1) := by decide +kernel
theorem dX8_fixes_50 : decode cX8_fixes 50 = .ok (.aload_n 0, 1) := by decide +kernel
theorem dX8_fixes_51 : decode cX8_fixes 51 = .ok (.getfield 16, 3) := by decide +kernel
theorem dX8_fixes_54 : decode cX8_fixes 54 = .ok (.aload_n 0, 1) := by decide +kernel
theorem dX8_fixes_55 : decode cX8_fixes 55 = .ok (.getfield 10, 3) := by decide +kernel
theorem dX8_fixes_58 : decode cX8_fixes 58 = .ok (.invokevirtual 87, 3) := by decide +kernel
theorem dX8_fixes_61 : decode cX8_fixes 61 = .ok (.aload_n 0, 1) := by decide +kernel
theorem dX8_fixes_62 : decode cX8_fixes 62 = .ok (.getfield 16, 3) := by decide +kernel
theorem dX8_fixes_65 : decode cX8_fixes 65 = .ok (.iload 4, 2) := by decide +kernel
theorem dX8_fixes_67 : decode cX8_fixes 67 = .ok (.iload_n 3, 1) := by decide +kernel
theorem dX8_fixes_68 : decode cX8_fixes 68 = .ok (.invokevirtual 132, 3) := by decide +kernel
theorem dX8_fixes_71 : decode cX8_fixes 71 = .ok (.aload_n 0, 1) := by decide +kernel
theorem dX8_fixes_72 : decode cX8_fixes 72 = .ok (.invokevirtual 73, 3) := by decide +kernel
theorem dX8_fixes_75 : decode cX8_fixes 75 = .ok (.aload_n 0, 1) := by decide +kernel
theorem dX8_fixes_76 : decode cX8_fixes 76 = .ok (.getfield 10, 3) := by decide +kernel
theorem dX8_fixes_79 : decode cX8_fixes 79 = .ok (.invokevirtual 135, 3) := by decide +kernel
theorem dX8_fixes_82 : decode cX8_fixes 82 = .ok (.ireturn, 1) := by decide +kernel
set_option maxRecDepth 20000 in
theorem ggX8_undo_X4_takeLatest : GoodIn wsX8_undo wsX4_takeLatest := goodIn_r _ [7, 8, 9, 10, 11, 12, 13, 14, 15, 16, 17, 18, 19, 20, 21, 22, 23, 24, 25, 26, 27, 28, 29, 38, 39, 40, 41, 42, 43, 44, 45] (by decide +kernel) (by decide +kernel)
set_option maxRecDepth 20000 in
theorem gX8_undo_X4_takeLatest : GoodIn wsX8_undo (wsV RX8 141 RX4 yX4_takeLatest wsX4_takeLatest) := goodIn_app (goodIn_of _ (by decide +kernel)) ggX8_undo_X4_takeLatest
theorem dX8_undo_0 : decode cX8_undo 0 = .ok (.aload_n 0, 1) := by decide +kernel
theorem dX8_undo_1 : decode cX8_undo 1 = .ok (.getfield 29, 3) := by decide +kernel
theorem dX8_undo_4 : decode cX8_undo 4 = .ok (.getfield 138, 3) := by decide +kernel
theorem dX8_undo_7 : decode cX8_undo 7 = .ok (.ifCond .ne 6, 3) := by decide +kernel
theorem dX8_undo_10 : decode cX8_undo 10 = .ok (.bipush (-2), 2) := by decide +kernel
theorem dX8_undo_12 : decode cX8_undo 12 = .ok (.ireturn, 1) := by decide +kernel
theorem dX8_undo_13 : decode cX8_undo 13 = .ok (.aload_n 0, 1) := by decide +kernel
theorem dX8_undo_14 : decode cX8_undo 14 = .ok (.getfield 29, 3) := by decide +kernel
theorem dX8_undo_17 : decode cX8_undo 17 = .ok (.aload_n 0, 1) := by decide +kernel
theorem dX8_undo_18 : decode cX8_undo 18 = .ok (.getfield 10, 3) := by decide +kernel
theorem dX8_undo_21 : decode cX8_undo 21 = .ok (.invokevirtual 141, 3) := by decide +kernel
theorem dX8_undo_24 : decode cX8_undo 24 = .ok (.aload_n 0, 1) := by decide +kernel
theorem dX8_undo_25 : decode cX8_undo 25 = .ok (.getfield 29, 3) := by decide +kernel
theorem dX8_undo_28 : decode cX8_undo 28 = .ok (.getfield 138, 3) := by decide +kernel
theorem dX8_undo_31 : decode cX8_undo 31 = .ok (.ireturn, 1) := by decide +kernel
set_option maxRecDepth 20000 in
theorem ggX8_cell_X0_has : GoodIn wsX8_cell wsX0_has := goodIn_r _ [7, 8, 9, 83, 84, 85, 86, 87] (by decide +kernel) (by decide +kernel)
set_option maxRecDepth 20000 in
theorem gX8_cell_X0_has : GoodIn wsX8_cell (wsV RX8 79 RX0 yX0_has wsX0_has) := goodIn_app (goodIn_of _ (by decide +kernel)) ggX8_cell_X0_has
set_option maxRecDepth 20000 in
theorem ggX8_cell_X0_numberOf : GoodIn wsX8_cell wsX0_numberOf := goodIn_r _ [13, 8, 83, 84, 85, 86, 87] (by decide +kernel) (by decide +kernel)
set_option maxRecDepth 20000 in
theorem gX8_cell_X0_numberOf : GoodIn wsX8_cell (wsV RX8 91 RX0 yX0_numberOf wsX0_numberOf) := goodIn_app (goodIn_of _ (by decide +kernel)) ggX8_cell_X0_numberOf
set_option maxRecDepth 20000 in
theorem ggX8_cell_X0_heightOf : GoodIn wsX8_cell wsX0_heightOf := goodIn_r _ [17, 18, 83, 84, 85, 86, 87] (by decide +kernel) (by decide +kernel)
set_option maxRecDepth 20000 in
theorem gX8_cell_X0_heightOf : GoodIn wsX8_cell (wsV RX8 95 RX0 yX0_heightOf wsX0_heightOf) := goodIn_app (goodIn_of _ (by decide +kernel)) ggX8_cell_X0_heightOf
set_option maxRecDepth 20000 in
theorem ggX8_cell_X0_fixedOf : GoodIn wsX8_cell wsX0_fixedOf := goodIn_r _ [22, 23, 24, 25, 6, 26, 83, 84, 85, 86, 87] (by decide +kernel) (by decide +kernel)
set_option maxRecDepth 20000 in
theorem gX8_cell_X0_fixedOf : GoodIn wsX8_cell (wsV RX8 129 RX0 yX0_fixedOf wsX0_fixedOf) := goodIn_app (goodIn_of _ (by decide +kernel)) ggX8_cell_X0_fixedOf
set_option maxRecDepth 20000 in
theorem ggX8_cell_X2_list : GoodIn wsX8_cell wsX2_list := goodIn_r _ [31, 32, 33, 34, 35, 6, 36, 37, 38, 39, 40, 41, 42, 43, 44, 45, 46, 8, 47, 48, 49, 50, 51, 52, 53, 9, 54, 4, 5, 7, 55, 11, 12, 13, 56, 15, 16, 17, 18, 57, 58, 59, 60, 61, 62, 63, 64, 65, 30, 66, 67, 68, 69, 70, 71, 72, 88, 89, 90, 83, 84, 85, 86, 87] (by decide +kernel) (by decide +kernel)
set_option maxRecDepth 20000 in
theorem gX8_cell_X2_list : GoodIn wsX8_cell (wsV RX8 144 RX2 yX2_list wsX2_list) := goodIn_app (goodIn_of _ (by decide +kernel)) ggX8_cell_X2_list
set_option maxRecDepth 20000 in
theorem ggX8_cell_X0_rowOfSquares : GoodIn wsX8_cell wsX0_rowOfSquares := goodIn_r _ [36, 37, 38, 39, 6, 40, 41, 42, 43, 44, 45, 46, 8, 47, 48, 49, 50, 51, 52, 53, 9, 54, 4, 5, 7, 55, 11, 12, 13, 56, 15, 16, 17, 18, 57, 58, 59, 60, 61, 62, 83, 84, 85, 86, 87] (by decide +kernel) (by decide +kernel)
set_option maxRecDepth 20000 in
theorem gX8_cell_X0_rowOfSquares : GoodIn wsX8_cell (wsV RX8 147 RX0 yX0_rowOfSquares wsX0_rowOfSquares) := goodIn_app (goodIn_of _ (by decide +kernel)) ggX8_cell_X0_rowOfSquares
set_option maxRecDepth 20000 in
theorem ggX8_cell_X2_numberOf : GoodIn wsX8_cell wsX2_numberOf := goodIn_r _ [72, 32, 67, 88, 89, 90] (by decide +kernel) (by decide +kernel)
set_option maxRecDepth 20000 in
theorem gX8_cell_X2_numberOf : GoodIn wsX8_cell (wsV RX8 150 RX2 yX2_numberOf wsX2_numberOf) := goodIn_app (goodIn_of _ (by decide +kernel)) ggX8_cell_X2_numberOf
theorem dX8_cell_0 : decode cX8_cell 0 = .ok (.aload_n 0, 1) := by decide +kernel
theorem dX8_cell_1 : decode cX8_cell 1 = .ok (.getfield 10, 3) := by decide +kernel
theorem dX8_cell_4 : decode cX8_cell 4 = .ok (.iload_n 1, 1) := by decide +kernel
theorem dX8_cell_5 : decode cX8_cell 5 = .ok (.iload_n 2, 1) := by decide +kernel
theorem dX8_cell_6 : decode cX8_cell 6 = .ok (.invokevirtual 79, 3) := by decide +kernel
theorem dX8_cell_9 : decode cX8_cell 9 = .ok (.ifCond .ne 5, 3) := by decide +kernel
theorem dX8_cell_12 : decode cX8_cell 12 = .ok (.iconst (-1), 1) := by decide +kernel
theorem dX8_cell_13 : decode cX8_cell 13 = .ok (.ireturn, 1) := by decide +kernel
theorem dX8_cell_14 : decode cX8_cell 14 = .ok (.iload_n 3, 1) := by decide +kernel
theorem dX8_cell_15 : decode cX8_cell 15 = .ok (.tableswitch 87 0 2 #[25, 42, 59], 25) := by decide +kernel
theorem dX8_cell_40 : decode cX8_cell 40 = .ok (.aload_n 0, 1) := by decide +kernel
theorem dX8_cell_41 : decode cX8_cell 41 = .ok (.getfield 10, 3) := by decide +kernel
theorem dX8_cell_44 : decode cX8_cell 44 = .ok (.aload_n 0, 1) := by decide +kernel
theorem dX8_cell_45 : decode cX8_cell 45 = .ok (.getfield 10, 3) := by decide +kernel
theorem dX8_cell_48 : decode cX8_cell 48 = .ok (.iload_n 1, 1) := by decide +kernel
theorem dX8_cell_49 : decode cX8_cell 49 = .ok (.iload_n 2, 1) := by decide +kernel
theorem dX8_cell_50 : decode cX8_cell 50 = .ok (.invokevirtual 91, 3) := by decide +kernel
theorem dX8_cell_53 : decode cX8_cell 53 = .ok (.invokevirtual 95, 3) := by decide +kernel
theorem dX8_cell_56 : decode cX8_cell 56 = .ok (.ireturn, 1) := by decide +kernel
theorem dX8_cell_57 : decode cX8_cell 57 = .ok (.aload_n 0, 1) := by decide +kernel
theorem dX8_cell_58 : decode cX8_cell 58 = .ok (.getfield 10, 3) := by decide +kernel
theorem dX8_cell_61 : decode cX8_cell 61 = .ok (.aload_n 0, 1) := by decide +kernel
theorem dX8_cell_62 : decode cX8_cell 62 = .ok (.getfield 10, 3) := by decide +kernel
theorem dX8_cell_65 : decode cX8_cell 65 = .ok (.iload_n 1, 1) := by decide +kernel
theorem dX8_cell_66 : decode cX8_cell 66 = .ok (.iload_n 2, 1) := by decide +kernel
theorem dX8_cell_67 : decode cX8_cell 67 = .ok (.invokevirtual 91, 3) := by decide +kernel
theorem dX8_cell_70 : decode cX8_cell 70 = .ok (.invokevirtual 129, 3) := by decide +kernel
theorem dX8_cell_73 : decode cX8_cell 73 = .ok (.ireturn, 1) := by decide +kernel
theorem dX8_cell_74 : decode cX8_cell 74 = .ok (.aload_n 0, 1) := by decide +kernel
theorem dX8_cell_75 : decode cX8_cell 75 = .ok (.getfield 43, 3) := by decide +kernel
theorem dX8_cell_78 : decode cX8_cell 78 = .ok (.aload_n 0, 1) := by decide +kernel
theorem dX8_cell_79 : decode cX8_cell 79 = .ok (.getfield 10, 3) := by decide +kernel
theorem dX8_cell_82 : decode cX8_cell 82 = .ok (.invokevirtual 144, 3) := by decide +kernel
theorem dX8_cell_85 : decode cX8_cell 85 = .ok (.aload_n 0, 1) := by decide +kernel
theorem dX8_cell_86 : decode cX8_cell 86 = .ok (.getfield 43, 3) := by decide +kernel
theorem dX8_cell_89 : decode cX8_cell 89 = .ok (.aload_n 0, 1) := by decide +kernel
theorem dX8_cell_90 : decode cX8_cell 90 = .ok (.getfield 10, 3) := by decide +kernel
theorem dX8_cell_93 : decode cX8_cell 93 = .ok (.iload_n 1, 1) := by decide +kernel
theorem dX8_cell_94 : decode cX8_cell 94 = .ok (.iload_n 2, 1) := by decide +kernel
theorem dX8_cell_95 : decode cX8_cell 95 = .ok (.invokevirtual 147, 3) := by decide +kernel
theorem dX8_cell_98 : decode cX8_cell 98 = .ok (.invokevirtual 150, 3) := by decide +kernel
theorem dX8_cell_101 : decode cX8_cell 101 = .ok (.ireturn, 1) := by decide +kernel
theorem dX8_cell_102 : decode cX8_cell 102 = .ok (.iconst (-1), 1) := by decide +kernel
theorem dX8_cell_103 : decode cX8_cell 103 = .ok (.ireturn, 1) := by decide +kernel
set_option maxRecDepth 20000 in
theorem ggX8_square_X0_has : GoodIn wsX8_square wsX0_has := goodIn_r _ [6, 7, 8, 58, 59, 60, 61, 62] (by decide +kernel) (by decide +kernel)
set_option maxRecDepth 20000 in
theorem gX8_square_X0_has : GoodIn wsX8_square (wsV RX8 79 RX0 yX0_has wsX0_has) := goodIn_app (goodIn_of _ (by decide +kernel)) ggX8_square_X0_has
set_option maxRecDepth 20000 in
theorem ggX8_square_X8_isLayer : GoodIn wsX8_square wsX8_isLayer := goodIn_r _ [12] (by decide +kernel) (by decide +kernel)
set_option maxRecDepth 20000 in
theorem gX8_square_X8_isLayer : GoodIn wsX8_square (va_wsS RX8 152 yX8_isLayer wsX8_isLayer) := goodIn_app (goodIn_of _ (by decide +kernel)) ggX8_square_X8_isLayer
set_option maxRecDepth 20000 in
theorem ggX8_square_X0_maskOf : GoodIn wsX8_square wsX0_maskOf := goodIn_r _ [16, 17, 18, 19, 20, 21, 5, 22, 23, 7, 24, 25, 26, 27, 28, 29, 30, 8, 31, 3, 4, 6, 32, 33, 34, 35, 36, 37, 38, 39, 40, 58, 59, 60, 61, 62] (by decide +kernel) (by decide +kernel)
set_option maxRecDepth 20000 in
theorem gX8_square_X0_maskOf : GoodIn wsX8_square (wsV RX8 155 RX0 yX0_maskOf wsX0_maskOf) := goodIn_app (goodIn_of _ (by decide +kernel)) ggX8_square_X0_maskOf
set_option maxRecDepth 20000 in
theorem ggX8_square_X0_squareOf : GoodIn wsX8_square wsX0_squareOf := goodIn_r _ [44, 45, 19, 20, 21, 5, 22, 23, 7, 24, 25, 26, 27, 28, 29, 30, 8, 31, 3, 4, 6, 32, 33, 34, 35, 36, 37, 38, 39, 40, 46, 14, 15, 16, 17, 18, 58, 59, 60, 61, 62] (by decide +kernel) (by decide +kernel)
set_option maxRecDepth 20000 in
theorem gX8_square_X0_squareOf : GoodIn wsX8_square (wsV RX8 159 RX0 yX0_squareOf wsX0_squareOf) := goodIn_app (goodIn_of _ (by decide +kernel)) ggX8_square_X0_squareOf
set_option maxRecDepth 20000 in
theorem ggX8_square_X8_squareAsAnswer : GoodIn wsX8_square wsX8_squareAsAnswer := goodIn_r _ [49] (by decide +kernel) (by decide +kernel)
set_option maxRecDepth 20000 in
theorem gX8_square_X8_squareAsAnswer : GoodIn wsX8_square (va_wsS RX8 162 yX8_squareAsAnswer wsX8_squareAsAnswer) := goodIn_app (goodIn_of _ (by decide +kernel)) ggX8_square_X8_squareAsAnswer
theorem dX8_square_0 : decode cX8_square 0 = .ok (.aload_n 0, 1) := by decide +kernel
theorem dX8_square_1 : decode cX8_square 1 = .ok (.getfield 10, 3) := by decide +kernel
theorem dX8_square_4 : decode cX8_square 4 = .ok (.iload_n 1, 1) := by decide +kernel
theorem dX8_square_5 : decode cX8_square 5 = .ok (.iload_n 2, 1) := by decide +kernel
theorem dX8_square_6 : decode cX8_square 6 = .ok (.invokevirtual 79, 3) := by decide +kernel
theorem dX8_square_9 : decode cX8_square 9 = .ok (.ifCond .eq 10, 3) := by decide +kernel
theorem dX8_square_12 : decode cX8_square 12 = .ok (.iload_n 3, 1) := by decide +kernel
theorem dX8_square_13 : decode cX8_square 13 = .ok (.invokestatic 152, 3) := by decide +kernel
theorem dX8_square_16 : decode cX8_square 16 = .ok (.ifCond .ne 5, 3) := by decide +kernel
theorem dX8_square_19 : decode cX8_square 19 = .ok (.iconst (-1), 1) := by decide +kernel
theorem dX8_square_20 : decode cX8_square 20 = .ok (.ireturn, 1) := by decide +kernel
theorem dX8_square_21 : decode cX8_square 21 = .ok (.iload 4, 2) := by decide +kernel
theorem dX8_square_23 : decode cX8_square 23 = .ok (.lookupswitch 50 #[(0, 25), (1, 36)], 25) := by decide +kernel
theorem dX8_square_48 : decode cX8_square 48 = .ok (.aload_n 0, 1) := by decide +kernel
theorem dX8_square_49 : decode cX8_square 49 = .ok (.getfield 10, 3) := by decide +kernel
theorem dX8_square_52 : decode cX8_square 52 = .ok (.iload_n 1, 1) := by decide +kernel
theorem dX8_square_53 : decode cX8_square 53 = .ok (.iload_n 2, 1) := by decide +kernel
theorem dX8_square_54 : decode cX8_square 54 = .ok (.iload_n 3, 1) := by decide +kernel
theorem dX8_square_55 : decode cX8_square 55 = .ok (.invokevirtual 155, 3) := by decide +kernel
theorem dX8_square_58 : decode cX8_square 58 = .ok (.ireturn, 1) := by decide +kernel
theorem dX8_square_59 : decode cX8_square 59 = .ok (.aload_n 0, 1) := by decide +kernel
theorem dX8_square_60 : decode cX8_square 60 = .ok (.getfield 10, 3) := by decide +kernel
theorem dX8_square_63 : decode cX8_square 63 = .ok (.iload_n 1, 1) := by decide +kernel
theorem dX8_square_64 : decode cX8_square 64 = .ok (.iload_n 2, 1) := by decide +kernel
theorem dX8_square_65 : decode cX8_square 65 = .ok (.iload_n 3, 1) := by decide +kernel
theorem dX8_square_66 : decode cX8_square 66 = .ok (.invokevirtual 159, 3) := by decide +kernel
theorem dX8_square_69 : decode cX8_square 69 = .ok (.invokestatic 162, 3) := by decide +kernel
theorem dX8_square_72 : decode cX8_square 72 = .ok (.ireturn, 1) := by decide +kernel
theorem dX8_square_73 : decode cX8_square 73 = .ok (.iconst (-1), 1) := by decide +kernel
theorem dX8_square_74 : decode cX8_square 74 = .ok (.ireturn, 1) := by decide +kernel
set_option maxRecDepth 20000 in
theorem ggX8_kind_X2_list : GoodIn wsX8_kind wsX2_list := goodIn_r _ [7, 8, 9, 10, 11, 12, 13, 14, 15, 16, 17, 18, 19, 20, 21, 22, 23, 24, 25, 26, 27, 28, 29, 30, 31, 32, 33, 34, 35, 36, 37, 38, 39, 40, 41, 42, 43, 44, 45, 46, 47, 48, 49, 50, 51, 52, 53, 54, 6, 55, 56, 57, 58, 59, 60, 61, 82, 83, 84, 85, 86, 87, 88, 89] (by decide +kernel) (by decide +kernel)
set_option maxRecDepth 20000 in
theorem gX8_kind_X2_list : GoodIn wsX8_kind (wsV RX8 144 RX2 yX2_list wsX2_list) := goodIn_app (goodIn_of _ (by decide +kernel)) ggX8_kind_X2_list
set_option maxRecDepth 20000 in
theorem ggX8_kind_X2_cellsOf : GoodIn wsX8_kind wsX2_cellsOf := goodIn_r _ [65, 57, 82, 83, 84] (by decide +kernel) (by decide +kernel)
set_option maxRecDepth 20000 in
theorem gX8_kind_X2_cellsOf : GoodIn wsX8_kind (wsV RX8 166 RX2 yX2_cellsOf wsX2_cellsOf) := goodIn_app (goodIn_of _ (by decide +kernel)) ggX8_kind_X2_cellsOf
set_option maxRecDepth 20000 in
theorem ggX8_kind_X2_squareOf : GoodIn wsX8_kind wsX2_squareOf := goodIn_r _ [69, 56, 82, 83, 84] (by decide +kernel) (by decide +kernel)
set_option maxRecDepth 20000 in
theorem gX8_kind_X2_squareOf : GoodIn wsX8_kind (wsV RX8 169 RX2 yX2_squareOf wsX2_squareOf) := goodIn_app (goodIn_of _ (by decide +kernel)) ggX8_kind_X2_squareOf
set_option maxRecDepth 20000 in
theorem ggX8_kind_X8_squareAsAnswer : GoodIn wsX8_kind wsX8_squareAsAnswer := goodIn_r _ [73] (by decide +kernel) (by decide +kernel)
set_option maxRecDepth 20000 in
theorem gX8_kind_X8_squareAsAnswer : GoodIn wsX8_kind (va_wsS RX8 162 yX8_squareAsAnswer wsX8_squareAsAnswer) := goodIn_app (goodIn_of _ (by decide +kernel)) ggX8_kind_X8_squareAsAnswer
theorem dX8_kind_0 : decode cX8_kind 0 = .ok (.iload_n 1, 1) := by decide +kernel
theorem dX8_kind_1 : decode cX8_kind 1 = .ok (.iconst (-1), 1) := by decide +kernel
theorem dX8_kind_2 : decode cX8_kind 2 = .ok (.if_icmp .lt 21, 3) := by decide +kernel
theorem dX8_kind_5 : decode cX8_kind 5 = .ok (.iload_n 2, 1) := by decide +kernel
theorem dX8_kind_6 : decode cX8_kind 6 = .ok (.ifCond .lt 17, 3) := by decide +kernel
theorem dX8_kind_9 : decode cX8_kind 9 = .ok (.iload_n 2, 1) := by decide +kernel
theorem dX8_kind_10 : decode cX8_kind 10 = .ok (.iconst 3, 1) := by decide +kernel
theorem dX8_kind_11 : decode cX8_kind 11 = .ok (.if_icmp .gt 12, 3) := by decide +kernel
theorem dX8_kind_14 : decode cX8_kind 14 = .ok (.iload_n 1, 1) := by decide +kernel
theorem dX8_kind_15 : decode cX8_kind 15 = .ok (.iconst (-1), 1) := by decide +kernel
theorem dX8_kind_16 : decode cX8_kind 16 = .ok (.if_icmp .ne 10, 3) := by decide +kernel
theorem dX8_kind_19 : decode cX8_kind 19 = .ok (.iload_n 2, 1) := by decide +kernel
theorem dX8_kind_20 : decode cX8_kind 20 = .ok (.ifCond .eq 6, 3) := by decide +kernel
theorem dX8_kind_23 : decode cX8_kind 23 = .ok (.bipush (-5), 2) := by decide +kernel
theorem dX8_kind_25 : decode cX8_kind 25 = .ok (.ireturn, 1) := by decide +kernel
theorem dX8_kind_26 : decode cX8_kind 26 = .ok (.aload_n 0, 1) := by decide +kernel
theorem dX8_kind_27 : decode cX8_kind 27 = .ok (.getfield 43, 3) := by decide +kernel
theorem dX8_kind_30 : decode cX8_kind 30 = .ok (.aload_n 0, 1) := by decide +kernel
theorem dX8_kind_31 : decode cX8_kind 31 = .ok (.getfield 10, 3) := by decide +kernel
theorem dX8_kind_34 : decode cX8_kind 34 = .ok (.invokevirtual 144, 3) := by decide +kernel
theorem dX8_kind_37 : decode cX8_kind 37 = .ok (.iload_n 1, 1) := by decide +kernel
theorem dX8_kind_38 : decode cX8_kind 38 = .ok (.aload_n 0, 1) := by decide +kernel
theorem dX8_kind_39 : decode cX8_kind 39 = .ok (.getfield 43, 3) := by decide +kernel
theorem dX8_kind_42 : decode cX8_kind 42 = .ok (.getfield 165, 3) := by decide +kernel
theorem dX8_kind_45 : decode cX8_kind 45 = .ok (.if_icmp .lt 6, 3) := by decide +kernel
theorem dX8_kind_48 : decode cX8_kind 48 = .ok (.bipush (-5), 2) := by decide +kernel
theorem dX8_kind_50 : decode cX8_kind 50 = .ok (.ireturn, 1) := by decide +kernel
theorem dX8_kind_51 : decode cX8_kind 51 = .ok (.iload_n 1, 1) := by decide +kernel
theorem dX8_kind_52 : decode cX8_kind 52 = .ok (.iconst (-1), 1) := by decide +kernel
theorem dX8_kind_53 : decode cX8_kind 53 = .ok (.if_icmp .ne 11, 3) := by decide +kernel
theorem dX8_kind_56 : decode cX8_kind 56 = .ok (.aload_n 0, 1) := by decide +kernel
theorem dX8_kind_57 : decode cX8_kind 57 = .ok (.getfield 43, 3) := by decide +kernel
theorem dX8_kind_60 : decode cX8_kind 60 = .ok (.getfield 165, 3) := by decide +kernel
theorem dX8_kind_63 : decode cX8_kind 63 = .ok (.ireturn, 1) := by decide +kernel
theorem dX8_kind_64 : decode cX8_kind 64 = .ok (.iload_n 2, 1) := by decide +kernel
theorem dX8_kind_65 : decode cX8_kind 65 = .ok (.ifCond .ne 14, 3) := by decide +kernel
theorem dX8_kind_68 : decode cX8_kind 68 = .ok (.aload_n 0, 1) := by decide +kernel
theorem dX8_kind_69 : decode cX8_kind 69 = .ok (.getfield 43, 3) := by decide +kernel
theorem dX8_kind_72 : decode cX8_kind 72 = .ok (.iload_n 1, 1) := by decide +kernel
theorem dX8_kind_73 : decode cX8_kind 73 = .ok (.invokevirtual 166, 3) := by decide +kernel
theorem dX8_kind_76 : decode cX8_kind 76 = .ok (.goto 15, 3) := by decide +kernel
theorem dX8_kind_79 : decode cX8_kind 79 = .ok (.aload_n 0, 1) := by decide +kernel
theorem dX8_kind_80 : decode cX8_kind 80 = .ok (.getfield 43, 3) := by decide +kernel
theorem dX8_kind_83 : decode cX8_kind 83 = .ok (.iload_n 1, 1) := by decide +kernel
theorem dX8_kind_84 : decode cX8_kind 84 = .ok (.iload_n 2, 1) := by decide +kernel
theorem dX8_kind_85 : decode cX8_kind 85 = .ok (.invokevirtual 169, 3) := by decide +kernel
theorem dX8_kind_88 : decode cX8_kind 88 = .ok (.invokestatic 162, 3) := by decide +kernel
theorem dX8_kind_91 : decode cX8_kind 91 = .ok (.ireturn, 1) := by decide +kernel
set_option maxRecDepth 20000 in
theorem ggX8_jars_X0_jarringPairs : GoodIn wsX8_jars wsX0_jarringPairs := goodIn_r _ [6, 7, 8, 9, 10, 11, 5, 12, 13, 14, 15, 16, 17, 18, 19, 20, 21, 22, 23, 24, 25, 26, 27, 28, 29, 30, 31, 40, 41, 42, 43, 44] (by decide +kernel) (by decide +kernel)
set_option maxRecDepth 20000 in
theorem gX8_jars_X0_jarringPairs : GoodIn wsX8_jars (wsV RX8 115 RX0 yX0_jarringPairs wsX0_jarringPairs) := goodIn_app (goodIn_of _ (by decide +kernel)) ggX8_jars_X0_jarringPairs
theorem dX8_jars_0 : decode cX8_jars 0 = .ok (.aload_n 0, 1) := by decide +kernel
theorem dX8_jars_1 : decode cX8_jars 1 = .ok (.getfield 10, 3) := by decide +kernel
theorem dX8_jars_4 : decode cX8_jars 4 = .ok (.invokevirtual 115, 3) := by decide +kernel
theorem dX8_jars_7 : decode cX8_jars 7 = .ok (.ireturn, 1) := by decide +kernel
set_option maxRecDepth 20000 in
theorem ggX8_least_X0_cells : GoodIn wsX8_least wsX0_cells := goodIn_r _ [7, 8, 9, 139, 140, 141, 142, 143] (by decide +kernel) (by decide +kernel)
set_option maxRecDepth 20000 in
theorem gX8_least_X0_cells : GoodIn wsX8_least (wsV RX8 106 RX0 yX0_cells wsX0_cells) := goodIn_app (goodIn_of _ (by decide +kernel)) ggX8_least_X0_cells
set_option maxRecDepth 20000 in
theorem ggX8_least_X3_find : GoodIn wsX8_least wsX3_find := goodIn_r _ [14, 15, 16, 17, 18, 19, 13, 20, 21, 22, 23, 6, 24, 8, 9, 25, 26, 27, 28, 29, 30, 31, 32, 33, 34, 35, 36, 37, 38, 39, 40, 41, 42, 43, 44, 45, 46, 47, 48, 49, 50, 51, 52, 53, 54, 55, 56, 57, 58, 59, 60, 61, 62, 63, 64, 65, 66, 67, 68, 69, 70, 71, 72, 73, 74, 75, 76, 77, 78, 79, 80, 81, 82, 83, 84, 85, 86, 87, 88, 89, 90, 91, 92, 93, 94, 95, 96, 97, 98, 99, 100, 101, 102, 103, 104, 105, 106, 107, 108, 109, 110, 111, 112, 113, 114, 115, 116, 117, 131, 132, 133, 134, 135, 136, 137, 138, 139, 140, 141, 142, 143] (by decide +kernel) (by decide +kernel)
set_option maxRecDepth 20000 in
theorem gX8_least_X3_find : GoodIn wsX8_least (wsV RX8 118 RX3 yX3_find wsX3_find) := goodIn_app (goodIn_of _ (by decide +kernel)) ggX8_least_X3_find
set_option maxRecDepth 20000 in
theorem ggX8_least_X3_heightOf : GoodIn wsX8_least wsX3_heightOf := goodIn_r _ [121, 112, 122, 72, 6, 73, 131, 132, 133, 134, 135, 136, 137, 138] (by decide +kernel) (by decide +kernel)
set_option maxRecDepth 20000 in
theorem gX8_least_X3_heightOf : GoodIn wsX8_least (wsV RX8 171 RX3 yX3_heightOf wsX3_heightOf) := goodIn_app (goodIn_of _ (by decide +kernel)) ggX8_least_X3_heightOf
