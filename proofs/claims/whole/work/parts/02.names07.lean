theorem dX9_laysCosts_55 : decode cX9_laysCosts 55 = .ok (.aload_n 0, 1) := by decide +kernel
theorem dX9_laysCosts_56 : decode cX9_laysCosts 56 = .ok (.getfield 36, 3) := by decide +kernel
theorem dX9_laysCosts_59 : decode cX9_laysCosts 59 = .ok (.sipush 256, 3) := by decide +kernel
theorem dX9_laysCosts_62 : decode cX9_laysCosts 62 = .ok (.iload_n 2, 1) := by decide +kernel
theorem dX9_laysCosts_63 : decode cX9_laysCosts 63 = .ok (.imul, 1) := by decide +kernel
theorem dX9_laysCosts_64 : decode cX9_laysCosts 64 = .ok (.iload_n 3, 1) := by decide +kernel
theorem dX9_laysCosts_65 : decode cX9_laysCosts 65 = .ok (.iadd, 1) := by decide +kernel
theorem dX9_laysCosts_66 : decode cX9_laysCosts 66 = .ok (.iload 4, 2) := by decide +kernel
theorem dX9_laysCosts_68 : decode cX9_laysCosts 68 = .ok (.sipush 1000, 3) := by decide +kernel
theorem dX9_laysCosts_71 : decode cX9_laysCosts 71 = .ok (.if_icmp .ne 9, 3) := by decide +kernel
theorem dX9_laysCosts_74 : decode cX9_laysCosts 74 = .ok (.sipush 1000, 3) := by decide +kernel
theorem dX9_laysCosts_77 : decode cX9_laysCosts 77 = .ok (.goto 12, 3) := by decide +kernel
theorem dX9_laysCosts_80 : decode cX9_laysCosts 80 = .ok (.iload 4, 2) := by decide +kernel
theorem dX9_laysCosts_82 : decode cX9_laysCosts 82 = .ok (.aload_n 0, 1) := by decide +kernel
theorem dX9_laysCosts_83 : decode cX9_laysCosts 83 = .ok (.iload_n 2, 1) := by decide +kernel
theorem dX9_laysCosts_84 : decode cX9_laysCosts 84 = .ok (.iload_n 3, 1) := by decide +kernel
theorem dX9_laysCosts_85 : decode cX9_laysCosts 85 = .ok (.invokevirtual 150, 3) := by decide +kernel
theorem dX9_laysCosts_88 : decode cX9_laysCosts 88 = .ok (.iadd, 1) := by decide +kernel
theorem dX9_laysCosts_89 : decode cX9_laysCosts 89 = .ok (.iastore, 1) := by decide +kernel
theorem dX9_laysCosts_90 : decode cX9_laysCosts 90 = .ok (.iinc 3 1, 3) := by decide +kernel
theorem dX9_laysCosts_93 : decode cX9_laysCosts 93 = .ok (.goto (-67), 3) := by decide +kernel
theorem dX9_laysCosts_96 : decode cX9_laysCosts 96 = .ok (.iinc 2 (-1), 3) := by decide +kernel
theorem dX9_laysCosts_99 : decode cX9_laysCosts 99 = .ok (.goto (-79), 3) := by decide +kernel
theorem dX9_laysCosts_102 : decode cX9_laysCosts 102 = .ok (.return_, 1) := by decide +kernel
set_option maxRecDepth 20000 in
theorem ggX9_change_X9_laysCosts : GoodIn wsX9_change wsX9_laysCosts := goodIn_r _ [8, 1, 2, 9, 10, 11, 7, 12, 13, 14, 15, 16, 17, 18, 19, 20, 21, 22, 23, 24, 25, 26, 27, 28, 29, 30, 31, 32, 33, 34, 35, 36, 37, 38, 39, 40, 41, 42, 43, 44, 45, 46, 47, 48, 49, 50, 51, 52, 53, 54, 55, 56, 57, 58, 59, 60, 61, 62] (by decide +kernel) (by decide +kernel)
set_option maxRecDepth 20000 in
theorem gX9_change_X9_laysCosts : GoodIn wsX9_change (wsV RX9 153 RX9 yX9_laysCosts wsX9_laysCosts) := goodIn_app (goodIn_of _ (by decide +kernel)) ggX9_change_X9_laysCosts
set_option maxRecDepth 20000 in
theorem ggX9_change_X9_fit : GoodIn wsX9_change wsX9_fit := goodIn_r _ [34, 1, 24, 25, 7, 26, 13, 14, 15, 16, 21, 22, 23, 39, 40, 41, 42, 43, 44, 45, 46, 47, 48, 49, 50, 51, 52, 53, 54, 55, 56, 57, 58, 59, 60, 61, 62] (by decide +kernel) (by decide +kernel)
set_option maxRecDepth 20000 in
theorem gX9_change_X9_fit : GoodIn wsX9_change (wsV RX9 140 RX9 yX9_fit wsX9_fit) := goodIn_app (goodIn_of _ (by decide +kernel)) ggX9_change_X9_fit
set_option maxRecDepth 20000 in
theorem ggX9_change_X9_figureOf : GoodIn wsX9_change wsX9_figureOf := goodIn_r _ [16, 1, 39, 40, 41, 42, 43, 44, 45, 46, 47, 48, 49, 50, 51, 52, 53, 54, 55, 56, 57, 58, 59, 60, 61, 62] (by decide +kernel) (by decide +kernel)
set_option maxRecDepth 20000 in
theorem gX9_change_X9_figureOf : GoodIn wsX9_change (wsV RX9 134 RX9 yX9_figureOf wsX9_figureOf) := goodIn_app (goodIn_of _ (by decide +kernel)) ggX9_change_X9_figureOf
set_option maxRecDepth 20000 in
theorem ggX9_change_X9_changedBy : GoodIn wsX9_change wsX9_changedBy := goodIn_r _ [38, 1, 13, 14, 15, 7, 16, 17, 18, 19, 20, 39, 40, 41, 42, 43, 44, 45, 46, 47, 48, 49, 50, 51, 52, 53, 54, 55, 56, 57, 58, 59, 60, 61, 62] (by decide +kernel) (by decide +kernel)
set_option maxRecDepth 20000 in
theorem gX9_change_X9_changedBy : GoodIn wsX9_change (wsV RX9 150 RX9 yX9_changedBy wsX9_changedBy) := goodIn_app (goodIn_of _ (by decide +kernel)) ggX9_change_X9_changedBy
theorem dX9_change_0 : decode cX9_change 0 = .ok (.aload_n 0, 1) := by decide +kernel
theorem dX9_change_1 : decode cX9_change 1 = .ok (.invokevirtual 153, 3) := by decide +kernel
theorem dX9_change_4 : decode cX9_change 4 = .ok (.iconst 1, 1) := by decide +kernel
theorem dX9_change_5 : decode cX9_change 5 = .ok (.iconst 2, 1) := by decide +kernel
theorem dX9_change_6 : decode cX9_change 6 = .ok (.aload_n 0, 1) := by decide +kernel
theorem dX9_change_7 : decode cX9_change 7 = .ok (.getfield 7, 3) := by decide +kernel
theorem dX9_change_10 : decode cX9_change 10 = .ok (.iconst 0, 1) := by decide +kernel
theorem dX9_change_11 : decode cX9_change 11 = .ok (.iaload, 1) := by decide +kernel
theorem dX9_change_12 : decode cX9_change 12 = .ok (.imul, 1) := by decide +kernel
theorem dX9_change_13 : decode cX9_change 13 = .ok (.ishl, 1) := by decide +kernel
theorem dX9_change_14 : decode cX9_change 14 = .ok (.istore_n 1, 1) := by decide +kernel
theorem dX9_change_15 : decode cX9_change 15 = .ok (.sipush 1000, 3) := by decide +kernel
theorem dX9_change_18 : decode cX9_change 18 = .ok (.istore_n 2, 1) := by decide +kernel
theorem dX9_change_19 : decode cX9_change 19 = .ok (.iconst 0, 1) := by decide +kernel
theorem dX9_change_20 : decode cX9_change 20 = .ok (.istore_n 3, 1) := by decide +kernel
theorem dX9_change_21 : decode cX9_change 21 = .ok (.iload_n 3, 1) := by decide +kernel
theorem dX9_change_22 : decode cX9_change 22 = .ok (.iload_n 1, 1) := by decide +kernel
theorem dX9_change_23 : decode cX9_change 23 = .ok (.if_icmp .ge 30, 3) := by decide +kernel
theorem dX9_change_26 : decode cX9_change 26 = .ok (.aload_n 0, 1) := by decide +kernel
theorem dX9_change_27 : decode cX9_change 27 = .ok (.getfield 36, 3) := by decide +kernel
theorem dX9_change_30 : decode cX9_change 30 = .ok (.iload_n 3, 1) := by decide +kernel
theorem dX9_change_31 : decode cX9_change 31 = .ok (.iaload, 1) := by decide +kernel
theorem dX9_change_32 : decode cX9_change 32 = .ok (.iload_n 2, 1) := by decide +kernel
theorem dX9_change_33 : decode cX9_change 33 = .ok (.if_icmp .ge 12, 3) := by decide +kernel
theorem dX9_change_36 : decode cX9_change 36 = .ok (.aload_n 0, 1) := by decide +kernel
theorem dX9_change_37 : decode cX9_change 37 = .ok (.getfield 36, 3) := by decide +kernel
theorem dX9_change_40 : decode cX9_change 40 = .ok (.iload_n 3, 1) := by decide +kernel
theorem dX9_change_41 : decode cX9_change 41 = .ok (.iaload, 1) := by decide +kernel
theorem dX9_change_42 : decode cX9_change 42 = .ok (.goto 4, 3) := by decide +kernel
theorem dX9_change_45 : decode cX9_change 45 = .ok (.iload_n 2, 1) := by decide +kernel
theorem dX9_change_46 : decode cX9_change 46 = .ok (.istore_n 2, 1) := by decide +kernel
theorem dX9_change_47 : decode cX9_change 47 = .ok (.iinc 3 1, 3) := by decide +kernel
theorem dX9_change_50 : decode cX9_change 50 = .ok (.goto (-29), 3) := by decide +kernel
theorem dX9_change_53 : decode cX9_change 53 = .ok (.iload_n 2, 1) := by decide +kernel
theorem dX9_change_54 : decode cX9_change 54 = .ok (.sipush 1000, 3) := by decide +kernel
theorem dX9_change_57 : decode cX9_change 57 = .ok (.if_icmp .ne 6, 3) := by decide +kernel
theorem dX9_change_60 : decode cX9_change 60 = .ok (.bipush (-9), 2) := by decide +kernel
theorem dX9_change_62 : decode cX9_change 62 = .ok (.ireturn, 1) := by decide +kernel
theorem dX9_change_63 : decode cX9_change 63 = .ok (.iload_n 2, 1) := by decide +kernel
theorem dX9_change_64 : decode cX9_change 64 = .ok (.istore_n 3, 1) := by decide +kernel
theorem dX9_change_65 : decode cX9_change 65 = .ok (.bipush (-9), 2) := by decide +kernel
theorem dX9_change_67 : decode cX9_change 67 = .ok (.istore 4, 2) := by decide +kernel
theorem dX9_change_69 : decode cX9_change 69 = .ok (.iconst 0, 1) := by decide +kernel
theorem dX9_change_70 : decode cX9_change 70 = .ok (.istore 5, 2) := by decide +kernel
theorem dX9_change_72 : decode cX9_change 72 = .ok (.iload 5, 2) := by decide +kernel
theorem dX9_change_74 : decode cX9_change 74 = .ok (.aload_n 0, 1) := by decide +kernel
theorem dX9_change_75 : decode cX9_change 75 = .ok (.getfield 7, 3) := by decide +kernel
theorem dX9_change_78 : decode cX9_change 78 = .ok (.iconst 1, 1) := by decide +kernel
theorem dX9_change_79 : decode cX9_change 79 = .ok (.iaload, 1) := by decide +kernel
theorem dX9_change_80 : decode cX9_change 80 = .ok (.if_icmp .ge 114, 3) := by decide +kernel
theorem dX9_change_83 : decode cX9_change 83 = .ok (.iconst 0, 1) := by decide +kernel
theorem dX9_change_84 : decode cX9_change 84 = .ok (.istore 6, 2) := by decide +kernel
theorem dX9_change_86 : decode cX9_change 86 = .ok (.aload_n 0, 1) := by decide +kernel
theorem dX9_change_87 : decode cX9_change 87 = .ok (.getfield 36, 3) := by decide +kernel
theorem dX9_change_90 : decode cX9_change 90 = .ok (.sipush 256, 3) := by decide +kernel
theorem dX9_change_93 : decode cX9_change 93 = .ok (.iload 5, 2) := by decide +kernel
theorem dX9_change_95 : decode cX9_change 95 = .ok (.imul, 1) := by decide +kernel
theorem dX9_change_96 : decode cX9_change 96 = .ok (.iload 6, 2) := by decide +kernel
theorem dX9_change_98 : decode cX9_change 98 = .ok (.iadd, 1) := by decide +kernel
theorem dX9_change_99 : decode cX9_change 99 = .ok (.iaload, 1) := by decide +kernel
theorem dX9_change_100 : decode cX9_change 100 = .ok (.iload_n 3, 1) := by decide +kernel
theorem dX9_change_101 : decode cX9_change 101 = .ok (.if_icmp .ne 21, 3) := by decide +kernel
theorem dX9_change_104 : decode cX9_change 104 = .ok (.iload 4, 2) := by decide +kernel
theorem dX9_change_106 : decode cX9_change 106 = .ok (.bipush (-9), 2) := by decide +kernel
theorem dX9_change_108 : decode cX9_change 108 = .ok (.if_icmp .eq 20, 3) := by decide +kernel
theorem dX9_change_111 : decode cX9_change 111 = .ok (.aload_n 0, 1) := by decide +kernel
theorem dX9_change_112 : decode cX9_change 112 = .ok (.iload 4, 2) := by decide +kernel
theorem dX9_change_114 : decode cX9_change 114 = .ok (.iload 6, 2) := by decide +kernel
theorem dX9_change_116 : decode cX9_change 116 = .ok (.invokevirtual 140, 3) := by decide +kernel
theorem dX9_change_119 : decode cX9_change 119 = .ok (.ifCond .ne 9, 3) := by decide +kernel
theorem dX9_change_122 : decode cX9_change 122 = .ok (.iinc 6 1, 3) := by decide +kernel
theorem dX9_change_125 : decode cX9_change 125 = .ok (.goto (-39), 3) := by decide +kernel
theorem dX9_change_128 : decode cX9_change 128 = .ok (.iconst 0, 1) := by decide +kernel
theorem dX9_change_129 : decode cX9_change 129 = .ok (.istore 7, 2) := by decide +kernel
theorem dX9_change_131 : decode cX9_change 131 = .ok (.iload 7, 2) := by decide +kernel
theorem dX9_change_133 : decode cX9_change 133 = .ok (.aload_n 0, 1) := by decide +kernel
theorem dX9_change_134 : decode cX9_change 134 = .ok (.getfield 7, 3) := by decide +kernel
theorem dX9_change_137 : decode cX9_change 137 = .ok (.iconst 0, 1) := by decide +kernel
theorem dX9_change_138 : decode cX9_change 138 = .ok (.iaload, 1) := by decide +kernel
theorem dX9_change_139 : decode cX9_change 139 = .ok (.if_icmp .ge 34, 3) := by decide +kernel
theorem dX9_change_142 : decode cX9_change 142 = .ok (.aload_n 0, 1) := by decide +kernel
theorem dX9_change_143 : decode cX9_change 143 = .ok (.getfield 39, 3) := by decide +kernel
theorem dX9_change_146 : decode cX9_change 146 = .ok (.aload_n 0, 1) := by decide +kernel
theorem dX9_change_147 : decode cX9_change 147 = .ok (.getfield 7, 3) := by decide +kernel
theorem dX9_change_150 : decode cX9_change 150 = .ok (.iconst 0, 1) := by decide +kernel
theorem dX9_change_151 : decode cX9_change 151 = .ok (.iaload, 1) := by decide +kernel
theorem dX9_change_152 : decode cX9_change 152 = .ok (.iload 5, 2) := by decide +kernel
theorem dX9_change_154 : decode cX9_change 154 = .ok (.imul, 1) := by decide +kernel
theorem dX9_change_155 : decode cX9_change 155 = .ok (.iload 7, 2) := by decide +kernel
theorem dX9_change_157 : decode cX9_change 157 = .ok (.iadd, 1) := by decide +kernel
theorem dX9_change_158 : decode cX9_change 158 = .ok (.aload_n 0, 1) := by decide +kernel
theorem dX9_change_159 : decode cX9_change 159 = .ok (.iload 6, 2) := by decide +kernel
theorem dX9_change_161 : decode cX9_change 161 = .ok (.iload 7, 2) := by decide +kernel
theorem dX9_change_163 : decode cX9_change 163 = .ok (.invokevirtual 134, 3) := by decide +kernel
theorem dX9_change_166 : decode cX9_change 166 = .ok (.iastore, 1) := by decide +kernel
theorem dX9_change_167 : decode cX9_change 167 = .ok (.iinc 7 1, 3) := by decide +kernel
theorem dX9_change_170 : decode cX9_change 170 = .ok (.goto (-39), 3) := by decide +kernel
theorem dX9_change_173 : decode cX9_change 173 = .ok (.iload_n 3, 1) := by decide +kernel
theorem dX9_change_174 : decode cX9_change 174 = .ok (.aload_n 0, 1) := by decide +kernel
theorem dX9_change_175 : decode cX9_change 175 = .ok (.iload 5, 2) := by decide +kernel
theorem dX9_change_177 : decode cX9_change 177 = .ok (.iload 6, 2) := by decide +kernel
theorem dX9_change_179 : decode cX9_change 179 = .ok (.invokevirtual 150, 3) := by decide +kernel
theorem dX9_change_182 : decode cX9_change 182 = .ok (.isub, 1) := by decide +kernel
theorem dX9_change_183 : decode cX9_change 183 = .ok (.istore_n 3, 1) := by decide +kernel
theorem dX9_change_184 : decode cX9_change 184 = .ok (.iload 6, 2) := by decide +kernel
theorem dX9_change_186 : decode cX9_change 186 = .ok (.istore 4, 2) := by decide +kernel
theorem dX9_change_188 : decode cX9_change 188 = .ok (.iinc 5 1, 3) := by decide +kernel
theorem dX9_change_191 : decode cX9_change 191 = .ok (.goto (-119), 3) := by decide +kernel
theorem dX9_change_194 : decode cX9_change 194 = .ok (.iload_n 2, 1) := by decide +kernel
theorem dX9_change_195 : decode cX9_change 195 = .ok (.ireturn, 1) := by decide +kernel
set_option maxRecDepth 20000 in
theorem ggX9_jarring_X9_cells : GoodIn wsX9_jarring wsX9_cells := goodIn_r _ [6, 1, 13, 14, 15, 16, 17, 18, 19, 20, 21, 22, 23, 24, 25, 26, 27, 28, 29, 30, 31, 32, 33, 34, 35, 36] (by decide +kernel) (by decide +kernel)
set_option maxRecDepth 20000 in
theorem gX9_jarring_X9_cells : GoodIn wsX9_jarring (wsV RX9 121 RX9 yX9_cells wsX9_cells) := goodIn_app (goodIn_of _ (by decide +kernel)) ggX9_jarring_X9_cells
set_option maxRecDepth 20000 in
theorem ggX9_jarring_X9_in : GoodIn wsX9_jarring wsX9_in := goodIn_r _ [9] (by decide +kernel) (by decide +kernel)
set_option maxRecDepth 20000 in
theorem gX9_jarring_X9_in : GoodIn wsX9_jarring (va_wsS RX9 55 yX9_in wsX9_in) := goodIn_app (goodIn_of _ (by decide +kernel)) ggX9_jarring_X9_in
set_option maxRecDepth 20000 in
theorem ggX9_jarring_X9_isNear : GoodIn wsX9_jarring wsX9_isNear := goodIn_r _ [12, 7, 8, 5, 9] (by decide +kernel) (by decide +kernel)
set_option maxRecDepth 20000 in
theorem gX9_jarring_X9_isNear : GoodIn wsX9_jarring (va_wsS RX9 137 yX9_isNear wsX9_isNear) := goodIn_app (goodIn_of _ (by decide +kernel)) ggX9_jarring_X9_isNear
theorem dX9_jarring_0 : decode cX9_jarring 0 = .ok (.iconst 0, 1) := by decide +kernel
theorem dX9_jarring_1 : decode cX9_jarring 1 = .ok (.istore_n 1, 1) := by decide +kernel
theorem dX9_jarring_2 : decode cX9_jarring 2 = .ok (.iconst 0, 1) := by decide +kernel
theorem dX9_jarring_3 : decode cX9_jarring 3 = .ok (.istore_n 2, 1) := by decide +kernel
theorem dX9_jarring_4 : decode cX9_jarring 4 = .ok (.iload_n 2, 1) := by decide +kernel
theorem dX9_jarring_5 : decode cX9_jarring 5 = .ok (.aload_n 0, 1) := by decide +kernel
theorem dX9_jarring_6 : decode cX9_jarring 6 = .ok (.invokevirtual 121, 3) := by decide +kernel
theorem dX9_jarring_9 : decode cX9_jarring 9 = .ok (.if_icmp .ge 114, 3) := by decide +kernel
theorem dX9_jarring_12 : decode cX9_jarring 12 = .ok (.iconst 0, 1) := by decide +kernel
theorem dX9_jarring_13 : decode cX9_jarring 13 = .ok (.istore_n 3, 1) := by decide +kernel
theorem dX9_jarring_14 : decode cX9_jarring 14 = .ok (.iload_n 3, 1) := by decide +kernel
theorem dX9_jarring_15 : decode cX9_jarring 15 = .ok (.iload_n 2, 1) := by decide +kernel
theorem dX9_jarring_16 : decode cX9_jarring 16 = .ok (.if_icmp .ge 101, 3) := by decide +kernel
theorem dX9_jarring_19 : decode cX9_jarring 19 = .ok (.iload_n 2, 1) := by decide +kernel
theorem dX9_jarring_20 : decode cX9_jarring 20 = .ok (.aload_n 0, 1) := by decide +kernel
theorem dX9_jarring_21 : decode cX9_jarring 21 = .ok (.getfield 7, 3) := by decide +kernel
theorem dX9_jarring_24 : decode cX9_jarring 24 = .ok (.iconst 0, 1) := by decide +kernel
theorem dX9_jarring_25 : decode cX9_jarring 25 = .ok (.iaload, 1) := by decide +kernel
theorem dX9_jarring_26 : decode cX9_jarring 26 = .ok (.irem, 1) := by decide +kernel
theorem dX9_jarring_27 : decode cX9_jarring 27 = .ok (.iload_n 3, 1) := by decide +kernel
theorem dX9_jarring_28 : decode cX9_jarring 28 = .ok (.aload_n 0, 1) := by decide +kernel
theorem dX9_jarring_29 : decode cX9_jarring 29 = .ok (.getfield 7, 3) := by decide +kernel
theorem dX9_jarring_32 : decode cX9_jarring 32 = .ok (.iconst 0, 1) := by decide +kernel
theorem dX9_jarring_33 : decode cX9_jarring 33 = .ok (.iaload, 1) := by decide +kernel
theorem dX9_jarring_34 : decode cX9_jarring 34 = .ok (.irem, 1) := by decide +kernel
theorem dX9_jarring_35 : decode cX9_jarring 35 = .ok (.isub, 1) := by decide +kernel
theorem dX9_jarring_36 : decode cX9_jarring 36 = .ok (.iconst (-1), 1) := by decide +kernel
theorem dX9_jarring_37 : decode cX9_jarring 37 = .ok (.iconst 1, 1) := by decide +kernel
theorem dX9_jarring_38 : decode cX9_jarring 38 = .ok (.invokestatic 55, 3) := by decide +kernel
theorem dX9_jarring_41 : decode cX9_jarring 41 = .ok (.ifCond .eq 32, 3) := by decide +kernel
theorem dX9_jarring_44 : decode cX9_jarring 44 = .ok (.iload_n 2, 1) := by decide +kernel
theorem dX9_jarring_45 : decode cX9_jarring 45 = .ok (.aload_n 0, 1) := by decide +kernel
theorem dX9_jarring_46 : decode cX9_jarring 46 = .ok (.getfield 7, 3) := by decide +kernel
theorem dX9_jarring_49 : decode cX9_jarring 49 = .ok (.iconst 0, 1) := by decide +kernel
theorem dX9_jarring_50 : decode cX9_jarring 50 = .ok (.iaload, 1) := by decide +kernel
theorem dX9_jarring_51 : decode cX9_jarring 51 = .ok (.idiv, 1) := by decide +kernel
theorem dX9_jarring_52 : decode cX9_jarring 52 = .ok (.iload_n 3, 1) := by decide +kernel
theorem dX9_jarring_53 : decode cX9_jarring 53 = .ok (.aload_n 0, 1) := by decide +kernel
theorem dX9_jarring_54 : decode cX9_jarring 54 = .ok (.getfield 7, 3) := by decide +kernel
theorem dX9_jarring_57 : decode cX9_jarring 57 = .ok (.iconst 0, 1) := by decide +kernel
theorem dX9_jarring_58 : decode cX9_jarring 58 = .ok (.iaload, 1) := by decide +kernel
theorem dX9_jarring_59 : decode cX9_jarring 59 = .ok (.idiv, 1) := by decide +kernel
theorem dX9_jarring_60 : decode cX9_jarring 60 = .ok (.isub, 1) := by decide +kernel
theorem dX9_jarring_61 : decode cX9_jarring 61 = .ok (.iconst (-1), 1) := by decide +kernel
theorem dX9_jarring_62 : decode cX9_jarring 62 = .ok (.iconst 1, 1) := by decide +kernel
theorem dX9_jarring_63 : decode cX9_jarring 63 = .ok (.invokestatic 55, 3) := by decide +kernel
theorem dX9_jarring_66 : decode cX9_jarring 66 = .ok (.ifCond .eq 7, 3) := by decide +kernel
theorem dX9_jarring_69 : decode cX9_jarring 69 = .ok (.iconst 1, 1) := by decide +kernel
theorem dX9_jarring_70 : decode cX9_jarring 70 = .ok (.goto 4, 3) := by decide +kernel
theorem dX9_jarring_73 : decode cX9_jarring 73 = .ok (.iconst 0, 1) := by decide +kernel
theorem dX9_jarring_74 : decode cX9_jarring 74 = .ok (.istore 4, 2) := by decide +kernel
theorem dX9_jarring_76 : decode cX9_jarring 76 = .ok (.iload_n 1, 1) := by decide +kernel
theorem dX9_jarring_77 : decode cX9_jarring 77 = .ok (.iload 4, 2) := by decide +kernel
theorem dX9_jarring_79 : decode cX9_jarring 79 = .ok (.ifCond .eq 29, 3) := by decide +kernel
theorem dX9_jarring_82 : decode cX9_jarring 82 = .ok (.aload_n 0, 1) := by decide +kernel
theorem dX9_jarring_83 : decode cX9_jarring 83 = .ok (.getfield 7, 3) := by decide +kernel
theorem dX9_jarring_86 : decode cX9_jarring 86 = .ok (.iconst 3, 1) := by decide +kernel
theorem dX9_jarring_87 : decode cX9_jarring 87 = .ok (.iload_n 2, 1) := by decide +kernel
theorem dX9_jarring_88 : decode cX9_jarring 88 = .ok (.iadd, 1) := by decide +kernel
theorem dX9_jarring_89 : decode cX9_jarring 89 = .ok (.iaload, 1) := by decide +kernel
theorem dX9_jarring_90 : decode cX9_jarring 90 = .ok (.aload_n 0, 1) := by decide +kernel
theorem dX9_jarring_91 : decode cX9_jarring 91 = .ok (.getfield 7, 3) := by decide +kernel
theorem dX9_jarring_94 : decode cX9_jarring 94 = .ok (.iconst 3, 1) := by decide +kernel
theorem dX9_jarring_95 : decode cX9_jarring 95 = .ok (.iload_n 3, 1) := by decide +kernel
theorem dX9_jarring_96 : decode cX9_jarring 96 = .ok (.iadd, 1) := by decide +kernel
theorem dX9_jarring_97 : decode cX9_jarring 97 = .ok (.iaload, 1) := by decide +kernel
theorem dX9_jarring_98 : decode cX9_jarring 98 = .ok (.invokestatic 137, 3) := by decide +kernel
theorem dX9_jarring_101 : decode cX9_jarring 101 = .ok (.ifCond .ne 7, 3) := by decide +kernel
theorem dX9_jarring_104 : decode cX9_jarring 104 = .ok (.iconst 1, 1) := by decide +kernel
theorem dX9_jarring_105 : decode cX9_jarring 105 = .ok (.goto 4, 3) := by decide +kernel
theorem dX9_jarring_108 : decode cX9_jarring 108 = .ok (.iconst 0, 1) := by decide +kernel
theorem dX9_jarring_109 : decode cX9_jarring 109 = .ok (.iadd, 1) := by decide +kernel
theorem dX9_jarring_110 : decode cX9_jarring 110 = .ok (.istore_n 1, 1) := by decide +kernel
theorem dX9_jarring_111 : decode cX9_jarring 111 = .ok (.iinc 3 1, 3) := by decide +kernel
theorem dX9_jarring_114 : decode cX9_jarring 114 = .ok (.goto (-100), 3) := by decide +kernel
theorem dX9_jarring_117 : decode cX9_jarring 117 = .ok (.iinc 2 1, 3) := by decide +kernel
theorem dX9_jarring_120 : decode cX9_jarring 120 = .ok (.goto (-116), 3) := by decide +kernel
theorem dX9_jarring_123 : decode cX9_jarring 123 = .ok (.iload_n 1, 1) := by decide +kernel
theorem dX9_jarring_124 : decode cX9_jarring 124 = .ok (.ireturn, 1) := by decide +kernel
set_option maxRecDepth 20000 in
theorem ggX9_settles_X9_jarring : GoodIn wsX9_settles wsX9_jarring := goodIn_r _ [8, 2, 9, 10, 11, 7, 12, 13, 14, 15, 16, 17, 18, 58, 59, 60, 61, 62, 63, 64, 65, 66, 67, 68, 69, 70, 71, 72, 73, 74, 75, 76, 77, 78, 79, 80, 81] (by decide +kernel) (by decide +kernel)
set_option maxRecDepth 20000 in
theorem gX9_settles_X9_jarring : GoodIn wsX9_settles (wsV RX9 156 RX9 yX9_jarring wsX9_jarring) := goodIn_app (goodIn_of _ (by decide +kernel)) ggX9_settles_X9_jarring
set_option maxRecDepth 20000 in
theorem ggX9_settles_X9_change : GoodIn wsX9_settles wsX9_change := goodIn_r _ [22, 2, 23, 3, 24, 25, 26, 7, 27, 28, 29, 30, 31, 32, 33, 34, 35, 36, 37, 38, 39, 16, 17, 18, 13, 14, 15, 40, 41, 42, 43, 44, 45, 46, 47, 48, 49, 50, 51, 58, 59, 60, 61, 62, 63, 64, 65, 66, 67, 68, 69, 70, 71, 72, 73, 74, 75, 76, 77, 78, 79, 80, 81] (by decide +kernel) (by decide +kernel)
set_option maxRecDepth 20000 in
theorem gX9_settles_X9_change : GoodIn wsX9_settles (wsV RX9 159 RX9 yX9_change wsX9_change) := goodIn_app (goodIn_of _ (by decide +kernel)) ggX9_settles_X9_change
set_option maxRecDepth 20000 in
theorem ggX9_settles_X9_notes : GoodIn wsX9_settles wsX9_notes := goodIn_r _ [55, 56, 57, 2, 58, 59, 60, 61, 62, 63, 64, 65, 66, 67, 68, 69, 70, 71, 72, 73, 74, 75, 76, 77, 78, 79, 80, 81] (by decide +kernel) (by decide +kernel)
set_option maxRecDepth 20000 in
theorem gX9_settles_X9_notes : GoodIn wsX9_settles (wsV RX9 111 RX9 yX9_notes wsX9_notes) := goodIn_app (goodIn_of _ (by decide +kernel)) ggX9_settles_X9_notes
set_option maxRecDepth 20000 in
theorem ggX9_settles_X9_cells : GoodIn wsX9_settles wsX9_cells := goodIn_r _ [12, 2, 58, 59, 60, 61, 62, 63, 64, 65, 66, 67, 68, 69, 70, 71, 72, 73, 74, 75, 76, 77, 78, 79, 80, 81] (by decide +kernel) (by decide +kernel)
set_option maxRecDepth 20000 in
theorem gX9_settles_X9_cells : GoodIn wsX9_settles (wsV RX9 121 RX9 yX9_cells wsX9_cells) := goodIn_app (goodIn_of _ (by decide +kernel)) ggX9_settles_X9_cells
theorem dX9_settles_0 : decode cX9_settles 0 = .ok (.aload_n 0, 1) := by decide +kernel
theorem dX9_settles_1 : decode cX9_settles 1 = .ok (.iconst 0, 1) := by decide +kernel
theorem dX9_settles_2 : decode cX9_settles 2 = .ok (.putfield 51, 3) := by decide +kernel
theorem dX9_settles_5 : decode cX9_settles 5 = .ok (.aload_n 0, 1) := by decide +kernel
theorem dX9_settles_6 : decode cX9_settles 6 = .ok (.invokevirtual 156, 3) := by decide +kernel
theorem dX9_settles_9 : decode cX9_settles 9 = .ok (.ifCond .ne 8, 3) := by decide +kernel
theorem dX9_settles_12 : decode cX9_settles 12 = .ok (.bipush (-9), 2) := by decide +kernel
theorem dX9_settles_14 : decode cX9_settles 14 = .ok (.goto 7, 3) := by decide +kernel
theorem dX9_settles_17 : decode cX9_settles 17 = .ok (.aload_n 0, 1) := by decide +kernel
theorem dX9_settles_18 : decode cX9_settles 18 = .ok (.invokevirtual 159, 3) := by decide +kernel
theorem dX9_settles_21 : decode cX9_settles 21 = .ok (.istore_n 1, 1) := by decide +kernel
theorem dX9_settles_22 : decode cX9_settles 22 = .ok (.iload_n 1, 1) := by decide +kernel
theorem dX9_settles_23 : decode cX9_settles 23 = .ok (.bipush (-9), 2) := by decide +kernel
theorem dX9_settles_25 : decode cX9_settles 25 = .ok (.if_icmp .ne 6, 3) := by decide +kernel
theorem dX9_settles_28 : decode cX9_settles 28 = .ok (.bipush (-2), 2) := by decide +kernel
theorem dX9_settles_30 : decode cX9_settles 30 = .ok (.ireturn, 1) := by decide +kernel
theorem dX9_settles_31 : decode cX9_settles 31 = .ok (.aload_n 0, 1) := by decide +kernel
theorem dX9_settles_32 : decode cX9_settles 32 = .ok (.invokevirtual 111, 3) := by decide +kernel
theorem dX9_settles_35 : decode cX9_settles 35 = .ok (.iconst 0, 1) := by decide +kernel
theorem dX9_settles_36 : decode cX9_settles 36 = .ok (.istore_n 2, 1) := by decide +kernel
theorem dX9_settles_37 : decode cX9_settles 37 = .ok (.iload_n 2, 1) := by decide +kernel
theorem dX9_settles_38 : decode cX9_settles 38 = .ok (.aload_n 0, 1) := by decide +kernel
theorem dX9_settles_39 : decode cX9_settles 39 = .ok (.invokevirtual 121, 3) := by decide +kernel
theorem dX9_settles_42 : decode cX9_settles 42 = .ok (.if_icmp .ge 23, 3) := by decide +kernel
theorem dX9_settles_45 : decode cX9_settles 45 = .ok (.aload_n 0, 1) := by decide +kernel
theorem dX9_settles_46 : decode cX9_settles 46 = .ok (.getfield 7, 3) := by decide +kernel
theorem dX9_settles_49 : decode cX9_settles 49 = .ok (.iconst 3, 1) := by decide +kernel
theorem dX9_settles_50 : decode cX9_settles 50 = .ok (.iload_n 2, 1) := by decide +kernel
theorem dX9_settles_51 : decode cX9_settles 51 = .ok (.iadd, 1) := by decide +kernel
theorem dX9_settles_52 : decode cX9_settles 52 = .ok (.aload_n 0, 1) := by decide +kernel
theorem dX9_settles_53 : decode cX9_settles 53 = .ok (.getfield 39, 3) := by decide +kernel
theorem dX9_settles_56 : decode cX9_settles 56 = .ok (.iload_n 2, 1) := by decide +kernel
theorem dX9_settles_57 : decode cX9_settles 57 = .ok (.iaload, 1) := by decide +kernel
theorem dX9_settles_58 : decode cX9_settles 58 = .ok (.iastore, 1) := by decide +kernel
theorem dX9_settles_59 : decode cX9_settles 59 = .ok (.iinc 2 1, 3) := by decide +kernel
theorem dX9_settles_62 : decode cX9_settles 62 = .ok (.goto (-25), 3) := by decide +kernel
theorem dX9_settles_65 : decode cX9_settles 65 = .ok (.iload_n 1, 1) := by decide +kernel
theorem dX9_settles_66 : decode cX9_settles 66 = .ok (.ireturn, 1) := by decide +kernel
set_option maxRecDepth 20000 in
theorem ggX9_jars_X9_jarring : GoodIn wsX9_jars wsX9_jarring := goodIn_r _ [6, 7, 8, 9, 10, 5, 11, 12, 13, 14, 15, 16, 17, 18, 19, 20, 21, 22, 23, 24, 25, 26, 27, 28, 29, 30, 31, 32, 33, 34, 35, 36, 37, 38, 39, 40, 41] (by decide +kernel) (by decide +kernel)
set_option maxRecDepth 20000 in
theorem gX9_jars_X9_jarring : GoodIn wsX9_jars (wsV RX9 156 RX9 yX9_jarring wsX9_jarring) := goodIn_app (goodIn_of _ (by decide +kernel)) ggX9_jars_X9_jarring
theorem dX9_jars_0 : decode cX9_jars 0 = .ok (.aload_n 0, 1) := by decide +kernel
theorem dX9_jars_1 : decode cX9_jars 1 = .ok (.iconst 0, 1) := by decide +kernel
theorem dX9_jars_2 : decode cX9_jars 2 = .ok (.putfield 51, 3) := by decide +kernel
theorem dX9_jars_5 : decode cX9_jars 5 = .ok (.aload_n 0, 1) := by decide +kernel
theorem dX9_jars_6 : decode cX9_jars 6 = .ok (.invokevirtual 156, 3) := by decide +kernel
theorem dX9_jars_9 : decode cX9_jars 9 = .ok (.ireturn, 1) := by decide +kernel
set_option maxRecDepth 20000 in
theorem ggX9_least_X9_cells : GoodIn wsX9_least wsX9_cells := goodIn_r _ [7, 8, 48, 49, 50, 51, 52, 53, 54, 55, 56, 57, 58, 59, 60, 61, 62, 63, 64, 65, 66, 67, 68, 69, 70, 71] (by decide +kernel) (by decide +kernel)
set_option maxRecDepth 20000 in
theorem gX9_least_X9_cells : GoodIn wsX9_least (wsV RX9 121 RX9 yX9_cells wsX9_cells) := goodIn_app (goodIn_of _ (by decide +kernel)) ggX9_least_X9_cells
set_option maxRecDepth 20000 in
theorem ggX9_least_X9_in : GoodIn wsX9_least wsX9_in := goodIn_r _ [11] (by decide +kernel) (by decide +kernel)
set_option maxRecDepth 20000 in
theorem gX9_least_X9_in : GoodIn wsX9_least (va_wsS RX9 55 yX9_in wsX9_in) := goodIn_app (goodIn_of _ (by decide +kernel)) ggX9_least_X9_in
set_option maxRecDepth 20000 in
theorem ggX9_least_X9_change : GoodIn wsX9_least wsX9_change := goodIn_r _ [15, 8, 16, 2, 17, 18, 19, 6, 20, 21, 22, 23, 24, 25, 26, 27, 28, 29, 30, 31, 32, 33, 34, 35, 9, 10, 11, 36, 37, 38, 39, 40, 41, 42, 43, 44, 45, 46, 47, 48, 49, 50, 51, 52, 53, 54, 55, 56, 57, 58, 59, 60, 61, 62, 63, 64, 65, 66, 67, 68, 69, 70, 71] (by decide +kernel) (by decide +kernel)
set_option maxRecDepth 20000 in
theorem gX9_least_X9_change : GoodIn wsX9_least (wsV RX9 159 RX9 yX9_change wsX9_change) := goodIn_app (goodIn_of _ (by decide +kernel)) ggX9_least_X9_change
theorem dX9_least_0 : decode cX9_least 0 = .ok (.aload_n 0, 1) := by decide +kernel
theorem dX9_least_1 : decode cX9_least 1 = .ok (.iconst 0, 1) := by decide +kernel
theorem dX9_least_2 : decode cX9_least 2 = .ok (.putfield 51, 3) := by decide +kernel
theorem dX9_least_5 : decode cX9_least 5 = .ok (.iload_n 1, 1) := by decide +kernel
theorem dX9_least_6 : decode cX9_least 6 = .ok (.iconst (-1), 1) := by decide +kernel
theorem dX9_least_7 : decode cX9_least 7 = .ok (.aload_n 0, 1) := by decide +kernel
theorem dX9_least_8 : decode cX9_least 8 = .ok (.invokevirtual 121, 3) := by decide +kernel
theorem dX9_least_11 : decode cX9_least 11 = .ok (.iconst 1, 1) := by decide +kernel
theorem dX9_least_12 : decode cX9_least 12 = .ok (.isub, 1) := by decide +kernel
theorem dX9_least_13 : decode cX9_least 13 = .ok (.invokestatic 55, 3) := by decide +kernel
theorem dX9_least_16 : decode cX9_least 16 = .ok (.ifCond .ne 5, 3) := by decide +kernel
theorem dX9_least_19 : decode cX9_least 19 = .ok (.iconst (-1), 1) := by decide +kernel
theorem dX9_least_20 : decode cX9_least 20 = .ok (.ireturn, 1) := by decide +kernel
theorem dX9_least_21 : decode cX9_least 21 = .ok (.aload_n 0, 1) := by decide +kernel
theorem dX9_least_22 : decode cX9_least 22 = .ok (.invokevirtual 159, 3) := by decide +kernel
theorem dX9_least_25 : decode cX9_least 25 = .ok (.istore_n 2, 1) := by decide +kernel
theorem dX9_least_26 : decode cX9_least 26 = .ok (.iload_n 2, 1) := by decide +kernel
theorem dX9_least_27 : decode cX9_least 27 = .ok (.bipush (-9), 2) := by decide +kernel
theorem dX9_least_29 : decode cX9_least 29 = .ok (.if_icmp .eq 8, 3) := by decide +kernel
theorem dX9_least_32 : decode cX9_least 32 = .ok (.iload_n 1, 1) := by decide +kernel
theorem dX9_least_33 : decode cX9_least 33 = .ok (.iconst (-1), 1) := by decide +kernel
theorem dX9_least_34 : decode cX9_least 34 = .ok (.if_icmp .ne 7, 3) := by decide +kernel
theorem dX9_least_37 : decode cX9_least 37 = .ok (.iload_n 2, 1) := by decide +kernel
theorem dX9_least_38 : decode cX9_least 38 = .ok (.goto 9, 3) := by decide +kernel
theorem dX9_least_41 : decode cX9_least 41 = .ok (.aload_n 0, 1) := by decide +kernel
theorem dX9_least_42 : decode cX9_least 42 = .ok (.getfield 39, 3) := by decide +kernel
theorem dX9_least_45 : decode cX9_least 45 = .ok (.iload_n 1, 1) := by decide +kernel
theorem dX9_least_46 : decode cX9_least 46 = .ok (.iaload, 1) := by decide +kernel
theorem dX9_least_47 : decode cX9_least 47 = .ok (.ireturn, 1) := by decide +kernel
set_option maxRecDepth 20000 in
theorem ggX9_heightAt_X9_isCell : GoodIn wsX9_heightAt wsX9_isCell := goodIn_r _ [6, 1, 7, 8, 5, 9, 14, 15, 16, 17, 18, 19, 20, 21, 22, 23, 24, 25, 26, 27, 28, 29, 30, 31, 32, 33, 34, 35, 36, 37] (by decide +kernel) (by decide +kernel)
set_option maxRecDepth 20000 in
theorem gX9_heightAt_X9_isCell : GoodIn wsX9_heightAt (wsV RX9 117 RX9 yX9_isCell wsX9_isCell) := goodIn_app (goodIn_of _ (by decide +kernel)) ggX9_heightAt_X9_isCell
set_option maxRecDepth 20000 in
theorem ggX9_heightAt_X9_height : GoodIn wsX9_heightAt wsX9_height := goodIn_r _ [13, 1, 14, 15, 16, 17, 18, 19, 20, 21, 22, 23, 24, 25, 26, 27, 28, 29, 30, 31, 32, 33, 34, 35, 36, 37] (by decide +kernel) (by decide +kernel)
set_option maxRecDepth 20000 in
theorem gX9_heightAt_X9_height : GoodIn wsX9_heightAt (wsV RX9 124 RX9 yX9_height wsX9_height) := goodIn_app (goodIn_of _ (by decide +kernel)) ggX9_heightAt_X9_height
theorem dX9_heightAt_0 : decode cX9_heightAt 0 = .ok (.aload_n 0, 1) := by decide +kernel
theorem dX9_heightAt_1 : decode cX9_heightAt 1 = .ok (.iload_n 1, 1) := by decide +kernel
theorem dX9_heightAt_2 : decode cX9_heightAt 2 = .ok (.iload_n 2, 1) := by decide +kernel
theorem dX9_heightAt_3 : decode cX9_heightAt 3 = .ok (.invokevirtual 117, 3) := by decide +kernel
theorem dX9_heightAt_6 : decode cX9_heightAt 6 = .ok (.ifCond .eq 10, 3) := by decide +kernel
theorem dX9_heightAt_9 : decode cX9_heightAt 9 = .ok (.aload_n 0, 1) := by decide +kernel
theorem dX9_heightAt_10 : decode cX9_heightAt 10 = .ok (.iload_n 1, 1) := by decide +kernel
theorem dX9_heightAt_11 : decode cX9_heightAt 11 = .ok (.iload_n 2, 1) := by decide +kernel
theorem dX9_heightAt_12 : decode cX9_heightAt 12 = .ok (.invokevirtual 124, 3) := by decide +kernel
theorem dX9_heightAt_15 : decode cX9_heightAt 15 = .ok (.ireturn, 1) := by decide +kernel
theorem dX9_heightAt_16 : decode cX9_heightAt 16 = .ok (.aload_n 0, 1) := by decide +kernel
theorem dX9_heightAt_17 : decode cX9_heightAt 17 = .ok (.getfield 7, 3) := by decide +kernel
theorem dX9_heightAt_20 : decode cX9_heightAt 20 = .ok (.iconst 2, 1) := by decide +kernel
theorem dX9_heightAt_21 : decode cX9_heightAt 21 = .ok (.iaload, 1) := by decide +kernel
theorem dX9_heightAt_22 : decode cX9_heightAt 22 = .ok (.bipush (-9), 2) := by decide +kernel
theorem dX9_heightAt_24 : decode cX9_heightAt 24 = .ok (.if_icmp .eq 10, 3) := by decide +kernel
theorem dX9_heightAt_27 : decode cX9_heightAt 27 = .ok (.aload_n 0, 1) := by decide +kernel
theorem dX9_heightAt_28 : decode cX9_heightAt 28 = .ok (.getfield 7, 3) := by decide +kernel
theorem dX9_heightAt_31 : decode cX9_heightAt 31 = .ok (.iconst 2, 1) := by decide +kernel
theorem dX9_heightAt_32 : decode cX9_heightAt 32 = .ok (.iaload, 1) := by decide +kernel
theorem dX9_heightAt_33 : decode cX9_heightAt 33 = .ok (.ireturn, 1) := by decide +kernel
theorem dX9_heightAt_34 : decode cX9_heightAt 34 = .ok (.iload_n 1, 1) := by decide +kernel
theorem dX9_heightAt_35 : decode cX9_heightAt 35 = .ok (.ifCond .ge 7, 3) := by decide +kernel
theorem dX9_heightAt_38 : decode cX9_heightAt 38 = .ok (.iconst 0, 1) := by decide +kernel
theorem dX9_heightAt_39 : decode cX9_heightAt 39 = .ok (.goto 25, 3) := by decide +kernel
theorem dX9_heightAt_42 : decode cX9_heightAt 42 = .ok (.iload_n 1, 1) := by decide +kernel
theorem dX9_heightAt_43 : decode cX9_heightAt 43 = .ok (.aload_n 0, 1) := by decide +kernel
theorem dX9_heightAt_44 : decode cX9_heightAt 44 = .ok (.getfield 7, 3) := by decide +kernel
theorem dX9_heightAt_47 : decode cX9_heightAt 47 = .ok (.iconst 0, 1) := by decide +kernel
theorem dX9_heightAt_48 : decode cX9_heightAt 48 = .ok (.iaload, 1) := by decide +kernel
theorem dX9_heightAt_49 : decode cX9_heightAt 49 = .ok (.if_icmp .lt 14, 3) := by decide +kernel
theorem dX9_heightAt_52 : decode cX9_heightAt 52 = .ok (.aload_n 0, 1) := by decide +kernel
theorem dX9_heightAt_53 : decode cX9_heightAt 53 = .ok (.getfield 7, 3) := by decide +kernel
theorem dX9_heightAt_56 : decode cX9_heightAt 56 = .ok (.iconst 0, 1) := by decide +kernel
theorem dX9_heightAt_57 : decode cX9_heightAt 57 = .ok (.iaload, 1) := by decide +kernel
theorem dX9_heightAt_58 : decode cX9_heightAt 58 = .ok (.iconst 1, 1) := by decide +kernel
theorem dX9_heightAt_59 : decode cX9_heightAt 59 = .ok (.isub, 1) := by decide +kernel
theorem dX9_heightAt_60 : decode cX9_heightAt 60 = .ok (.goto 4, 3) := by decide +kernel
theorem dX9_heightAt_63 : decode cX9_heightAt 63 = .ok (.iload_n 1, 1) := by decide +kernel
theorem dX9_heightAt_64 : decode cX9_heightAt 64 = .ok (.istore_n 3, 1) := by decide +kernel
theorem dX9_heightAt_65 : decode cX9_heightAt 65 = .ok (.iload_n 2, 1) := by decide +kernel
theorem dX9_heightAt_66 : decode cX9_heightAt 66 = .ok (.ifCond .ge 7, 3) := by decide +kernel
theorem dX9_heightAt_69 : decode cX9_heightAt 69 = .ok (.iconst 0, 1) := by decide +kernel
theorem dX9_heightAt_70 : decode cX9_heightAt 70 = .ok (.goto 25, 3) := by decide +kernel
theorem dX9_heightAt_73 : decode cX9_heightAt 73 = .ok (.iload_n 2, 1) := by decide +kernel
theorem dX9_heightAt_74 : decode cX9_heightAt 74 = .ok (.aload_n 0, 1) := by decide +kernel
theorem dX9_heightAt_75 : decode cX9_heightAt 75 = .ok (.getfield 7, 3) := by decide +kernel
theorem dX9_heightAt_78 : decode cX9_heightAt 78 = .ok (.iconst 1, 1) := by decide +kernel
theorem dX9_heightAt_79 : decode cX9_heightAt 79 = .ok (.iaload, 1) := by decide +kernel
theorem dX9_heightAt_80 : decode cX9_heightAt 80 = .ok (.if_icmp .lt 14, 3) := by decide +kernel
theorem dX9_heightAt_83 : decode cX9_heightAt 83 = .ok (.aload_n 0, 1) := by decide +kernel
theorem dX9_heightAt_84 : decode cX9_heightAt 84 = .ok (.getfield 7, 3) := by decide +kernel
theorem dX9_heightAt_87 : decode cX9_heightAt 87 = .ok (.iconst 1, 1) := by decide +kernel
theorem dX9_heightAt_88 : decode cX9_heightAt 88 = .ok (.iaload, 1) := by decide +kernel
theorem dX9_heightAt_89 : decode cX9_heightAt 89 = .ok (.iconst 1, 1) := by decide +kernel
theorem dX9_heightAt_90 : decode cX9_heightAt 90 = .ok (.isub, 1) := by decide +kernel
theorem dX9_heightAt_91 : decode cX9_heightAt 91 = .ok (.goto 4, 3) := by decide +kernel
theorem dX9_heightAt_94 : decode cX9_heightAt 94 = .ok (.iload_n 2, 1) := by decide +kernel
theorem dX9_heightAt_95 : decode cX9_heightAt 95 = .ok (.istore 4, 2) := by decide +kernel
theorem dX9_heightAt_97 : decode cX9_heightAt 97 = .ok (.aload_n 0, 1) := by decide +kernel
theorem dX9_heightAt_98 : decode cX9_heightAt 98 = .ok (.iload_n 3, 1) := by decide +kernel
theorem dX9_heightAt_99 : decode cX9_heightAt 99 = .ok (.iload 4, 2) := by decide +kernel
theorem dX9_heightAt_101 : decode cX9_heightAt 101 = .ok (.invokevirtual 124, 3) := by decide +kernel
theorem dX9_heightAt_104 : decode cX9_heightAt 104 = .ok (.ireturn, 1) := by decide +kernel
set_option maxRecDepth 20000 in
theorem ggX9_toRight_X9_in : GoodIn wsX9_toRight wsX9_in := goodIn_r _ [4] (by decide +kernel) (by decide +kernel)
set_option maxRecDepth 20000 in
theorem gX9_toRight_X9_in : GoodIn wsX9_toRight (va_wsS RX9 55 yX9_in wsX9_in) := goodIn_app (goodIn_of _ (by decide +kernel)) ggX9_toRight_X9_in
theorem dX9_toRight_0 : decode cX9_toRight 0 = .ok (.iload_n 0, 1) := by decide +kernel
theorem dX9_toRight_1 : decode cX9_toRight 1 = .ok (.iconst 1, 1) := by decide +kernel
theorem dX9_toRight_2 : decode cX9_toRight 2 = .ok (.iconst 3, 1) := by decide +kernel
theorem dX9_toRight_3 : decode cX9_toRight 3 = .ok (.invokestatic 55, 3) := by decide +kernel
theorem dX9_toRight_6 : decode cX9_toRight 6 = .ok (.ifCond .eq 7, 3) := by decide +kernel
theorem dX9_toRight_9 : decode cX9_toRight 9 = .ok (.iconst 1, 1) := by decide +kernel
theorem dX9_toRight_10 : decode cX9_toRight 10 = .ok (.goto 18, 3) := by decide +kernel
theorem dX9_toRight_13 : decode cX9_toRight 13 = .ok (.iload_n 0, 1) := by decide +kernel
theorem dX9_toRight_14 : decode cX9_toRight 14 = .ok (.iconst 5, 1) := by decide +kernel
theorem dX9_toRight_15 : decode cX9_toRight 15 = .ok (.bipush 7, 2) := by decide +kernel
theorem dX9_toRight_17 : decode cX9_toRight 17 = .ok (.invokestatic 55, 3) := by decide +kernel
theorem dX9_toRight_20 : decode cX9_toRight 20 = .ok (.ifCond .eq 7, 3) := by decide +kernel
theorem dX9_toRight_23 : decode cX9_toRight 23 = .ok (.iconst (-1), 1) := by decide +kernel
theorem dX9_toRight_24 : decode cX9_toRight 24 = .ok (.goto 4, 3) := by decide +kernel
theorem dX9_toRight_27 : decode cX9_toRight 27 = .ok (.iconst 0, 1) := by decide +kernel
theorem dX9_toRight_28 : decode cX9_toRight 28 = .ok (.ireturn, 1) := by decide +kernel
set_option maxRecDepth 20000 in
theorem ggX9_toDown_X9_in : GoodIn wsX9_toDown wsX9_in := goodIn_r _ [4] (by decide +kernel) (by decide +kernel)
set_option maxRecDepth 20000 in
theorem gX9_toDown_X9_in : GoodIn wsX9_toDown (va_wsS RX9 55 yX9_in wsX9_in) := goodIn_app (goodIn_of _ (by decide +kernel)) ggX9_toDown_X9_in
theorem dX9_toDown_0 : decode cX9_toDown 0 = .ok (.iload_n 0, 1) := by decide +kernel
theorem dX9_toDown_1 : decode cX9_toDown 1 = .ok (.iconst 3, 1) := by decide +kernel
theorem dX9_toDown_2 : decode cX9_toDown 2 = .ok (.iconst 5, 1) := by decide +kernel
theorem dX9_toDown_3 : decode cX9_toDown 3 = .ok (.invokestatic 55, 3) := by decide +kernel
theorem dX9_toDown_6 : decode cX9_toDown 6 = .ok (.ifCond .eq 7, 3) := by decide +kernel
theorem dX9_toDown_9 : decode cX9_toDown 9 = .ok (.iconst 1, 1) := by decide +kernel
theorem dX9_toDown_10 : decode cX9_toDown 10 = .ok (.goto 19, 3) := by decide +kernel
theorem dX9_toDown_13 : decode cX9_toDown 13 = .ok (.iload_n 0, 1) := by decide +kernel
theorem dX9_toDown_14 : decode cX9_toDown 14 = .ok (.iconst 2, 1) := by decide +kernel
theorem dX9_toDown_15 : decode cX9_toDown 15 = .ok (.if_icmp .eq 9, 3) := by decide +kernel
theorem dX9_toDown_18 : decode cX9_toDown 18 = .ok (.iload_n 0, 1) := by decide +kernel
theorem dX9_toDown_19 : decode cX9_toDown 19 = .ok (.bipush 6, 2) := by decide +kernel
theorem dX9_toDown_21 : decode cX9_toDown 21 = .ok (.if_icmp .ne 7, 3) := by decide +kernel
theorem dX9_toDown_24 : decode cX9_toDown 24 = .ok (.iconst 0, 1) := by decide +kernel
theorem dX9_toDown_25 : decode cX9_toDown 25 = .ok (.goto 4, 3) := by decide +kernel
theorem dX9_toDown_28 : decode cX9_toDown 28 = .ok (.iconst (-1), 1) := by decide +kernel
theorem dX9_toDown_29 : decode cX9_toDown 29 = .ok (.ireturn, 1) := by decide +kernel
theorem dX9_has_0 : decode cX9_has 0 = .ok (.iload_n 0, 1) := by decide +kernel
theorem dX9_has_1 : decode cX9_has 1 = .ok (.iload_n 1, 1) := by decide +kernel
theorem dX9_has_2 : decode cX9_has 2 = .ok (.ishr, 1) := by decide +kernel
theorem dX9_has_3 : decode cX9_has 3 = .ok (.iconst 1, 1) := by decide +kernel
theorem dX9_has_4 : decode cX9_has 4 = .ok (.iand, 1) := by decide +kernel
theorem dX9_has_5 : decode cX9_has 5 = .ok (.iconst 1, 1) := by decide +kernel
theorem dX9_has_6 : decode cX9_has 6 = .ok (.if_icmp .ne 7, 3) := by decide +kernel
theorem dX9_has_9 : decode cX9_has 9 = .ok (.iconst 1, 1) := by decide +kernel
theorem dX9_has_10 : decode cX9_has 10 = .ok (.goto 4, 3) := by decide +kernel
theorem dX9_has_13 : decode cX9_has 13 = .ok (.iconst 0, 1) := by decide +kernel
theorem dX9_has_14 : decode cX9_has 14 = .ok (.ireturn, 1) := by decide +kernel
set_option maxRecDepth 20000 in
theorem ggX9_maskOf_X9_toRight : GoodIn wsX9_maskOf wsX9_toRight := goodIn_r _ [4, 5, 6, 3, 7] (by decide +kernel) (by decide +kernel)
set_option maxRecDepth 20000 in
theorem gX9_maskOf_X9_toRight : GoodIn wsX9_maskOf (va_wsS RX9 162 yX9_toRight wsX9_toRight) := goodIn_app (goodIn_of _ (by decide +kernel)) ggX9_maskOf_X9_toRight
set_option maxRecDepth 20000 in
theorem ggX9_maskOf_X9_toDown : GoodIn wsX9_maskOf wsX9_toDown := goodIn_r _ [10, 5, 6, 3, 7] (by decide +kernel) (by decide +kernel)
set_option maxRecDepth 20000 in
theorem gX9_maskOf_X9_toDown : GoodIn wsX9_maskOf (va_wsS RX9 165 yX9_toDown wsX9_toDown) := goodIn_app (goodIn_of _ (by decide +kernel)) ggX9_maskOf_X9_toDown
set_option maxRecDepth 20000 in
theorem ggX9_maskOf_X9_heightAt : GoodIn wsX9_maskOf wsX9_heightAt := goodIn_r _ [14, 15, 16, 17, 18, 3, 19, 5, 6, 7, 20, 21, 22, 23, 27, 28, 29, 30, 31, 32, 33, 34, 35, 36, 37, 38, 39, 40, 41, 42, 43, 44, 45, 46, 47, 48, 49, 50] (by decide +kernel) (by decide +kernel)
set_option maxRecDepth 20000 in
theorem gX9_maskOf_X9_heightAt : GoodIn wsX9_maskOf (wsV RX9 168 RX9 yX9_heightAt wsX9_heightAt) := goodIn_app (goodIn_of _ (by decide +kernel)) ggX9_maskOf_X9_heightAt
set_option maxRecDepth 20000 in
theorem ggX9_maskOf_X9_has : GoodIn wsX9_maskOf wsX9_has := goodIn_r _ [26] (by decide +kernel) (by decide +kernel)
set_option maxRecDepth 20000 in
theorem gX9_maskOf_X9_has : GoodIn wsX9_maskOf (va_wsS RX9 171 yX9_has wsX9_has) := goodIn_app (goodIn_of _ (by decide +kernel)) ggX9_maskOf_X9_has
theorem dX9_maskOf_0 : decode cX9_maskOf 0 = .ok (.iconst 0, 1) := by decide +kernel
theorem dX9_maskOf_1 : decode cX9_maskOf 1 = .ok (.istore 4, 2) := by decide +kernel
theorem dX9_maskOf_3 : decode cX9_maskOf 3 = .ok (.iconst 0, 1) := by decide +kernel
theorem dX9_maskOf_4 : decode cX9_maskOf 4 = .ok (.istore 5, 2) := by decide +kernel
theorem dX9_maskOf_6 : decode cX9_maskOf 6 = .ok (.iload 5, 2) := by decide +kernel
theorem dX9_maskOf_8 : decode cX9_maskOf 8 = .ok (.bipush 8, 2) := by decide +kernel
theorem dX9_maskOf_10 : decode cX9_maskOf 10 = .ok (.if_icmp .ge 44, 3) := by decide +kernel
theorem dX9_maskOf_13 : decode cX9_maskOf 13 = .ok (.iload 4, 2) := by decide +kernel
theorem dX9_maskOf_15 : decode cX9_maskOf 15 = .ok (.aload_n 0, 1) := by decide +kernel
theorem dX9_maskOf_16 : decode cX9_maskOf 16 = .ok (.iload_n 1, 1) := by decide +kernel
theorem dX9_maskOf_17 : decode cX9_maskOf 17 = .ok (.iload 5, 2) := by decide +kernel
theorem dX9_maskOf_19 : decode cX9_maskOf 19 = .ok (.invokestatic 162, 3) := by decide +kernel
theorem dX9_maskOf_22 : decode cX9_maskOf 22 = .ok (.iadd, 1) := by decide +kernel
theorem dX9_maskOf_23 : decode cX9_maskOf 23 = .ok (.iload_n 2, 1) := by decide +kernel
theorem dX9_maskOf_24 : decode cX9_maskOf 24 = .ok (.iload 5, 2) := by decide +kernel
theorem dX9_maskOf_26 : decode cX9_maskOf 26 = .ok (.invokestatic 165, 3) := by decide +kernel
theorem dX9_maskOf_29 : decode cX9_maskOf 29 = .ok (.iadd, 1) := by decide +kernel
theorem dX9_maskOf_30 : decode cX9_maskOf 30 = .ok (.invokevirtual 168, 3) := by decide +kernel
theorem dX9_maskOf_33 : decode cX9_maskOf 33 = .ok (.iload_n 3, 1) := by decide +kernel
theorem dX9_maskOf_34 : decode cX9_maskOf 34 = .ok (.if_icmp .lt 10, 3) := by decide +kernel
theorem dX9_maskOf_37 : decode cX9_maskOf 37 = .ok (.iconst 1, 1) := by decide +kernel
theorem dX9_maskOf_38 : decode cX9_maskOf 38 = .ok (.iload 5, 2) := by decide +kernel
theorem dX9_maskOf_40 : decode cX9_maskOf 40 = .ok (.ishl, 1) := by decide +kernel
theorem dX9_maskOf_41 : decode cX9_maskOf 41 = .ok (.goto 4, 3) := by decide +kernel
theorem dX9_maskOf_44 : decode cX9_maskOf 44 = .ok (.iconst 0, 1) := by decide +kernel
theorem dX9_maskOf_45 : decode cX9_maskOf 45 = .ok (.ior, 1) := by decide +kernel
theorem dX9_maskOf_46 : decode cX9_maskOf 46 = .ok (.istore 4, 2) := by decide +kernel
theorem dX9_maskOf_48 : decode cX9_maskOf 48 = .ok (.iinc 5 1, 3) := by decide +kernel
theorem dX9_maskOf_51 : decode cX9_maskOf 51 = .ok (.goto (-45), 3) := by decide +kernel
theorem dX9_maskOf_54 : decode cX9_maskOf 54 = .ok (.iload 4, 2) := by decide +kernel
theorem dX9_maskOf_56 : decode cX9_maskOf 56 = .ok (.istore 5, 2) := by decide +kernel
theorem dX9_maskOf_58 : decode cX9_maskOf 58 = .ok (.iconst 1, 1) := by decide +kernel
theorem dX9_maskOf_59 : decode cX9_maskOf 59 = .ok (.istore 6, 2) := by decide +kernel
theorem dX9_maskOf_61 : decode cX9_maskOf 61 = .ok (.iload 6, 2) := by decide +kernel
theorem dX9_maskOf_63 : decode cX9_maskOf 63 = .ok (.bipush 8, 2) := by decide +kernel
theorem dX9_maskOf_65 : decode cX9_maskOf 65 = .ok (.if_icmp .ge 53, 3) := by decide +kernel
theorem dX9_maskOf_68 : decode cX9_maskOf 68 = .ok (.iload 5, 2) := by decide +kernel
theorem dX9_maskOf_70 : decode cX9_maskOf 70 = .ok (.iload 4, 2) := by decide +kernel
theorem dX9_maskOf_72 : decode cX9_maskOf 72 = .ok (.iload 6, 2) := by decide +kernel
theorem dX9_maskOf_74 : decode cX9_maskOf 74 = .ok (.iconst 1, 1) := by decide +kernel
theorem dX9_maskOf_75 : decode cX9_maskOf 75 = .ok (.isub, 1) := by decide +kernel
theorem dX9_maskOf_76 : decode cX9_maskOf 76 = .ok (.invokestatic 171, 3) := by decide +kernel
theorem dX9_maskOf_79 : decode cX9_maskOf 79 = .ok (.ifCond .eq 24, 3) := by decide +kernel
theorem dX9_maskOf_82 : decode cX9_maskOf 82 = .ok (.iload 4, 2) := by decide +kernel
theorem dX9_maskOf_84 : decode cX9_maskOf 84 = .ok (.iload 6, 2) := by decide +kernel
theorem dX9_maskOf_86 : decode cX9_maskOf 86 = .ok (.iconst 1, 1) := by decide +kernel
theorem dX9_maskOf_87 : decode cX9_maskOf 87 = .ok (.iadd, 1) := by decide +kernel
theorem dX9_maskOf_88 : decode cX9_maskOf 88 = .ok (.bipush 8, 2) := by decide +kernel
theorem dX9_maskOf_90 : decode cX9_maskOf 90 = .ok (.irem, 1) := by decide +kernel
theorem dX9_maskOf_91 : decode cX9_maskOf 91 = .ok (.invokestatic 171, 3) := by decide +kernel
theorem dX9_maskOf_94 : decode cX9_maskOf 94 = .ok (.ifCond .eq 9, 3) := by decide +kernel
theorem dX9_maskOf_97 : decode cX9_maskOf 97 = .ok (.sipush 255, 3) := by decide +kernel
theorem dX9_maskOf_100 : decode cX9_maskOf 100 = .ok (.goto 9, 3) := by decide +kernel
theorem dX9_maskOf_103 : decode cX9_maskOf 103 = .ok (.iconst 1, 1) := by decide +kernel
theorem dX9_maskOf_104 : decode cX9_maskOf 104 = .ok (.iload 6, 2) := by decide +kernel
theorem dX9_maskOf_106 : decode cX9_maskOf 106 = .ok (.ishl, 1) := by decide +kernel
theorem dX9_maskOf_107 : decode cX9_maskOf 107 = .ok (.iconst (-1), 1) := by decide +kernel
theorem dX9_maskOf_108 : decode cX9_maskOf 108 = .ok (.ixor, 1) := by decide +kernel
theorem dX9_maskOf_109 : decode cX9_maskOf 109 = .ok (.iand, 1) := by decide +kernel
theorem dX9_maskOf_110 : decode cX9_maskOf 110 = .ok (.istore 5, 2) := by decide +kernel
theorem dX9_maskOf_112 : decode cX9_maskOf 112 = .ok (.iinc 6 2, 3) := by decide +kernel
theorem dX9_maskOf_115 : decode cX9_maskOf 115 = .ok (.goto (-54), 3) := by decide +kernel
theorem dX9_maskOf_118 : decode cX9_maskOf 118 = .ok (.iload 5, 2) := by decide +kernel
theorem dX9_maskOf_120 : decode cX9_maskOf 120 = .ok (.ireturn, 1) := by decide +kernel
set_option maxRecDepth 20000 in
theorem ggX9_isMask_X9_has : GoodIn wsX9_isMask wsX9_has := goodIn_r _ [4] (by decide +kernel) (by decide +kernel)
set_option maxRecDepth 20000 in
theorem gX9_isMask_X9_has : GoodIn wsX9_isMask (va_wsS RX9 171 yX9_has wsX9_has) := goodIn_app (goodIn_of _ (by decide +kernel)) ggX9_isMask_X9_has
theorem dX9_isMask_0 : decode cX9_isMask 0 = .ok (.iconst 1, 1) := by decide +kernel
theorem dX9_isMask_1 : decode cX9_isMask 1 = .ok (.istore_n 1, 1) := by decide +kernel
theorem dX9_isMask_2 : decode cX9_isMask 2 = .ok (.iconst 1, 1) := by decide +kernel
theorem dX9_isMask_3 : decode cX9_isMask 3 = .ok (.istore_n 2, 1) := by decide +kernel
theorem dX9_isMask_4 : decode cX9_isMask 4 = .ok (.iload_n 2, 1) := by decide +kernel
theorem dX9_isMask_5 : decode cX9_isMask 5 = .ok (.bipush 8, 2) := by decide +kernel
theorem dX9_isMask_7 : decode cX9_isMask 7 = .ok (.if_icmp .ge 50, 3) := by decide +kernel
theorem dX9_isMask_10 : decode cX9_isMask 10 = .ok (.iload_n 1, 1) := by decide +kernel
theorem dX9_isMask_11 : decode cX9_isMask 11 = .ok (.ifCond .eq 38, 3) := by decide +kernel
theorem dX9_isMask_14 : decode cX9_isMask 14 = .ok (.iload_n 0, 1) := by decide +kernel
theorem dX9_isMask_15 : decode cX9_isMask 15 = .ok (.iload_n 2, 1) := by decide +kernel
theorem dX9_isMask_16 : decode cX9_isMask 16 = .ok (.invokestatic 171, 3) := by decide +kernel
theorem dX9_isMask_19 : decode cX9_isMask 19 = .ok (.ifCond .eq 26, 3) := by decide +kernel
theorem dX9_isMask_22 : decode cX9_isMask 22 = .ok (.iload_n 0, 1) := by decide +kernel
theorem dX9_isMask_23 : decode cX9_isMask 23 = .ok (.iload_n 2, 1) := by decide +kernel
theorem dX9_isMask_24 : decode cX9_isMask 24 = .ok (.iconst 1, 1) := by decide +kernel
theorem dX9_isMask_25 : decode cX9_isMask 25 = .ok (.isub, 1) := by decide +kernel
theorem dX9_isMask_26 : decode cX9_isMask 26 = .ok (.invokestatic 171, 3) := by decide +kernel
theorem dX9_isMask_29 : decode cX9_isMask 29 = .ok (.ifCond .eq 20, 3) := by decide +kernel
theorem dX9_isMask_32 : decode cX9_isMask 32 = .ok (.iload_n 0, 1) := by decide +kernel
theorem dX9_isMask_33 : decode cX9_isMask 33 = .ok (.iload_n 2, 1) := by decide +kernel
theorem dX9_isMask_34 : decode cX9_isMask 34 = .ok (.iconst 1, 1) := by decide +kernel
theorem dX9_isMask_35 : decode cX9_isMask 35 = .ok (.iadd, 1) := by decide +kernel
theorem dX9_isMask_36 : decode cX9_isMask 36 = .ok (.bipush 8, 2) := by decide +kernel
theorem dX9_isMask_38 : decode cX9_isMask 38 = .ok (.irem, 1) := by decide +kernel
theorem dX9_isMask_39 : decode cX9_isMask 39 = .ok (.invokestatic 171, 3) := by decide +kernel
theorem dX9_isMask_42 : decode cX9_isMask 42 = .ok (.ifCond .eq 7, 3) := by decide +kernel
theorem dX9_isMask_45 : decode cX9_isMask 45 = .ok (.iconst 1, 1) := by decide +kernel
theorem dX9_isMask_46 : decode cX9_isMask 46 = .ok (.goto 4, 3) := by decide +kernel
theorem dX9_isMask_49 : decode cX9_isMask 49 = .ok (.iconst 0, 1) := by decide +kernel
theorem dX9_isMask_50 : decode cX9_isMask 50 = .ok (.istore_n 1, 1) := by decide +kernel
theorem dX9_isMask_51 : decode cX9_isMask 51 = .ok (.iinc 2 2, 3) := by decide +kernel
theorem dX9_isMask_54 : decode cX9_isMask 54 = .ok (.goto (-50), 3) := by decide +kernel
theorem dX9_isMask_57 : decode cX9_isMask 57 = .ok (.iload_n 1, 1) := by decide +kernel
theorem dX9_isMask_58 : decode cX9_isMask 58 = .ok (.ireturn, 1) := by decide +kernel
set_option maxRecDepth 20000 in
theorem ggX9_squareOf_X9_height : GoodIn wsX9_squareOf wsX9_height := goodIn_r _ [5, 6, 34, 35, 36, 37, 38, 39, 40, 41, 42, 43, 44, 45, 46, 47, 48, 49, 50, 51, 52, 53, 54, 55, 56, 57] (by decide +kernel) (by decide +kernel)
set_option maxRecDepth 20000 in
theorem gX9_squareOf_X9_height : GoodIn wsX9_squareOf (wsV RX9 124 RX9 yX9_height wsX9_height) := goodIn_app (goodIn_of _ (by decide +kernel)) ggX9_squareOf_X9_height
set_option maxRecDepth 20000 in
theorem ggX9_squareOf_X9_maskOf : GoodIn wsX9_squareOf wsX9_maskOf := goodIn_r _ [10, 11, 12, 4, 13, 14, 15, 16, 17, 18, 19, 20, 21, 22, 23, 6, 24, 25, 26, 27, 1, 2, 3, 5, 28, 29, 30, 34, 35, 36, 37, 38, 39, 40, 41, 42, 43, 44, 45, 46, 47, 48, 49, 50, 51, 52, 53, 54, 55, 56, 57] (by decide +kernel) (by decide +kernel)
set_option maxRecDepth 20000 in
theorem gX9_squareOf_X9_maskOf : GoodIn wsX9_squareOf (wsV RX9 174 RX9 yX9_maskOf wsX9_maskOf) := goodIn_app (goodIn_of _ (by decide +kernel)) ggX9_squareOf_X9_maskOf
set_option maxRecDepth 20000 in
theorem ggX9_squareOf_X9_isMask : GoodIn wsX9_squareOf wsX9_isMask := goodIn_r _ [33, 28, 29, 4, 30] (by decide +kernel) (by decide +kernel)
set_option maxRecDepth 20000 in
theorem gX9_squareOf_X9_isMask : GoodIn wsX9_squareOf (va_wsS RX9 177 yX9_isMask wsX9_isMask) := goodIn_app (goodIn_of _ (by decide +kernel)) ggX9_squareOf_X9_isMask
theorem dX9_squareOf_0 : decode cX9_squareOf 0 = .ok (.aload_n 0, 1) := by decide +kernel
theorem dX9_squareOf_1 : decode cX9_squareOf 1 = .ok (.iload_n 1, 1) := by decide +kernel
theorem dX9_squareOf_2 : decode cX9_squareOf 2 = .ok (.iload_n 2, 1) := by decide +kernel
theorem dX9_squareOf_3 : decode cX9_squareOf 3 = .ok (.invokevirtual 124, 3) := by decide +kernel
theorem dX9_squareOf_6 : decode cX9_squareOf 6 = .ok (.iload_n 3, 1) := by decide +kernel
theorem dX9_squareOf_7 : decode cX9_squareOf 7 = .ok (.if_icmp .ge 6, 3) := by decide +kernel
theorem dX9_squareOf_10 : decode cX9_squareOf 10 = .ok (.bipush (-9), 2) := by decide +kernel
theorem dX9_squareOf_12 : decode cX9_squareOf 12 = .ok (.ireturn, 1) := by decide +kernel
theorem dX9_squareOf_13 : decode cX9_squareOf 13 = .ok (.aload_n 0, 1) := by decide +kernel
theorem dX9_squareOf_14 : decode cX9_squareOf 14 = .ok (.iload_n 1, 1) := by decide +kernel
theorem dX9_squareOf_15 : decode cX9_squareOf 15 = .ok (.iload_n 2, 1) := by decide +kernel
theorem dX9_squareOf_16 : decode cX9_squareOf 16 = .ok (.iload_n 3, 1) := by decide +kernel
theorem dX9_squareOf_17 : decode cX9_squareOf 17 = .ok (.invokevirtual 174, 3) := by decide +kernel
theorem dX9_squareOf_20 : decode cX9_squareOf 20 = .ok (.istore 4, 2) := by decide +kernel
theorem dX9_squareOf_22 : decode cX9_squareOf 22 = .ok (.iconst 0, 1) := by decide +kernel
theorem dX9_squareOf_23 : decode cX9_squareOf 23 = .ok (.istore 5, 2) := by decide +kernel
theorem dX9_squareOf_25 : decode cX9_squareOf 25 = .ok (.iconst 0, 1) := by decide +kernel
theorem dX9_squareOf_26 : decode cX9_squareOf 26 = .ok (.istore 6, 2) := by decide +kernel
theorem dX9_squareOf_28 : decode cX9_squareOf 28 = .ok (.iload 6, 2) := by decide +kernel
theorem dX9_squareOf_30 : decode cX9_squareOf 30 = .ok (.iload 4, 2) := by decide +kernel
theorem dX9_squareOf_32 : decode cX9_squareOf 32 = .ok (.if_icmp .ge 27, 3) := by decide +kernel
theorem dX9_squareOf_35 : decode cX9_squareOf 35 = .ok (.iload 5, 2) := by decide +kernel
theorem dX9_squareOf_37 : decode cX9_squareOf 37 = .ok (.iload 6, 2) := by decide +kernel
theorem dX9_squareOf_39 : decode cX9_squareOf 39 = .ok (.invokestatic 177, 3) := by decide +kernel
theorem dX9_squareOf_42 : decode cX9_squareOf 42 = .ok (.ifCond .eq 7, 3) := by decide +kernel
theorem dX9_squareOf_45 : decode cX9_squareOf 45 = .ok (.iconst 1, 1) := by decide +kernel
theorem dX9_squareOf_46 : decode cX9_squareOf 46 = .ok (.goto 4, 3) := by decide +kernel
theorem dX9_squareOf_49 : decode cX9_squareOf 49 = .ok (.iconst 0, 1) := by decide +kernel
theorem dX9_squareOf_50 : decode cX9_squareOf 50 = .ok (.iadd, 1) := by decide +kernel
theorem dX9_squareOf_51 : decode cX9_squareOf 51 = .ok (.istore 5, 2) := by decide +kernel
theorem dX9_squareOf_53 : decode cX9_squareOf 53 = .ok (.iinc 6 1, 3) := by decide +kernel
theorem dX9_squareOf_56 : decode cX9_squareOf 56 = .ok (.goto (-28), 3) := by decide +kernel
theorem dX9_squareOf_59 : decode cX9_squareOf 59 = .ok (.iload 5, 2) := by decide +kernel
theorem dX9_squareOf_61 : decode cX9_squareOf 61 = .ok (.ireturn, 1) := by decide +kernel
theorem dX9_areAlike_0 : decode cX9_areAlike 0 = .ok (.aload_n 0, 1) := by decide +kernel
theorem dX9_areAlike_1 : decode cX9_areAlike 1 = .ok (.getfield 42, 3) := by decide +kernel
theorem dX9_areAlike_4 : decode cX9_areAlike 4 = .ok (.iconst 3, 1) := by decide +kernel
theorem dX9_areAlike_5 : decode cX9_areAlike 5 = .ok (.iload_n 1, 1) := by decide +kernel
theorem dX9_areAlike_6 : decode cX9_areAlike 6 = .ok (.imul, 1) := by decide +kernel
theorem dX9_areAlike_7 : decode cX9_areAlike 7 = .ok (.iaload, 1) := by decide +kernel
theorem dX9_areAlike_8 : decode cX9_areAlike 8 = .ok (.aload_n 0, 1) := by decide +kernel
theorem dX9_areAlike_9 : decode cX9_areAlike 9 = .ok (.getfield 42, 3) := by decide +kernel
theorem dX9_areAlike_12 : decode cX9_areAlike 12 = .ok (.iconst 3, 1) := by decide +kernel
theorem dX9_areAlike_13 : decode cX9_areAlike 13 = .ok (.iload_n 2, 1) := by decide +kernel
theorem dX9_areAlike_14 : decode cX9_areAlike 14 = .ok (.imul, 1) := by decide +kernel
theorem dX9_areAlike_15 : decode cX9_areAlike 15 = .ok (.iaload, 1) := by decide +kernel
theorem dX9_areAlike_16 : decode cX9_areAlike 16 = .ok (.if_icmp .ne 53, 3) := by decide +kernel
theorem dX9_areAlike_19 : decode cX9_areAlike 19 = .ok (.aload_n 0, 1) := by decide +kernel
theorem dX9_areAlike_20 : decode cX9_areAlike 20 = .ok (.getfield 42, 3) := by decide +kernel
theorem dX9_areAlike_23 : decode cX9_areAlike 23 = .ok (.iconst 3, 1) := by decide +kernel
theorem dX9_areAlike_24 : decode cX9_areAlike 24 = .ok (.iload_n 1, 1) := by decide +kernel
theorem dX9_areAlike_25 : decode cX9_areAlike 25 = .ok (.imul, 1) := by decide +kernel
theorem dX9_areAlike_26 : decode cX9_areAlike 26 = .ok (.iconst 1, 1) := by decide +kernel
theorem dX9_areAlike_27 : decode cX9_areAlike 27 = .ok (.iadd, 1) := by decide +kernel
theorem dX9_areAlike_28 : decode cX9_areAlike 28 = .ok (.iaload, 1) := by decide +kernel
theorem dX9_areAlike_29 : decode cX9_areAlike 29 = .ok (.aload_n 0, 1) := by decide +kernel
theorem dX9_areAlike_30 : decode cX9_areAlike 30 = .ok (.getfield 42, 3) := by decide +kernel
theorem dX9_areAlike_33 : decode cX9_areAlike 33 = .ok (.iconst 3, 1) := by decide +kernel
theorem dX9_areAlike_34 : decode cX9_areAlike 34 = .ok (.iload_n 2, 1) := by decide +kernel
theorem dX9_areAlike_35 : decode cX9_areAlike 35 = .ok (.imul, 1) := by decide +kernel
theorem dX9_areAlike_36 : decode cX9_areAlike 36 = .ok (.iconst 1, 1) := by decide +kernel
theorem dX9_areAlike_37 : decode cX9_areAlike 37 = .ok (.iadd, 1) := by decide +kernel
theorem dX9_areAlike_38 : decode cX9_areAlike 38 = .ok (.iaload, 1) := by decide +kernel
theorem dX9_areAlike_39 : decode cX9_areAlike 39 = .ok (.if_icmp .ne 30, 3) := by decide +kernel
theorem dX9_areAlike_42 : decode cX9_areAlike 42 = .ok (.aload_n 0, 1) := by decide +kernel
theorem dX9_areAlike_43 : decode cX9_areAlike 43 = .ok (.getfield 42, 3) := by decide +kernel
theorem dX9_areAlike_46 : decode cX9_areAlike 46 = .ok (.iconst 3, 1) := by decide +kernel
theorem dX9_areAlike_47 : decode cX9_areAlike 47 = .ok (.iload_n 1, 1) := by decide +kernel
theorem dX9_areAlike_48 : decode cX9_areAlike 48 = .ok (.imul, 1) := by decide +kernel
theorem dX9_areAlike_49 : decode cX9_areAlike 49 = .ok (.iconst 2, 1) := by decide +kernel
theorem dX9_areAlike_50 : decode cX9_areAlike 50 = .ok (.iadd, 1) := by decide +kernel
theorem dX9_areAlike_51 : decode cX9_areAlike 51 = .ok (.iaload, 1) := by decide +kernel
theorem dX9_areAlike_52 : decode cX9_areAlike 52 = .ok (.aload_n 0, 1) := by decide +kernel
theorem dX9_areAlike_53 : decode cX9_areAlike 53 = .ok (.getfield 42, 3) := by decide +kernel
theorem dX9_areAlike_56 : decode cX9_areAlike 56 = .ok (.iconst 3, 1) := by decide +kernel
theorem dX9_areAlike_57 : decode cX9_areAlike 57 = .ok (.iload_n 2, 1) := by decide +kernel
theorem dX9_areAlike_58 : decode cX9_areAlike 58 = .ok (.imul, 1) := by decide +kernel
theorem dX9_areAlike_59 : decode cX9_areAlike 59 = .ok (.iconst 2, 1) := by decide +kernel
theorem dX9_areAlike_60 : decode cX9_areAlike 60 = .ok (.iadd, 1) := by decide +kernel
theorem dX9_areAlike_61 : decode cX9_areAlike 61 = .ok (.iaload, 1) := by decide +kernel
theorem dX9_areAlike_62 : decode cX9_areAlike 62 = .ok (.if_icmp .ne 7, 3) := by decide +kernel
theorem dX9_areAlike_65 : decode cX9_areAlike 65 = .ok (.iconst 1, 1) := by decide +kernel
theorem dX9_areAlike_66 : decode cX9_areAlike 66 = .ok (.goto 4, 3) := by decide +kernel
theorem dX9_areAlike_69 : decode cX9_areAlike 69 = .ok (.iconst 0, 1) := by decide +kernel
theorem dX9_areAlike_70 : decode cX9_areAlike 70 = .ok (.ireturn, 1) := by decide +kernel
set_option maxRecDepth 20000 in
theorem ggX9_laysSquares_X9_cells : GoodIn wsX9_laysSquares wsX9_cells := goodIn_r _ [7, 2, 43, 44, 45, 46, 47, 48, 49, 50, 51, 52, 53, 54, 55, 56, 57, 58, 59, 60, 61, 62, 63, 64, 65, 66] (by decide +kernel) (by decide +kernel)
set_option maxRecDepth 20000 in
theorem gX9_laysSquares_X9_cells : GoodIn wsX9_laysSquares (wsV RX9 121 RX9 yX9_cells wsX9_cells) := goodIn_app (goodIn_of _ (by decide +kernel)) ggX9_laysSquares_X9_cells
set_option maxRecDepth 20000 in
theorem ggX9_laysSquares_X9_squareOf : GoodIn wsX9_laysSquares wsX9_squareOf := goodIn_r _ [11, 12, 13, 14, 6, 15, 2, 16, 17, 18, 19, 20, 21, 22, 23, 24, 25, 26, 27, 28, 29, 30, 31, 32, 33, 34, 35, 36, 37, 38, 39, 40, 41, 42, 43, 44, 45, 46, 47, 48, 49, 50, 51, 52, 53, 54, 55, 56, 57, 58, 59, 60, 61, 62, 63, 64, 65, 66] (by decide +kernel) (by decide +kernel)
set_option maxRecDepth 20000 in
theorem gX9_laysSquares_X9_squareOf : GoodIn wsX9_laysSquares (wsV RX9 181 RX9 yX9_squareOf wsX9_squareOf) := goodIn_app (goodIn_of _ (by decide +kernel)) ggX9_laysSquares_X9_squareOf
theorem dX9_laysSquares_0 : decode cX9_laysSquares 0 = .ok (.iconst 0, 1) := by decide +kernel
theorem dX9_laysSquares_1 : decode cX9_laysSquares 1 = .ok (.istore_n 1, 1) := by decide +kernel
theorem dX9_laysSquares_2 : decode cX9_laysSquares 2 = .ok (.iload_n 1, 1) := by decide +kernel
theorem dX9_laysSquares_3 : decode cX9_laysSquares 3 = .ok (.aload_n 0, 1) := by decide +kernel
theorem dX9_laysSquares_4 : decode cX9_laysSquares 4 = .ok (.invokevirtual 121, 3) := by decide +kernel
theorem dX9_laysSquares_7 : decode cX9_laysSquares 7 = .ok (.if_icmp .ge 55, 3) := by decide +kernel
theorem dX9_laysSquares_10 : decode cX9_laysSquares 10 = .ok (.iconst 1, 1) := by decide +kernel
theorem dX9_laysSquares_11 : decode cX9_laysSquares 11 = .ok (.istore_n 2, 1) := by decide +kernel
theorem dX9_laysSquares_12 : decode cX9_laysSquares 12 = .ok (.iload_n 2, 1) := by decide +kernel
theorem dX9_laysSquares_13 : decode cX9_laysSquares 13 = .ok (.iconst 4, 1) := by decide +kernel
theorem dX9_laysSquares_14 : decode cX9_laysSquares 14 = .ok (.if_icmp .ge 42, 3) := by decide +kernel
theorem dX9_laysSquares_17 : decode cX9_laysSquares 17 = .ok (.aload_n 0, 1) := by decide +kernel
theorem dX9_laysSquares_18 : decode cX9_laysSquares 18 = .ok (.getfield 42, 3) := by decide +kernel
theorem dX9_laysSquares_21 : decode cX9_laysSquares 21 = .ok (.iconst 3, 1) := by decide +kernel
theorem dX9_laysSquares_22 : decode cX9_laysSquares 22 = .ok (.iload_n 1, 1) := by decide +kernel
theorem dX9_laysSquares_23 : decode cX9_laysSquares 23 = .ok (.imul, 1) := by decide +kernel
theorem dX9_laysSquares_24 : decode cX9_laysSquares 24 = .ok (.iload_n 2, 1) := by decide +kernel
theorem dX9_laysSquares_25 : decode cX9_laysSquares 25 = .ok (.iadd, 1) := by decide +kernel
theorem dX9_laysSquares_26 : decode cX9_laysSquares 26 = .ok (.iconst 1, 1) := by decide +kernel
theorem dX9_laysSquares_27 : decode cX9_laysSquares 27 = .ok (.isub, 1) := by decide +kernel
theorem dX9_laysSquares_28 : decode cX9_laysSquares 28 = .ok (.aload_n 0, 1) := by decide +kernel
theorem dX9_laysSquares_29 : decode cX9_laysSquares 29 = .ok (.iload_n 1, 1) := by decide +kernel
theorem dX9_laysSquares_30 : decode cX9_laysSquares 30 = .ok (.aload_n 0, 1) := by decide +kernel
theorem dX9_laysSquares_31 : decode cX9_laysSquares 31 = .ok (.getfield 7, 3) := by decide +kernel
theorem dX9_laysSquares_34 : decode cX9_laysSquares 34 = .ok (.iconst 0, 1) := by decide +kernel
theorem dX9_laysSquares_35 : decode cX9_laysSquares 35 = .ok (.iaload, 1) := by decide +kernel
theorem dX9_laysSquares_36 : decode cX9_laysSquares 36 = .ok (.irem, 1) := by decide +kernel
theorem dX9_laysSquares_37 : decode cX9_laysSquares 37 = .ok (.iload_n 1, 1) := by decide +kernel
theorem dX9_laysSquares_38 : decode cX9_laysSquares 38 = .ok (.aload_n 0, 1) := by decide +kernel
theorem dX9_laysSquares_39 : decode cX9_laysSquares 39 = .ok (.getfield 7, 3) := by decide +kernel
theorem dX9_laysSquares_42 : decode cX9_laysSquares 42 = .ok (.iconst 0, 1) := by decide +kernel
theorem dX9_laysSquares_43 : decode cX9_laysSquares 43 = .ok (.iaload, 1) := by decide +kernel
theorem dX9_laysSquares_44 : decode cX9_laysSquares 44 = .ok (.idiv, 1) := by decide +kernel
theorem dX9_laysSquares_45 : decode cX9_laysSquares 45 = .ok (.iload_n 2, 1) := by decide +kernel
theorem dX9_laysSquares_46 : decode cX9_laysSquares 46 = .ok (.invokevirtual 181, 3) := by decide +kernel
theorem dX9_laysSquares_49 : decode cX9_laysSquares 49 = .ok (.iastore, 1) := by decide +kernel
theorem dX9_laysSquares_50 : decode cX9_laysSquares 50 = .ok (.iinc 2 1, 3) := by decide +kernel
theorem dX9_laysSquares_53 : decode cX9_laysSquares 53 = .ok (.goto (-41), 3) := by decide +kernel
theorem dX9_laysSquares_56 : decode cX9_laysSquares 56 = .ok (.iinc 1 1, 3) := by decide +kernel
theorem dX9_laysSquares_59 : decode cX9_laysSquares 59 = .ok (.goto (-57), 3) := by decide +kernel
theorem dX9_laysSquares_62 : decode cX9_laysSquares 62 = .ok (.return_, 1) := by decide +kernel
set_option maxRecDepth 20000 in
theorem ggX9_laysKinds_X9_laysSquares : GoodIn wsX9_laysKinds wsX9_laysSquares := goodIn_r _ [8, 9, 10, 11, 12, 13, 7, 14, 15, 16, 17, 18, 19, 20, 21, 22, 23, 24, 25, 26, 27, 28, 29, 30, 31, 32, 33, 34, 35, 36, 37, 38, 39, 40, 41, 42, 43, 44, 45, 46, 47, 48, 49, 54, 55, 56, 57, 58, 59, 60, 61, 62, 63, 64, 65, 66, 67, 68, 69, 70, 71, 72, 73, 74, 75, 76, 77] (by decide +kernel) (by decide +kernel)
set_option maxRecDepth 20000 in
theorem gX9_laysKinds_X9_laysSquares : GoodIn wsX9_laysKinds (wsV RX9 184 RX9 yX9_laysSquares wsX9_laysSquares) := goodIn_app (goodIn_of _ (by decide +kernel)) ggX9_laysKinds_X9_laysSquares
set_option maxRecDepth 20000 in
theorem ggX9_laysKinds_X9_cells : GoodIn wsX9_laysKinds wsX9_cells := goodIn_r _ [14, 10, 54, 55, 56, 57, 58, 59, 60, 61, 62, 63, 64, 65, 66, 67, 68, 69, 70, 71, 72, 73, 74, 75, 76, 77] (by decide +kernel) (by decide +kernel)
set_option maxRecDepth 20000 in
theorem gX9_laysKinds_X9_cells : GoodIn wsX9_laysKinds (wsV RX9 121 RX9 yX9_cells wsX9_cells) := goodIn_app (goodIn_of _ (by decide +kernel)) ggX9_laysKinds_X9_cells
set_option maxRecDepth 20000 in
theorem ggX9_laysKinds_X9_areAlike : GoodIn wsX9_laysKinds wsX9_areAlike := goodIn_r _ [53, 9, 54, 55, 56, 57, 58, 59, 60, 61, 62, 63, 64, 65, 66, 67, 68, 69, 70, 71, 72, 73, 74, 75, 76, 77] (by decide +kernel) (by decide +kernel)
set_option maxRecDepth 20000 in
theorem gX9_laysKinds_X9_areAlike : GoodIn wsX9_laysKinds (wsV RX9 190 RX9 yX9_areAlike wsX9_areAlike) := goodIn_app (goodIn_of _ (by decide +kernel)) ggX9_laysKinds_X9_areAlike
theorem dX9_laysKinds_0 : decode cX9_laysKinds 0 = .ok (.aload_n 0, 1) := by decide +kernel
theorem dX9_laysKinds_1 : decode cX9_laysKinds 1 = .ok (.invokevirtual 184, 3) := by decide +kernel
theorem dX9_laysKinds_4 : decode cX9_laysKinds 4 = .ok (.aload_n 0, 1) := by decide +kernel
theorem dX9_laysKinds_5 : decode cX9_laysKinds 5 = .ok (.iconst 0, 1) := by decide +kernel
theorem dX9_laysKinds_6 : decode cX9_laysKinds 6 = .ok (.putfield 187, 3) := by decide +kernel
theorem dX9_laysKinds_9 : decode cX9_laysKinds 9 = .ok (.iconst 0, 1) := by decide +kernel
theorem dX9_laysKinds_10 : decode cX9_laysKinds 10 = .ok (.istore_n 1, 1) := by decide +kernel
theorem dX9_laysKinds_11 : decode cX9_laysKinds 11 = .ok (.iload_n 1, 1) := by decide +kernel
theorem dX9_laysKinds_12 : decode cX9_laysKinds 12 = .ok (.aload_n 0, 1) := by decide +kernel
theorem dX9_laysKinds_13 : decode cX9_laysKinds 13 = .ok (.invokevirtual 121, 3) := by decide +kernel
theorem dX9_laysKinds_16 : decode cX9_laysKinds 16 = .ok (.if_icmp .ge 71, 3) := by decide +kernel
theorem dX9_laysKinds_19 : decode cX9_laysKinds 19 = .ok (.iconst 0, 1) := by decide +kernel
theorem dX9_laysKinds_20 : decode cX9_laysKinds 20 = .ok (.istore_n 2, 1) := by decide +kernel
theorem dX9_laysKinds_21 : decode cX9_laysKinds 21 = .ok (.iload_n 2, 1) := by decide +kernel
theorem dX9_laysKinds_22 : decode cX9_laysKinds 22 = .ok (.aload_n 0, 1) := by decide +kernel
theorem dX9_laysKinds_23 : decode cX9_laysKinds 23 = .ok (.getfield 187, 3) := by decide +kernel
theorem dX9_laysKinds_26 : decode cX9_laysKinds 26 = .ok (.if_icmp .ge 23, 3) := by decide +kernel
theorem dX9_laysKinds_29 : decode cX9_laysKinds 29 = .ok (.aload_n 0, 1) := by decide +kernel
theorem dX9_laysKinds_30 : decode cX9_laysKinds 30 = .ok (.aload_n 0, 1) := by decide +kernel
theorem dX9_laysKinds_31 : decode cX9_laysKinds 31 = .ok (.getfield 48, 3) := by decide +kernel
theorem dX9_laysKinds_34 : decode cX9_laysKinds 34 = .ok (.iload_n 2, 1) := by decide +kernel
theorem dX9_laysKinds_35 : decode cX9_laysKinds 35 = .ok (.iaload, 1) := by decide +kernel
theorem dX9_laysKinds_36 : decode cX9_laysKinds 36 = .ok (.iload_n 1, 1) := by decide +kernel
theorem dX9_laysKinds_37 : decode cX9_laysKinds 37 = .ok (.invokevirtual 190, 3) := by decide +kernel
theorem dX9_laysKinds_40 : decode cX9_laysKinds 40 = .ok (.ifCond .ne 9, 3) := by decide +kernel
theorem dX9_laysKinds_43 : decode cX9_laysKinds 43 = .ok (.iinc 2 1, 3) := by decide +kernel
theorem dX9_laysKinds_46 : decode cX9_laysKinds 46 = .ok (.goto (-25), 3) := by decide +kernel
theorem dX9_laysKinds_49 : decode cX9_laysKinds 49 = .ok (.iload_n 2, 1) := by decide +kernel
theorem dX9_laysKinds_50 : decode cX9_laysKinds 50 = .ok (.aload_n 0, 1) := by decide +kernel
theorem dX9_laysKinds_51 : decode cX9_laysKinds 51 = .ok (.getfield 187, 3) := by decide +kernel
theorem dX9_laysKinds_54 : decode cX9_laysKinds 54 = .ok (.if_icmp .ne 20, 3) := by decide +kernel
theorem dX9_laysKinds_57 : decode cX9_laysKinds 57 = .ok (.aload_n 0, 1) := by decide +kernel
theorem dX9_laysKinds_58 : decode cX9_laysKinds 58 = .ok (.getfield 48, 3) := by decide +kernel
theorem dX9_laysKinds_61 : decode cX9_laysKinds 61 = .ok (.iload_n 2, 1) := by decide +kernel
theorem dX9_laysKinds_62 : decode cX9_laysKinds 62 = .ok (.iload_n 1, 1) := by decide +kernel
theorem dX9_laysKinds_63 : decode cX9_laysKinds 63 = .ok (.iastore, 1) := by decide +kernel
theorem dX9_laysKinds_64 : decode cX9_laysKinds 64 = .ok (.aload_n 0, 1) := by decide +kernel
theorem dX9_laysKinds_65 : decode cX9_laysKinds 65 = .ok (.dup, 1) := by decide +kernel
theorem dX9_laysKinds_66 : decode cX9_laysKinds 66 = .ok (.getfield 187, 3) := by decide +kernel
theorem dX9_laysKinds_69 : decode cX9_laysKinds 69 = .ok (.iconst 1, 1) := by decide +kernel
theorem dX9_laysKinds_70 : decode cX9_laysKinds 70 = .ok (.iadd, 1) := by decide +kernel
theorem dX9_laysKinds_71 : decode cX9_laysKinds 71 = .ok (.putfield 187, 3) := by decide +kernel
theorem dX9_laysKinds_74 : decode cX9_laysKinds 74 = .ok (.aload_n 0, 1) := by decide +kernel
theorem dX9_laysKinds_75 : decode cX9_laysKinds 75 = .ok (.getfield 45, 3) := by decide +kernel
theorem dX9_laysKinds_78 : decode cX9_laysKinds 78 = .ok (.iload_n 1, 1) := by decide +kernel
theorem dX9_laysKinds_79 : decode cX9_laysKinds 79 = .ok (.iload_n 2, 1) := by decide +kernel
theorem dX9_laysKinds_80 : decode cX9_laysKinds 80 = .ok (.iastore, 1) := by decide +kernel
theorem dX9_laysKinds_81 : decode cX9_laysKinds 81 = .ok (.iinc 1 1, 3) := by decide +kernel
theorem dX9_laysKinds_84 : decode cX9_laysKinds 84 = .ok (.goto (-73), 3) := by decide +kernel
theorem dX9_laysKinds_87 : decode cX9_laysKinds 87 = .ok (.return_, 1) := by decide +kernel
set_option maxRecDepth 20000 in
theorem ggX9_kindOf_X9_laysKinds : GoodIn wsX9_kindOf wsX9_laysKinds := goodIn_r _ [6, 7, 8, 1, 9, 10, 11, 5, 12, 13, 14, 15, 16, 17, 18, 19, 20, 21, 22, 23, 24, 25, 26, 27, 28, 29, 30, 31, 32, 33, 34, 35, 36, 37, 38, 39, 40, 41, 42, 43, 44, 45, 46, 47, 48, 49, 50, 51, 52, 53, 54, 55, 56, 57, 58, 59, 60, 61, 62, 63, 64, 65, 66, 67, 68, 69, 70, 71, 72, 73, 74, 75, 76, 77, 78, 79, 80, 81] (by decide +kernel) (by decide +kernel)
set_option maxRecDepth 20000 in
theorem gX9_kindOf_X9_laysKinds : GoodIn wsX9_kindOf (wsV RX9 193 RX9 yX9_laysKinds wsX9_laysKinds) := goodIn_app (goodIn_of _ (by decide +kernel)) ggX9_kindOf_X9_laysKinds
theorem dX9_kindOf_0 : decode cX9_kindOf 0 = .ok (.aload_n 0, 1) := by decide +kernel
theorem dX9_kindOf_1 : decode cX9_kindOf 1 = .ok (.invokevirtual 193, 3) := by decide +kernel
theorem dX9_kindOf_4 : decode cX9_kindOf 4 = .ok (.aload_n 0, 1) := by decide +kernel
theorem dX9_kindOf_5 : decode cX9_kindOf 5 = .ok (.getfield 45, 3) := by decide +kernel
theorem dX9_kindOf_8 : decode cX9_kindOf 8 = .ok (.iload_n 1, 1) := by decide +kernel
theorem dX9_kindOf_9 : decode cX9_kindOf 9 = .ok (.iaload, 1) := by decide +kernel
theorem dX9_kindOf_10 : decode cX9_kindOf 10 = .ok (.ireturn, 1) := by decide +kernel
set_option maxRecDepth 20000 in
theorem ggX9_cell_X9_isCell : GoodIn wsX9_cell wsX9_isCell := goodIn_r _ [7, 2, 8, 9, 6, 10, 63, 64, 65, 66, 67, 68, 69, 70, 71, 72, 73, 74, 75, 76, 77, 78, 79, 80, 81, 82, 83, 84, 85, 86] (by decide +kernel) (by decide +kernel)
set_option maxRecDepth 20000 in
theorem gX9_cell_X9_isCell : GoodIn wsX9_cell (wsV RX9 117 RX9 yX9_isCell wsX9_isCell) := goodIn_app (goodIn_of _ (by decide +kernel)) ggX9_cell_X9_isCell
set_option maxRecDepth 20000 in
theorem ggX9_cell_X9_in : GoodIn wsX9_cell wsX9_in := goodIn_r _ [10] (by decide +kernel) (by decide +kernel)
set_option maxRecDepth 20000 in
theorem gX9_cell_X9_in : GoodIn wsX9_cell (va_wsS RX9 55 yX9_in wsX9_in) := goodIn_app (goodIn_of _ (by decide +kernel)) ggX9_cell_X9_in
set_option maxRecDepth 20000 in
theorem ggX9_cell_X9_height : GoodIn wsX9_cell wsX9_height := goodIn_r _ [14, 2, 63, 64, 65, 66, 67, 68, 69, 70, 71, 72, 73, 74, 75, 76, 77, 78, 79, 80, 81, 82, 83, 84, 85, 86] (by decide +kernel) (by decide +kernel)
set_option maxRecDepth 20000 in
theorem gX9_cell_X9_height : GoodIn wsX9_cell (wsV RX9 124 RX9 yX9_height wsX9_height) := goodIn_app (goodIn_of _ (by decide +kernel)) ggX9_cell_X9_height
set_option maxRecDepth 20000 in
theorem ggX9_cell_X9_kindOf : GoodIn wsX9_cell wsX9_kindOf := goodIn_r _ [18, 19, 20, 21, 22, 6, 23, 24, 25, 26, 27, 28, 29, 30, 2, 31, 32, 33, 34, 35, 36, 37, 38, 11, 12, 13, 14, 39, 40, 41, 42, 43, 44, 45, 8, 9, 10, 46, 47, 48, 49, 50, 51, 52, 3, 4, 5, 7, 53, 54, 55, 56, 57, 58, 59, 60, 61, 62, 63, 64, 65, 66, 67, 68, 69, 70, 71, 72, 73, 74, 75, 76, 77, 78, 79, 80, 81, 82, 83, 84, 85, 86] (by decide +kernel) (by decide +kernel)
set_option maxRecDepth 20000 in
theorem gX9_cell_X9_kindOf : GoodIn wsX9_cell (wsV RX9 196 RX9 yX9_kindOf wsX9_kindOf) := goodIn_app (goodIn_of _ (by decide +kernel)) ggX9_cell_X9_kindOf
theorem dX9_cell_0 : decode cX9_cell 0 = .ok (.aload_n 0, 1) := by decide +kernel
theorem dX9_cell_1 : decode cX9_cell 1 = .ok (.iconst 0, 1) := by decide +kernel
theorem dX9_cell_2 : decode cX9_cell 2 = .ok (.putfield 51, 3) := by decide +kernel
theorem dX9_cell_5 : decode cX9_cell 5 = .ok (.aload_n 0, 1) := by decide +kernel
theorem dX9_cell_6 : decode cX9_cell 6 = .ok (.iload_n 1, 1) := by decide +kernel
theorem dX9_cell_7 : decode cX9_cell 7 = .ok (.iload_n 2, 1) := by decide +kernel
theorem dX9_cell_8 : decode cX9_cell 8 = .ok (.invokevirtual 117, 3) := by decide +kernel
theorem dX9_cell_11 : decode cX9_cell 11 = .ok (.ifCond .eq 12, 3) := by decide +kernel
theorem dX9_cell_14 : decode cX9_cell 14 = .ok (.iload_n 3, 1) := by decide +kernel
theorem dX9_cell_15 : decode cX9_cell 15 = .ok (.iconst 0, 1) := by decide +kernel
theorem dX9_cell_16 : decode cX9_cell 16 = .ok (.iconst 2, 1) := by decide +kernel
theorem dX9_cell_17 : decode cX9_cell 17 = .ok (.invokestatic 55, 3) := by decide +kernel
theorem dX9_cell_20 : decode cX9_cell 20 = .ok (.ifCond .ne 5, 3) := by decide +kernel
theorem dX9_cell_23 : decode cX9_cell 23 = .ok (.iconst (-1), 1) := by decide +kernel
theorem dX9_cell_24 : decode cX9_cell 24 = .ok (.ireturn, 1) := by decide +kernel
theorem dX9_cell_25 : decode cX9_cell 25 = .ok (.iload_n 3, 1) := by decide +kernel
theorem dX9_cell_26 : decode cX9_cell 26 = .ok (.ifCond .ne 12, 3) := by decide +kernel
theorem dX9_cell_29 : decode cX9_cell 29 = .ok (.aload_n 0, 1) := by decide +kernel
theorem dX9_cell_30 : decode cX9_cell 30 = .ok (.iload_n 1, 1) := by decide +kernel
theorem dX9_cell_31 : decode cX9_cell 31 = .ok (.iload_n 2, 1) := by decide +kernel
theorem dX9_cell_32 : decode cX9_cell 32 = .ok (.invokevirtual 124, 3) := by decide +kernel
theorem dX9_cell_35 : decode cX9_cell 35 = .ok (.goto 43, 3) := by decide +kernel
theorem dX9_cell_38 : decode cX9_cell 38 = .ok (.iload_n 3, 1) := by decide +kernel
theorem dX9_cell_39 : decode cX9_cell 39 = .ok (.iconst 1, 1) := by decide +kernel
theorem dX9_cell_40 : decode cX9_cell 40 = .ok (.if_icmp .ne 24, 3) := by decide +kernel
theorem dX9_cell_43 : decode cX9_cell 43 = .ok (.aload_n 0, 1) := by decide +kernel
theorem dX9_cell_44 : decode cX9_cell 44 = .ok (.getfield 7, 3) := by decide +kernel
theorem dX9_cell_47 : decode cX9_cell 47 = .ok (.bipush 27, 2) := by decide +kernel
theorem dX9_cell_49 : decode cX9_cell 49 = .ok (.aload_n 0, 1) := by decide +kernel
theorem dX9_cell_50 : decode cX9_cell 50 = .ok (.getfield 7, 3) := by decide +kernel
theorem dX9_cell_53 : decode cX9_cell 53 = .ok (.iconst 0, 1) := by decide +kernel
theorem dX9_cell_54 : decode cX9_cell 54 = .ok (.iaload, 1) := by decide +kernel
theorem dX9_cell_55 : decode cX9_cell 55 = .ok (.iload_n 2, 1) := by decide +kernel
theorem dX9_cell_56 : decode cX9_cell 56 = .ok (.imul, 1) := by decide +kernel
theorem dX9_cell_57 : decode cX9_cell 57 = .ok (.iadd, 1) := by decide +kernel
theorem dX9_cell_58 : decode cX9_cell 58 = .ok (.iload_n 1, 1) := by decide +kernel
theorem dX9_cell_59 : decode cX9_cell 59 = .ok (.iadd, 1) := by decide +kernel
theorem dX9_cell_60 : decode cX9_cell 60 = .ok (.iaload, 1) := by decide +kernel
theorem dX9_cell_61 : decode cX9_cell 61 = .ok (.goto 17, 3) := by decide +kernel
theorem dX9_cell_64 : decode cX9_cell 64 = .ok (.aload_n 0, 1) := by decide +kernel
theorem dX9_cell_65 : decode cX9_cell 65 = .ok (.aload_n 0, 1) := by decide +kernel
theorem dX9_cell_66 : decode cX9_cell 66 = .ok (.getfield 7, 3) := by decide +kernel
theorem dX9_cell_69 : decode cX9_cell 69 = .ok (.iconst 0, 1) := by decide +kernel
theorem dX9_cell_70 : decode cX9_cell 70 = .ok (.iaload, 1) := by decide +kernel
theorem dX9_cell_71 : decode cX9_cell 71 = .ok (.iload_n 2, 1) := by decide +kernel
theorem dX9_cell_72 : decode cX9_cell 72 = .ok (.imul, 1) := by decide +kernel
theorem dX9_cell_73 : decode cX9_cell 73 = .ok (.iload_n 1, 1) := by decide +kernel
theorem dX9_cell_74 : decode cX9_cell 74 = .ok (.iadd, 1) := by decide +kernel
theorem dX9_cell_75 : decode cX9_cell 75 = .ok (.invokevirtual 196, 3) := by decide +kernel
theorem dX9_cell_78 : decode cX9_cell 78 = .ok (.ireturn, 1) := by decide +kernel
set_option maxRecDepth 20000 in
theorem ggX9_square_X9_isCell : GoodIn wsX9_square wsX9_isCell := goodIn_r _ [6, 7, 8, 9, 5, 10, 39, 40, 41, 42, 43, 44, 45, 46, 47, 48, 49, 50, 51, 52, 53, 54, 55, 56, 57, 58, 59, 60, 61, 62] (by decide +kernel) (by decide +kernel)
set_option maxRecDepth 20000 in
theorem gX9_square_X9_isCell : GoodIn wsX9_square (wsV RX9 117 RX9 yX9_isCell wsX9_isCell) := goodIn_app (goodIn_of _ (by decide +kernel)) ggX9_square_X9_isCell
set_option maxRecDepth 20000 in
theorem ggX9_square_X9_in : GoodIn wsX9_square wsX9_in := goodIn_r _ [10] (by decide +kernel) (by decide +kernel)
set_option maxRecDepth 20000 in
theorem gX9_square_X9_in : GoodIn wsX9_square (va_wsS RX9 55 yX9_in wsX9_in) := goodIn_app (goodIn_of _ (by decide +kernel)) ggX9_square_X9_in
set_option maxRecDepth 20000 in
theorem ggX9_square_X9_maskOf : GoodIn wsX9_square wsX9_maskOf := goodIn_r _ [14, 15, 16, 5, 17, 8, 9, 10, 18, 19, 20, 21, 22, 23, 24, 7, 2, 3, 4, 6, 25, 26, 27, 28, 29, 30, 31, 39, 40, 41, 42, 43, 44, 45, 46, 47, 48, 49, 50, 51, 52, 53, 54, 55, 56, 57, 58, 59, 60, 61, 62] (by decide +kernel) (by decide +kernel)
set_option maxRecDepth 20000 in
theorem gX9_square_X9_maskOf : GoodIn wsX9_square (wsV RX9 174 RX9 yX9_maskOf wsX9_maskOf) := goodIn_app (goodIn_of _ (by decide +kernel)) ggX9_square_X9_maskOf
set_option maxRecDepth 20000 in
theorem ggX9_square_X9_squareOf : GoodIn wsX9_square wsX9_squareOf := goodIn_r _ [35, 25, 26, 27, 5, 28, 7, 11, 12, 13, 14, 15, 16, 17, 8, 9, 10, 18, 19, 20, 21, 22, 23, 24, 2, 3, 4, 6, 29, 30, 31, 36, 37, 38, 39, 40, 41, 42, 43, 44, 45, 46, 47, 48, 49, 50, 51, 52, 53, 54, 55, 56, 57, 58, 59, 60, 61, 62] (by decide +kernel) (by decide +kernel)
set_option maxRecDepth 20000 in
theorem gX9_square_X9_squareOf : GoodIn wsX9_square (wsV RX9 181 RX9 yX9_squareOf wsX9_squareOf) := goodIn_app (goodIn_of _ (by decide +kernel)) ggX9_square_X9_squareOf
theorem dX9_square_0 : decode cX9_square 0 = .ok (.aload_n 0, 1) := by decide +kernel
theorem dX9_square_1 : decode cX9_square 1 = .ok (.iconst 0, 1) := by decide +kernel
theorem dX9_square_2 : decode cX9_square 2 = .ok (.putfield 51, 3) := by decide +kernel
theorem dX9_square_5 : decode cX9_square 5 = .ok (.aload_n 0, 1) := by decide +kernel
theorem dX9_square_6 : decode cX9_square 6 = .ok (.iload_n 1, 1) := by decide +kernel
theorem dX9_square_7 : decode cX9_square 7 = .ok (.iload_n 2, 1) := by decide +kernel
theorem dX9_square_8 : decode cX9_square 8 = .ok (.invokevirtual 117, 3) := by decide +kernel
theorem dX9_square_11 : decode cX9_square 11 = .ok (.ifCond .eq 22, 3) := by decide +kernel
theorem dX9_square_14 : decode cX9_square 14 = .ok (.iload_n 3, 1) := by decide +kernel
theorem dX9_square_15 : decode cX9_square 15 = .ok (.iconst 1, 1) := by decide +kernel
theorem dX9_square_16 : decode cX9_square 16 = .ok (.iconst 3, 1) := by decide +kernel
theorem dX9_square_17 : decode cX9_square 17 = .ok (.invokestatic 55, 3) := by decide +kernel
theorem dX9_square_20 : decode cX9_square 20 = .ok (.ifCond .eq 13, 3) := by decide +kernel
theorem dX9_square_23 : decode cX9_square 23 = .ok (.iload 4, 2) := by decide +kernel
theorem dX9_square_25 : decode cX9_square 25 = .ok (.iconst 0, 1) := by decide +kernel
theorem dX9_square_26 : decode cX9_square 26 = .ok (.iconst 1, 1) := by decide +kernel
theorem dX9_square_27 : decode cX9_square 27 = .ok (.invokestatic 55, 3) := by decide +kernel
theorem dX9_square_30 : decode cX9_square 30 = .ok (.ifCond .ne 5, 3) := by decide +kernel
theorem dX9_square_33 : decode cX9_square 33 = .ok (.iconst (-1), 1) := by decide +kernel
theorem dX9_square_34 : decode cX9_square 34 = .ok (.ireturn, 1) := by decide +kernel
theorem dX9_square_35 : decode cX9_square 35 = .ok (.iload 4, 2) := by decide +kernel
theorem dX9_square_37 : decode cX9_square 37 = .ok (.ifCond .ne 13, 3) := by decide +kernel
theorem dX9_square_40 : decode cX9_square 40 = .ok (.aload_n 0, 1) := by decide +kernel
theorem dX9_square_41 : decode cX9_square 41 = .ok (.iload_n 1, 1) := by decide +kernel
theorem dX9_square_42 : decode cX9_square 42 = .ok (.iload_n 2, 1) := by decide +kernel
theorem dX9_square_43 : decode cX9_square 43 = .ok (.iload_n 3, 1) := by decide +kernel
theorem dX9_square_44 : decode cX9_square 44 = .ok (.invokevirtual 174, 3) := by decide +kernel
theorem dX9_square_47 : decode cX9_square 47 = .ok (.goto 10, 3) := by decide +kernel
theorem dX9_square_50 : decode cX9_square 50 = .ok (.aload_n 0, 1) := by decide +kernel
theorem dX9_square_51 : decode cX9_square 51 = .ok (.iload_n 1, 1) := by decide +kernel
theorem dX9_square_52 : decode cX9_square 52 = .ok (.iload_n 2, 1) := by decide +kernel
theorem dX9_square_53 : decode cX9_square 53 = .ok (.iload_n 3, 1) := by decide +kernel
theorem dX9_square_54 : decode cX9_square 54 = .ok (.invokevirtual 181, 3) := by decide +kernel
theorem dX9_square_57 : decode cX9_square 57 = .ok (.ireturn, 1) := by decide +kernel
set_option maxRecDepth 20000 in
theorem ggX9_kind_X9_laysKinds : GoodIn wsX9_kind wsX9_laysKinds := goodIn_r _ [10, 2, 4, 5, 11, 12, 13, 9, 14, 3, 15, 16, 17, 18, 19, 20, 21, 22, 23, 24, 25, 26, 27, 28, 29, 30, 31, 32, 33, 34, 35, 36, 37, 38, 39, 40, 41, 42, 43, 44, 45, 46, 47, 48, 49, 50, 51, 52, 53, 54, 55, 56, 57, 58, 59, 60, 61, 62, 63, 64, 65, 66, 67, 68, 69, 70, 71, 72, 73, 74, 75, 76, 77, 78, 79, 80, 81, 82] (by decide +kernel) (by decide +kernel)
set_option maxRecDepth 20000 in
theorem gX9_kind_X9_laysKinds : GoodIn wsX9_kind (wsV RX9 193 RX9 yX9_laysKinds wsX9_laysKinds) := goodIn_app (goodIn_of _ (by decide +kernel)) ggX9_kind_X9_laysKinds
set_option maxRecDepth 20000 in
theorem ggX9_kind_X9_in : GoodIn wsX9_kind wsX9_in := goodIn_r _ [37] (by decide +kernel) (by decide +kernel)
set_option maxRecDepth 20000 in
theorem gX9_kind_X9_in : GoodIn wsX9_kind (va_wsS RX9 55 yX9_in wsX9_in) := goodIn_app (goodIn_of _ (by decide +kernel)) ggX9_kind_X9_in
set_option maxRecDepth 20000 in
theorem ggX9_kind_X9_cells : GoodIn wsX9_kind wsX9_cells := goodIn_r _ [19, 15, 59, 60, 61, 62, 63, 64, 65, 66, 67, 68, 69, 70, 71, 72, 73, 74, 75, 76, 77, 78, 79, 80, 81, 82] (by decide +kernel) (by decide +kernel)
set_option maxRecDepth 20000 in
theorem gX9_kind_X9_cells : GoodIn wsX9_kind (wsV RX9 121 RX9 yX9_cells wsX9_cells) := goodIn_app (goodIn_of _ (by decide +kernel)) ggX9_kind_X9_cells
theorem dX9_kind_0 : decode cX9_kind 0 = .ok (.aload_n 0, 1) := by decide +kernel
theorem dX9_kind_1 : decode cX9_kind 1 = .ok (.iconst 0, 1) := by decide +kernel
theorem dX9_kind_2 : decode cX9_kind 2 = .ok (.putfield 51, 3) := by decide +kernel
theorem dX9_kind_5 : decode cX9_kind 5 = .ok (.aload_n 0, 1) := by decide +kernel
theorem dX9_kind_6 : decode cX9_kind 6 = .ok (.invokevirtual 193, 3) := by decide +kernel
theorem dX9_kind_9 : decode cX9_kind 9 = .ok (.iload_n 1, 1) := by decide +kernel
theorem dX9_kind_10 : decode cX9_kind 10 = .ok (.iconst (-1), 1) := by decide +kernel
theorem dX9_kind_11 : decode cX9_kind 11 = .ok (.aload_n 0, 1) := by decide +kernel
theorem dX9_kind_12 : decode cX9_kind 12 = .ok (.getfield 187, 3) := by decide +kernel
theorem dX9_kind_15 : decode cX9_kind 15 = .ok (.iconst 1, 1) := by decide +kernel
theorem dX9_kind_16 : decode cX9_kind 16 = .ok (.isub, 1) := by decide +kernel
theorem dX9_kind_17 : decode cX9_kind 17 = .ok (.invokestatic 55, 3) := by decide +kernel
theorem dX9_kind_20 : decode cX9_kind 20 = .ok (.ifCond .eq 20, 3) := by decide +kernel
theorem dX9_kind_23 : decode cX9_kind 23 = .ok (.iload_n 2, 1) := by decide +kernel
theorem dX9_kind_24 : decode cX9_kind 24 = .ok (.iconst 0, 1) := by decide +kernel
theorem dX9_kind_25 : decode cX9_kind 25 = .ok (.iload_n 1, 1) := by decide +kernel
theorem dX9_kind_26 : decode cX9_kind 26 = .ok (.ifCond .ge 7, 3) := by decide +kernel
theorem dX9_kind_29 : decode cX9_kind 29 = .ok (.iconst 0, 1) := by decide +kernel
theorem dX9_kind_30 : decode cX9_kind 30 = .ok (.goto 4, 3) := by decide +kernel
theorem dX9_kind_33 : decode cX9_kind 33 = .ok (.iconst 3, 1) := by decide +kernel
theorem dX9_kind_34 : decode cX9_kind 34 = .ok (.invokestatic 55, 3) := by decide +kernel
theorem dX9_kind_37 : decode cX9_kind 37 = .ok (.ifCond .ne 6, 3) := by decide +kernel
theorem dX9_kind_40 : decode cX9_kind 40 = .ok (.bipush (-5), 2) := by decide +kernel
theorem dX9_kind_42 : decode cX9_kind 42 = .ok (.ireturn, 1) := by decide +kernel
theorem dX9_kind_43 : decode cX9_kind 43 = .ok (.iload_n 1, 1) := by decide +kernel
theorem dX9_kind_44 : decode cX9_kind 44 = .ok (.ifCond .ge 8, 3) := by decide +kernel
theorem dX9_kind_47 : decode cX9_kind 47 = .ok (.aload_n 0, 1) := by decide +kernel
theorem dX9_kind_48 : decode cX9_kind 48 = .ok (.getfield 187, 3) := by decide +kernel
theorem dX9_kind_51 : decode cX9_kind 51 = .ok (.ireturn, 1) := by decide +kernel
theorem dX9_kind_52 : decode cX9_kind 52 = .ok (.iload_n 2, 1) := by decide +kernel
theorem dX9_kind_53 : decode cX9_kind 53 = .ok (.ifCond .le 21, 3) := by decide +kernel
theorem dX9_kind_56 : decode cX9_kind 56 = .ok (.aload_n 0, 1) := by decide +kernel
theorem dX9_kind_57 : decode cX9_kind 57 = .ok (.getfield 42, 3) := by decide +kernel
theorem dX9_kind_60 : decode cX9_kind 60 = .ok (.iconst 3, 1) := by decide +kernel
theorem dX9_kind_61 : decode cX9_kind 61 = .ok (.aload_n 0, 1) := by decide +kernel
theorem dX9_kind_62 : decode cX9_kind 62 = .ok (.getfield 48, 3) := by decide +kernel
theorem dX9_kind_65 : decode cX9_kind 65 = .ok (.iload_n 1, 1) := by decide +kernel
theorem dX9_kind_66 : decode cX9_kind 66 = .ok (.iaload, 1) := by decide +kernel
theorem dX9_kind_67 : decode cX9_kind 67 = .ok (.imul, 1) := by decide +kernel
theorem dX9_kind_68 : decode cX9_kind 68 = .ok (.iload_n 2, 1) := by decide +kernel
theorem dX9_kind_69 : decode cX9_kind 69 = .ok (.iadd, 1) := by decide +kernel
theorem dX9_kind_70 : decode cX9_kind 70 = .ok (.iconst 1, 1) := by decide +kernel
theorem dX9_kind_71 : decode cX9_kind 71 = .ok (.isub, 1) := by decide +kernel
theorem dX9_kind_72 : decode cX9_kind 72 = .ok (.iaload, 1) := by decide +kernel
theorem dX9_kind_73 : decode cX9_kind 73 = .ok (.ireturn, 1) := by decide +kernel
theorem dX9_kind_74 : decode cX9_kind 74 = .ok (.iconst 0, 1) := by decide +kernel
theorem dX9_kind_75 : decode cX9_kind 75 = .ok (.istore_n 3, 1) := by decide +kernel
theorem dX9_kind_76 : decode cX9_kind 76 = .ok (.iconst 0, 1) := by decide +kernel
theorem dX9_kind_77 : decode cX9_kind 77 = .ok (.istore 4, 2) := by decide +kernel
theorem dX9_kind_79 : decode cX9_kind 79 = .ok (.iload 4, 2) := by decide +kernel
theorem dX9_kind_81 : decode cX9_kind 81 = .ok (.aload_n 0, 1) := by decide +kernel
theorem dX9_kind_82 : decode cX9_kind 82 = .ok (.invokevirtual 121, 3) := by decide +kernel
theorem dX9_kind_85 : decode cX9_kind 85 = .ok (.if_icmp .ge 28, 3) := by decide +kernel
theorem dX9_kind_88 : decode cX9_kind 88 = .ok (.iload_n 3, 1) := by decide +kernel
theorem dX9_kind_89 : decode cX9_kind 89 = .ok (.aload_n 0, 1) := by decide +kernel
theorem dX9_kind_90 : decode cX9_kind 90 = .ok (.getfield 45, 3) := by decide +kernel
theorem dX9_kind_93 : decode cX9_kind 93 = .ok (.iload 4, 2) := by decide +kernel
theorem dX9_kind_95 : decode cX9_kind 95 = .ok (.iaload, 1) := by decide +kernel
theorem dX9_kind_96 : decode cX9_kind 96 = .ok (.iload_n 1, 1) := by decide +kernel
theorem dX9_kind_97 : decode cX9_kind 97 = .ok (.if_icmp .ne 7, 3) := by decide +kernel
theorem dX9_kind_100 : decode cX9_kind 100 = .ok (.iconst 1, 1) := by decide +kernel
theorem dX9_kind_101 : decode cX9_kind 101 = .ok (.goto 4, 3) := by decide +kernel
theorem dX9_kind_104 : decode cX9_kind 104 = .ok (.iconst 0, 1) := by decide +kernel
theorem dX9_kind_105 : decode cX9_kind 105 = .ok (.iadd, 1) := by decide +kernel
