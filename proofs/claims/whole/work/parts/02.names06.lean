theorem dX9_reads_30 : decode cX9_reads 30 = .ok (.iconst 0, 1) := by decide +kernel
theorem dX9_reads_31 : decode cX9_reads 31 = .ok (.putfield 85, 3) := by decide +kernel
theorem dX9_reads_34 : decode cX9_reads 34 = .ok (.aload_n 0, 1) := by decide +kernel
theorem dX9_reads_35 : decode cX9_reads 35 = .ok (.iconst 0, 1) := by decide +kernel
theorem dX9_reads_36 : decode cX9_reads 36 = .ok (.putfield 96, 3) := by decide +kernel
theorem dX9_reads_39 : decode cX9_reads 39 = .ok (.aload_n 0, 1) := by decide +kernel
theorem dX9_reads_40 : decode cX9_reads 40 = .ok (.bipush (-9), 2) := by decide +kernel
theorem dX9_reads_42 : decode cX9_reads 42 = .ok (.putfield 79, 3) := by decide +kernel
theorem dX9_reads_45 : decode cX9_reads 45 = .ok (.aload_n 0, 1) := by decide +kernel
theorem dX9_reads_46 : decode cX9_reads 46 = .ok (.iconst 0, 1) := by decide +kernel
theorem dX9_reads_47 : decode cX9_reads 47 = .ok (.putfield 62, 3) := by decide +kernel
theorem dX9_reads_50 : decode cX9_reads 50 = .ok (.aload_n 0, 1) := by decide +kernel
theorem dX9_reads_51 : decode cX9_reads 51 = .ok (.invokevirtual 82, 3) := by decide +kernel
theorem dX9_reads_54 : decode cX9_reads 54 = .ok (.iconst 0, 1) := by decide +kernel
theorem dX9_reads_55 : decode cX9_reads 55 = .ok (.istore_n 1, 1) := by decide +kernel
theorem dX9_reads_56 : decode cX9_reads 56 = .ok (.aload_n 0, 1) := by decide +kernel
theorem dX9_reads_57 : decode cX9_reads 57 = .ok (.getfield 79, 3) := by decide +kernel
theorem dX9_reads_60 : decode cX9_reads 60 = .ok (.bipush (-9), 2) := by decide +kernel
theorem dX9_reads_62 : decode cX9_reads 62 = .ok (.if_icmp .ne 83, 3) := by decide +kernel
theorem dX9_reads_65 : decode cX9_reads 65 = .ok (.aload_n 0, 1) := by decide +kernel
theorem dX9_reads_66 : decode cX9_reads 66 = .ok (.getfield 72, 3) := by decide +kernel
theorem dX9_reads_69 : decode cX9_reads 69 = .ok (.ifCond .eq 76, 3) := by decide +kernel
theorem dX9_reads_72 : decode cX9_reads 72 = .ok (.aload_n 0, 1) := by decide +kernel
theorem dX9_reads_73 : decode cX9_reads 73 = .ok (.getfield 72, 3) := by decide +kernel
theorem dX9_reads_76 : decode cX9_reads 76 = .ok (.iconst 1, 1) := by decide +kernel
theorem dX9_reads_77 : decode cX9_reads 77 = .ok (.if_icmp .ne 10, 3) := by decide +kernel
theorem dX9_reads_80 : decode cX9_reads 80 = .ok (.aload_n 0, 1) := by decide +kernel
theorem dX9_reads_81 : decode cX9_reads 81 = .ok (.invokevirtual 99, 3) := by decide +kernel
theorem dX9_reads_84 : decode cX9_reads 84 = .ok (.goto 38, 3) := by decide +kernel
theorem dX9_reads_87 : decode cX9_reads 87 = .ok (.aload_n 0, 1) := by decide +kernel
theorem dX9_reads_88 : decode cX9_reads 88 = .ok (.getfield 72, 3) := by decide +kernel
theorem dX9_reads_91 : decode cX9_reads 91 = .ok (.iconst 2, 1) := by decide +kernel
theorem dX9_reads_92 : decode cX9_reads 92 = .ok (.if_icmp .ne 10, 3) := by decide +kernel
theorem dX9_reads_95 : decode cX9_reads 95 = .ok (.aload_n 0, 1) := by decide +kernel
theorem dX9_reads_96 : decode cX9_reads 96 = .ok (.invokevirtual 102, 3) := by decide +kernel
theorem dX9_reads_99 : decode cX9_reads 99 = .ok (.goto 23, 3) := by decide +kernel
theorem dX9_reads_102 : decode cX9_reads 102 = .ok (.aload_n 0, 1) := by decide +kernel
theorem dX9_reads_103 : decode cX9_reads 103 = .ok (.getfield 72, 3) := by decide +kernel
theorem dX9_reads_106 : decode cX9_reads 106 = .ok (.iconst 3, 1) := by decide +kernel
theorem dX9_reads_107 : decode cX9_reads 107 = .ok (.if_icmp .ne 10, 3) := by decide +kernel
theorem dX9_reads_110 : decode cX9_reads 110 = .ok (.aload_n 0, 1) := by decide +kernel
theorem dX9_reads_111 : decode cX9_reads 111 = .ok (.invokevirtual 105, 3) := by decide +kernel
theorem dX9_reads_114 : decode cX9_reads 114 = .ok (.goto 8, 3) := by decide +kernel
theorem dX9_reads_117 : decode cX9_reads 117 = .ok (.aload_n 0, 1) := by decide +kernel
theorem dX9_reads_118 : decode cX9_reads 118 = .ok (.iconst 0, 1) := by decide +kernel
theorem dX9_reads_119 : decode cX9_reads 119 = .ok (.invokevirtual 89, 3) := by decide +kernel
theorem dX9_reads_122 : decode cX9_reads 122 = .ok (.aload_n 0, 1) := by decide +kernel
theorem dX9_reads_123 : decode cX9_reads 123 = .ok (.aload_n 0, 1) := by decide +kernel
theorem dX9_reads_124 : decode cX9_reads 124 = .ok (.getfield 72, 3) := by decide +kernel
theorem dX9_reads_127 : decode cX9_reads 127 = .ok (.iconst 5, 1) := by decide +kernel
theorem dX9_reads_128 : decode cX9_reads 128 = .ok (.if_icmp .ne 7, 3) := by decide +kernel
theorem dX9_reads_131 : decode cX9_reads 131 = .ok (.iconst 1, 1) := by decide +kernel
theorem dX9_reads_132 : decode cX9_reads 132 = .ok (.goto 4, 3) := by decide +kernel
theorem dX9_reads_135 : decode cX9_reads 135 = .ok (.iconst 0, 1) := by decide +kernel
theorem dX9_reads_136 : decode cX9_reads 136 = .ok (.invokevirtual 89, 3) := by decide +kernel
theorem dX9_reads_139 : decode cX9_reads 139 = .ok (.iinc 1 1, 3) := by decide +kernel
theorem dX9_reads_142 : decode cX9_reads 142 = .ok (.goto (-86), 3) := by decide +kernel
theorem dX9_reads_145 : decode cX9_reads 145 = .ok (.aload_n 0, 1) := by decide +kernel
theorem dX9_reads_146 : decode cX9_reads 146 = .ok (.aload_n 0, 1) := by decide +kernel
theorem dX9_reads_147 : decode cX9_reads 147 = .ok (.getfield 13, 3) := by decide +kernel
theorem dX9_reads_150 : decode cX9_reads 150 = .ok (.iconst 1, 1) := by decide +kernel
theorem dX9_reads_151 : decode cX9_reads 151 = .ok (.iaload, 1) := by decide +kernel
theorem dX9_reads_152 : decode cX9_reads 152 = .ok (.ifCond .le 7, 3) := by decide +kernel
theorem dX9_reads_155 : decode cX9_reads 155 = .ok (.iconst 1, 1) := by decide +kernel
theorem dX9_reads_156 : decode cX9_reads 156 = .ok (.goto 4, 3) := by decide +kernel
theorem dX9_reads_159 : decode cX9_reads 159 = .ok (.iconst 0, 1) := by decide +kernel
theorem dX9_reads_160 : decode cX9_reads 160 = .ok (.invokevirtual 89, 3) := by decide +kernel
theorem dX9_reads_163 : decode cX9_reads 163 = .ok (.iload_n 1, 1) := by decide +kernel
theorem dX9_reads_164 : decode cX9_reads 164 = .ok (.ireturn, 1) := by decide +kernel
set_option maxRecDepth 20000 in
theorem ggX9_tells_X9_reads : GoodIn wsX9_tells wsX9_reads := goodIn_r _ [10, 4, 11, 12, 2, 13, 14, 15, 16, 17, 9, 18, 19, 20, 21, 22, 23, 5, 24, 25, 26, 27, 28, 29, 30, 31, 32, 33, 34, 35, 36, 37, 38, 39, 40, 41, 42, 43, 44, 45, 46, 47, 48, 49, 50, 51, 58, 59, 60, 61, 62, 63, 64, 65, 66, 67, 68, 69, 70, 71, 72, 73, 74, 75, 76, 77, 78, 79, 80, 81] (by decide +kernel) (by decide +kernel)
set_option maxRecDepth 20000 in
theorem gX9_tells_X9_reads : GoodIn wsX9_tells (wsV RX9 108 RX9 yX9_reads wsX9_reads) := goodIn_app (goodIn_of _ (by decide +kernel)) ggX9_tells_X9_reads
set_option maxRecDepth 20000 in
theorem ggX9_tells_X9_notes : GoodIn wsX9_tells wsX9_notes := goodIn_r _ [55, 56, 57, 3, 58, 59, 60, 61, 62, 63, 64, 65, 66, 67, 68, 69, 70, 71, 72, 73, 74, 75, 76, 77, 78, 79, 80, 81] (by decide +kernel) (by decide +kernel)
set_option maxRecDepth 20000 in
theorem gX9_tells_X9_notes : GoodIn wsX9_tells (wsV RX9 111 RX9 yX9_notes wsX9_notes) := goodIn_app (goodIn_of _ (by decide +kernel)) ggX9_tells_X9_notes
theorem dX9_tells_0 : decode cX9_tells 0 = .ok (.aload_n 0, 1) := by decide +kernel
theorem dX9_tells_1 : decode cX9_tells 1 = .ok (.iconst 0, 1) := by decide +kernel
theorem dX9_tells_2 : decode cX9_tells 2 = .ok (.putfield 51, 3) := by decide +kernel
theorem dX9_tells_5 : decode cX9_tells 5 = .ok (.aload_n 0, 1) := by decide +kernel
theorem dX9_tells_6 : decode cX9_tells 6 = .ok (.invokevirtual 108, 3) := by decide +kernel
theorem dX9_tells_9 : decode cX9_tells 9 = .ok (.istore_n 1, 1) := by decide +kernel
theorem dX9_tells_10 : decode cX9_tells 10 = .ok (.aload_n 0, 1) := by decide +kernel
theorem dX9_tells_11 : decode cX9_tells 11 = .ok (.getfield 79, 3) := by decide +kernel
theorem dX9_tells_14 : decode cX9_tells 14 = .ok (.bipush (-9), 2) := by decide +kernel
theorem dX9_tells_16 : decode cX9_tells 16 = .ok (.if_icmp .eq 11, 3) := by decide +kernel
theorem dX9_tells_19 : decode cX9_tells 19 = .ok (.bipush (-10), 2) := by decide +kernel
theorem dX9_tells_21 : decode cX9_tells 21 = .ok (.aload_n 0, 1) := by decide +kernel
theorem dX9_tells_22 : decode cX9_tells 22 = .ok (.getfield 79, 3) := by decide +kernel
theorem dX9_tells_25 : decode cX9_tells 25 = .ok (.isub, 1) := by decide +kernel
theorem dX9_tells_26 : decode cX9_tells 26 = .ok (.ireturn, 1) := by decide +kernel
theorem dX9_tells_27 : decode cX9_tells 27 = .ok (.aload_n 0, 1) := by decide +kernel
theorem dX9_tells_28 : decode cX9_tells 28 = .ok (.invokevirtual 111, 3) := by decide +kernel
theorem dX9_tells_31 : decode cX9_tells 31 = .ok (.iconst 0, 1) := by decide +kernel
theorem dX9_tells_32 : decode cX9_tells 32 = .ok (.istore_n 2, 1) := by decide +kernel
theorem dX9_tells_33 : decode cX9_tells 33 = .ok (.iload_n 2, 1) := by decide +kernel
theorem dX9_tells_34 : decode cX9_tells 34 = .ok (.bipush 51, 2) := by decide +kernel
theorem dX9_tells_36 : decode cX9_tells 36 = .ok (.if_icmp .ge 21, 3) := by decide +kernel
theorem dX9_tells_39 : decode cX9_tells 39 = .ok (.aload_n 0, 1) := by decide +kernel
theorem dX9_tells_40 : decode cX9_tells 40 = .ok (.getfield 7, 3) := by decide +kernel
theorem dX9_tells_43 : decode cX9_tells 43 = .ok (.iload_n 2, 1) := by decide +kernel
theorem dX9_tells_44 : decode cX9_tells 44 = .ok (.aload_n 0, 1) := by decide +kernel
theorem dX9_tells_45 : decode cX9_tells 45 = .ok (.getfield 13, 3) := by decide +kernel
theorem dX9_tells_48 : decode cX9_tells 48 = .ok (.iload_n 2, 1) := by decide +kernel
theorem dX9_tells_49 : decode cX9_tells 49 = .ok (.iaload, 1) := by decide +kernel
theorem dX9_tells_50 : decode cX9_tells 50 = .ok (.iastore, 1) := by decide +kernel
theorem dX9_tells_51 : decode cX9_tells 51 = .ok (.iinc 2 1, 3) := by decide +kernel
theorem dX9_tells_54 : decode cX9_tells 54 = .ok (.goto (-21), 3) := by decide +kernel
theorem dX9_tells_57 : decode cX9_tells 57 = .ok (.aload_n 0, 1) := by decide +kernel
theorem dX9_tells_58 : decode cX9_tells 58 = .ok (.iconst 0, 1) := by decide +kernel
theorem dX9_tells_59 : decode cX9_tells 59 = .ok (.putfield 59, 3) := by decide +kernel
theorem dX9_tells_62 : decode cX9_tells 62 = .ok (.iload_n 1, 1) := by decide +kernel
theorem dX9_tells_63 : decode cX9_tells 63 = .ok (.ireturn, 1) := by decide +kernel
theorem dX9_notes_0 : decode cX9_notes 0 = .ok (.aload_n 0, 1) := by decide +kernel
theorem dX9_notes_1 : decode cX9_notes 1 = .ok (.getfield 114, 3) := by decide +kernel
theorem dX9_notes_4 : decode cX9_notes 4 = .ok (.bipush 6, 2) := by decide +kernel
theorem dX9_notes_6 : decode cX9_notes 6 = .ok (.if_icmp .ne 43, 3) := by decide +kernel
theorem dX9_notes_9 : decode cX9_notes 9 = .ok (.iconst 0, 1) := by decide +kernel
theorem dX9_notes_10 : decode cX9_notes 10 = .ok (.istore_n 1, 1) := by decide +kernel
theorem dX9_notes_11 : decode cX9_notes 11 = .ok (.iload_n 1, 1) := by decide +kernel
theorem dX9_notes_12 : decode cX9_notes 12 = .ok (.sipush 255, 3) := by decide +kernel
theorem dX9_notes_15 : decode cX9_notes 15 = .ok (.if_icmp .ge 24, 3) := by decide +kernel
theorem dX9_notes_18 : decode cX9_notes 18 = .ok (.aload_n 0, 1) := by decide +kernel
theorem dX9_notes_19 : decode cX9_notes 19 = .ok (.getfield 16, 3) := by decide +kernel
theorem dX9_notes_22 : decode cX9_notes 22 = .ok (.iload_n 1, 1) := by decide +kernel
theorem dX9_notes_23 : decode cX9_notes 23 = .ok (.aload_n 0, 1) := by decide +kernel
theorem dX9_notes_24 : decode cX9_notes 24 = .ok (.getfield 16, 3) := by decide +kernel
theorem dX9_notes_27 : decode cX9_notes 27 = .ok (.iload_n 1, 1) := by decide +kernel
theorem dX9_notes_28 : decode cX9_notes 28 = .ok (.bipush 51, 2) := by decide +kernel
theorem dX9_notes_30 : decode cX9_notes 30 = .ok (.iadd, 1) := by decide +kernel
theorem dX9_notes_31 : decode cX9_notes 31 = .ok (.iaload, 1) := by decide +kernel
theorem dX9_notes_32 : decode cX9_notes 32 = .ok (.iastore, 1) := by decide +kernel
theorem dX9_notes_33 : decode cX9_notes 33 = .ok (.iinc 1 1, 3) := by decide +kernel
theorem dX9_notes_36 : decode cX9_notes 36 = .ok (.goto (-25), 3) := by decide +kernel
theorem dX9_notes_39 : decode cX9_notes 39 = .ok (.aload_n 0, 1) := by decide +kernel
theorem dX9_notes_40 : decode cX9_notes 40 = .ok (.dup, 1) := by decide +kernel
theorem dX9_notes_41 : decode cX9_notes 41 = .ok (.getfield 114, 3) := by decide +kernel
theorem dX9_notes_44 : decode cX9_notes 44 = .ok (.iconst 1, 1) := by decide +kernel
theorem dX9_notes_45 : decode cX9_notes 45 = .ok (.isub, 1) := by decide +kernel
theorem dX9_notes_46 : decode cX9_notes 46 = .ok (.putfield 114, 3) := by decide +kernel
theorem dX9_notes_49 : decode cX9_notes 49 = .ok (.iconst 0, 1) := by decide +kernel
theorem dX9_notes_50 : decode cX9_notes 50 = .ok (.istore_n 1, 1) := by decide +kernel
theorem dX9_notes_51 : decode cX9_notes 51 = .ok (.iload_n 1, 1) := by decide +kernel
theorem dX9_notes_52 : decode cX9_notes 52 = .ok (.bipush 51, 2) := by decide +kernel
theorem dX9_notes_54 : decode cX9_notes 54 = .ok (.if_icmp .ge 29, 3) := by decide +kernel
theorem dX9_notes_57 : decode cX9_notes 57 = .ok (.aload_n 0, 1) := by decide +kernel
theorem dX9_notes_58 : decode cX9_notes 58 = .ok (.getfield 16, 3) := by decide +kernel
theorem dX9_notes_61 : decode cX9_notes 61 = .ok (.bipush 51, 2) := by decide +kernel
theorem dX9_notes_63 : decode cX9_notes 63 = .ok (.aload_n 0, 1) := by decide +kernel
theorem dX9_notes_64 : decode cX9_notes 64 = .ok (.getfield 114, 3) := by decide +kernel
theorem dX9_notes_67 : decode cX9_notes 67 = .ok (.imul, 1) := by decide +kernel
theorem dX9_notes_68 : decode cX9_notes 68 = .ok (.iload_n 1, 1) := by decide +kernel
theorem dX9_notes_69 : decode cX9_notes 69 = .ok (.iadd, 1) := by decide +kernel
theorem dX9_notes_70 : decode cX9_notes 70 = .ok (.aload_n 0, 1) := by decide +kernel
theorem dX9_notes_71 : decode cX9_notes 71 = .ok (.getfield 7, 3) := by decide +kernel
theorem dX9_notes_74 : decode cX9_notes 74 = .ok (.iload_n 1, 1) := by decide +kernel
theorem dX9_notes_75 : decode cX9_notes 75 = .ok (.iaload, 1) := by decide +kernel
theorem dX9_notes_76 : decode cX9_notes 76 = .ok (.iastore, 1) := by decide +kernel
theorem dX9_notes_77 : decode cX9_notes 77 = .ok (.iinc 1 1, 3) := by decide +kernel
theorem dX9_notes_80 : decode cX9_notes 80 = .ok (.goto (-29), 3) := by decide +kernel
theorem dX9_notes_83 : decode cX9_notes 83 = .ok (.aload_n 0, 1) := by decide +kernel
theorem dX9_notes_84 : decode cX9_notes 84 = .ok (.dup, 1) := by decide +kernel
theorem dX9_notes_85 : decode cX9_notes 85 = .ok (.getfield 114, 3) := by decide +kernel
theorem dX9_notes_88 : decode cX9_notes 88 = .ok (.iconst 1, 1) := by decide +kernel
theorem dX9_notes_89 : decode cX9_notes 89 = .ok (.iadd, 1) := by decide +kernel
theorem dX9_notes_90 : decode cX9_notes 90 = .ok (.putfield 114, 3) := by decide +kernel
theorem dX9_notes_93 : decode cX9_notes 93 = .ok (.return_, 1) := by decide +kernel
theorem dX9_cells_0 : decode cX9_cells 0 = .ok (.aload_n 0, 1) := by decide +kernel
theorem dX9_cells_1 : decode cX9_cells 1 = .ok (.getfield 7, 3) := by decide +kernel
theorem dX9_cells_4 : decode cX9_cells 4 = .ok (.iconst 0, 1) := by decide +kernel
theorem dX9_cells_5 : decode cX9_cells 5 = .ok (.iaload, 1) := by decide +kernel
theorem dX9_cells_6 : decode cX9_cells 6 = .ok (.aload_n 0, 1) := by decide +kernel
theorem dX9_cells_7 : decode cX9_cells 7 = .ok (.getfield 7, 3) := by decide +kernel
theorem dX9_cells_10 : decode cX9_cells 10 = .ok (.iconst 1, 1) := by decide +kernel
theorem dX9_cells_11 : decode cX9_cells 11 = .ok (.iaload, 1) := by decide +kernel
theorem dX9_cells_12 : decode cX9_cells 12 = .ok (.imul, 1) := by decide +kernel
theorem dX9_cells_13 : decode cX9_cells 13 = .ok (.ireturn, 1) := by decide +kernel
set_option maxRecDepth 20000 in
theorem ggX9_isCell_X9_in : GoodIn wsX9_isCell wsX9_in := goodIn_r _ [5] (by decide +kernel) (by decide +kernel)
set_option maxRecDepth 20000 in
theorem gX9_isCell_X9_in : GoodIn wsX9_isCell (va_wsS RX9 55 yX9_in wsX9_in) := goodIn_app (goodIn_of _ (by decide +kernel)) ggX9_isCell_X9_in
theorem dX9_isCell_0 : decode cX9_isCell 0 = .ok (.iload_n 1, 1) := by decide +kernel
theorem dX9_isCell_1 : decode cX9_isCell 1 = .ok (.iconst 0, 1) := by decide +kernel
theorem dX9_isCell_2 : decode cX9_isCell 2 = .ok (.aload_n 0, 1) := by decide +kernel
theorem dX9_isCell_3 : decode cX9_isCell 3 = .ok (.getfield 7, 3) := by decide +kernel
theorem dX9_isCell_6 : decode cX9_isCell 6 = .ok (.iconst 0, 1) := by decide +kernel
theorem dX9_isCell_7 : decode cX9_isCell 7 = .ok (.iaload, 1) := by decide +kernel
theorem dX9_isCell_8 : decode cX9_isCell 8 = .ok (.iconst 1, 1) := by decide +kernel
theorem dX9_isCell_9 : decode cX9_isCell 9 = .ok (.isub, 1) := by decide +kernel
theorem dX9_isCell_10 : decode cX9_isCell 10 = .ok (.invokestatic 55, 3) := by decide +kernel
theorem dX9_isCell_13 : decode cX9_isCell 13 = .ok (.ifCond .eq 23, 3) := by decide +kernel
theorem dX9_isCell_16 : decode cX9_isCell 16 = .ok (.iload_n 2, 1) := by decide +kernel
theorem dX9_isCell_17 : decode cX9_isCell 17 = .ok (.iconst 0, 1) := by decide +kernel
theorem dX9_isCell_18 : decode cX9_isCell 18 = .ok (.aload_n 0, 1) := by decide +kernel
theorem dX9_isCell_19 : decode cX9_isCell 19 = .ok (.getfield 7, 3) := by decide +kernel
theorem dX9_isCell_22 : decode cX9_isCell 22 = .ok (.iconst 1, 1) := by decide +kernel
theorem dX9_isCell_23 : decode cX9_isCell 23 = .ok (.iaload, 1) := by decide +kernel
theorem dX9_isCell_24 : decode cX9_isCell 24 = .ok (.iconst 1, 1) := by decide +kernel
theorem dX9_isCell_25 : decode cX9_isCell 25 = .ok (.isub, 1) := by decide +kernel
theorem dX9_isCell_26 : decode cX9_isCell 26 = .ok (.invokestatic 55, 3) := by decide +kernel
theorem dX9_isCell_29 : decode cX9_isCell 29 = .ok (.ifCond .eq 7, 3) := by decide +kernel
theorem dX9_isCell_32 : decode cX9_isCell 32 = .ok (.iconst 1, 1) := by decide +kernel
theorem dX9_isCell_33 : decode cX9_isCell 33 = .ok (.goto 4, 3) := by decide +kernel
theorem dX9_isCell_36 : decode cX9_isCell 36 = .ok (.iconst 0, 1) := by decide +kernel
theorem dX9_isCell_37 : decode cX9_isCell 37 = .ok (.ireturn, 1) := by decide +kernel
theorem dX9_height_0 : decode cX9_height 0 = .ok (.aload_n 0, 1) := by decide +kernel
theorem dX9_height_1 : decode cX9_height 1 = .ok (.getfield 7, 3) := by decide +kernel
theorem dX9_height_4 : decode cX9_height 4 = .ok (.iconst 3, 1) := by decide +kernel
theorem dX9_height_5 : decode cX9_height 5 = .ok (.aload_n 0, 1) := by decide +kernel
theorem dX9_height_6 : decode cX9_height 6 = .ok (.getfield 7, 3) := by decide +kernel
theorem dX9_height_9 : decode cX9_height 9 = .ok (.iconst 0, 1) := by decide +kernel
theorem dX9_height_10 : decode cX9_height 10 = .ok (.iaload, 1) := by decide +kernel
theorem dX9_height_11 : decode cX9_height 11 = .ok (.iload_n 2, 1) := by decide +kernel
theorem dX9_height_12 : decode cX9_height 12 = .ok (.imul, 1) := by decide +kernel
theorem dX9_height_13 : decode cX9_height 13 = .ok (.iadd, 1) := by decide +kernel
theorem dX9_height_14 : decode cX9_height 14 = .ok (.iload_n 1, 1) := by decide +kernel
theorem dX9_height_15 : decode cX9_height 15 = .ok (.iadd, 1) := by decide +kernel
theorem dX9_height_16 : decode cX9_height 16 = .ok (.iaload, 1) := by decide +kernel
theorem dX9_height_17 : decode cX9_height 17 = .ok (.ireturn, 1) := by decide +kernel
set_option maxRecDepth 20000 in
theorem ggX9_paints_X9_isCell : GoodIn wsX9_paints wsX9_isCell := goodIn_r _ [7, 2, 8, 9, 6, 10, 21, 22, 23, 24, 25, 26, 27, 28, 29, 30, 31, 32, 33, 34, 35, 36, 37, 38, 39, 40, 41, 42, 43, 44] (by decide +kernel) (by decide +kernel)
set_option maxRecDepth 20000 in
theorem gX9_paints_X9_isCell : GoodIn wsX9_paints (wsV RX9 117 RX9 yX9_isCell wsX9_isCell) := goodIn_app (goodIn_of _ (by decide +kernel)) ggX9_paints_X9_isCell
set_option maxRecDepth 20000 in
theorem ggX9_paints_X9_in : GoodIn wsX9_paints wsX9_in := goodIn_r _ [10] (by decide +kernel) (by decide +kernel)
set_option maxRecDepth 20000 in
theorem gX9_paints_X9_in : GoodIn wsX9_paints (va_wsS RX9 55 yX9_in wsX9_in) := goodIn_app (goodIn_of _ (by decide +kernel)) ggX9_paints_X9_in
set_option maxRecDepth 20000 in
theorem ggX9_paints_X9_cells : GoodIn wsX9_paints wsX9_cells := goodIn_r _ [14, 2, 21, 22, 23, 24, 25, 26, 27, 28, 29, 30, 31, 32, 33, 34, 35, 36, 37, 38, 39, 40, 41, 42, 43, 44] (by decide +kernel) (by decide +kernel)
set_option maxRecDepth 20000 in
theorem gX9_paints_X9_cells : GoodIn wsX9_paints (wsV RX9 121 RX9 yX9_cells wsX9_cells) := goodIn_app (goodIn_of _ (by decide +kernel)) ggX9_paints_X9_cells
set_option maxRecDepth 20000 in
theorem ggX9_paints_X9_notes : GoodIn wsX9_paints wsX9_notes := goodIn_r _ [18, 19, 20, 2, 21, 22, 23, 24, 25, 26, 27, 28, 29, 30, 31, 32, 33, 34, 35, 36, 37, 38, 39, 40, 41, 42, 43, 44] (by decide +kernel) (by decide +kernel)
set_option maxRecDepth 20000 in
theorem gX9_paints_X9_notes : GoodIn wsX9_paints (wsV RX9 111 RX9 yX9_notes wsX9_notes) := goodIn_app (goodIn_of _ (by decide +kernel)) ggX9_paints_X9_notes
theorem dX9_paints_0 : decode cX9_paints 0 = .ok (.aload_n 0, 1) := by decide +kernel
theorem dX9_paints_1 : decode cX9_paints 1 = .ok (.iconst 0, 1) := by decide +kernel
theorem dX9_paints_2 : decode cX9_paints 2 = .ok (.putfield 51, 3) := by decide +kernel
theorem dX9_paints_5 : decode cX9_paints 5 = .ok (.aload_n 0, 1) := by decide +kernel
theorem dX9_paints_6 : decode cX9_paints 6 = .ok (.iload_n 1, 1) := by decide +kernel
theorem dX9_paints_7 : decode cX9_paints 7 = .ok (.iload_n 2, 1) := by decide +kernel
theorem dX9_paints_8 : decode cX9_paints 8 = .ok (.invokevirtual 117, 3) := by decide +kernel
theorem dX9_paints_11 : decode cX9_paints 11 = .ok (.ifCond .eq 34, 3) := by decide +kernel
theorem dX9_paints_14 : decode cX9_paints 14 = .ok (.aload_n 0, 1) := by decide +kernel
theorem dX9_paints_15 : decode cX9_paints 15 = .ok (.iload_n 3, 1) := by decide +kernel
theorem dX9_paints_16 : decode cX9_paints 16 = .ok (.iload 4, 2) := by decide +kernel
theorem dX9_paints_18 : decode cX9_paints 18 = .ok (.invokevirtual 117, 3) := by decide +kernel
theorem dX9_paints_21 : decode cX9_paints 21 = .ok (.ifCond .eq 24, 3) := by decide +kernel
theorem dX9_paints_24 : decode cX9_paints 24 = .ok (.iload_n 3, 1) := by decide +kernel
theorem dX9_paints_25 : decode cX9_paints 25 = .ok (.iload_n 1, 1) := by decide +kernel
theorem dX9_paints_26 : decode cX9_paints 26 = .ok (.if_icmp .lt 19, 3) := by decide +kernel
theorem dX9_paints_29 : decode cX9_paints 29 = .ok (.iload 4, 2) := by decide +kernel
theorem dX9_paints_31 : decode cX9_paints 31 = .ok (.iload_n 2, 1) := by decide +kernel
theorem dX9_paints_32 : decode cX9_paints 32 = .ok (.if_icmp .lt 13, 3) := by decide +kernel
theorem dX9_paints_35 : decode cX9_paints 35 = .ok (.iload 5, 2) := by decide +kernel
theorem dX9_paints_37 : decode cX9_paints 37 = .ok (.iconst 0, 1) := by decide +kernel
theorem dX9_paints_38 : decode cX9_paints 38 = .ok (.iconst 3, 1) := by decide +kernel
theorem dX9_paints_39 : decode cX9_paints 39 = .ok (.invokestatic 55, 3) := by decide +kernel
theorem dX9_paints_42 : decode cX9_paints 42 = .ok (.ifCond .ne 5, 3) := by decide +kernel
theorem dX9_paints_45 : decode cX9_paints 45 = .ok (.iconst (-1), 1) := by decide +kernel
theorem dX9_paints_46 : decode cX9_paints 46 = .ok (.ireturn, 1) := by decide +kernel
theorem dX9_paints_47 : decode cX9_paints 47 = .ok (.iconst 0, 1) := by decide +kernel
theorem dX9_paints_48 : decode cX9_paints 48 = .ok (.istore 6, 2) := by decide +kernel
theorem dX9_paints_50 : decode cX9_paints 50 = .ok (.iconst 0, 1) := by decide +kernel
theorem dX9_paints_51 : decode cX9_paints 51 = .ok (.istore 7, 2) := by decide +kernel
theorem dX9_paints_53 : decode cX9_paints 53 = .ok (.iload 7, 2) := by decide +kernel
theorem dX9_paints_55 : decode cX9_paints 55 = .ok (.aload_n 0, 1) := by decide +kernel
theorem dX9_paints_56 : decode cX9_paints 56 = .ok (.invokevirtual 121, 3) := by decide +kernel
theorem dX9_paints_59 : decode cX9_paints 59 = .ok (.if_icmp .ge 80, 3) := by decide +kernel
theorem dX9_paints_62 : decode cX9_paints 62 = .ok (.iload 7, 2) := by decide +kernel
theorem dX9_paints_64 : decode cX9_paints 64 = .ok (.aload_n 0, 1) := by decide +kernel
theorem dX9_paints_65 : decode cX9_paints 65 = .ok (.getfield 7, 3) := by decide +kernel
theorem dX9_paints_68 : decode cX9_paints 68 = .ok (.iconst 0, 1) := by decide +kernel
theorem dX9_paints_69 : decode cX9_paints 69 = .ok (.iaload, 1) := by decide +kernel
theorem dX9_paints_70 : decode cX9_paints 70 = .ok (.irem, 1) := by decide +kernel
theorem dX9_paints_71 : decode cX9_paints 71 = .ok (.iload_n 1, 1) := by decide +kernel
theorem dX9_paints_72 : decode cX9_paints 72 = .ok (.iload_n 3, 1) := by decide +kernel
theorem dX9_paints_73 : decode cX9_paints 73 = .ok (.invokestatic 55, 3) := by decide +kernel
theorem dX9_paints_76 : decode cX9_paints 76 = .ok (.ifCond .eq 25, 3) := by decide +kernel
theorem dX9_paints_79 : decode cX9_paints 79 = .ok (.iload 7, 2) := by decide +kernel
theorem dX9_paints_81 : decode cX9_paints 81 = .ok (.aload_n 0, 1) := by decide +kernel
theorem dX9_paints_82 : decode cX9_paints 82 = .ok (.getfield 7, 3) := by decide +kernel
theorem dX9_paints_85 : decode cX9_paints 85 = .ok (.iconst 0, 1) := by decide +kernel
theorem dX9_paints_86 : decode cX9_paints 86 = .ok (.iaload, 1) := by decide +kernel
theorem dX9_paints_87 : decode cX9_paints 87 = .ok (.idiv, 1) := by decide +kernel
theorem dX9_paints_88 : decode cX9_paints 88 = .ok (.iload_n 2, 1) := by decide +kernel
theorem dX9_paints_89 : decode cX9_paints 89 = .ok (.iload 4, 2) := by decide +kernel
theorem dX9_paints_91 : decode cX9_paints 91 = .ok (.invokestatic 55, 3) := by decide +kernel
theorem dX9_paints_94 : decode cX9_paints 94 = .ok (.ifCond .eq 7, 3) := by decide +kernel
theorem dX9_paints_97 : decode cX9_paints 97 = .ok (.iconst 1, 1) := by decide +kernel
theorem dX9_paints_98 : decode cX9_paints 98 = .ok (.goto 4, 3) := by decide +kernel
theorem dX9_paints_101 : decode cX9_paints 101 = .ok (.iconst 0, 1) := by decide +kernel
theorem dX9_paints_102 : decode cX9_paints 102 = .ok (.istore 8, 2) := by decide +kernel
theorem dX9_paints_104 : decode cX9_paints 104 = .ok (.iload 6, 2) := by decide +kernel
theorem dX9_paints_106 : decode cX9_paints 106 = .ok (.iload 8, 2) := by decide +kernel
theorem dX9_paints_108 : decode cX9_paints 108 = .ok (.ifCond .eq 21, 3) := by decide +kernel
theorem dX9_paints_111 : decode cX9_paints 111 = .ok (.aload_n 0, 1) := by decide +kernel
theorem dX9_paints_112 : decode cX9_paints 112 = .ok (.getfield 7, 3) := by decide +kernel
theorem dX9_paints_115 : decode cX9_paints 115 = .ok (.iconst 3, 1) := by decide +kernel
theorem dX9_paints_116 : decode cX9_paints 116 = .ok (.iload 7, 2) := by decide +kernel
theorem dX9_paints_118 : decode cX9_paints 118 = .ok (.iadd, 1) := by decide +kernel
theorem dX9_paints_119 : decode cX9_paints 119 = .ok (.iaload, 1) := by decide +kernel
theorem dX9_paints_120 : decode cX9_paints 120 = .ok (.iload 5, 2) := by decide +kernel
theorem dX9_paints_122 : decode cX9_paints 122 = .ok (.if_icmp .eq 7, 3) := by decide +kernel
theorem dX9_paints_125 : decode cX9_paints 125 = .ok (.iconst 1, 1) := by decide +kernel
theorem dX9_paints_126 : decode cX9_paints 126 = .ok (.goto 4, 3) := by decide +kernel
theorem dX9_paints_129 : decode cX9_paints 129 = .ok (.iconst 0, 1) := by decide +kernel
theorem dX9_paints_130 : decode cX9_paints 130 = .ok (.iadd, 1) := by decide +kernel
theorem dX9_paints_131 : decode cX9_paints 131 = .ok (.istore 6, 2) := by decide +kernel
theorem dX9_paints_133 : decode cX9_paints 133 = .ok (.iinc 7 1, 3) := by decide +kernel
theorem dX9_paints_136 : decode cX9_paints 136 = .ok (.goto (-83), 3) := by decide +kernel
theorem dX9_paints_139 : decode cX9_paints 139 = .ok (.iload 6, 2) := by decide +kernel
theorem dX9_paints_141 : decode cX9_paints 141 = .ok (.ifCond .ne 6, 3) := by decide +kernel
theorem dX9_paints_144 : decode cX9_paints 144 = .ok (.bipush (-2), 2) := by decide +kernel
theorem dX9_paints_146 : decode cX9_paints 146 = .ok (.ireturn, 1) := by decide +kernel
theorem dX9_paints_147 : decode cX9_paints 147 = .ok (.aload_n 0, 1) := by decide +kernel
theorem dX9_paints_148 : decode cX9_paints 148 = .ok (.invokevirtual 111, 3) := by decide +kernel
theorem dX9_paints_151 : decode cX9_paints 151 = .ok (.iconst 0, 1) := by decide +kernel
theorem dX9_paints_152 : decode cX9_paints 152 = .ok (.istore 7, 2) := by decide +kernel
theorem dX9_paints_154 : decode cX9_paints 154 = .ok (.iload 7, 2) := by decide +kernel
theorem dX9_paints_156 : decode cX9_paints 156 = .ok (.aload_n 0, 1) := by decide +kernel
theorem dX9_paints_157 : decode cX9_paints 157 = .ok (.invokevirtual 121, 3) := by decide +kernel
theorem dX9_paints_160 : decode cX9_paints 160 = .ok (.if_icmp .ge 79, 3) := by decide +kernel
theorem dX9_paints_163 : decode cX9_paints 163 = .ok (.iload 7, 2) := by decide +kernel
theorem dX9_paints_165 : decode cX9_paints 165 = .ok (.aload_n 0, 1) := by decide +kernel
theorem dX9_paints_166 : decode cX9_paints 166 = .ok (.getfield 7, 3) := by decide +kernel
theorem dX9_paints_169 : decode cX9_paints 169 = .ok (.iconst 0, 1) := by decide +kernel
theorem dX9_paints_170 : decode cX9_paints 170 = .ok (.iaload, 1) := by decide +kernel
theorem dX9_paints_171 : decode cX9_paints 171 = .ok (.irem, 1) := by decide +kernel
theorem dX9_paints_172 : decode cX9_paints 172 = .ok (.iload_n 1, 1) := by decide +kernel
theorem dX9_paints_173 : decode cX9_paints 173 = .ok (.iload_n 3, 1) := by decide +kernel
theorem dX9_paints_174 : decode cX9_paints 174 = .ok (.invokestatic 55, 3) := by decide +kernel
theorem dX9_paints_177 : decode cX9_paints 177 = .ok (.ifCond .eq 25, 3) := by decide +kernel
theorem dX9_paints_180 : decode cX9_paints 180 = .ok (.iload 7, 2) := by decide +kernel
theorem dX9_paints_182 : decode cX9_paints 182 = .ok (.aload_n 0, 1) := by decide +kernel
theorem dX9_paints_183 : decode cX9_paints 183 = .ok (.getfield 7, 3) := by decide +kernel
theorem dX9_paints_186 : decode cX9_paints 186 = .ok (.iconst 0, 1) := by decide +kernel
theorem dX9_paints_187 : decode cX9_paints 187 = .ok (.iaload, 1) := by decide +kernel
theorem dX9_paints_188 : decode cX9_paints 188 = .ok (.idiv, 1) := by decide +kernel
theorem dX9_paints_189 : decode cX9_paints 189 = .ok (.iload_n 2, 1) := by decide +kernel
theorem dX9_paints_190 : decode cX9_paints 190 = .ok (.iload 4, 2) := by decide +kernel
theorem dX9_paints_192 : decode cX9_paints 192 = .ok (.invokestatic 55, 3) := by decide +kernel
theorem dX9_paints_195 : decode cX9_paints 195 = .ok (.ifCond .eq 7, 3) := by decide +kernel
theorem dX9_paints_198 : decode cX9_paints 198 = .ok (.iconst 1, 1) := by decide +kernel
theorem dX9_paints_199 : decode cX9_paints 199 = .ok (.goto 4, 3) := by decide +kernel
theorem dX9_paints_202 : decode cX9_paints 202 = .ok (.iconst 0, 1) := by decide +kernel
theorem dX9_paints_203 : decode cX9_paints 203 = .ok (.istore 8, 2) := by decide +kernel
theorem dX9_paints_205 : decode cX9_paints 205 = .ok (.aload_n 0, 1) := by decide +kernel
theorem dX9_paints_206 : decode cX9_paints 206 = .ok (.getfield 7, 3) := by decide +kernel
theorem dX9_paints_209 : decode cX9_paints 209 = .ok (.iconst 3, 1) := by decide +kernel
theorem dX9_paints_210 : decode cX9_paints 210 = .ok (.iload 7, 2) := by decide +kernel
theorem dX9_paints_212 : decode cX9_paints 212 = .ok (.iadd, 1) := by decide +kernel
theorem dX9_paints_213 : decode cX9_paints 213 = .ok (.iload 8, 2) := by decide +kernel
theorem dX9_paints_215 : decode cX9_paints 215 = .ok (.ifCond .eq 8, 3) := by decide +kernel
theorem dX9_paints_218 : decode cX9_paints 218 = .ok (.iload 5, 2) := by decide +kernel
theorem dX9_paints_220 : decode cX9_paints 220 = .ok (.goto 12, 3) := by decide +kernel
theorem dX9_paints_223 : decode cX9_paints 223 = .ok (.aload_n 0, 1) := by decide +kernel
theorem dX9_paints_224 : decode cX9_paints 224 = .ok (.getfield 7, 3) := by decide +kernel
theorem dX9_paints_227 : decode cX9_paints 227 = .ok (.iconst 3, 1) := by decide +kernel
theorem dX9_paints_228 : decode cX9_paints 228 = .ok (.iload 7, 2) := by decide +kernel
theorem dX9_paints_230 : decode cX9_paints 230 = .ok (.iadd, 1) := by decide +kernel
theorem dX9_paints_231 : decode cX9_paints 231 = .ok (.iaload, 1) := by decide +kernel
theorem dX9_paints_232 : decode cX9_paints 232 = .ok (.iastore, 1) := by decide +kernel
theorem dX9_paints_233 : decode cX9_paints 233 = .ok (.iinc 7 1, 3) := by decide +kernel
theorem dX9_paints_236 : decode cX9_paints 236 = .ok (.goto (-82), 3) := by decide +kernel
theorem dX9_paints_239 : decode cX9_paints 239 = .ok (.iload 6, 2) := by decide +kernel
theorem dX9_paints_241 : decode cX9_paints 241 = .ok (.ireturn, 1) := by decide +kernel
set_option maxRecDepth 20000 in
theorem ggX9_isBeside_X9_cells : GoodIn wsX9_isBeside wsX9_cells := goodIn_r _ [7, 1, 8, 9, 10, 11, 12, 13, 14, 15, 16, 17, 18, 19, 20, 21, 22, 23, 24, 25, 26, 27, 28, 29, 30, 31] (by decide +kernel) (by decide +kernel)
set_option maxRecDepth 20000 in
theorem gX9_isBeside_X9_cells : GoodIn wsX9_isBeside (wsV RX9 121 RX9 yX9_cells wsX9_cells) := goodIn_app (goodIn_of _ (by decide +kernel)) ggX9_isBeside_X9_cells
theorem dX9_isBeside_0 : decode cX9_isBeside 0 = .ok (.iconst 0, 1) := by decide +kernel
theorem dX9_isBeside_1 : decode cX9_isBeside 1 = .ok (.istore_n 3, 1) := by decide +kernel
theorem dX9_isBeside_2 : decode cX9_isBeside 2 = .ok (.iconst 0, 1) := by decide +kernel
theorem dX9_isBeside_3 : decode cX9_isBeside 3 = .ok (.istore 4, 2) := by decide +kernel
theorem dX9_isBeside_5 : decode cX9_isBeside 5 = .ok (.iload 4, 2) := by decide +kernel
theorem dX9_isBeside_7 : decode cX9_isBeside 7 = .ok (.aload_n 0, 1) := by decide +kernel
theorem dX9_isBeside_8 : decode cX9_isBeside 8 = .ok (.invokevirtual 121, 3) := by decide +kernel
theorem dX9_isBeside_11 : decode cX9_isBeside 11 = .ok (.if_icmp .ge 70, 3) := by decide +kernel
theorem dX9_isBeside_14 : decode cX9_isBeside 14 = .ok (.iload_n 1, 1) := by decide +kernel
theorem dX9_isBeside_15 : decode cX9_isBeside 15 = .ok (.iload 4, 2) := by decide +kernel
theorem dX9_isBeside_17 : decode cX9_isBeside 17 = .ok (.aload_n 0, 1) := by decide +kernel
theorem dX9_isBeside_18 : decode cX9_isBeside 18 = .ok (.getfield 7, 3) := by decide +kernel
theorem dX9_isBeside_21 : decode cX9_isBeside 21 = .ok (.iconst 0, 1) := by decide +kernel
theorem dX9_isBeside_22 : decode cX9_isBeside 22 = .ok (.iaload, 1) := by decide +kernel
theorem dX9_isBeside_23 : decode cX9_isBeside 23 = .ok (.irem, 1) := by decide +kernel
theorem dX9_isBeside_24 : decode cX9_isBeside 24 = .ok (.isub, 1) := by decide +kernel
theorem dX9_isBeside_25 : decode cX9_isBeside 25 = .ok (.istore 5, 2) := by decide +kernel
theorem dX9_isBeside_27 : decode cX9_isBeside 27 = .ok (.iload_n 2, 1) := by decide +kernel
theorem dX9_isBeside_28 : decode cX9_isBeside 28 = .ok (.iload 4, 2) := by decide +kernel
theorem dX9_isBeside_30 : decode cX9_isBeside 30 = .ok (.aload_n 0, 1) := by decide +kernel
theorem dX9_isBeside_31 : decode cX9_isBeside 31 = .ok (.getfield 7, 3) := by decide +kernel
theorem dX9_isBeside_34 : decode cX9_isBeside 34 = .ok (.iconst 0, 1) := by decide +kernel
theorem dX9_isBeside_35 : decode cX9_isBeside 35 = .ok (.iaload, 1) := by decide +kernel
theorem dX9_isBeside_36 : decode cX9_isBeside 36 = .ok (.idiv, 1) := by decide +kernel
theorem dX9_isBeside_37 : decode cX9_isBeside 37 = .ok (.isub, 1) := by decide +kernel
theorem dX9_isBeside_38 : decode cX9_isBeside 38 = .ok (.istore 6, 2) := by decide +kernel
theorem dX9_isBeside_40 : decode cX9_isBeside 40 = .ok (.iload_n 3, 1) := by decide +kernel
theorem dX9_isBeside_41 : decode cX9_isBeside 41 = .ok (.ifCond .ne 28, 3) := by decide +kernel
theorem dX9_isBeside_44 : decode cX9_isBeside 44 = .ok (.aload_n 0, 1) := by decide +kernel
theorem dX9_isBeside_45 : decode cX9_isBeside 45 = .ok (.getfield 33, 3) := by decide +kernel
theorem dX9_isBeside_48 : decode cX9_isBeside 48 = .ok (.iload 4, 2) := by decide +kernel
theorem dX9_isBeside_50 : decode cX9_isBeside 50 = .ok (.baload, 1) := by decide +kernel
theorem dX9_isBeside_51 : decode cX9_isBeside 51 = .ok (.ifCond .eq 22, 3) := by decide +kernel
theorem dX9_isBeside_54 : decode cX9_isBeside 54 = .ok (.iload 5, 2) := by decide +kernel
theorem dX9_isBeside_56 : decode cX9_isBeside 56 = .ok (.iload 5, 2) := by decide +kernel
theorem dX9_isBeside_58 : decode cX9_isBeside 58 = .ok (.imul, 1) := by decide +kernel
theorem dX9_isBeside_59 : decode cX9_isBeside 59 = .ok (.iload 6, 2) := by decide +kernel
theorem dX9_isBeside_61 : decode cX9_isBeside 61 = .ok (.iload 6, 2) := by decide +kernel
theorem dX9_isBeside_63 : decode cX9_isBeside 63 = .ok (.imul, 1) := by decide +kernel
theorem dX9_isBeside_64 : decode cX9_isBeside 64 = .ok (.iadd, 1) := by decide +kernel
theorem dX9_isBeside_65 : decode cX9_isBeside 65 = .ok (.iconst 1, 1) := by decide +kernel
theorem dX9_isBeside_66 : decode cX9_isBeside 66 = .ok (.if_icmp .ne 7, 3) := by decide +kernel
theorem dX9_isBeside_69 : decode cX9_isBeside 69 = .ok (.iconst 1, 1) := by decide +kernel
theorem dX9_isBeside_70 : decode cX9_isBeside 70 = .ok (.goto 4, 3) := by decide +kernel
theorem dX9_isBeside_73 : decode cX9_isBeside 73 = .ok (.iconst 0, 1) := by decide +kernel
theorem dX9_isBeside_74 : decode cX9_isBeside 74 = .ok (.istore_n 3, 1) := by decide +kernel
theorem dX9_isBeside_75 : decode cX9_isBeside 75 = .ok (.iinc 4 1, 3) := by decide +kernel
theorem dX9_isBeside_78 : decode cX9_isBeside 78 = .ok (.goto (-73), 3) := by decide +kernel
theorem dX9_isBeside_81 : decode cX9_isBeside 81 = .ok (.iload_n 3, 1) := by decide +kernel
theorem dX9_isBeside_82 : decode cX9_isBeside 82 = .ok (.ireturn, 1) := by decide +kernel
set_option maxRecDepth 20000 in
theorem ggX9_floods_X9_isCell : GoodIn wsX9_floods wsX9_isCell := goodIn_r _ [8, 3, 9, 10, 7, 11, 30, 31, 32, 33, 34, 35, 36, 37, 38, 39, 40, 41, 42, 43, 44, 45, 46, 47, 48, 49, 50, 51, 52, 53] (by decide +kernel) (by decide +kernel)
set_option maxRecDepth 20000 in
theorem gX9_floods_X9_isCell : GoodIn wsX9_floods (wsV RX9 117 RX9 yX9_isCell wsX9_isCell) := goodIn_app (goodIn_of _ (by decide +kernel)) ggX9_floods_X9_isCell
set_option maxRecDepth 20000 in
theorem ggX9_floods_X9_in : GoodIn wsX9_floods wsX9_in := goodIn_r _ [11] (by decide +kernel) (by decide +kernel)
set_option maxRecDepth 20000 in
theorem gX9_floods_X9_in : GoodIn wsX9_floods (va_wsS RX9 55 yX9_in wsX9_in) := goodIn_app (goodIn_of _ (by decide +kernel)) ggX9_floods_X9_in
set_option maxRecDepth 20000 in
theorem ggX9_floods_X9_height : GoodIn wsX9_floods wsX9_height := goodIn_r _ [15, 3, 30, 31, 32, 33, 34, 35, 36, 37, 38, 39, 40, 41, 42, 43, 44, 45, 46, 47, 48, 49, 50, 51, 52, 53] (by decide +kernel) (by decide +kernel)
set_option maxRecDepth 20000 in
theorem gX9_floods_X9_height : GoodIn wsX9_floods (wsV RX9 124 RX9 yX9_height wsX9_height) := goodIn_app (goodIn_of _ (by decide +kernel)) ggX9_floods_X9_height
set_option maxRecDepth 20000 in
theorem ggX9_floods_X9_notes : GoodIn wsX9_floods wsX9_notes := goodIn_r _ [19, 20, 21, 3, 30, 31, 32, 33, 34, 35, 36, 37, 38, 39, 40, 41, 42, 43, 44, 45, 46, 47, 48, 49, 50, 51, 52, 53] (by decide +kernel) (by decide +kernel)
set_option maxRecDepth 20000 in
theorem gX9_floods_X9_notes : GoodIn wsX9_floods (wsV RX9 111 RX9 yX9_notes wsX9_notes) := goodIn_app (goodIn_of _ (by decide +kernel)) ggX9_floods_X9_notes
set_option maxRecDepth 20000 in
theorem ggX9_floods_X9_cells : GoodIn wsX9_floods wsX9_cells := goodIn_r _ [25, 3, 30, 31, 32, 33, 34, 35, 36, 37, 38, 39, 40, 41, 42, 43, 44, 45, 46, 47, 48, 49, 50, 51, 52, 53] (by decide +kernel) (by decide +kernel)
set_option maxRecDepth 20000 in
theorem gX9_floods_X9_cells : GoodIn wsX9_floods (wsV RX9 121 RX9 yX9_cells wsX9_cells) := goodIn_app (goodIn_of _ (by decide +kernel)) ggX9_floods_X9_cells
set_option maxRecDepth 20000 in
theorem ggX9_floods_X9_isBeside : GoodIn wsX9_floods wsX9_isBeside := goodIn_r _ [29, 3, 2, 22, 23, 24, 7, 25, 30, 31, 32, 33, 34, 35, 36, 37, 38, 39, 40, 41, 42, 43, 44, 45, 46, 47, 48, 49, 50, 51, 52, 53] (by decide +kernel) (by decide +kernel)
set_option maxRecDepth 20000 in
theorem gX9_floods_X9_isBeside : GoodIn wsX9_floods (wsV RX9 128 RX9 yX9_isBeside wsX9_isBeside) := goodIn_app (goodIn_of _ (by decide +kernel)) ggX9_floods_X9_isBeside
theorem dX9_floods_0 : decode cX9_floods 0 = .ok (.aload_n 0, 1) := by decide +kernel
theorem dX9_floods_1 : decode cX9_floods 1 = .ok (.iconst 0, 1) := by decide +kernel
theorem dX9_floods_2 : decode cX9_floods 2 = .ok (.putfield 51, 3) := by decide +kernel
theorem dX9_floods_5 : decode cX9_floods 5 = .ok (.aload_n 0, 1) := by decide +kernel
theorem dX9_floods_6 : decode cX9_floods 6 = .ok (.iload_n 1, 1) := by decide +kernel
theorem dX9_floods_7 : decode cX9_floods 7 = .ok (.iload_n 2, 1) := by decide +kernel
theorem dX9_floods_8 : decode cX9_floods 8 = .ok (.invokevirtual 117, 3) := by decide +kernel
theorem dX9_floods_11 : decode cX9_floods 11 = .ok (.ifCond .eq 12, 3) := by decide +kernel
theorem dX9_floods_14 : decode cX9_floods 14 = .ok (.iload_n 3, 1) := by decide +kernel
theorem dX9_floods_15 : decode cX9_floods 15 = .ok (.iconst 0, 1) := by decide +kernel
theorem dX9_floods_16 : decode cX9_floods 16 = .ok (.iconst 3, 1) := by decide +kernel
theorem dX9_floods_17 : decode cX9_floods 17 = .ok (.invokestatic 55, 3) := by decide +kernel
theorem dX9_floods_20 : decode cX9_floods 20 = .ok (.ifCond .ne 5, 3) := by decide +kernel
theorem dX9_floods_23 : decode cX9_floods 23 = .ok (.iconst (-1), 1) := by decide +kernel
theorem dX9_floods_24 : decode cX9_floods 24 = .ok (.ireturn, 1) := by decide +kernel
theorem dX9_floods_25 : decode cX9_floods 25 = .ok (.aload_n 0, 1) := by decide +kernel
theorem dX9_floods_26 : decode cX9_floods 26 = .ok (.iload_n 1, 1) := by decide +kernel
theorem dX9_floods_27 : decode cX9_floods 27 = .ok (.iload_n 2, 1) := by decide +kernel
theorem dX9_floods_28 : decode cX9_floods 28 = .ok (.invokevirtual 124, 3) := by decide +kernel
theorem dX9_floods_31 : decode cX9_floods 31 = .ok (.istore 4, 2) := by decide +kernel
theorem dX9_floods_33 : decode cX9_floods 33 = .ok (.iload 4, 2) := by decide +kernel
theorem dX9_floods_35 : decode cX9_floods 35 = .ok (.iload_n 3, 1) := by decide +kernel
theorem dX9_floods_36 : decode cX9_floods 36 = .ok (.if_icmp .ne 6, 3) := by decide +kernel
theorem dX9_floods_39 : decode cX9_floods 39 = .ok (.bipush (-2), 2) := by decide +kernel
theorem dX9_floods_41 : decode cX9_floods 41 = .ok (.ireturn, 1) := by decide +kernel
theorem dX9_floods_42 : decode cX9_floods 42 = .ok (.aload_n 0, 1) := by decide +kernel
theorem dX9_floods_43 : decode cX9_floods 43 = .ok (.invokevirtual 111, 3) := by decide +kernel
theorem dX9_floods_46 : decode cX9_floods 46 = .ok (.iconst 0, 1) := by decide +kernel
theorem dX9_floods_47 : decode cX9_floods 47 = .ok (.istore 5, 2) := by decide +kernel
theorem dX9_floods_49 : decode cX9_floods 49 = .ok (.iload 5, 2) := by decide +kernel
theorem dX9_floods_51 : decode cX9_floods 51 = .ok (.bipush 24, 2) := by decide +kernel
theorem dX9_floods_53 : decode cX9_floods 53 = .ok (.if_icmp .ge 36, 3) := by decide +kernel
theorem dX9_floods_56 : decode cX9_floods 56 = .ok (.aload_n 0, 1) := by decide +kernel
theorem dX9_floods_57 : decode cX9_floods 57 = .ok (.getfield 33, 3) := by decide +kernel
theorem dX9_floods_60 : decode cX9_floods 60 = .ok (.iload 5, 2) := by decide +kernel
theorem dX9_floods_62 : decode cX9_floods 62 = .ok (.iload 5, 2) := by decide +kernel
theorem dX9_floods_64 : decode cX9_floods 64 = .ok (.aload_n 0, 1) := by decide +kernel
theorem dX9_floods_65 : decode cX9_floods 65 = .ok (.getfield 7, 3) := by decide +kernel
theorem dX9_floods_68 : decode cX9_floods 68 = .ok (.iconst 0, 1) := by decide +kernel
theorem dX9_floods_69 : decode cX9_floods 69 = .ok (.iaload, 1) := by decide +kernel
theorem dX9_floods_70 : decode cX9_floods 70 = .ok (.iload_n 2, 1) := by decide +kernel
theorem dX9_floods_71 : decode cX9_floods 71 = .ok (.imul, 1) := by decide +kernel
theorem dX9_floods_72 : decode cX9_floods 72 = .ok (.iload_n 1, 1) := by decide +kernel
theorem dX9_floods_73 : decode cX9_floods 73 = .ok (.iadd, 1) := by decide +kernel
theorem dX9_floods_74 : decode cX9_floods 74 = .ok (.if_icmp .ne 7, 3) := by decide +kernel
theorem dX9_floods_77 : decode cX9_floods 77 = .ok (.iconst 1, 1) := by decide +kernel
theorem dX9_floods_78 : decode cX9_floods 78 = .ok (.goto 4, 3) := by decide +kernel
theorem dX9_floods_81 : decode cX9_floods 81 = .ok (.iconst 0, 1) := by decide +kernel
theorem dX9_floods_82 : decode cX9_floods 82 = .ok (.bastore, 1) := by decide +kernel
theorem dX9_floods_83 : decode cX9_floods 83 = .ok (.iinc 5 1, 3) := by decide +kernel
theorem dX9_floods_86 : decode cX9_floods 86 = .ok (.goto (-37), 3) := by decide +kernel
theorem dX9_floods_89 : decode cX9_floods 89 = .ok (.iconst 1, 1) := by decide +kernel
theorem dX9_floods_90 : decode cX9_floods 90 = .ok (.istore 5, 2) := by decide +kernel
theorem dX9_floods_92 : decode cX9_floods 92 = .ok (.iconst 1, 1) := by decide +kernel
theorem dX9_floods_93 : decode cX9_floods 93 = .ok (.istore 6, 2) := by decide +kernel
theorem dX9_floods_95 : decode cX9_floods 95 = .ok (.iload 6, 2) := by decide +kernel
theorem dX9_floods_97 : decode cX9_floods 97 = .ok (.ifCond .eq 90, 3) := by decide +kernel
theorem dX9_floods_100 : decode cX9_floods 100 = .ok (.iconst 0, 1) := by decide +kernel
theorem dX9_floods_101 : decode cX9_floods 101 = .ok (.istore 6, 2) := by decide +kernel
theorem dX9_floods_103 : decode cX9_floods 103 = .ok (.iconst 0, 1) := by decide +kernel
theorem dX9_floods_104 : decode cX9_floods 104 = .ok (.istore 7, 2) := by decide +kernel
theorem dX9_floods_106 : decode cX9_floods 106 = .ok (.iload 7, 2) := by decide +kernel
theorem dX9_floods_108 : decode cX9_floods 108 = .ok (.aload_n 0, 1) := by decide +kernel
theorem dX9_floods_109 : decode cX9_floods 109 = .ok (.invokevirtual 121, 3) := by decide +kernel
theorem dX9_floods_112 : decode cX9_floods 112 = .ok (.if_icmp .ge 72, 3) := by decide +kernel
theorem dX9_floods_115 : decode cX9_floods 115 = .ok (.aload_n 0, 1) := by decide +kernel
theorem dX9_floods_116 : decode cX9_floods 116 = .ok (.getfield 33, 3) := by decide +kernel
theorem dX9_floods_119 : decode cX9_floods 119 = .ok (.iload 7, 2) := by decide +kernel
theorem dX9_floods_121 : decode cX9_floods 121 = .ok (.baload, 1) := by decide +kernel
theorem dX9_floods_122 : decode cX9_floods 122 = .ok (.ifCond .ne 56, 3) := by decide +kernel
theorem dX9_floods_125 : decode cX9_floods 125 = .ok (.aload_n 0, 1) := by decide +kernel
theorem dX9_floods_126 : decode cX9_floods 126 = .ok (.getfield 7, 3) := by decide +kernel
theorem dX9_floods_129 : decode cX9_floods 129 = .ok (.iconst 3, 1) := by decide +kernel
theorem dX9_floods_130 : decode cX9_floods 130 = .ok (.iload 7, 2) := by decide +kernel
theorem dX9_floods_132 : decode cX9_floods 132 = .ok (.iadd, 1) := by decide +kernel
theorem dX9_floods_133 : decode cX9_floods 133 = .ok (.iaload, 1) := by decide +kernel
theorem dX9_floods_134 : decode cX9_floods 134 = .ok (.iload 4, 2) := by decide +kernel
theorem dX9_floods_136 : decode cX9_floods 136 = .ok (.if_icmp .ne 42, 3) := by decide +kernel
theorem dX9_floods_139 : decode cX9_floods 139 = .ok (.aload_n 0, 1) := by decide +kernel
theorem dX9_floods_140 : decode cX9_floods 140 = .ok (.iload 7, 2) := by decide +kernel
theorem dX9_floods_142 : decode cX9_floods 142 = .ok (.aload_n 0, 1) := by decide +kernel
theorem dX9_floods_143 : decode cX9_floods 143 = .ok (.getfield 7, 3) := by decide +kernel
theorem dX9_floods_146 : decode cX9_floods 146 = .ok (.iconst 0, 1) := by decide +kernel
theorem dX9_floods_147 : decode cX9_floods 147 = .ok (.iaload, 1) := by decide +kernel
theorem dX9_floods_148 : decode cX9_floods 148 = .ok (.irem, 1) := by decide +kernel
theorem dX9_floods_149 : decode cX9_floods 149 = .ok (.iload 7, 2) := by decide +kernel
theorem dX9_floods_151 : decode cX9_floods 151 = .ok (.aload_n 0, 1) := by decide +kernel
theorem dX9_floods_152 : decode cX9_floods 152 = .ok (.getfield 7, 3) := by decide +kernel
theorem dX9_floods_155 : decode cX9_floods 155 = .ok (.iconst 0, 1) := by decide +kernel
theorem dX9_floods_156 : decode cX9_floods 156 = .ok (.iaload, 1) := by decide +kernel
theorem dX9_floods_157 : decode cX9_floods 157 = .ok (.idiv, 1) := by decide +kernel
theorem dX9_floods_158 : decode cX9_floods 158 = .ok (.invokevirtual 128, 3) := by decide +kernel
theorem dX9_floods_161 : decode cX9_floods 161 = .ok (.ifCond .eq 17, 3) := by decide +kernel
theorem dX9_floods_164 : decode cX9_floods 164 = .ok (.aload_n 0, 1) := by decide +kernel
theorem dX9_floods_165 : decode cX9_floods 165 = .ok (.getfield 33, 3) := by decide +kernel
theorem dX9_floods_168 : decode cX9_floods 168 = .ok (.iload 7, 2) := by decide +kernel
theorem dX9_floods_170 : decode cX9_floods 170 = .ok (.iconst 1, 1) := by decide +kernel
theorem dX9_floods_171 : decode cX9_floods 171 = .ok (.bastore, 1) := by decide +kernel
theorem dX9_floods_172 : decode cX9_floods 172 = .ok (.iconst 1, 1) := by decide +kernel
theorem dX9_floods_173 : decode cX9_floods 173 = .ok (.istore 6, 2) := by decide +kernel
theorem dX9_floods_175 : decode cX9_floods 175 = .ok (.iinc 5 1, 3) := by decide +kernel
theorem dX9_floods_178 : decode cX9_floods 178 = .ok (.iinc 7 1, 3) := by decide +kernel
theorem dX9_floods_181 : decode cX9_floods 181 = .ok (.goto (-75), 3) := by decide +kernel
theorem dX9_floods_184 : decode cX9_floods 184 = .ok (.goto (-89), 3) := by decide +kernel
theorem dX9_floods_187 : decode cX9_floods 187 = .ok (.iconst 0, 1) := by decide +kernel
theorem dX9_floods_188 : decode cX9_floods 188 = .ok (.istore 7, 2) := by decide +kernel
theorem dX9_floods_190 : decode cX9_floods 190 = .ok (.iload 7, 2) := by decide +kernel
theorem dX9_floods_192 : decode cX9_floods 192 = .ok (.aload_n 0, 1) := by decide +kernel
theorem dX9_floods_193 : decode cX9_floods 193 = .ok (.invokevirtual 121, 3) := by decide +kernel
theorem dX9_floods_196 : decode cX9_floods 196 = .ok (.if_icmp .ge 41, 3) := by decide +kernel
theorem dX9_floods_199 : decode cX9_floods 199 = .ok (.aload_n 0, 1) := by decide +kernel
theorem dX9_floods_200 : decode cX9_floods 200 = .ok (.getfield 7, 3) := by decide +kernel
theorem dX9_floods_203 : decode cX9_floods 203 = .ok (.iconst 3, 1) := by decide +kernel
theorem dX9_floods_204 : decode cX9_floods 204 = .ok (.iload 7, 2) := by decide +kernel
theorem dX9_floods_206 : decode cX9_floods 206 = .ok (.iadd, 1) := by decide +kernel
theorem dX9_floods_207 : decode cX9_floods 207 = .ok (.aload_n 0, 1) := by decide +kernel
theorem dX9_floods_208 : decode cX9_floods 208 = .ok (.getfield 33, 3) := by decide +kernel
theorem dX9_floods_211 : decode cX9_floods 211 = .ok (.iload 7, 2) := by decide +kernel
theorem dX9_floods_213 : decode cX9_floods 213 = .ok (.baload, 1) := by decide +kernel
theorem dX9_floods_214 : decode cX9_floods 214 = .ok (.ifCond .eq 7, 3) := by decide +kernel
theorem dX9_floods_217 : decode cX9_floods 217 = .ok (.iload_n 3, 1) := by decide +kernel
theorem dX9_floods_218 : decode cX9_floods 218 = .ok (.goto 12, 3) := by decide +kernel
theorem dX9_floods_221 : decode cX9_floods 221 = .ok (.aload_n 0, 1) := by decide +kernel
theorem dX9_floods_222 : decode cX9_floods 222 = .ok (.getfield 7, 3) := by decide +kernel
theorem dX9_floods_225 : decode cX9_floods 225 = .ok (.iconst 3, 1) := by decide +kernel
theorem dX9_floods_226 : decode cX9_floods 226 = .ok (.iload 7, 2) := by decide +kernel
theorem dX9_floods_228 : decode cX9_floods 228 = .ok (.iadd, 1) := by decide +kernel
theorem dX9_floods_229 : decode cX9_floods 229 = .ok (.iaload, 1) := by decide +kernel
theorem dX9_floods_230 : decode cX9_floods 230 = .ok (.iastore, 1) := by decide +kernel
theorem dX9_floods_231 : decode cX9_floods 231 = .ok (.iinc 7 1, 3) := by decide +kernel
theorem dX9_floods_234 : decode cX9_floods 234 = .ok (.goto (-44), 3) := by decide +kernel
theorem dX9_floods_237 : decode cX9_floods 237 = .ok (.iload 5, 2) := by decide +kernel
theorem dX9_floods_239 : decode cX9_floods 239 = .ok (.ireturn, 1) := by decide +kernel
set_option maxRecDepth 20000 in
theorem ggX9_fixedMany_X9_cells : GoodIn wsX9_fixedMany wsX9_cells := goodIn_r _ [6, 1, 7, 8, 9, 10, 11, 12, 13, 14, 15, 16, 17, 18, 19, 20, 21, 22, 23, 24, 25, 26, 27, 28, 29, 30] (by decide +kernel) (by decide +kernel)
set_option maxRecDepth 20000 in
theorem gX9_fixedMany_X9_cells : GoodIn wsX9_fixedMany (wsV RX9 121 RX9 yX9_cells wsX9_cells) := goodIn_app (goodIn_of _ (by decide +kernel)) ggX9_fixedMany_X9_cells
theorem dX9_fixedMany_0 : decode cX9_fixedMany 0 = .ok (.iconst 0, 1) := by decide +kernel
theorem dX9_fixedMany_1 : decode cX9_fixedMany 1 = .ok (.istore_n 1, 1) := by decide +kernel
theorem dX9_fixedMany_2 : decode cX9_fixedMany 2 = .ok (.iconst 0, 1) := by decide +kernel
theorem dX9_fixedMany_3 : decode cX9_fixedMany 3 = .ok (.istore_n 2, 1) := by decide +kernel
theorem dX9_fixedMany_4 : decode cX9_fixedMany 4 = .ok (.iload_n 2, 1) := by decide +kernel
theorem dX9_fixedMany_5 : decode cX9_fixedMany 5 = .ok (.aload_n 0, 1) := by decide +kernel
theorem dX9_fixedMany_6 : decode cX9_fixedMany 6 = .ok (.invokevirtual 121, 3) := by decide +kernel
theorem dX9_fixedMany_9 : decode cX9_fixedMany 9 = .ok (.if_icmp .ge 21, 3) := by decide +kernel
theorem dX9_fixedMany_12 : decode cX9_fixedMany 12 = .ok (.iload_n 1, 1) := by decide +kernel
theorem dX9_fixedMany_13 : decode cX9_fixedMany 13 = .ok (.aload_n 0, 1) := by decide +kernel
theorem dX9_fixedMany_14 : decode cX9_fixedMany 14 = .ok (.getfield 7, 3) := by decide +kernel
theorem dX9_fixedMany_17 : decode cX9_fixedMany 17 = .ok (.bipush 27, 2) := by decide +kernel
theorem dX9_fixedMany_19 : decode cX9_fixedMany 19 = .ok (.iload_n 2, 1) := by decide +kernel
theorem dX9_fixedMany_20 : decode cX9_fixedMany 20 = .ok (.iadd, 1) := by decide +kernel
theorem dX9_fixedMany_21 : decode cX9_fixedMany 21 = .ok (.iaload, 1) := by decide +kernel
theorem dX9_fixedMany_22 : decode cX9_fixedMany 22 = .ok (.iadd, 1) := by decide +kernel
theorem dX9_fixedMany_23 : decode cX9_fixedMany 23 = .ok (.istore_n 1, 1) := by decide +kernel
theorem dX9_fixedMany_24 : decode cX9_fixedMany 24 = .ok (.iinc 2 1, 3) := by decide +kernel
theorem dX9_fixedMany_27 : decode cX9_fixedMany 27 = .ok (.goto (-23), 3) := by decide +kernel
theorem dX9_fixedMany_30 : decode cX9_fixedMany 30 = .ok (.iload_n 1, 1) := by decide +kernel
theorem dX9_fixedMany_31 : decode cX9_fixedMany 31 = .ok (.ireturn, 1) := by decide +kernel
set_option maxRecDepth 20000 in
theorem ggX9_fixes_X9_isCell : GoodIn wsX9_fixes wsX9_isCell := goodIn_r _ [7, 2, 8, 9, 6, 10, 25, 26, 27, 28, 29, 30, 31, 32, 33, 34, 35, 36, 37, 38, 39, 40, 41, 42, 43, 44, 45, 46, 47, 48] (by decide +kernel) (by decide +kernel)
set_option maxRecDepth 20000 in
theorem gX9_fixes_X9_isCell : GoodIn wsX9_fixes (wsV RX9 117 RX9 yX9_isCell wsX9_isCell) := goodIn_app (goodIn_of _ (by decide +kernel)) ggX9_fixes_X9_isCell
set_option maxRecDepth 20000 in
theorem ggX9_fixes_X9_in : GoodIn wsX9_fixes wsX9_in := goodIn_r _ [10] (by decide +kernel) (by decide +kernel)
set_option maxRecDepth 20000 in
theorem gX9_fixes_X9_in : GoodIn wsX9_fixes (va_wsS RX9 55 yX9_in wsX9_in) := goodIn_app (goodIn_of _ (by decide +kernel)) ggX9_fixes_X9_in
set_option maxRecDepth 20000 in
theorem ggX9_fixes_X9_notes : GoodIn wsX9_fixes wsX9_notes := goodIn_r _ [14, 15, 16, 2, 25, 26, 27, 28, 29, 30, 31, 32, 33, 34, 35, 36, 37, 38, 39, 40, 41, 42, 43, 44, 45, 46, 47, 48] (by decide +kernel) (by decide +kernel)
set_option maxRecDepth 20000 in
theorem gX9_fixes_X9_notes : GoodIn wsX9_fixes (wsV RX9 111 RX9 yX9_notes wsX9_notes) := goodIn_app (goodIn_of _ (by decide +kernel)) ggX9_fixes_X9_notes
set_option maxRecDepth 20000 in
theorem ggX9_fixes_X9_fixedMany : GoodIn wsX9_fixes wsX9_fixedMany := goodIn_r _ [20, 2, 21, 22, 23, 6, 24, 25, 26, 27, 28, 29, 30, 31, 32, 33, 34, 35, 36, 37, 38, 39, 40, 41, 42, 43, 44, 45, 46, 47, 48] (by decide +kernel) (by decide +kernel)
set_option maxRecDepth 20000 in
theorem gX9_fixes_X9_fixedMany : GoodIn wsX9_fixes (wsV RX9 131 RX9 yX9_fixedMany wsX9_fixedMany) := goodIn_app (goodIn_of _ (by decide +kernel)) ggX9_fixes_X9_fixedMany
theorem dX9_fixes_0 : decode cX9_fixes 0 = .ok (.aload_n 0, 1) := by decide +kernel
theorem dX9_fixes_1 : decode cX9_fixes 1 = .ok (.iconst 0, 1) := by decide +kernel
theorem dX9_fixes_2 : decode cX9_fixes 2 = .ok (.putfield 51, 3) := by decide +kernel
theorem dX9_fixes_5 : decode cX9_fixes 5 = .ok (.aload_n 0, 1) := by decide +kernel
theorem dX9_fixes_6 : decode cX9_fixes 6 = .ok (.iload_n 1, 1) := by decide +kernel
theorem dX9_fixes_7 : decode cX9_fixes 7 = .ok (.iload_n 2, 1) := by decide +kernel
theorem dX9_fixes_8 : decode cX9_fixes 8 = .ok (.invokevirtual 117, 3) := by decide +kernel
theorem dX9_fixes_11 : decode cX9_fixes 11 = .ok (.ifCond .eq 12, 3) := by decide +kernel
theorem dX9_fixes_14 : decode cX9_fixes 14 = .ok (.iload_n 3, 1) := by decide +kernel
theorem dX9_fixes_15 : decode cX9_fixes 15 = .ok (.iconst 0, 1) := by decide +kernel
theorem dX9_fixes_16 : decode cX9_fixes 16 = .ok (.iconst 1, 1) := by decide +kernel
theorem dX9_fixes_17 : decode cX9_fixes 17 = .ok (.invokestatic 55, 3) := by decide +kernel
theorem dX9_fixes_20 : decode cX9_fixes 20 = .ok (.ifCond .ne 5, 3) := by decide +kernel
theorem dX9_fixes_23 : decode cX9_fixes 23 = .ok (.iconst (-1), 1) := by decide +kernel
theorem dX9_fixes_24 : decode cX9_fixes 24 = .ok (.ireturn, 1) := by decide +kernel
theorem dX9_fixes_25 : decode cX9_fixes 25 = .ok (.bipush 27, 2) := by decide +kernel
theorem dX9_fixes_27 : decode cX9_fixes 27 = .ok (.aload_n 0, 1) := by decide +kernel
theorem dX9_fixes_28 : decode cX9_fixes 28 = .ok (.getfield 7, 3) := by decide +kernel
theorem dX9_fixes_31 : decode cX9_fixes 31 = .ok (.iconst 0, 1) := by decide +kernel
theorem dX9_fixes_32 : decode cX9_fixes 32 = .ok (.iaload, 1) := by decide +kernel
theorem dX9_fixes_33 : decode cX9_fixes 33 = .ok (.iload_n 2, 1) := by decide +kernel
theorem dX9_fixes_34 : decode cX9_fixes 34 = .ok (.imul, 1) := by decide +kernel
theorem dX9_fixes_35 : decode cX9_fixes 35 = .ok (.iadd, 1) := by decide +kernel
theorem dX9_fixes_36 : decode cX9_fixes 36 = .ok (.iload_n 1, 1) := by decide +kernel
theorem dX9_fixes_37 : decode cX9_fixes 37 = .ok (.iadd, 1) := by decide +kernel
theorem dX9_fixes_38 : decode cX9_fixes 38 = .ok (.istore 4, 2) := by decide +kernel
theorem dX9_fixes_40 : decode cX9_fixes 40 = .ok (.aload_n 0, 1) := by decide +kernel
theorem dX9_fixes_41 : decode cX9_fixes 41 = .ok (.getfield 7, 3) := by decide +kernel
theorem dX9_fixes_44 : decode cX9_fixes 44 = .ok (.iload 4, 2) := by decide +kernel
theorem dX9_fixes_46 : decode cX9_fixes 46 = .ok (.iaload, 1) := by decide +kernel
theorem dX9_fixes_47 : decode cX9_fixes 47 = .ok (.iload_n 3, 1) := by decide +kernel
theorem dX9_fixes_48 : decode cX9_fixes 48 = .ok (.if_icmp .ne 6, 3) := by decide +kernel
theorem dX9_fixes_51 : decode cX9_fixes 51 = .ok (.bipush (-2), 2) := by decide +kernel
theorem dX9_fixes_53 : decode cX9_fixes 53 = .ok (.ireturn, 1) := by decide +kernel
theorem dX9_fixes_54 : decode cX9_fixes 54 = .ok (.aload_n 0, 1) := by decide +kernel
theorem dX9_fixes_55 : decode cX9_fixes 55 = .ok (.invokevirtual 111, 3) := by decide +kernel
theorem dX9_fixes_58 : decode cX9_fixes 58 = .ok (.aload_n 0, 1) := by decide +kernel
theorem dX9_fixes_59 : decode cX9_fixes 59 = .ok (.getfield 7, 3) := by decide +kernel
theorem dX9_fixes_62 : decode cX9_fixes 62 = .ok (.iload 4, 2) := by decide +kernel
theorem dX9_fixes_64 : decode cX9_fixes 64 = .ok (.iload_n 3, 1) := by decide +kernel
theorem dX9_fixes_65 : decode cX9_fixes 65 = .ok (.iastore, 1) := by decide +kernel
theorem dX9_fixes_66 : decode cX9_fixes 66 = .ok (.aload_n 0, 1) := by decide +kernel
theorem dX9_fixes_67 : decode cX9_fixes 67 = .ok (.invokevirtual 131, 3) := by decide +kernel
theorem dX9_fixes_70 : decode cX9_fixes 70 = .ok (.ireturn, 1) := by decide +kernel
theorem dX9_undo_0 : decode cX9_undo 0 = .ok (.aload_n 0, 1) := by decide +kernel
theorem dX9_undo_1 : decode cX9_undo 1 = .ok (.iconst 0, 1) := by decide +kernel
theorem dX9_undo_2 : decode cX9_undo 2 = .ok (.putfield 51, 3) := by decide +kernel
theorem dX9_undo_5 : decode cX9_undo 5 = .ok (.aload_n 0, 1) := by decide +kernel
theorem dX9_undo_6 : decode cX9_undo 6 = .ok (.getfield 114, 3) := by decide +kernel
theorem dX9_undo_9 : decode cX9_undo 9 = .ok (.ifCond .ne 6, 3) := by decide +kernel
theorem dX9_undo_12 : decode cX9_undo 12 = .ok (.bipush (-2), 2) := by decide +kernel
theorem dX9_undo_14 : decode cX9_undo 14 = .ok (.ireturn, 1) := by decide +kernel
theorem dX9_undo_15 : decode cX9_undo 15 = .ok (.aload_n 0, 1) := by decide +kernel
theorem dX9_undo_16 : decode cX9_undo 16 = .ok (.dup, 1) := by decide +kernel
theorem dX9_undo_17 : decode cX9_undo 17 = .ok (.getfield 114, 3) := by decide +kernel
theorem dX9_undo_20 : decode cX9_undo 20 = .ok (.iconst 1, 1) := by decide +kernel
theorem dX9_undo_21 : decode cX9_undo 21 = .ok (.isub, 1) := by decide +kernel
theorem dX9_undo_22 : decode cX9_undo 22 = .ok (.putfield 114, 3) := by decide +kernel
theorem dX9_undo_25 : decode cX9_undo 25 = .ok (.iconst 0, 1) := by decide +kernel
theorem dX9_undo_26 : decode cX9_undo 26 = .ok (.istore_n 1, 1) := by decide +kernel
theorem dX9_undo_27 : decode cX9_undo 27 = .ok (.iload_n 1, 1) := by decide +kernel
theorem dX9_undo_28 : decode cX9_undo 28 = .ok (.bipush 51, 2) := by decide +kernel
theorem dX9_undo_30 : decode cX9_undo 30 = .ok (.if_icmp .ge 29, 3) := by decide +kernel
theorem dX9_undo_33 : decode cX9_undo 33 = .ok (.aload_n 0, 1) := by decide +kernel
theorem dX9_undo_34 : decode cX9_undo 34 = .ok (.getfield 7, 3) := by decide +kernel
theorem dX9_undo_37 : decode cX9_undo 37 = .ok (.iload_n 1, 1) := by decide +kernel
theorem dX9_undo_38 : decode cX9_undo 38 = .ok (.aload_n 0, 1) := by decide +kernel
theorem dX9_undo_39 : decode cX9_undo 39 = .ok (.getfield 16, 3) := by decide +kernel
theorem dX9_undo_42 : decode cX9_undo 42 = .ok (.bipush 51, 2) := by decide +kernel
theorem dX9_undo_44 : decode cX9_undo 44 = .ok (.aload_n 0, 1) := by decide +kernel
theorem dX9_undo_45 : decode cX9_undo 45 = .ok (.getfield 114, 3) := by decide +kernel
theorem dX9_undo_48 : decode cX9_undo 48 = .ok (.imul, 1) := by decide +kernel
theorem dX9_undo_49 : decode cX9_undo 49 = .ok (.iload_n 1, 1) := by decide +kernel
theorem dX9_undo_50 : decode cX9_undo 50 = .ok (.iadd, 1) := by decide +kernel
theorem dX9_undo_51 : decode cX9_undo 51 = .ok (.iaload, 1) := by decide +kernel
theorem dX9_undo_52 : decode cX9_undo 52 = .ok (.iastore, 1) := by decide +kernel
theorem dX9_undo_53 : decode cX9_undo 53 = .ok (.iinc 1 1, 3) := by decide +kernel
theorem dX9_undo_56 : decode cX9_undo 56 = .ok (.goto (-29), 3) := by decide +kernel
theorem dX9_undo_59 : decode cX9_undo 59 = .ok (.aload_n 0, 1) := by decide +kernel
theorem dX9_undo_60 : decode cX9_undo 60 = .ok (.getfield 114, 3) := by decide +kernel
theorem dX9_undo_63 : decode cX9_undo 63 = .ok (.ireturn, 1) := by decide +kernel
theorem dX9_figureOf_0 : decode cX9_figureOf 0 = .ok (.iload_n 1, 1) := by decide +kernel
theorem dX9_figureOf_1 : decode cX9_figureOf 1 = .ok (.iconst 2, 1) := by decide +kernel
theorem dX9_figureOf_2 : decode cX9_figureOf 2 = .ok (.aload_n 0, 1) := by decide +kernel
theorem dX9_figureOf_3 : decode cX9_figureOf 3 = .ok (.getfield 7, 3) := by decide +kernel
theorem dX9_figureOf_6 : decode cX9_figureOf 6 = .ok (.iconst 0, 1) := by decide +kernel
theorem dX9_figureOf_7 : decode cX9_figureOf 7 = .ok (.iaload, 1) := by decide +kernel
theorem dX9_figureOf_8 : decode cX9_figureOf 8 = .ok (.iconst 1, 1) := by decide +kernel
theorem dX9_figureOf_9 : decode cX9_figureOf 9 = .ok (.isub, 1) := by decide +kernel
theorem dX9_figureOf_10 : decode cX9_figureOf 10 = .ok (.iload_n 2, 1) := by decide +kernel
theorem dX9_figureOf_11 : decode cX9_figureOf 11 = .ok (.isub, 1) := by decide +kernel
theorem dX9_figureOf_12 : decode cX9_figureOf 12 = .ok (.imul, 1) := by decide +kernel
theorem dX9_figureOf_13 : decode cX9_figureOf 13 = .ok (.ishr, 1) := by decide +kernel
theorem dX9_figureOf_14 : decode cX9_figureOf 14 = .ok (.iconst 3, 1) := by decide +kernel
theorem dX9_figureOf_15 : decode cX9_figureOf 15 = .ok (.iand, 1) := by decide +kernel
theorem dX9_figureOf_16 : decode cX9_figureOf 16 = .ok (.ireturn, 1) := by decide +kernel
set_option maxRecDepth 20000 in
theorem ggX9_isNear_X9_in : GoodIn wsX9_isNear wsX9_in := goodIn_r _ [4] (by decide +kernel) (by decide +kernel)
set_option maxRecDepth 20000 in
theorem gX9_isNear_X9_in : GoodIn wsX9_isNear (va_wsS RX9 55 yX9_in wsX9_in) := goodIn_app (goodIn_of _ (by decide +kernel)) ggX9_isNear_X9_in
theorem dX9_isNear_0 : decode cX9_isNear 0 = .ok (.iload_n 0, 1) := by decide +kernel
theorem dX9_isNear_1 : decode cX9_isNear 1 = .ok (.iload_n 1, 1) := by decide +kernel
theorem dX9_isNear_2 : decode cX9_isNear 2 = .ok (.isub, 1) := by decide +kernel
theorem dX9_isNear_3 : decode cX9_isNear 3 = .ok (.iconst (-1), 1) := by decide +kernel
theorem dX9_isNear_4 : decode cX9_isNear 4 = .ok (.iconst 1, 1) := by decide +kernel
theorem dX9_isNear_5 : decode cX9_isNear 5 = .ok (.invokestatic 55, 3) := by decide +kernel
theorem dX9_isNear_8 : decode cX9_isNear 8 = .ok (.ireturn, 1) := by decide +kernel
set_option maxRecDepth 20000 in
theorem ggX9_changedBy_X9_figureOf : GoodIn wsX9_changedBy wsX9_figureOf := goodIn_r _ [6, 1, 11, 12, 13, 14, 15, 16, 17, 18, 19, 20, 21, 22, 23, 24, 25, 26, 27, 28, 29, 30, 31, 32, 33, 34] (by decide +kernel) (by decide +kernel)
set_option maxRecDepth 20000 in
theorem gX9_changedBy_X9_figureOf : GoodIn wsX9_changedBy (wsV RX9 134 RX9 yX9_figureOf wsX9_figureOf) := goodIn_app (goodIn_of _ (by decide +kernel)) ggX9_changedBy_X9_figureOf
set_option maxRecDepth 20000 in
theorem ggX9_changedBy_X9_height : GoodIn wsX9_changedBy wsX9_height := goodIn_r _ [10, 1, 11, 12, 13, 14, 15, 16, 17, 18, 19, 20, 21, 22, 23, 24, 25, 26, 27, 28, 29, 30, 31, 32, 33, 34] (by decide +kernel) (by decide +kernel)
set_option maxRecDepth 20000 in
theorem gX9_changedBy_X9_height : GoodIn wsX9_changedBy (wsV RX9 124 RX9 yX9_height wsX9_height) := goodIn_app (goodIn_of _ (by decide +kernel)) ggX9_changedBy_X9_height
theorem dX9_changedBy_0 : decode cX9_changedBy 0 = .ok (.iconst 0, 1) := by decide +kernel
theorem dX9_changedBy_1 : decode cX9_changedBy 1 = .ok (.istore_n 3, 1) := by decide +kernel
theorem dX9_changedBy_2 : decode cX9_changedBy 2 = .ok (.iconst 0, 1) := by decide +kernel
theorem dX9_changedBy_3 : decode cX9_changedBy 3 = .ok (.istore 4, 2) := by decide +kernel
theorem dX9_changedBy_5 : decode cX9_changedBy 5 = .ok (.iload 4, 2) := by decide +kernel
theorem dX9_changedBy_7 : decode cX9_changedBy 7 = .ok (.aload_n 0, 1) := by decide +kernel
theorem dX9_changedBy_8 : decode cX9_changedBy 8 = .ok (.getfield 7, 3) := by decide +kernel
theorem dX9_changedBy_11 : decode cX9_changedBy 11 = .ok (.iconst 0, 1) := by decide +kernel
theorem dX9_changedBy_12 : decode cX9_changedBy 12 = .ok (.iaload, 1) := by decide +kernel
theorem dX9_changedBy_13 : decode cX9_changedBy 13 = .ok (.if_icmp .ge 34, 3) := by decide +kernel
theorem dX9_changedBy_16 : decode cX9_changedBy 16 = .ok (.iload_n 3, 1) := by decide +kernel
theorem dX9_changedBy_17 : decode cX9_changedBy 17 = .ok (.aload_n 0, 1) := by decide +kernel
theorem dX9_changedBy_18 : decode cX9_changedBy 18 = .ok (.iload_n 2, 1) := by decide +kernel
theorem dX9_changedBy_19 : decode cX9_changedBy 19 = .ok (.iload 4, 2) := by decide +kernel
theorem dX9_changedBy_21 : decode cX9_changedBy 21 = .ok (.invokevirtual 134, 3) := by decide +kernel
theorem dX9_changedBy_24 : decode cX9_changedBy 24 = .ok (.aload_n 0, 1) := by decide +kernel
theorem dX9_changedBy_25 : decode cX9_changedBy 25 = .ok (.iload 4, 2) := by decide +kernel
theorem dX9_changedBy_27 : decode cX9_changedBy 27 = .ok (.iload_n 1, 1) := by decide +kernel
theorem dX9_changedBy_28 : decode cX9_changedBy 28 = .ok (.invokevirtual 124, 3) := by decide +kernel
theorem dX9_changedBy_31 : decode cX9_changedBy 31 = .ok (.if_icmp .ne 7, 3) := by decide +kernel
theorem dX9_changedBy_34 : decode cX9_changedBy 34 = .ok (.iconst 0, 1) := by decide +kernel
theorem dX9_changedBy_35 : decode cX9_changedBy 35 = .ok (.goto 4, 3) := by decide +kernel
theorem dX9_changedBy_38 : decode cX9_changedBy 38 = .ok (.iconst 1, 1) := by decide +kernel
theorem dX9_changedBy_39 : decode cX9_changedBy 39 = .ok (.iadd, 1) := by decide +kernel
theorem dX9_changedBy_40 : decode cX9_changedBy 40 = .ok (.istore_n 3, 1) := by decide +kernel
theorem dX9_changedBy_41 : decode cX9_changedBy 41 = .ok (.iinc 4 1, 3) := by decide +kernel
theorem dX9_changedBy_44 : decode cX9_changedBy 44 = .ok (.goto (-39), 3) := by decide +kernel
theorem dX9_changedBy_47 : decode cX9_changedBy 47 = .ok (.iload_n 3, 1) := by decide +kernel
theorem dX9_changedBy_48 : decode cX9_changedBy 48 = .ok (.ireturn, 1) := by decide +kernel
set_option maxRecDepth 20000 in
theorem ggX9_mayBe_X9_figureOf : GoodIn wsX9_mayBe wsX9_figureOf := goodIn_r _ [6, 1, 17, 18, 19, 20, 21, 22, 23, 24, 25, 26, 27, 28, 29, 30, 31, 32, 33, 34, 35, 36, 37, 38, 39, 40] (by decide +kernel) (by decide +kernel)
set_option maxRecDepth 20000 in
theorem gX9_mayBe_X9_figureOf : GoodIn wsX9_mayBe (wsV RX9 134 RX9 yX9_figureOf wsX9_figureOf) := goodIn_app (goodIn_of _ (by decide +kernel)) ggX9_mayBe_X9_figureOf
set_option maxRecDepth 20000 in
theorem ggX9_mayBe_X9_height : GoodIn wsX9_mayBe wsX9_height := goodIn_r _ [10, 1, 17, 18, 19, 20, 21, 22, 23, 24, 25, 26, 27, 28, 29, 30, 31, 32, 33, 34, 35, 36, 37, 38, 39, 40] (by decide +kernel) (by decide +kernel)
set_option maxRecDepth 20000 in
theorem gX9_mayBe_X9_height : GoodIn wsX9_mayBe (wsV RX9 124 RX9 yX9_height wsX9_height) := goodIn_app (goodIn_of _ (by decide +kernel)) ggX9_mayBe_X9_height
set_option maxRecDepth 20000 in
theorem ggX9_mayBe_X9_isNear : GoodIn wsX9_mayBe wsX9_isNear := goodIn_r _ [13, 14, 15, 5, 16] (by decide +kernel) (by decide +kernel)
set_option maxRecDepth 20000 in
theorem gX9_mayBe_X9_isNear : GoodIn wsX9_mayBe (va_wsS RX9 137 yX9_isNear wsX9_isNear) := goodIn_app (goodIn_of _ (by decide +kernel)) ggX9_mayBe_X9_isNear
theorem dX9_mayBe_0 : decode cX9_mayBe 0 = .ok (.iconst 1, 1) := by decide +kernel
theorem dX9_mayBe_1 : decode cX9_mayBe 1 = .ok (.istore_n 3, 1) := by decide +kernel
theorem dX9_mayBe_2 : decode cX9_mayBe 2 = .ok (.iconst 0, 1) := by decide +kernel
theorem dX9_mayBe_3 : decode cX9_mayBe 3 = .ok (.istore 4, 2) := by decide +kernel
theorem dX9_mayBe_5 : decode cX9_mayBe 5 = .ok (.iload 4, 2) := by decide +kernel
theorem dX9_mayBe_7 : decode cX9_mayBe 7 = .ok (.aload_n 0, 1) := by decide +kernel
theorem dX9_mayBe_8 : decode cX9_mayBe 8 = .ok (.getfield 7, 3) := by decide +kernel
theorem dX9_mayBe_11 : decode cX9_mayBe 11 = .ok (.iconst 0, 1) := by decide +kernel
theorem dX9_mayBe_12 : decode cX9_mayBe 12 = .ok (.iaload, 1) := by decide +kernel
theorem dX9_mayBe_13 : decode cX9_mayBe 13 = .ok (.if_icmp .ge 85, 3) := by decide +kernel
theorem dX9_mayBe_16 : decode cX9_mayBe 16 = .ok (.iload_n 3, 1) := by decide +kernel
theorem dX9_mayBe_17 : decode cX9_mayBe 17 = .ok (.ifCond .eq 73, 3) := by decide +kernel
theorem dX9_mayBe_20 : decode cX9_mayBe 20 = .ok (.aload_n 0, 1) := by decide +kernel
theorem dX9_mayBe_21 : decode cX9_mayBe 21 = .ok (.getfield 7, 3) := by decide +kernel
theorem dX9_mayBe_24 : decode cX9_mayBe 24 = .ok (.bipush 27, 2) := by decide +kernel
theorem dX9_mayBe_26 : decode cX9_mayBe 26 = .ok (.aload_n 0, 1) := by decide +kernel
theorem dX9_mayBe_27 : decode cX9_mayBe 27 = .ok (.getfield 7, 3) := by decide +kernel
theorem dX9_mayBe_30 : decode cX9_mayBe 30 = .ok (.iconst 0, 1) := by decide +kernel
theorem dX9_mayBe_31 : decode cX9_mayBe 31 = .ok (.iaload, 1) := by decide +kernel
theorem dX9_mayBe_32 : decode cX9_mayBe 32 = .ok (.iload_n 1, 1) := by decide +kernel
theorem dX9_mayBe_33 : decode cX9_mayBe 33 = .ok (.imul, 1) := by decide +kernel
theorem dX9_mayBe_34 : decode cX9_mayBe 34 = .ok (.iadd, 1) := by decide +kernel
theorem dX9_mayBe_35 : decode cX9_mayBe 35 = .ok (.iload 4, 2) := by decide +kernel
theorem dX9_mayBe_37 : decode cX9_mayBe 37 = .ok (.iadd, 1) := by decide +kernel
theorem dX9_mayBe_38 : decode cX9_mayBe 38 = .ok (.iaload, 1) := by decide +kernel
theorem dX9_mayBe_39 : decode cX9_mayBe 39 = .ok (.ifCond .eq 20, 3) := by decide +kernel
theorem dX9_mayBe_42 : decode cX9_mayBe 42 = .ok (.aload_n 0, 1) := by decide +kernel
theorem dX9_mayBe_43 : decode cX9_mayBe 43 = .ok (.iload_n 2, 1) := by decide +kernel
theorem dX9_mayBe_44 : decode cX9_mayBe 44 = .ok (.iload 4, 2) := by decide +kernel
theorem dX9_mayBe_46 : decode cX9_mayBe 46 = .ok (.invokevirtual 134, 3) := by decide +kernel
theorem dX9_mayBe_49 : decode cX9_mayBe 49 = .ok (.aload_n 0, 1) := by decide +kernel
theorem dX9_mayBe_50 : decode cX9_mayBe 50 = .ok (.iload 4, 2) := by decide +kernel
theorem dX9_mayBe_52 : decode cX9_mayBe 52 = .ok (.iload_n 1, 1) := by decide +kernel
theorem dX9_mayBe_53 : decode cX9_mayBe 53 = .ok (.invokevirtual 124, 3) := by decide +kernel
theorem dX9_mayBe_56 : decode cX9_mayBe 56 = .ok (.if_icmp .ne 34, 3) := by decide +kernel
theorem dX9_mayBe_59 : decode cX9_mayBe 59 = .ok (.iload 4, 2) := by decide +kernel
theorem dX9_mayBe_61 : decode cX9_mayBe 61 = .ok (.ifCond .eq 25, 3) := by decide +kernel
theorem dX9_mayBe_64 : decode cX9_mayBe 64 = .ok (.aload_n 0, 1) := by decide +kernel
theorem dX9_mayBe_65 : decode cX9_mayBe 65 = .ok (.iload_n 2, 1) := by decide +kernel
theorem dX9_mayBe_66 : decode cX9_mayBe 66 = .ok (.iload 4, 2) := by decide +kernel
theorem dX9_mayBe_68 : decode cX9_mayBe 68 = .ok (.iconst 1, 1) := by decide +kernel
theorem dX9_mayBe_69 : decode cX9_mayBe 69 = .ok (.isub, 1) := by decide +kernel
theorem dX9_mayBe_70 : decode cX9_mayBe 70 = .ok (.invokevirtual 134, 3) := by decide +kernel
theorem dX9_mayBe_73 : decode cX9_mayBe 73 = .ok (.aload_n 0, 1) := by decide +kernel
theorem dX9_mayBe_74 : decode cX9_mayBe 74 = .ok (.iload_n 2, 1) := by decide +kernel
theorem dX9_mayBe_75 : decode cX9_mayBe 75 = .ok (.iload 4, 2) := by decide +kernel
theorem dX9_mayBe_77 : decode cX9_mayBe 77 = .ok (.invokevirtual 134, 3) := by decide +kernel
theorem dX9_mayBe_80 : decode cX9_mayBe 80 = .ok (.invokestatic 137, 3) := by decide +kernel
theorem dX9_mayBe_83 : decode cX9_mayBe 83 = .ok (.ifCond .eq 7, 3) := by decide +kernel
theorem dX9_mayBe_86 : decode cX9_mayBe 86 = .ok (.iconst 1, 1) := by decide +kernel
theorem dX9_mayBe_87 : decode cX9_mayBe 87 = .ok (.goto 4, 3) := by decide +kernel
theorem dX9_mayBe_90 : decode cX9_mayBe 90 = .ok (.iconst 0, 1) := by decide +kernel
theorem dX9_mayBe_91 : decode cX9_mayBe 91 = .ok (.istore_n 3, 1) := by decide +kernel
theorem dX9_mayBe_92 : decode cX9_mayBe 92 = .ok (.iinc 4 1, 3) := by decide +kernel
theorem dX9_mayBe_95 : decode cX9_mayBe 95 = .ok (.goto (-90), 3) := by decide +kernel
theorem dX9_mayBe_98 : decode cX9_mayBe 98 = .ok (.iload_n 3, 1) := by decide +kernel
theorem dX9_mayBe_99 : decode cX9_mayBe 99 = .ok (.ireturn, 1) := by decide +kernel
set_option maxRecDepth 20000 in
theorem ggX9_fit_X9_in : GoodIn wsX9_fit wsX9_in := goodIn_r _ [5] (by decide +kernel) (by decide +kernel)
set_option maxRecDepth 20000 in
theorem gX9_fit_X9_in : GoodIn wsX9_fit (va_wsS RX9 55 yX9_in wsX9_in) := goodIn_app (goodIn_of _ (by decide +kernel)) ggX9_fit_X9_in
set_option maxRecDepth 20000 in
theorem ggX9_fit_X9_figureOf : GoodIn wsX9_fit wsX9_figureOf := goodIn_r _ [9, 1, 13, 14, 15, 16, 17, 18, 19, 20, 21, 22, 23, 24, 25, 26, 27, 28, 29, 30, 31, 32, 33, 34, 35, 36] (by decide +kernel) (by decide +kernel)
set_option maxRecDepth 20000 in
theorem gX9_fit_X9_figureOf : GoodIn wsX9_fit (wsV RX9 134 RX9 yX9_figureOf wsX9_figureOf) := goodIn_app (goodIn_of _ (by decide +kernel)) ggX9_fit_X9_figureOf
set_option maxRecDepth 20000 in
theorem ggX9_fit_X9_isNear : GoodIn wsX9_fit wsX9_isNear := goodIn_r _ [12, 2, 3, 4, 5] (by decide +kernel) (by decide +kernel)
set_option maxRecDepth 20000 in
theorem gX9_fit_X9_isNear : GoodIn wsX9_fit (va_wsS RX9 137 yX9_isNear wsX9_isNear) := goodIn_app (goodIn_of _ (by decide +kernel)) ggX9_fit_X9_isNear
theorem dX9_fit_0 : decode cX9_fit 0 = .ok (.iconst 1, 1) := by decide +kernel
theorem dX9_fit_1 : decode cX9_fit 1 = .ok (.istore_n 3, 1) := by decide +kernel
theorem dX9_fit_2 : decode cX9_fit 2 = .ok (.iconst 0, 1) := by decide +kernel
theorem dX9_fit_3 : decode cX9_fit 3 = .ok (.istore 4, 2) := by decide +kernel
theorem dX9_fit_5 : decode cX9_fit 5 = .ok (.iload 4, 2) := by decide +kernel
theorem dX9_fit_7 : decode cX9_fit 7 = .ok (.aload_n 0, 1) := by decide +kernel
theorem dX9_fit_8 : decode cX9_fit 8 = .ok (.getfield 7, 3) := by decide +kernel
theorem dX9_fit_11 : decode cX9_fit 11 = .ok (.iconst 0, 1) := by decide +kernel
theorem dX9_fit_12 : decode cX9_fit 12 = .ok (.iaload, 1) := by decide +kernel
theorem dX9_fit_13 : decode cX9_fit 13 = .ok (.if_icmp .ge 77, 3) := by decide +kernel
theorem dX9_fit_16 : decode cX9_fit 16 = .ok (.iload 4, 2) := by decide +kernel
theorem dX9_fit_18 : decode cX9_fit 18 = .ok (.iconst 1, 1) := by decide +kernel
theorem dX9_fit_19 : decode cX9_fit 19 = .ok (.isub, 1) := by decide +kernel
theorem dX9_fit_20 : decode cX9_fit 20 = .ok (.istore 5, 2) := by decide +kernel
theorem dX9_fit_22 : decode cX9_fit 22 = .ok (.iload 5, 2) := by decide +kernel
theorem dX9_fit_24 : decode cX9_fit 24 = .ok (.iload 4, 2) := by decide +kernel
theorem dX9_fit_26 : decode cX9_fit 26 = .ok (.iconst 1, 1) := by decide +kernel
theorem dX9_fit_27 : decode cX9_fit 27 = .ok (.iadd, 1) := by decide +kernel
theorem dX9_fit_28 : decode cX9_fit 28 = .ok (.if_icmp .gt 56, 3) := by decide +kernel
theorem dX9_fit_31 : decode cX9_fit 31 = .ok (.iload_n 3, 1) := by decide +kernel
theorem dX9_fit_32 : decode cX9_fit 32 = .ok (.ifCond .eq 44, 3) := by decide +kernel
theorem dX9_fit_35 : decode cX9_fit 35 = .ok (.iload 5, 2) := by decide +kernel
theorem dX9_fit_37 : decode cX9_fit 37 = .ok (.iconst 0, 1) := by decide +kernel
theorem dX9_fit_38 : decode cX9_fit 38 = .ok (.aload_n 0, 1) := by decide +kernel
theorem dX9_fit_39 : decode cX9_fit 39 = .ok (.getfield 7, 3) := by decide +kernel
theorem dX9_fit_42 : decode cX9_fit 42 = .ok (.iconst 0, 1) := by decide +kernel
theorem dX9_fit_43 : decode cX9_fit 43 = .ok (.iaload, 1) := by decide +kernel
theorem dX9_fit_44 : decode cX9_fit 44 = .ok (.iconst 1, 1) := by decide +kernel
theorem dX9_fit_45 : decode cX9_fit 45 = .ok (.isub, 1) := by decide +kernel
theorem dX9_fit_46 : decode cX9_fit 46 = .ok (.invokestatic 55, 3) := by decide +kernel
theorem dX9_fit_49 : decode cX9_fit 49 = .ok (.ifCond .eq 23, 3) := by decide +kernel
theorem dX9_fit_52 : decode cX9_fit 52 = .ok (.aload_n 0, 1) := by decide +kernel
theorem dX9_fit_53 : decode cX9_fit 53 = .ok (.iload_n 1, 1) := by decide +kernel
theorem dX9_fit_54 : decode cX9_fit 54 = .ok (.iload 4, 2) := by decide +kernel
theorem dX9_fit_56 : decode cX9_fit 56 = .ok (.invokevirtual 134, 3) := by decide +kernel
theorem dX9_fit_59 : decode cX9_fit 59 = .ok (.aload_n 0, 1) := by decide +kernel
theorem dX9_fit_60 : decode cX9_fit 60 = .ok (.iload_n 2, 1) := by decide +kernel
theorem dX9_fit_61 : decode cX9_fit 61 = .ok (.iload 5, 2) := by decide +kernel
theorem dX9_fit_63 : decode cX9_fit 63 = .ok (.invokevirtual 134, 3) := by decide +kernel
theorem dX9_fit_66 : decode cX9_fit 66 = .ok (.invokestatic 137, 3) := by decide +kernel
theorem dX9_fit_69 : decode cX9_fit 69 = .ok (.ifCond .eq 7, 3) := by decide +kernel
theorem dX9_fit_72 : decode cX9_fit 72 = .ok (.iconst 1, 1) := by decide +kernel
theorem dX9_fit_73 : decode cX9_fit 73 = .ok (.goto 4, 3) := by decide +kernel
theorem dX9_fit_76 : decode cX9_fit 76 = .ok (.iconst 0, 1) := by decide +kernel
theorem dX9_fit_77 : decode cX9_fit 77 = .ok (.istore_n 3, 1) := by decide +kernel
theorem dX9_fit_78 : decode cX9_fit 78 = .ok (.iinc 5 1, 3) := by decide +kernel
theorem dX9_fit_81 : decode cX9_fit 81 = .ok (.goto (-59), 3) := by decide +kernel
theorem dX9_fit_84 : decode cX9_fit 84 = .ok (.iinc 4 1, 3) := by decide +kernel
theorem dX9_fit_87 : decode cX9_fit 87 = .ok (.goto (-82), 3) := by decide +kernel
theorem dX9_fit_90 : decode cX9_fit 90 = .ok (.iload_n 3, 1) := by decide +kernel
theorem dX9_fit_91 : decode cX9_fit 91 = .ok (.ireturn, 1) := by decide +kernel
set_option maxRecDepth 20000 in
theorem ggX9_bestBehind_X9_fit : GoodIn wsX9_bestBehind wsX9_fit := goodIn_r _ [7, 1, 8, 9, 6, 10, 11, 12, 13, 14, 15, 16, 17, 18, 19, 20, 21, 22, 23, 24, 25, 26, 27, 28, 29, 30, 31, 32, 33, 34, 35, 36, 37, 38, 39, 40, 41] (by decide +kernel) (by decide +kernel)
set_option maxRecDepth 20000 in
theorem gX9_bestBehind_X9_fit : GoodIn wsX9_bestBehind (wsV RX9 140 RX9 yX9_fit wsX9_fit) := goodIn_app (goodIn_of _ (by decide +kernel)) ggX9_bestBehind_X9_fit
theorem dX9_bestBehind_0 : decode cX9_bestBehind 0 = .ok (.iload_n 1, 1) := by decide +kernel
theorem dX9_bestBehind_1 : decode cX9_bestBehind 1 = .ok (.iconst 1, 1) := by decide +kernel
theorem dX9_bestBehind_2 : decode cX9_bestBehind 2 = .ok (.iadd, 1) := by decide +kernel
theorem dX9_bestBehind_3 : decode cX9_bestBehind 3 = .ok (.aload_n 0, 1) := by decide +kernel
theorem dX9_bestBehind_4 : decode cX9_bestBehind 4 = .ok (.getfield 7, 3) := by decide +kernel
theorem dX9_bestBehind_7 : decode cX9_bestBehind 7 = .ok (.iconst 1, 1) := by decide +kernel
theorem dX9_bestBehind_8 : decode cX9_bestBehind 8 = .ok (.iaload, 1) := by decide +kernel
theorem dX9_bestBehind_9 : decode cX9_bestBehind 9 = .ok (.if_icmp .ne 7, 3) := by decide +kernel
theorem dX9_bestBehind_12 : decode cX9_bestBehind 12 = .ok (.iconst 0, 1) := by decide +kernel
theorem dX9_bestBehind_13 : decode cX9_bestBehind 13 = .ok (.goto 6, 3) := by decide +kernel
theorem dX9_bestBehind_16 : decode cX9_bestBehind 16 = .ok (.sipush 1000, 3) := by decide +kernel
theorem dX9_bestBehind_19 : decode cX9_bestBehind 19 = .ok (.istore 4, 2) := by decide +kernel
theorem dX9_bestBehind_21 : decode cX9_bestBehind 21 = .ok (.iconst 0, 1) := by decide +kernel
theorem dX9_bestBehind_22 : decode cX9_bestBehind 22 = .ok (.istore 5, 2) := by decide +kernel
theorem dX9_bestBehind_24 : decode cX9_bestBehind 24 = .ok (.iload 5, 2) := by decide +kernel
theorem dX9_bestBehind_26 : decode cX9_bestBehind 26 = .ok (.iload_n 3, 1) := by decide +kernel
theorem dX9_bestBehind_27 : decode cX9_bestBehind 27 = .ok (.if_icmp .ge 64, 3) := by decide +kernel
theorem dX9_bestBehind_30 : decode cX9_bestBehind 30 = .ok (.iload_n 1, 1) := by decide +kernel
theorem dX9_bestBehind_31 : decode cX9_bestBehind 31 = .ok (.iconst 1, 1) := by decide +kernel
theorem dX9_bestBehind_32 : decode cX9_bestBehind 32 = .ok (.iadd, 1) := by decide +kernel
theorem dX9_bestBehind_33 : decode cX9_bestBehind 33 = .ok (.aload_n 0, 1) := by decide +kernel
theorem dX9_bestBehind_34 : decode cX9_bestBehind 34 = .ok (.getfield 7, 3) := by decide +kernel
theorem dX9_bestBehind_37 : decode cX9_bestBehind 37 = .ok (.iconst 1, 1) := by decide +kernel
theorem dX9_bestBehind_38 : decode cX9_bestBehind 38 = .ok (.iaload, 1) := by decide +kernel
theorem dX9_bestBehind_39 : decode cX9_bestBehind 39 = .ok (.if_icmp .ge 52, 3) := by decide +kernel
theorem dX9_bestBehind_42 : decode cX9_bestBehind 42 = .ok (.aload_n 0, 1) := by decide +kernel
theorem dX9_bestBehind_43 : decode cX9_bestBehind 43 = .ok (.getfield 36, 3) := by decide +kernel
theorem dX9_bestBehind_46 : decode cX9_bestBehind 46 = .ok (.sipush 256, 3) := by decide +kernel
theorem dX9_bestBehind_49 : decode cX9_bestBehind 49 = .ok (.iload_n 1, 1) := by decide +kernel
theorem dX9_bestBehind_50 : decode cX9_bestBehind 50 = .ok (.iconst 1, 1) := by decide +kernel
theorem dX9_bestBehind_51 : decode cX9_bestBehind 51 = .ok (.iadd, 1) := by decide +kernel
theorem dX9_bestBehind_52 : decode cX9_bestBehind 52 = .ok (.imul, 1) := by decide +kernel
theorem dX9_bestBehind_53 : decode cX9_bestBehind 53 = .ok (.iload 5, 2) := by decide +kernel
theorem dX9_bestBehind_55 : decode cX9_bestBehind 55 = .ok (.iadd, 1) := by decide +kernel
theorem dX9_bestBehind_56 : decode cX9_bestBehind 56 = .ok (.iaload, 1) := by decide +kernel
theorem dX9_bestBehind_57 : decode cX9_bestBehind 57 = .ok (.istore 6, 2) := by decide +kernel
theorem dX9_bestBehind_59 : decode cX9_bestBehind 59 = .ok (.iload 6, 2) := by decide +kernel
theorem dX9_bestBehind_61 : decode cX9_bestBehind 61 = .ok (.iload 4, 2) := by decide +kernel
theorem dX9_bestBehind_63 : decode cX9_bestBehind 63 = .ok (.if_icmp .ge 18, 3) := by decide +kernel
theorem dX9_bestBehind_66 : decode cX9_bestBehind 66 = .ok (.aload_n 0, 1) := by decide +kernel
theorem dX9_bestBehind_67 : decode cX9_bestBehind 67 = .ok (.iload_n 2, 1) := by decide +kernel
theorem dX9_bestBehind_68 : decode cX9_bestBehind 68 = .ok (.iload 5, 2) := by decide +kernel
theorem dX9_bestBehind_70 : decode cX9_bestBehind 70 = .ok (.invokevirtual 140, 3) := by decide +kernel
theorem dX9_bestBehind_73 : decode cX9_bestBehind 73 = .ok (.ifCond .eq 8, 3) := by decide +kernel
theorem dX9_bestBehind_76 : decode cX9_bestBehind 76 = .ok (.iload 6, 2) := by decide +kernel
theorem dX9_bestBehind_78 : decode cX9_bestBehind 78 = .ok (.goto 5, 3) := by decide +kernel
theorem dX9_bestBehind_81 : decode cX9_bestBehind 81 = .ok (.iload 4, 2) := by decide +kernel
theorem dX9_bestBehind_83 : decode cX9_bestBehind 83 = .ok (.istore 4, 2) := by decide +kernel
theorem dX9_bestBehind_85 : decode cX9_bestBehind 85 = .ok (.iinc 5 1, 3) := by decide +kernel
theorem dX9_bestBehind_88 : decode cX9_bestBehind 88 = .ok (.goto (-64), 3) := by decide +kernel
theorem dX9_bestBehind_91 : decode cX9_bestBehind 91 = .ok (.iload 4, 2) := by decide +kernel
theorem dX9_bestBehind_93 : decode cX9_bestBehind 93 = .ok (.ireturn, 1) := by decide +kernel
set_option maxRecDepth 20000 in
theorem ggX9_laysCosts_X9_mayBe : GoodIn wsX9_laysCosts wsX9_mayBe := goodIn_r _ [7, 1, 8, 9, 10, 6, 11, 12, 13, 14, 15, 16, 17, 18, 19, 20, 21, 34, 35, 36, 37, 38, 39, 40, 41, 42, 43, 44, 45, 46, 47, 48, 49, 50, 51, 52, 53, 54, 55, 56, 57] (by decide +kernel) (by decide +kernel)
set_option maxRecDepth 20000 in
theorem gX9_laysCosts_X9_mayBe : GoodIn wsX9_laysCosts (wsV RX9 143 RX9 yX9_mayBe wsX9_mayBe) := goodIn_app (goodIn_of _ (by decide +kernel)) ggX9_laysCosts_X9_mayBe
set_option maxRecDepth 20000 in
theorem ggX9_laysCosts_X9_bestBehind : GoodIn wsX9_laysCosts wsX9_bestBehind := goodIn_r _ [25, 1, 2, 26, 27, 28, 6, 29, 19, 20, 21, 8, 9, 10, 11, 16, 17, 18, 34, 35, 36, 37, 38, 39, 40, 41, 42, 43, 44, 45, 46, 47, 48, 49, 50, 51, 52, 53, 54, 55, 56, 57] (by decide +kernel) (by decide +kernel)
set_option maxRecDepth 20000 in
theorem gX9_laysCosts_X9_bestBehind : GoodIn wsX9_laysCosts (wsV RX9 146 RX9 yX9_bestBehind wsX9_bestBehind) := goodIn_app (goodIn_of _ (by decide +kernel)) ggX9_laysCosts_X9_bestBehind
set_option maxRecDepth 20000 in
theorem ggX9_laysCosts_X9_changedBy : GoodIn wsX9_laysCosts wsX9_changedBy := goodIn_r _ [33, 1, 8, 9, 10, 6, 11, 12, 13, 14, 15, 34, 35, 36, 37, 38, 39, 40, 41, 42, 43, 44, 45, 46, 47, 48, 49, 50, 51, 52, 53, 54, 55, 56, 57] (by decide +kernel) (by decide +kernel)
set_option maxRecDepth 20000 in
theorem gX9_laysCosts_X9_changedBy : GoodIn wsX9_laysCosts (wsV RX9 150 RX9 yX9_changedBy wsX9_changedBy) := goodIn_app (goodIn_of _ (by decide +kernel)) ggX9_laysCosts_X9_changedBy
theorem dX9_laysCosts_0 : decode cX9_laysCosts 0 = .ok (.iconst 1, 1) := by decide +kernel
theorem dX9_laysCosts_1 : decode cX9_laysCosts 1 = .ok (.iconst 2, 1) := by decide +kernel
theorem dX9_laysCosts_2 : decode cX9_laysCosts 2 = .ok (.aload_n 0, 1) := by decide +kernel
theorem dX9_laysCosts_3 : decode cX9_laysCosts 3 = .ok (.getfield 7, 3) := by decide +kernel
theorem dX9_laysCosts_6 : decode cX9_laysCosts 6 = .ok (.iconst 0, 1) := by decide +kernel
theorem dX9_laysCosts_7 : decode cX9_laysCosts 7 = .ok (.iaload, 1) := by decide +kernel
theorem dX9_laysCosts_8 : decode cX9_laysCosts 8 = .ok (.imul, 1) := by decide +kernel
theorem dX9_laysCosts_9 : decode cX9_laysCosts 9 = .ok (.ishl, 1) := by decide +kernel
theorem dX9_laysCosts_10 : decode cX9_laysCosts 10 = .ok (.istore_n 1, 1) := by decide +kernel
theorem dX9_laysCosts_11 : decode cX9_laysCosts 11 = .ok (.aload_n 0, 1) := by decide +kernel
theorem dX9_laysCosts_12 : decode cX9_laysCosts 12 = .ok (.getfield 7, 3) := by decide +kernel
theorem dX9_laysCosts_15 : decode cX9_laysCosts 15 = .ok (.iconst 1, 1) := by decide +kernel
theorem dX9_laysCosts_16 : decode cX9_laysCosts 16 = .ok (.iaload, 1) := by decide +kernel
theorem dX9_laysCosts_17 : decode cX9_laysCosts 17 = .ok (.iconst 1, 1) := by decide +kernel
theorem dX9_laysCosts_18 : decode cX9_laysCosts 18 = .ok (.isub, 1) := by decide +kernel
theorem dX9_laysCosts_19 : decode cX9_laysCosts 19 = .ok (.istore_n 2, 1) := by decide +kernel
theorem dX9_laysCosts_20 : decode cX9_laysCosts 20 = .ok (.iload_n 2, 1) := by decide +kernel
theorem dX9_laysCosts_21 : decode cX9_laysCosts 21 = .ok (.ifCond .lt 81, 3) := by decide +kernel
theorem dX9_laysCosts_24 : decode cX9_laysCosts 24 = .ok (.iconst 0, 1) := by decide +kernel
theorem dX9_laysCosts_25 : decode cX9_laysCosts 25 = .ok (.istore_n 3, 1) := by decide +kernel
theorem dX9_laysCosts_26 : decode cX9_laysCosts 26 = .ok (.iload_n 3, 1) := by decide +kernel
theorem dX9_laysCosts_27 : decode cX9_laysCosts 27 = .ok (.iload_n 1, 1) := by decide +kernel
theorem dX9_laysCosts_28 : decode cX9_laysCosts 28 = .ok (.if_icmp .ge 68, 3) := by decide +kernel
theorem dX9_laysCosts_31 : decode cX9_laysCosts 31 = .ok (.aload_n 0, 1) := by decide +kernel
theorem dX9_laysCosts_32 : decode cX9_laysCosts 32 = .ok (.iload_n 2, 1) := by decide +kernel
theorem dX9_laysCosts_33 : decode cX9_laysCosts 33 = .ok (.iload_n 3, 1) := by decide +kernel
theorem dX9_laysCosts_34 : decode cX9_laysCosts 34 = .ok (.invokevirtual 143, 3) := by decide +kernel
theorem dX9_laysCosts_37 : decode cX9_laysCosts 37 = .ok (.ifCond .eq 13, 3) := by decide +kernel
theorem dX9_laysCosts_40 : decode cX9_laysCosts 40 = .ok (.aload_n 0, 1) := by decide +kernel
theorem dX9_laysCosts_41 : decode cX9_laysCosts 41 = .ok (.iload_n 2, 1) := by decide +kernel
theorem dX9_laysCosts_42 : decode cX9_laysCosts 42 = .ok (.iload_n 3, 1) := by decide +kernel
theorem dX9_laysCosts_43 : decode cX9_laysCosts 43 = .ok (.iload_n 1, 1) := by decide +kernel
theorem dX9_laysCosts_44 : decode cX9_laysCosts 44 = .ok (.invokevirtual 146, 3) := by decide +kernel
theorem dX9_laysCosts_47 : decode cX9_laysCosts 47 = .ok (.goto 6, 3) := by decide +kernel
theorem dX9_laysCosts_50 : decode cX9_laysCosts 50 = .ok (.sipush 1000, 3) := by decide +kernel
theorem dX9_laysCosts_53 : decode cX9_laysCosts 53 = .ok (.istore 4, 2) := by decide +kernel
