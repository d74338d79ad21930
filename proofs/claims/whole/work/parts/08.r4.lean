set_option maxRecDepth 20000 in
theorem ggX4_init_X4_pins : GoodIn wsX4_init wsX4_pins := goodIn_r _ [28, 20, 22, 18, 19, 29, 30, 31, 32, 33, 34, 35, 36, 37, 38, 39, 40, 41, 42, 43, 44, 45, 46, 47, 48, 49, 50] (by decide +kernel) (by decide +kernel)
set_option maxRecDepth 20000 in
theorem gX4_init_X4_pins : GoodIn wsX4_init (wsV RX4 64 RX4 yX4_pins wsX4_pins) := goodIn_app (goodIn_of _ (by decide +kernel)) ggX4_init_X4_pins
theorem dX4_init_0 : decode cX4_init 0 = .ok (.aload_n 0, 1) := by decide +kernel
theorem dX4_init_1 : decode cX4_init 1 = .ok (.invokespecial 1, 3) := by decide +kernel
theorem dX4_init_4 : decode cX4_init 4 = .ok (.aload_n 0, 1) := by decide +kernel
theorem dX4_init_5 : decode cX4_init 5 = .ok (.iconst 3, 1) := by decide +kernel
theorem dX4_init_6 : decode cX4_init 6 = .ok (.newarray .int, 2) := by decide +kernel
theorem dX4_init_8 : decode cX4_init 8 = .ok (.putfield 7, 3) := by decide +kernel
theorem dX4_init_11 : decode cX4_init 11 = .ok (.aload_n 0, 1) := by decide +kernel
theorem dX4_init_12 : decode cX4_init 12 = .ok (.bipush 36, 2) := by decide +kernel
theorem dX4_init_14 : decode cX4_init 14 = .ok (.newarray .int, 2) := by decide +kernel
theorem dX4_init_16 : decode cX4_init 16 = .ok (.putfield 13, 3) := by decide +kernel
theorem dX4_init_19 : decode cX4_init 19 = .ok (.aload_n 0, 1) := by decide +kernel
theorem dX4_init_20 : decode cX4_init 20 = .ok (.bipush 36, 2) := by decide +kernel
theorem dX4_init_22 : decode cX4_init 22 = .ok (.newarray .int, 2) := by decide +kernel
theorem dX4_init_24 : decode cX4_init 24 = .ok (.putfield 16, 3) := by decide +kernel
theorem dX4_init_27 : decode cX4_init 27 = .ok (.aload_n 0, 1) := by decide +kernel
theorem dX4_init_28 : decode cX4_init 28 = .ok (.bipush 7, 2) := by decide +kernel
theorem dX4_init_30 : decode cX4_init 30 = .ok (.newarray .int, 2) := by decide +kernel
theorem dX4_init_32 : decode cX4_init 32 = .ok (.putfield 19, 3) := by decide +kernel
theorem dX4_init_35 : decode cX4_init 35 = .ok (.aload_n 0, 1) := by decide +kernel
theorem dX4_init_36 : decode cX4_init 36 = .ok (.iconst 3, 1) := by decide +kernel
theorem dX4_init_37 : decode cX4_init 37 = .ok (.newarray .int, 2) := by decide +kernel
theorem dX4_init_39 : decode cX4_init 39 = .ok (.putfield 22, 3) := by decide +kernel
theorem dX4_init_42 : decode cX4_init 42 = .ok (.aload_n 0, 1) := by decide +kernel
theorem dX4_init_43 : decode cX4_init 43 = .ok (.iconst 3, 1) := by decide +kernel
theorem dX4_init_44 : decode cX4_init 44 = .ok (.newarray .int, 2) := by decide +kernel
theorem dX4_init_46 : decode cX4_init 46 = .ok (.putfield 25, 3) := by decide +kernel
theorem dX4_init_49 : decode cX4_init 49 = .ok (.aload_n 0, 1) := by decide +kernel
theorem dX4_init_50 : decode cX4_init 50 = .ok (.sipush 512, 3) := by decide +kernel
theorem dX4_init_53 : decode cX4_init 53 = .ok (.newarray .long, 2) := by decide +kernel
theorem dX4_init_55 : decode cX4_init 55 = .ok (.putfield 28, 3) := by decide +kernel
theorem dX4_init_58 : decode cX4_init 58 = .ok (.aload_n 0, 1) := by decide +kernel
theorem dX4_init_59 : decode cX4_init 59 = .ok (.sipush 512, 3) := by decide +kernel
theorem dX4_init_62 : decode cX4_init 62 = .ok (.newarray .long, 2) := by decide +kernel
theorem dX4_init_64 : decode cX4_init 64 = .ok (.putfield 32, 3) := by decide +kernel
theorem dX4_init_67 : decode cX4_init 67 = .ok (.aload_n 0, 1) := by decide +kernel
theorem dX4_init_68 : decode cX4_init 68 = .ok (.sipush 512, 3) := by decide +kernel
theorem dX4_init_71 : decode cX4_init 71 = .ok (.newarray .long, 2) := by decide +kernel
theorem dX4_init_73 : decode cX4_init 73 = .ok (.putfield 35, 3) := by decide +kernel
theorem dX4_init_76 : decode cX4_init 76 = .ok (.aload_n 0, 1) := by decide +kernel
theorem dX4_init_77 : decode cX4_init 77 = .ok (.sipush 512, 3) := by decide +kernel
theorem dX4_init_80 : decode cX4_init 80 = .ok (.newarray .long, 2) := by decide +kernel
theorem dX4_init_82 : decode cX4_init 82 = .ok (.putfield 38, 3) := by decide +kernel
theorem dX4_init_85 : decode cX4_init 85 = .ok (.aload_n 0, 1) := by decide +kernel
theorem dX4_init_86 : decode cX4_init 86 = .ok (.sipush 512, 3) := by decide +kernel
theorem dX4_init_89 : decode cX4_init 89 = .ok (.newarray .long, 2) := by decide +kernel
theorem dX4_init_91 : decode cX4_init 91 = .ok (.putfield 41, 3) := by decide +kernel
theorem dX4_init_94 : decode cX4_init 94 = .ok (.aload_n 0, 1) := by decide +kernel
theorem dX4_init_95 : decode cX4_init 95 = .ok (.sipush 512, 3) := by decide +kernel
theorem dX4_init_98 : decode cX4_init 98 = .ok (.newarray .long, 2) := by decide +kernel
theorem dX4_init_100 : decode cX4_init 100 = .ok (.putfield 44, 3) := by decide +kernel
theorem dX4_init_103 : decode cX4_init 103 = .ok (.aload_n 0, 1) := by decide +kernel
theorem dX4_init_104 : decode cX4_init 104 = .ok (.iconst 4, 1) := by decide +kernel
theorem dX4_init_105 : decode cX4_init 105 = .ok (.putfield 47, 3) := by decide +kernel
theorem dX4_init_108 : decode cX4_init 108 = .ok (.aload_n 0, 1) := by decide +kernel
theorem dX4_init_109 : decode cX4_init 109 = .ok (.iconst 4, 1) := by decide +kernel
theorem dX4_init_110 : decode cX4_init 110 = .ok (.putfield 51, 3) := by decide +kernel
theorem dX4_init_113 : decode cX4_init 113 = .ok (.aload_n 0, 1) := by decide +kernel
theorem dX4_init_114 : decode cX4_init 114 = .ok (.bipush 64, 2) := by decide +kernel
theorem dX4_init_116 : decode cX4_init 116 = .ok (.newarray .int, 2) := by decide +kernel
theorem dX4_init_118 : decode cX4_init 118 = .ok (.putfield 54, 3) := by decide +kernel
theorem dX4_init_121 : decode cX4_init 121 = .ok (.aload_n 0, 1) := by decide +kernel
theorem dX4_init_122 : decode cX4_init 122 = .ok (.bipush 64, 2) := by decide +kernel
theorem dX4_init_124 : decode cX4_init 124 = .ok (.newarray .boolean, 2) := by decide +kernel
theorem dX4_init_126 : decode cX4_init 126 = .ok (.putfield 57, 3) := by decide +kernel
theorem dX4_init_129 : decode cX4_init 129 = .ok (.aload_n 0, 1) := by decide +kernel
theorem dX4_init_130 : decode cX4_init 130 = .ok (.iconst 4, 1) := by decide +kernel
theorem dX4_init_131 : decode cX4_init 131 = .ok (.newarray .int, 2) := by decide +kernel
theorem dX4_init_133 : decode cX4_init 133 = .ok (.putfield 61, 3) := by decide +kernel
theorem dX4_init_136 : decode cX4_init 136 = .ok (.aload_n 0, 1) := by decide +kernel
theorem dX4_init_137 : decode cX4_init 137 = .ok (.getfield 7, 3) := by decide +kernel
theorem dX4_init_140 : decode cX4_init 140 = .ok (.iconst 0, 1) := by decide +kernel
theorem dX4_init_141 : decode cX4_init 141 = .ok (.iconst 3, 1) := by decide +kernel
theorem dX4_init_142 : decode cX4_init 142 = .ok (.iastore, 1) := by decide +kernel
theorem dX4_init_143 : decode cX4_init 143 = .ok (.aload_n 0, 1) := by decide +kernel
theorem dX4_init_144 : decode cX4_init 144 = .ok (.getfield 7, 3) := by decide +kernel
theorem dX4_init_147 : decode cX4_init 147 = .ok (.iconst 1, 1) := by decide +kernel
theorem dX4_init_148 : decode cX4_init 148 = .ok (.iconst 3, 1) := by decide +kernel
theorem dX4_init_149 : decode cX4_init 149 = .ok (.iastore, 1) := by decide +kernel
theorem dX4_init_150 : decode cX4_init 150 = .ok (.aload_n 0, 1) := by decide +kernel
theorem dX4_init_151 : decode cX4_init 151 = .ok (.getfield 7, 3) := by decide +kernel
theorem dX4_init_154 : decode cX4_init 154 = .ok (.iconst 2, 1) := by decide +kernel
theorem dX4_init_155 : decode cX4_init 155 = .ok (.iconst 1, 1) := by decide +kernel
theorem dX4_init_156 : decode cX4_init 156 = .ok (.iastore, 1) := by decide +kernel
theorem dX4_init_157 : decode cX4_init 157 = .ok (.aload_n 0, 1) := by decide +kernel
theorem dX4_init_158 : decode cX4_init 158 = .ok (.getfield 19, 3) := by decide +kernel
theorem dX4_init_161 : decode cX4_init 161 = .ok (.iconst 0, 1) := by decide +kernel
theorem dX4_init_162 : decode cX4_init 162 = .ok (.iconst 1, 1) := by decide +kernel
theorem dX4_init_163 : decode cX4_init 163 = .ok (.iastore, 1) := by decide +kernel
theorem dX4_init_164 : decode cX4_init 164 = .ok (.aload_n 0, 1) := by decide +kernel
theorem dX4_init_165 : decode cX4_init 165 = .ok (.getfield 19, 3) := by decide +kernel
theorem dX4_init_168 : decode cX4_init 168 = .ok (.iconst 1, 1) := by decide +kernel
theorem dX4_init_169 : decode cX4_init 169 = .ok (.iconst 1, 1) := by decide +kernel
theorem dX4_init_170 : decode cX4_init 170 = .ok (.iastore, 1) := by decide +kernel
theorem dX4_init_171 : decode cX4_init 171 = .ok (.aload_n 0, 1) := by decide +kernel
theorem dX4_init_172 : decode cX4_init 172 = .ok (.getfield 19, 3) := by decide +kernel
theorem dX4_init_175 : decode cX4_init 175 = .ok (.iconst 2, 1) := by decide +kernel
theorem dX4_init_176 : decode cX4_init 176 = .ok (.iconst 1, 1) := by decide +kernel
theorem dX4_init_177 : decode cX4_init 177 = .ok (.iastore, 1) := by decide +kernel
theorem dX4_init_178 : decode cX4_init 178 = .ok (.aload_n 0, 1) := by decide +kernel
theorem dX4_init_179 : decode cX4_init 179 = .ok (.getfield 19, 3) := by decide +kernel
theorem dX4_init_182 : decode cX4_init 182 = .ok (.iconst 5, 1) := by decide +kernel
theorem dX4_init_183 : decode cX4_init 183 = .ok (.bipush 9, 2) := by decide +kernel
theorem dX4_init_185 : decode cX4_init 185 = .ok (.iastore, 1) := by decide +kernel
theorem dX4_init_186 : decode cX4_init 186 = .ok (.aload_n 0, 1) := by decide +kernel
theorem dX4_init_187 : decode cX4_init 187 = .ok (.invokevirtual 64, 3) := by decide +kernel
theorem dX4_init_190 : decode cX4_init 190 = .ok (.return_, 1) := by decide +kernel
theorem dX4_in_0 : decode cX4_in 0 = .ok (.lload_n 0, 1) := by decide +kernel
theorem dX4_in_1 : decode cX4_in 1 = .ok (.lload_n 2, 1) := by decide +kernel
theorem dX4_in_2 : decode cX4_in 2 = .ok (.lcmp, 1) := by decide +kernel
theorem dX4_in_3 : decode cX4_in 3 = .ok (.ifCond .lt 14, 3) := by decide +kernel
theorem dX4_in_6 : decode cX4_in 6 = .ok (.lload_n 0, 1) := by decide +kernel
theorem dX4_in_7 : decode cX4_in 7 = .ok (.lload 4, 2) := by decide +kernel
theorem dX4_in_9 : decode cX4_in 9 = .ok (.lcmp, 1) := by decide +kernel
theorem dX4_in_10 : decode cX4_in 10 = .ok (.ifCond .gt 7, 3) := by decide +kernel
theorem dX4_in_13 : decode cX4_in 13 = .ok (.iconst 1, 1) := by decide +kernel
theorem dX4_in_14 : decode cX4_in 14 = .ok (.goto 4, 3) := by decide +kernel
theorem dX4_in_17 : decode cX4_in 17 = .ok (.iconst 0, 1) := by decide +kernel
theorem dX4_in_18 : decode cX4_in 18 = .ok (.ireturn, 1) := by decide +kernel
theorem dX4_cells_0 : decode cX4_cells 0 = .ok (.aload_n 0, 1) := by decide +kernel
theorem dX4_cells_1 : decode cX4_cells 1 = .ok (.getfield 7, 3) := by decide +kernel
theorem dX4_cells_4 : decode cX4_cells 4 = .ok (.iconst 0, 1) := by decide +kernel
theorem dX4_cells_5 : decode cX4_cells 5 = .ok (.iaload, 1) := by decide +kernel
theorem dX4_cells_6 : decode cX4_cells 6 = .ok (.aload_n 0, 1) := by decide +kernel
theorem dX4_cells_7 : decode cX4_cells 7 = .ok (.getfield 7, 3) := by decide +kernel
theorem dX4_cells_10 : decode cX4_cells 10 = .ok (.iconst 1, 1) := by decide +kernel
theorem dX4_cells_11 : decode cX4_cells 11 = .ok (.iaload, 1) := by decide +kernel
theorem dX4_cells_12 : decode cX4_cells 12 = .ok (.imul, 1) := by decide +kernel
theorem dX4_cells_13 : decode cX4_cells 13 = .ok (.aload_n 0, 1) := by decide +kernel
theorem dX4_cells_14 : decode cX4_cells 14 = .ok (.getfield 7, 3) := by decide +kernel
theorem dX4_cells_17 : decode cX4_cells 17 = .ok (.iconst 2, 1) := by decide +kernel
theorem dX4_cells_18 : decode cX4_cells 18 = .ok (.iaload, 1) := by decide +kernel
theorem dX4_cells_19 : decode cX4_cells 19 = .ok (.imul, 1) := by decide +kernel
theorem dX4_cells_20 : decode cX4_cells 20 = .ok (.ireturn, 1) := by decide +kernel
set_option maxRecDepth 20000 in
theorem ggX4_isCell_X4_cells : GoodIn wsX4_isCell wsX4_cells := goodIn_r _ [5, 6, 10, 11, 12, 13, 14, 15, 16, 17, 18, 19, 20, 21, 22, 23, 24, 25, 26, 27, 28, 29, 30, 31] (by decide +kernel) (by decide +kernel)
set_option maxRecDepth 20000 in
theorem gX4_isCell_X4_cells : GoodIn wsX4_isCell (wsV RX4 70 RX4 yX4_cells wsX4_cells) := goodIn_app (goodIn_of _ (by decide +kernel)) ggX4_isCell_X4_cells
set_option maxRecDepth 20000 in
theorem ggX4_isCell_X4_in : GoodIn wsX4_isCell wsX4_in := goodIn_r _ [9] (by decide +kernel) (by decide +kernel)
set_option maxRecDepth 20000 in
theorem gX4_isCell_X4_in : GoodIn wsX4_isCell (va_wsS RX4 74 yX4_in wsX4_in) := goodIn_app (goodIn_of _ (by decide +kernel)) ggX4_isCell_X4_in
theorem dX4_isCell_0 : decode cX4_isCell 0 = .ok (.iload_n 1, 1) := by decide +kernel
theorem dX4_isCell_1 : decode cX4_isCell 1 = .ok (.i2l, 1) := by decide +kernel
theorem dX4_isCell_2 : decode cX4_isCell 2 = .ok (.lconst 0, 1) := by decide +kernel
theorem dX4_isCell_3 : decode cX4_isCell 3 = .ok (.aload_n 0, 1) := by decide +kernel
theorem dX4_isCell_4 : decode cX4_isCell 4 = .ok (.invokevirtual 70, 3) := by decide +kernel
theorem dX4_isCell_7 : decode cX4_isCell 7 = .ok (.iconst 1, 1) := by decide +kernel
theorem dX4_isCell_8 : decode cX4_isCell 8 = .ok (.isub, 1) := by decide +kernel
theorem dX4_isCell_9 : decode cX4_isCell 9 = .ok (.i2l, 1) := by decide +kernel
theorem dX4_isCell_10 : decode cX4_isCell 10 = .ok (.invokestatic 74, 3) := by decide +kernel
theorem dX4_isCell_13 : decode cX4_isCell 13 = .ok (.ireturn, 1) := by decide +kernel
theorem dX4_placeOf_0 : decode cX4_placeOf 0 = .ok (.iload_n 2, 1) := by decide +kernel
theorem dX4_placeOf_1 : decode cX4_placeOf 1 = .ok (.ifCond .ne 14, 3) := by decide +kernel
theorem dX4_placeOf_4 : decode cX4_placeOf 4 = .ok (.iload_n 1, 1) := by decide +kernel
theorem dX4_placeOf_5 : decode cX4_placeOf 5 = .ok (.aload_n 0, 1) := by decide +kernel
theorem dX4_placeOf_6 : decode cX4_placeOf 6 = .ok (.getfield 7, 3) := by decide +kernel
theorem dX4_placeOf_9 : decode cX4_placeOf 9 = .ok (.iconst 0, 1) := by decide +kernel
theorem dX4_placeOf_10 : decode cX4_placeOf 10 = .ok (.iaload, 1) := by decide +kernel
theorem dX4_placeOf_11 : decode cX4_placeOf 11 = .ok (.irem, 1) := by decide +kernel
theorem dX4_placeOf_12 : decode cX4_placeOf 12 = .ok (.goto 41, 3) := by decide +kernel
theorem dX4_placeOf_15 : decode cX4_placeOf 15 = .ok (.iload_n 2, 1) := by decide +kernel
theorem dX4_placeOf_16 : decode cX4_placeOf 16 = .ok (.iconst 1, 1) := by decide +kernel
theorem dX4_placeOf_17 : decode cX4_placeOf 17 = .ok (.if_icmp .ne 21, 3) := by decide +kernel
theorem dX4_placeOf_20 : decode cX4_placeOf 20 = .ok (.iload_n 1, 1) := by decide +kernel
theorem dX4_placeOf_21 : decode cX4_placeOf 21 = .ok (.aload_n 0, 1) := by decide +kernel
theorem dX4_placeOf_22 : decode cX4_placeOf 22 = .ok (.getfield 7, 3) := by decide +kernel
theorem dX4_placeOf_25 : decode cX4_placeOf 25 = .ok (.iconst 0, 1) := by decide +kernel
theorem dX4_placeOf_26 : decode cX4_placeOf 26 = .ok (.iaload, 1) := by decide +kernel
theorem dX4_placeOf_27 : decode cX4_placeOf 27 = .ok (.idiv, 1) := by decide +kernel
theorem dX4_placeOf_28 : decode cX4_placeOf 28 = .ok (.aload_n 0, 1) := by decide +kernel
theorem dX4_placeOf_29 : decode cX4_placeOf 29 = .ok (.getfield 7, 3) := by decide +kernel
theorem dX4_placeOf_32 : decode cX4_placeOf 32 = .ok (.iconst 1, 1) := by decide +kernel
theorem dX4_placeOf_33 : decode cX4_placeOf 33 = .ok (.iaload, 1) := by decide +kernel
theorem dX4_placeOf_34 : decode cX4_placeOf 34 = .ok (.irem, 1) := by decide +kernel
theorem dX4_placeOf_35 : decode cX4_placeOf 35 = .ok (.goto 18, 3) := by decide +kernel
theorem dX4_placeOf_38 : decode cX4_placeOf 38 = .ok (.iload_n 1, 1) := by decide +kernel
theorem dX4_placeOf_39 : decode cX4_placeOf 39 = .ok (.aload_n 0, 1) := by decide +kernel
theorem dX4_placeOf_40 : decode cX4_placeOf 40 = .ok (.getfield 7, 3) := by decide +kernel
theorem dX4_placeOf_43 : decode cX4_placeOf 43 = .ok (.iconst 0, 1) := by decide +kernel
theorem dX4_placeOf_44 : decode cX4_placeOf 44 = .ok (.iaload, 1) := by decide +kernel
theorem dX4_placeOf_45 : decode cX4_placeOf 45 = .ok (.idiv, 1) := by decide +kernel
theorem dX4_placeOf_46 : decode cX4_placeOf 46 = .ok (.aload_n 0, 1) := by decide +kernel
theorem dX4_placeOf_47 : decode cX4_placeOf 47 = .ok (.getfield 7, 3) := by decide +kernel
theorem dX4_placeOf_50 : decode cX4_placeOf 50 = .ok (.iconst 1, 1) := by decide +kernel
theorem dX4_placeOf_51 : decode cX4_placeOf 51 = .ok (.iaload, 1) := by decide +kernel
theorem dX4_placeOf_52 : decode cX4_placeOf 52 = .ok (.idiv, 1) := by decide +kernel
theorem dX4_placeOf_53 : decode cX4_placeOf 53 = .ok (.ireturn, 1) := by decide +kernel
theorem dX4_stride_0 : decode cX4_stride 0 = .ok (.iload_n 1, 1) := by decide +kernel
theorem dX4_stride_1 : decode cX4_stride 1 = .ok (.ifCond .ne 7, 3) := by decide +kernel
theorem dX4_stride_4 : decode cX4_stride 4 = .ok (.iconst 1, 1) := by decide +kernel
theorem dX4_stride_5 : decode cX4_stride 5 = .ok (.goto 30, 3) := by decide +kernel
theorem dX4_stride_8 : decode cX4_stride 8 = .ok (.iload_n 1, 1) := by decide +kernel
theorem dX4_stride_9 : decode cX4_stride 9 = .ok (.iconst 1, 1) := by decide +kernel
theorem dX4_stride_10 : decode cX4_stride 10 = .ok (.if_icmp .ne 12, 3) := by decide +kernel
theorem dX4_stride_13 : decode cX4_stride 13 = .ok (.aload_n 0, 1) := by decide +kernel
theorem dX4_stride_14 : decode cX4_stride 14 = .ok (.getfield 7, 3) := by decide +kernel
theorem dX4_stride_17 : decode cX4_stride 17 = .ok (.iconst 0, 1) := by decide +kernel
theorem dX4_stride_18 : decode cX4_stride 18 = .ok (.iaload, 1) := by decide +kernel
theorem dX4_stride_19 : decode cX4_stride 19 = .ok (.goto 16, 3) := by decide +kernel
theorem dX4_stride_22 : decode cX4_stride 22 = .ok (.aload_n 0, 1) := by decide +kernel
theorem dX4_stride_23 : decode cX4_stride 23 = .ok (.getfield 7, 3) := by decide +kernel
theorem dX4_stride_26 : decode cX4_stride 26 = .ok (.iconst 0, 1) := by decide +kernel
theorem dX4_stride_27 : decode cX4_stride 27 = .ok (.iaload, 1) := by decide +kernel
theorem dX4_stride_28 : decode cX4_stride 28 = .ok (.aload_n 0, 1) := by decide +kernel
theorem dX4_stride_29 : decode cX4_stride 29 = .ok (.getfield 7, 3) := by decide +kernel
theorem dX4_stride_32 : decode cX4_stride 32 = .ok (.iconst 1, 1) := by decide +kernel
theorem dX4_stride_33 : decode cX4_stride 33 = .ok (.iaload, 1) := by decide +kernel
theorem dX4_stride_34 : decode cX4_stride 34 = .ok (.imul, 1) := by decide +kernel
theorem dX4_stride_35 : decode cX4_stride 35 = .ok (.ireturn, 1) := by decide +kernel
set_option maxRecDepth 20000 in
theorem ggX4_box_X4_in : GoodIn wsX4_box wsX4_in := goodIn_r _ [9] (by decide +kernel) (by decide +kernel)
set_option maxRecDepth 20000 in
theorem gX4_box_X4_in : GoodIn wsX4_box (va_wsS RX4 74 yX4_in wsX4_in) := goodIn_app (goodIn_of _ (by decide +kernel)) ggX4_box_X4_in
set_option maxRecDepth 20000 in
theorem ggX4_box_X4_cells : GoodIn wsX4_box wsX4_cells := goodIn_r _ [13, 3, 14, 15, 16, 17, 18, 19, 20, 21, 22, 23, 24, 25, 26, 27, 28, 29, 30, 31, 32, 33, 34, 35] (by decide +kernel) (by decide +kernel)
set_option maxRecDepth 20000 in
theorem gX4_box_X4_cells : GoodIn wsX4_box (wsV RX4 70 RX4 yX4_cells wsX4_cells) := goodIn_app (goodIn_of _ (by decide +kernel)) ggX4_box_X4_cells
theorem dX4_box_0 : decode cX4_box 0 = .ok (.aload_n 0, 1) := by decide +kernel
theorem dX4_box_1 : decode cX4_box 1 = .ok (.iconst 0, 1) := by decide +kernel
theorem dX4_box_2 : decode cX4_box 2 = .ok (.putfield 67, 3) := by decide +kernel
theorem dX4_box_5 : decode cX4_box 5 = .ok (.iload_n 1, 1) := by decide +kernel
theorem dX4_box_6 : decode cX4_box 6 = .ok (.i2l, 1) := by decide +kernel
theorem dX4_box_7 : decode cX4_box 7 = .ok (.lconst 1, 1) := by decide +kernel
theorem dX4_box_8 : decode cX4_box 8 = .ok (.ldc2_w 78, 3) := by decide +kernel
theorem dX4_box_11 : decode cX4_box 11 = .ok (.invokestatic 74, 3) := by decide +kernel
theorem dX4_box_14 : decode cX4_box 14 = .ok (.ifCond .eq 37, 3) := by decide +kernel
theorem dX4_box_17 : decode cX4_box 17 = .ok (.iload_n 2, 1) := by decide +kernel
theorem dX4_box_18 : decode cX4_box 18 = .ok (.i2l, 1) := by decide +kernel
theorem dX4_box_19 : decode cX4_box 19 = .ok (.lconst 1, 1) := by decide +kernel
theorem dX4_box_20 : decode cX4_box 20 = .ok (.ldc2_w 78, 3) := by decide +kernel
theorem dX4_box_23 : decode cX4_box 23 = .ok (.invokestatic 74, 3) := by decide +kernel
theorem dX4_box_26 : decode cX4_box 26 = .ok (.ifCond .eq 25, 3) := by decide +kernel
theorem dX4_box_29 : decode cX4_box 29 = .ok (.iload_n 3, 1) := by decide +kernel
theorem dX4_box_30 : decode cX4_box 30 = .ok (.i2l, 1) := by decide +kernel
theorem dX4_box_31 : decode cX4_box 31 = .ok (.lconst 1, 1) := by decide +kernel
theorem dX4_box_32 : decode cX4_box 32 = .ok (.ldc2_w 78, 3) := by decide +kernel
theorem dX4_box_35 : decode cX4_box 35 = .ok (.invokestatic 74, 3) := by decide +kernel
theorem dX4_box_38 : decode cX4_box 38 = .ok (.ifCond .eq 13, 3) := by decide +kernel
theorem dX4_box_41 : decode cX4_box 41 = .ok (.iload_n 1, 1) := by decide +kernel
theorem dX4_box_42 : decode cX4_box 42 = .ok (.iload_n 2, 1) := by decide +kernel
theorem dX4_box_43 : decode cX4_box 43 = .ok (.imul, 1) := by decide +kernel
theorem dX4_box_44 : decode cX4_box 44 = .ok (.iload_n 3, 1) := by decide +kernel
theorem dX4_box_45 : decode cX4_box 45 = .ok (.imul, 1) := by decide +kernel
theorem dX4_box_46 : decode cX4_box 46 = .ok (.bipush 36, 2) := by decide +kernel
theorem dX4_box_48 : decode cX4_box 48 = .ok (.if_icmp .le 5, 3) := by decide +kernel
theorem dX4_box_51 : decode cX4_box 51 = .ok (.iconst (-1), 1) := by decide +kernel
theorem dX4_box_52 : decode cX4_box 52 = .ok (.ireturn, 1) := by decide +kernel
theorem dX4_box_53 : decode cX4_box 53 = .ok (.aload_n 0, 1) := by decide +kernel
theorem dX4_box_54 : decode cX4_box 54 = .ok (.getfield 7, 3) := by decide +kernel
theorem dX4_box_57 : decode cX4_box 57 = .ok (.iconst 0, 1) := by decide +kernel
theorem dX4_box_58 : decode cX4_box 58 = .ok (.iload_n 1, 1) := by decide +kernel
theorem dX4_box_59 : decode cX4_box 59 = .ok (.iastore, 1) := by decide +kernel
theorem dX4_box_60 : decode cX4_box 60 = .ok (.aload_n 0, 1) := by decide +kernel
theorem dX4_box_61 : decode cX4_box 61 = .ok (.getfield 7, 3) := by decide +kernel
theorem dX4_box_64 : decode cX4_box 64 = .ok (.iconst 1, 1) := by decide +kernel
theorem dX4_box_65 : decode cX4_box 65 = .ok (.iload_n 2, 1) := by decide +kernel
theorem dX4_box_66 : decode cX4_box 66 = .ok (.iastore, 1) := by decide +kernel
theorem dX4_box_67 : decode cX4_box 67 = .ok (.aload_n 0, 1) := by decide +kernel
theorem dX4_box_68 : decode cX4_box 68 = .ok (.getfield 7, 3) := by decide +kernel
theorem dX4_box_71 : decode cX4_box 71 = .ok (.iconst 2, 1) := by decide +kernel
theorem dX4_box_72 : decode cX4_box 72 = .ok (.iload_n 3, 1) := by decide +kernel
theorem dX4_box_73 : decode cX4_box 73 = .ok (.iastore, 1) := by decide +kernel
theorem dX4_box_74 : decode cX4_box 74 = .ok (.iconst 0, 1) := by decide +kernel
theorem dX4_box_75 : decode cX4_box 75 = .ok (.istore 4, 2) := by decide +kernel
theorem dX4_box_77 : decode cX4_box 77 = .ok (.iload 4, 2) := by decide +kernel
theorem dX4_box_79 : decode cX4_box 79 = .ok (.bipush 36, 2) := by decide +kernel
theorem dX4_box_81 : decode cX4_box 81 = .ok (.if_icmp .ge 25, 3) := by decide +kernel
theorem dX4_box_84 : decode cX4_box 84 = .ok (.aload_n 0, 1) := by decide +kernel
theorem dX4_box_85 : decode cX4_box 85 = .ok (.getfield 13, 3) := by decide +kernel
theorem dX4_box_88 : decode cX4_box 88 = .ok (.iload 4, 2) := by decide +kernel
theorem dX4_box_90 : decode cX4_box 90 = .ok (.iconst 0, 1) := by decide +kernel
theorem dX4_box_91 : decode cX4_box 91 = .ok (.iastore, 1) := by decide +kernel
theorem dX4_box_92 : decode cX4_box 92 = .ok (.aload_n 0, 1) := by decide +kernel
theorem dX4_box_93 : decode cX4_box 93 = .ok (.getfield 16, 3) := by decide +kernel
theorem dX4_box_96 : decode cX4_box 96 = .ok (.iload 4, 2) := by decide +kernel
theorem dX4_box_98 : decode cX4_box 98 = .ok (.iconst 0, 1) := by decide +kernel
theorem dX4_box_99 : decode cX4_box 99 = .ok (.iastore, 1) := by decide +kernel
theorem dX4_box_100 : decode cX4_box 100 = .ok (.iinc 4 1, 3) := by decide +kernel
theorem dX4_box_103 : decode cX4_box 103 = .ok (.goto (-26), 3) := by decide +kernel
theorem dX4_box_106 : decode cX4_box 106 = .ok (.aload_n 0, 1) := by decide +kernel
theorem dX4_box_107 : decode cX4_box 107 = .ok (.invokevirtual 70, 3) := by decide +kernel
theorem dX4_box_110 : decode cX4_box 110 = .ok (.ireturn, 1) := by decide +kernel
set_option maxRecDepth 20000 in
theorem ggX4_hold_X4_isCell : GoodIn wsX4_hold wsX4_isCell := goodIn_r _ [8, 9, 10, 11, 7, 12, 13, 14, 15, 16, 17, 18, 19, 20, 21, 22, 23, 24, 25, 26, 27, 28, 29, 30, 31, 32, 33, 34, 35, 36, 37, 38] (by decide +kernel) (by decide +kernel)
set_option maxRecDepth 20000 in
theorem gX4_hold_X4_isCell : GoodIn wsX4_hold (wsV RX4 80 RX4 yX4_isCell wsX4_isCell) := goodIn_app (goodIn_of _ (by decide +kernel)) ggX4_hold_X4_isCell
set_option maxRecDepth 20000 in
theorem ggX4_hold_X4_in : GoodIn wsX4_hold wsX4_in := goodIn_r _ [16] (by decide +kernel) (by decide +kernel)
set_option maxRecDepth 20000 in
theorem gX4_hold_X4_in : GoodIn wsX4_hold (va_wsS RX4 74 yX4_in wsX4_in) := goodIn_app (goodIn_of _ (by decide +kernel)) ggX4_hold_X4_in
theorem dX4_hold_0 : decode cX4_hold 0 = .ok (.aload_n 0, 1) := by decide +kernel
theorem dX4_hold_1 : decode cX4_hold 1 = .ok (.iconst 0, 1) := by decide +kernel
theorem dX4_hold_2 : decode cX4_hold 2 = .ok (.putfield 67, 3) := by decide +kernel
theorem dX4_hold_5 : decode cX4_hold 5 = .ok (.aload_n 0, 1) := by decide +kernel
theorem dX4_hold_6 : decode cX4_hold 6 = .ok (.iload_n 1, 1) := by decide +kernel
theorem dX4_hold_7 : decode cX4_hold 7 = .ok (.invokevirtual 80, 3) := by decide +kernel
theorem dX4_hold_10 : decode cX4_hold 10 = .ok (.ifCond .eq 15, 3) := by decide +kernel
theorem dX4_hold_13 : decode cX4_hold 13 = .ok (.iload_n 2, 1) := by decide +kernel
theorem dX4_hold_14 : decode cX4_hold 14 = .ok (.i2l, 1) := by decide +kernel
theorem dX4_hold_15 : decode cX4_hold 15 = .ok (.lconst 0, 1) := by decide +kernel
theorem dX4_hold_16 : decode cX4_hold 16 = .ok (.ldc2_w 84, 3) := by decide +kernel
theorem dX4_hold_19 : decode cX4_hold 19 = .ok (.invokestatic 74, 3) := by decide +kernel
theorem dX4_hold_22 : decode cX4_hold 22 = .ok (.ifCond .ne 5, 3) := by decide +kernel
theorem dX4_hold_25 : decode cX4_hold 25 = .ok (.iconst (-1), 1) := by decide +kernel
theorem dX4_hold_26 : decode cX4_hold 26 = .ok (.ireturn, 1) := by decide +kernel
theorem dX4_hold_27 : decode cX4_hold 27 = .ok (.aload_n 0, 1) := by decide +kernel
theorem dX4_hold_28 : decode cX4_hold 28 = .ok (.getfield 13, 3) := by decide +kernel
theorem dX4_hold_31 : decode cX4_hold 31 = .ok (.iload_n 1, 1) := by decide +kernel
theorem dX4_hold_32 : decode cX4_hold 32 = .ok (.iaload, 1) := by decide +kernel
theorem dX4_hold_33 : decode cX4_hold 33 = .ok (.istore_n 3, 1) := by decide +kernel
theorem dX4_hold_34 : decode cX4_hold 34 = .ok (.aload_n 0, 1) := by decide +kernel
theorem dX4_hold_35 : decode cX4_hold 35 = .ok (.getfield 13, 3) := by decide +kernel
theorem dX4_hold_38 : decode cX4_hold 38 = .ok (.iload_n 1, 1) := by decide +kernel
theorem dX4_hold_39 : decode cX4_hold 39 = .ok (.iload_n 2, 1) := by decide +kernel
theorem dX4_hold_40 : decode cX4_hold 40 = .ok (.iastore, 1) := by decide +kernel
theorem dX4_hold_41 : decode cX4_hold 41 = .ok (.iload_n 3, 1) := by decide +kernel
theorem dX4_hold_42 : decode cX4_hold 42 = .ok (.ireturn, 1) := by decide +kernel
set_option maxRecDepth 20000 in
theorem ggX4_price_X4_isCell : GoodIn wsX4_price wsX4_isCell := goodIn_r _ [10, 11, 12, 13, 9, 14, 15, 16, 17, 18, 19, 20, 21, 22, 23, 24, 25, 26, 27, 28, 29, 30, 31, 32, 33, 34, 35, 36, 37, 38, 39, 40] (by decide +kernel) (by decide +kernel)
set_option maxRecDepth 20000 in
theorem gX4_price_X4_isCell : GoodIn wsX4_price (wsV RX4 80 RX4 yX4_isCell wsX4_isCell) := goodIn_app (goodIn_of _ (by decide +kernel)) ggX4_price_X4_isCell
set_option maxRecDepth 20000 in
theorem ggX4_price_X4_in : GoodIn wsX4_price wsX4_in := goodIn_r _ [18] (by decide +kernel) (by decide +kernel)
set_option maxRecDepth 20000 in
theorem gX4_price_X4_in : GoodIn wsX4_price (va_wsS RX4 74 yX4_in wsX4_in) := goodIn_app (goodIn_of _ (by decide +kernel)) ggX4_price_X4_in
theorem dX4_price_0 : decode cX4_price 0 = .ok (.aload_n 0, 1) := by decide +kernel
theorem dX4_price_1 : decode cX4_price 1 = .ok (.iconst 0, 1) := by decide +kernel
theorem dX4_price_2 : decode cX4_price 2 = .ok (.putfield 67, 3) := by decide +kernel
theorem dX4_price_5 : decode cX4_price 5 = .ok (.aload_n 0, 1) := by decide +kernel
theorem dX4_price_6 : decode cX4_price 6 = .ok (.iload_n 1, 1) := by decide +kernel
theorem dX4_price_7 : decode cX4_price 7 = .ok (.invokevirtual 80, 3) := by decide +kernel
theorem dX4_price_10 : decode cX4_price 10 = .ok (.ifCond .eq 17, 3) := by decide +kernel
theorem dX4_price_13 : decode cX4_price 13 = .ok (.iload_n 2, 1) := by decide +kernel
theorem dX4_price_14 : decode cX4_price 14 = .ok (.i2l, 1) := by decide +kernel
theorem dX4_price_15 : decode cX4_price 15 = .ok (.ldc2_w 86, 3) := by decide +kernel
theorem dX4_price_18 : decode cX4_price 18 = .ok (.ldc2_w 88, 3) := by decide +kernel
theorem dX4_price_21 : decode cX4_price 21 = .ok (.invokestatic 74, 3) := by decide +kernel
theorem dX4_price_24 : decode cX4_price 24 = .ok (.ifCond .ne 6, 3) := by decide +kernel
theorem dX4_price_27 : decode cX4_price 27 = .ok (.ldc 90, 2) := by decide +kernel
theorem dX4_price_29 : decode cX4_price 29 = .ok (.ireturn, 1) := by decide +kernel
theorem dX4_price_30 : decode cX4_price 30 = .ok (.aload_n 0, 1) := by decide +kernel
theorem dX4_price_31 : decode cX4_price 31 = .ok (.getfield 16, 3) := by decide +kernel
theorem dX4_price_34 : decode cX4_price 34 = .ok (.iload_n 1, 1) := by decide +kernel
theorem dX4_price_35 : decode cX4_price 35 = .ok (.iaload, 1) := by decide +kernel
theorem dX4_price_36 : decode cX4_price 36 = .ok (.istore_n 3, 1) := by decide +kernel
theorem dX4_price_37 : decode cX4_price 37 = .ok (.aload_n 0, 1) := by decide +kernel
theorem dX4_price_38 : decode cX4_price 38 = .ok (.getfield 16, 3) := by decide +kernel
theorem dX4_price_41 : decode cX4_price 41 = .ok (.iload_n 1, 1) := by decide +kernel
theorem dX4_price_42 : decode cX4_price 42 = .ok (.iload_n 2, 1) := by decide +kernel
theorem dX4_price_43 : decode cX4_price 43 = .ok (.iastore, 1) := by decide +kernel
theorem dX4_price_44 : decode cX4_price 44 = .ok (.iload_n 3, 1) := by decide +kernel
theorem dX4_price_45 : decode cX4_price 45 = .ok (.ireturn, 1) := by decide +kernel
set_option maxRecDepth 20000 in
theorem ggX4_set_X4_in : GoodIn wsX4_set wsX4_in := goodIn_r _ [9] (by decide +kernel) (by decide +kernel)
set_option maxRecDepth 20000 in
theorem gX4_set_X4_in : GoodIn wsX4_set (va_wsS RX4 74 yX4_in wsX4_in) := goodIn_app (goodIn_of _ (by decide +kernel)) ggX4_set_X4_in
theorem dX4_set_0 : decode cX4_set 0 = .ok (.aload_n 0, 1) := by decide +kernel
theorem dX4_set_1 : decode cX4_set 1 = .ok (.iconst 0, 1) := by decide +kernel
theorem dX4_set_2 : decode cX4_set 2 = .ok (.putfield 67, 3) := by decide +kernel
theorem dX4_set_5 : decode cX4_set 5 = .ok (.iload_n 1, 1) := by decide +kernel
theorem dX4_set_6 : decode cX4_set 6 = .ok (.i2l, 1) := by decide +kernel
theorem dX4_set_7 : decode cX4_set 7 = .ok (.lconst 0, 1) := by decide +kernel
theorem dX4_set_8 : decode cX4_set 8 = .ok (.ldc2_w 91, 3) := by decide +kernel
theorem dX4_set_11 : decode cX4_set 11 = .ok (.invokestatic 74, 3) := by decide +kernel
theorem dX4_set_14 : decode cX4_set 14 = .ok (.ifCond .eq 36, 3) := by decide +kernel
theorem dX4_set_17 : decode cX4_set 17 = .ok (.iload_n 2, 1) := by decide +kernel
theorem dX4_set_18 : decode cX4_set 18 = .ok (.i2l, 1) := by decide +kernel
theorem dX4_set_19 : decode cX4_set 19 = .ok (.iload_n 1, 1) := by decide +kernel
theorem dX4_set_20 : decode cX4_set 20 = .ok (.iconst 5, 1) := by decide +kernel
theorem dX4_set_21 : decode cX4_set 21 = .ok (.if_icmp .ne 7, 3) := by decide +kernel
theorem dX4_set_24 : decode cX4_set 24 = .ok (.lconst 1, 1) := by decide +kernel
theorem dX4_set_25 : decode cX4_set 25 = .ok (.goto 4, 3) := by decide +kernel
theorem dX4_set_28 : decode cX4_set 28 = .ok (.lconst 0, 1) := by decide +kernel
theorem dX4_set_29 : decode cX4_set 29 = .ok (.iload_n 1, 1) := by decide +kernel
theorem dX4_set_30 : decode cX4_set 30 = .ok (.bipush 6, 2) := by decide +kernel
theorem dX4_set_32 : decode cX4_set 32 = .ok (.if_icmp .ne 9, 3) := by decide +kernel
theorem dX4_set_35 : decode cX4_set 35 = .ok (.ldc2_w 84, 3) := by decide +kernel
theorem dX4_set_38 : decode cX4_set 38 = .ok (.goto 6, 3) := by decide +kernel
theorem dX4_set_41 : decode cX4_set 41 = .ok (.ldc2_w 93, 3) := by decide +kernel
theorem dX4_set_44 : decode cX4_set 44 = .ok (.invokestatic 74, 3) := by decide +kernel
theorem dX4_set_47 : decode cX4_set 47 = .ok (.ifCond .ne 5, 3) := by decide +kernel
theorem dX4_set_50 : decode cX4_set 50 = .ok (.iconst (-1), 1) := by decide +kernel
theorem dX4_set_51 : decode cX4_set 51 = .ok (.ireturn, 1) := by decide +kernel
theorem dX4_set_52 : decode cX4_set 52 = .ok (.aload_n 0, 1) := by decide +kernel
theorem dX4_set_53 : decode cX4_set 53 = .ok (.getfield 19, 3) := by decide +kernel
theorem dX4_set_56 : decode cX4_set 56 = .ok (.iload_n 1, 1) := by decide +kernel
theorem dX4_set_57 : decode cX4_set 57 = .ok (.iaload, 1) := by decide +kernel
theorem dX4_set_58 : decode cX4_set 58 = .ok (.istore_n 3, 1) := by decide +kernel
theorem dX4_set_59 : decode cX4_set 59 = .ok (.aload_n 0, 1) := by decide +kernel
theorem dX4_set_60 : decode cX4_set 60 = .ok (.getfield 19, 3) := by decide +kernel
theorem dX4_set_63 : decode cX4_set 63 = .ok (.iload_n 1, 1) := by decide +kernel
theorem dX4_set_64 : decode cX4_set 64 = .ok (.iload_n 2, 1) := by decide +kernel
theorem dX4_set_65 : decode cX4_set 65 = .ok (.iastore, 1) := by decide +kernel
theorem dX4_set_66 : decode cX4_set 66 = .ok (.iload_n 3, 1) := by decide +kernel
theorem dX4_set_67 : decode cX4_set 67 = .ok (.ireturn, 1) := by decide +kernel
theorem dX4_faceCost_0 : decode cX4_faceCost 0 = .ok (.aload_n 0, 1) := by decide +kernel
theorem dX4_faceCost_1 : decode cX4_faceCost 1 = .ok (.getfield 19, 3) := by decide +kernel
theorem dX4_faceCost_4 : decode cX4_faceCost 4 = .ok (.iload_n 2, 1) := by decide +kernel
theorem dX4_faceCost_5 : decode cX4_faceCost 5 = .ok (.iaload, 1) := by decide +kernel
theorem dX4_faceCost_6 : decode cX4_faceCost 6 = .ok (.istore 4, 2) := by decide +kernel
theorem dX4_faceCost_8 : decode cX4_faceCost 8 = .ok (.iload 4, 2) := by decide +kernel
theorem dX4_faceCost_10 : decode cX4_faceCost 10 = .ok (.iload_n 1, 1) := by decide +kernel
theorem dX4_faceCost_11 : decode cX4_faceCost 11 = .ok (.ifCond .le 19, 3) := by decide +kernel
theorem dX4_faceCost_14 : decode cX4_faceCost 14 = .ok (.iload_n 3, 1) := by decide +kernel
theorem dX4_faceCost_15 : decode cX4_faceCost 15 = .ok (.iconst 2, 1) := by decide +kernel
theorem dX4_faceCost_16 : decode cX4_faceCost 16 = .ok (.irem, 1) := by decide +kernel
theorem dX4_faceCost_17 : decode cX4_faceCost 17 = .ok (.iconst 1, 1) := by decide +kernel
theorem dX4_faceCost_18 : decode cX4_faceCost 18 = .ok (.if_icmp .ne 12, 3) := by decide +kernel
theorem dX4_faceCost_21 : decode cX4_faceCost 21 = .ok (.aload_n 0, 1) := by decide +kernel
theorem dX4_faceCost_22 : decode cX4_faceCost 22 = .ok (.getfield 19, 3) := by decide +kernel
theorem dX4_faceCost_25 : decode cX4_faceCost 25 = .ok (.iconst 4, 1) := by decide +kernel
theorem dX4_faceCost_26 : decode cX4_faceCost 26 = .ok (.iaload, 1) := by decide +kernel
theorem dX4_faceCost_27 : decode cX4_faceCost 27 = .ok (.goto 4, 3) := by decide +kernel
theorem dX4_faceCost_30 : decode cX4_faceCost 30 = .ok (.iconst 0, 1) := by decide +kernel
theorem dX4_faceCost_31 : decode cX4_faceCost 31 = .ok (.iadd, 1) := by decide +kernel
theorem dX4_faceCost_32 : decode cX4_faceCost 32 = .ok (.istore 4, 2) := by decide +kernel
theorem dX4_faceCost_34 : decode cX4_faceCost 34 = .ok (.iload_n 1, 1) := by decide +kernel
theorem dX4_faceCost_35 : decode cX4_faceCost 35 = .ok (.iconst 2, 1) := by decide +kernel
theorem dX4_faceCost_36 : decode cX4_faceCost 36 = .ok (.if_icmp .ne 23, 3) := by decide +kernel
theorem dX4_faceCost_39 : decode cX4_faceCost 39 = .ok (.iload 4, 2) := by decide +kernel
theorem dX4_faceCost_41 : decode cX4_faceCost 41 = .ok (.aload_n 0, 1) := by decide +kernel
theorem dX4_faceCost_42 : decode cX4_faceCost 42 = .ok (.getfield 19, 3) := by decide +kernel
theorem dX4_faceCost_45 : decode cX4_faceCost 45 = .ok (.iconst 5, 1) := by decide +kernel
theorem dX4_faceCost_46 : decode cX4_faceCost 46 = .ok (.iaload, 1) := by decide +kernel
theorem dX4_faceCost_47 : decode cX4_faceCost 47 = .ok (.if_icmp .le 12, 3) := by decide +kernel
theorem dX4_faceCost_50 : decode cX4_faceCost 50 = .ok (.aload_n 0, 1) := by decide +kernel
theorem dX4_faceCost_51 : decode cX4_faceCost 51 = .ok (.getfield 19, 3) := by decide +kernel
theorem dX4_faceCost_54 : decode cX4_faceCost 54 = .ok (.iconst 5, 1) := by decide +kernel
theorem dX4_faceCost_55 : decode cX4_faceCost 55 = .ok (.iaload, 1) := by decide +kernel
theorem dX4_faceCost_56 : decode cX4_faceCost 56 = .ok (.goto 5, 3) := by decide +kernel
theorem dX4_faceCost_59 : decode cX4_faceCost 59 = .ok (.iload 4, 2) := by decide +kernel
theorem dX4_faceCost_61 : decode cX4_faceCost 61 = .ok (.ireturn, 1) := by decide +kernel
set_option maxRecDepth 20000 in
theorem ggX4_cost_X4_in : GoodIn wsX4_cost wsX4_in := goodIn_r _ [9] (by decide +kernel) (by decide +kernel)
set_option maxRecDepth 20000 in
theorem gX4_cost_X4_in : GoodIn wsX4_cost (va_wsS RX4 74 yX4_in wsX4_in) := goodIn_app (goodIn_of _ (by decide +kernel)) ggX4_cost_X4_in
set_option maxRecDepth 20000 in
theorem ggX4_cost_X4_isCell : GoodIn wsX4_cost wsX4_isCell := goodIn_r _ [13, 14, 15, 16, 8, 17, 18, 6, 7, 9, 32, 33, 34, 35, 36, 37, 38, 39, 40, 41, 42, 43, 44, 45, 46, 47, 48, 49, 50, 51, 52, 53] (by decide +kernel) (by decide +kernel)
set_option maxRecDepth 20000 in
theorem gX4_cost_X4_isCell : GoodIn wsX4_cost (wsV RX4 80 RX4 yX4_isCell wsX4_isCell) := goodIn_app (goodIn_of _ (by decide +kernel)) ggX4_cost_X4_isCell
set_option maxRecDepth 20000 in
theorem ggX4_cost_X4_stride : GoodIn wsX4_cost wsX4_stride := goodIn_r _ [22, 18, 32, 33, 34, 35, 36, 37, 38, 39, 40, 41, 42, 43, 44, 45, 46, 47, 48, 49, 50, 51, 52, 53] (by decide +kernel) (by decide +kernel)
set_option maxRecDepth 20000 in
theorem gX4_cost_X4_stride : GoodIn wsX4_cost (wsV RX4 95 RX4 yX4_stride wsX4_stride) := goodIn_app (goodIn_of _ (by decide +kernel)) ggX4_cost_X4_stride
set_option maxRecDepth 20000 in
theorem ggX4_cost_X4_placeOf : GoodIn wsX4_cost wsX4_placeOf := goodIn_r _ [26, 18, 32, 33, 34, 35, 36, 37, 38, 39, 40, 41, 42, 43, 44, 45, 46, 47, 48, 49, 50, 51, 52, 53] (by decide +kernel) (by decide +kernel)
set_option maxRecDepth 20000 in
theorem gX4_cost_X4_placeOf : GoodIn wsX4_cost (wsV RX4 99 RX4 yX4_placeOf wsX4_placeOf) := goodIn_app (goodIn_of _ (by decide +kernel)) ggX4_cost_X4_placeOf
set_option maxRecDepth 20000 in
theorem ggX4_cost_X4_faceCost : GoodIn wsX4_cost wsX4_faceCost := goodIn_r _ [30, 31, 32, 33, 34, 35, 36, 37, 38, 39, 40, 41, 42, 43, 44, 45, 46, 47, 48, 49, 50, 51, 52, 53] (by decide +kernel) (by decide +kernel)
set_option maxRecDepth 20000 in
theorem gX4_cost_X4_faceCost : GoodIn wsX4_cost (wsV RX4 111 RX4 yX4_faceCost wsX4_faceCost) := goodIn_app (goodIn_of _ (by decide +kernel)) ggX4_cost_X4_faceCost
theorem dX4_cost_0 : decode cX4_cost 0 = .ok (.aload_n 0, 1) := by decide +kernel
theorem dX4_cost_1 : decode cX4_cost 1 = .ok (.iconst 0, 1) := by decide +kernel
theorem dX4_cost_2 : decode cX4_cost 2 = .ok (.putfield 67, 3) := by decide +kernel
theorem dX4_cost_5 : decode cX4_cost 5 = .ok (.iload_n 1, 1) := by decide +kernel
theorem dX4_cost_6 : decode cX4_cost 6 = .ok (.i2l, 1) := by decide +kernel
theorem dX4_cost_7 : decode cX4_cost 7 = .ok (.lconst 0, 1) := by decide +kernel
theorem dX4_cost_8 : decode cX4_cost 8 = .ok (.ldc2_w 84, 3) := by decide +kernel
theorem dX4_cost_11 : decode cX4_cost 11 = .ok (.invokestatic 74, 3) := by decide +kernel
theorem dX4_cost_14 : decode cX4_cost 14 = .ok (.ifCond .eq 19, 3) := by decide +kernel
theorem dX4_cost_17 : decode cX4_cost 17 = .ok (.aload_n 0, 1) := by decide +kernel
theorem dX4_cost_18 : decode cX4_cost 18 = .ok (.iload_n 2, 1) := by decide +kernel
theorem dX4_cost_19 : decode cX4_cost 19 = .ok (.invokevirtual 80, 3) := by decide +kernel
theorem dX4_cost_22 : decode cX4_cost 22 = .ok (.ifCond .eq 11, 3) := by decide +kernel
theorem dX4_cost_25 : decode cX4_cost 25 = .ok (.aload_n 0, 1) := by decide +kernel
theorem dX4_cost_26 : decode cX4_cost 26 = .ok (.iload_n 3, 1) := by decide +kernel
theorem dX4_cost_27 : decode cX4_cost 27 = .ok (.invokevirtual 80, 3) := by decide +kernel
theorem dX4_cost_30 : decode cX4_cost 30 = .ok (.ifCond .ne 5, 3) := by decide +kernel
theorem dX4_cost_33 : decode cX4_cost 33 = .ok (.iconst (-1), 1) := by decide +kernel
theorem dX4_cost_34 : decode cX4_cost 34 = .ok (.ireturn, 1) := by decide +kernel
theorem dX4_cost_35 : decode cX4_cost 35 = .ok (.iload_n 2, 1) := by decide +kernel
theorem dX4_cost_36 : decode cX4_cost 36 = .ok (.iload_n 3, 1) := by decide +kernel
theorem dX4_cost_37 : decode cX4_cost 37 = .ok (.if_icmp .ge 7, 3) := by decide +kernel
theorem dX4_cost_40 : decode cX4_cost 40 = .ok (.iload_n 2, 1) := by decide +kernel
theorem dX4_cost_41 : decode cX4_cost 41 = .ok (.goto 4, 3) := by decide +kernel
theorem dX4_cost_44 : decode cX4_cost 44 = .ok (.iload_n 3, 1) := by decide +kernel
theorem dX4_cost_45 : decode cX4_cost 45 = .ok (.istore 4, 2) := by decide +kernel
theorem dX4_cost_47 : decode cX4_cost 47 = .ok (.iload_n 2, 1) := by decide +kernel
theorem dX4_cost_48 : decode cX4_cost 48 = .ok (.iload_n 3, 1) := by decide +kernel
theorem dX4_cost_49 : decode cX4_cost 49 = .ok (.if_icmp .ge 7, 3) := by decide +kernel
theorem dX4_cost_52 : decode cX4_cost 52 = .ok (.iload_n 3, 1) := by decide +kernel
theorem dX4_cost_53 : decode cX4_cost 53 = .ok (.goto 4, 3) := by decide +kernel
theorem dX4_cost_56 : decode cX4_cost 56 = .ok (.iload_n 2, 1) := by decide +kernel
theorem dX4_cost_57 : decode cX4_cost 57 = .ok (.istore 5, 2) := by decide +kernel
theorem dX4_cost_59 : decode cX4_cost 59 = .ok (.iconst 0, 1) := by decide +kernel
theorem dX4_cost_60 : decode cX4_cost 60 = .ok (.istore 6, 2) := by decide +kernel
theorem dX4_cost_62 : decode cX4_cost 62 = .ok (.iload 6, 2) := by decide +kernel
theorem dX4_cost_64 : decode cX4_cost 64 = .ok (.iconst 3, 1) := by decide +kernel
theorem dX4_cost_65 : decode cX4_cost 65 = .ok (.if_icmp .ge 91, 3) := by decide +kernel
theorem dX4_cost_68 : decode cX4_cost 68 = .ok (.iload 5, 2) := by decide +kernel
theorem dX4_cost_70 : decode cX4_cost 70 = .ok (.iload 4, 2) := by decide +kernel
theorem dX4_cost_72 : decode cX4_cost 72 = .ok (.isub, 1) := by decide +kernel
theorem dX4_cost_73 : decode cX4_cost 73 = .ok (.aload_n 0, 1) := by decide +kernel
theorem dX4_cost_74 : decode cX4_cost 74 = .ok (.iload 6, 2) := by decide +kernel
theorem dX4_cost_76 : decode cX4_cost 76 = .ok (.invokevirtual 95, 3) := by decide +kernel
theorem dX4_cost_79 : decode cX4_cost 79 = .ok (.if_icmp .ne 71, 3) := by decide +kernel
theorem dX4_cost_82 : decode cX4_cost 82 = .ok (.aload_n 0, 1) := by decide +kernel
theorem dX4_cost_83 : decode cX4_cost 83 = .ok (.iload 4, 2) := by decide +kernel
theorem dX4_cost_85 : decode cX4_cost 85 = .ok (.iload 6, 2) := by decide +kernel
theorem dX4_cost_87 : decode cX4_cost 87 = .ok (.invokevirtual 99, 3) := by decide +kernel
theorem dX4_cost_90 : decode cX4_cost 90 = .ok (.iconst 1, 1) := by decide +kernel
theorem dX4_cost_91 : decode cX4_cost 91 = .ok (.iadd, 1) := by decide +kernel
theorem dX4_cost_92 : decode cX4_cost 92 = .ok (.aload_n 0, 1) := by decide +kernel
theorem dX4_cost_93 : decode cX4_cost 93 = .ok (.iload 5, 2) := by decide +kernel
theorem dX4_cost_95 : decode cX4_cost 95 = .ok (.iload 6, 2) := by decide +kernel
theorem dX4_cost_97 : decode cX4_cost 97 = .ok (.invokevirtual 99, 3) := by decide +kernel
theorem dX4_cost_100 : decode cX4_cost 100 = .ok (.if_icmp .ne 50, 3) := by decide +kernel
theorem dX4_cost_103 : decode cX4_cost 103 = .ok (.aload_n 0, 1) := by decide +kernel
theorem dX4_cost_104 : decode cX4_cost 104 = .ok (.dup, 1) := by decide +kernel
theorem dX4_cost_105 : decode cX4_cost 105 = .ok (.getfield 103, 3) := by decide +kernel
theorem dX4_cost_108 : decode cX4_cost 108 = .ok (.iload_n 1, 1) := by decide +kernel
theorem dX4_cost_109 : decode cX4_cost 109 = .ok (.ifCond .ne 7, 3) := by decide +kernel
theorem dX4_cost_112 : decode cX4_cost 112 = .ok (.lconst 1, 1) := by decide +kernel
theorem dX4_cost_113 : decode cX4_cost 113 = .ok (.goto 17, 3) := by decide +kernel
theorem dX4_cost_116 : decode cX4_cost 116 = .ok (.iload_n 1, 1) := by decide +kernel
theorem dX4_cost_117 : decode cX4_cost 117 = .ok (.iconst 1, 1) := by decide +kernel
theorem dX4_cost_118 : decode cX4_cost 118 = .ok (.if_icmp .ne 9, 3) := by decide +kernel
theorem dX4_cost_121 : decode cX4_cost 121 = .ok (.ldc2_w 107, 3) := by decide +kernel
theorem dX4_cost_124 : decode cX4_cost 124 = .ok (.goto 6, 3) := by decide +kernel
theorem dX4_cost_127 : decode cX4_cost 127 = .ok (.ldc2_w 109, 3) := by decide +kernel
theorem dX4_cost_130 : decode cX4_cost 130 = .ok (.ladd, 1) := by decide +kernel
theorem dX4_cost_131 : decode cX4_cost 131 = .ok (.putfield 103, 3) := by decide +kernel
theorem dX4_cost_134 : decode cX4_cost 134 = .ok (.aload_n 0, 1) := by decide +kernel
theorem dX4_cost_135 : decode cX4_cost 135 = .ok (.iload_n 1, 1) := by decide +kernel
theorem dX4_cost_136 : decode cX4_cost 136 = .ok (.iload 6, 2) := by decide +kernel
theorem dX4_cost_138 : decode cX4_cost 138 = .ok (.aload_n 0, 1) := by decide +kernel
theorem dX4_cost_139 : decode cX4_cost 139 = .ok (.iload 4, 2) := by decide +kernel
theorem dX4_cost_141 : decode cX4_cost 141 = .ok (.iload 6, 2) := by decide +kernel
theorem dX4_cost_143 : decode cX4_cost 143 = .ok (.invokevirtual 99, 3) := by decide +kernel
theorem dX4_cost_146 : decode cX4_cost 146 = .ok (.invokevirtual 111, 3) := by decide +kernel
theorem dX4_cost_149 : decode cX4_cost 149 = .ok (.ireturn, 1) := by decide +kernel
theorem dX4_cost_150 : decode cX4_cost 150 = .ok (.iinc 6 1, 3) := by decide +kernel
theorem dX4_cost_153 : decode cX4_cost 153 = .ok (.goto (-91), 3) := by decide +kernel
theorem dX4_cost_156 : decode cX4_cost 156 = .ok (.iconst (-1), 1) := by decide +kernel
theorem dX4_cost_157 : decode cX4_cost 157 = .ok (.ireturn, 1) := by decide +kernel
set_option maxRecDepth 20000 in
theorem ggX4_isSet_X4_cells : GoodIn wsX4_isSet wsX4_cells := goodIn_r _ [5, 6, 7, 8, 9, 10, 11, 12, 13, 14, 15, 16, 17, 18, 19, 20, 21, 22, 23, 24, 25, 26, 27, 28] (by decide +kernel) (by decide +kernel)
set_option maxRecDepth 20000 in
theorem gX4_isSet_X4_cells : GoodIn wsX4_isSet (wsV RX4 70 RX4 yX4_cells wsX4_cells) := goodIn_app (goodIn_of _ (by decide +kernel)) ggX4_isSet_X4_cells
theorem dX4_isSet_0 : decode cX4_isSet 0 = .ok (.lload_n 1, 1) := by decide +kernel
theorem dX4_isSet_1 : decode cX4_isSet 1 = .ok (.lconst 0, 1) := by decide +kernel
theorem dX4_isSet_2 : decode cX4_isSet 2 = .ok (.lcmp, 1) := by decide +kernel
theorem dX4_isSet_3 : decode cX4_isSet 3 = .ok (.ifCond .lt 18, 3) := by decide +kernel
theorem dX4_isSet_6 : decode cX4_isSet 6 = .ok (.lload_n 1, 1) := by decide +kernel
theorem dX4_isSet_7 : decode cX4_isSet 7 = .ok (.aload_n 0, 1) := by decide +kernel
theorem dX4_isSet_8 : decode cX4_isSet 8 = .ok (.invokevirtual 70, 3) := by decide +kernel
theorem dX4_isSet_11 : decode cX4_isSet 11 = .ok (.lshr, 1) := by decide +kernel
theorem dX4_isSet_12 : decode cX4_isSet 12 = .ok (.lconst 0, 1) := by decide +kernel
theorem dX4_isSet_13 : decode cX4_isSet 13 = .ok (.lcmp, 1) := by decide +kernel
theorem dX4_isSet_14 : decode cX4_isSet 14 = .ok (.ifCond .ne 7, 3) := by decide +kernel
theorem dX4_isSet_17 : decode cX4_isSet 17 = .ok (.iconst 1, 1) := by decide +kernel
theorem dX4_isSet_18 : decode cX4_isSet 18 = .ok (.goto 4, 3) := by decide +kernel
theorem dX4_isSet_21 : decode cX4_isSet 21 = .ok (.iconst 0, 1) := by decide +kernel
theorem dX4_isSet_22 : decode cX4_isSet 22 = .ok (.ireturn, 1) := by decide +kernel
set_option maxRecDepth 20000 in
theorem ggX4_outsides_X4_placeOf : GoodIn wsX4_outsides wsX4_placeOf := goodIn_r _ [6, 1, 7, 8, 9, 10, 11, 12, 13, 14, 15, 16, 17, 18, 19, 20, 21, 22, 23, 24, 25, 26, 27, 28] (by decide +kernel) (by decide +kernel)
set_option maxRecDepth 20000 in
theorem gX4_outsides_X4_placeOf : GoodIn wsX4_outsides (wsV RX4 99 RX4 yX4_placeOf wsX4_placeOf) := goodIn_app (goodIn_of _ (by decide +kernel)) ggX4_outsides_X4_placeOf
theorem dX4_outsides_0 : decode cX4_outsides 0 = .ok (.iconst 0, 1) := by decide +kernel
theorem dX4_outsides_1 : decode cX4_outsides 1 = .ok (.istore_n 2, 1) := by decide +kernel
theorem dX4_outsides_2 : decode cX4_outsides 2 = .ok (.iconst 0, 1) := by decide +kernel
theorem dX4_outsides_3 : decode cX4_outsides 3 = .ok (.istore_n 3, 1) := by decide +kernel
theorem dX4_outsides_4 : decode cX4_outsides 4 = .ok (.iload_n 3, 1) := by decide +kernel
theorem dX4_outsides_5 : decode cX4_outsides 5 = .ok (.iconst 3, 1) := by decide +kernel
theorem dX4_outsides_6 : decode cX4_outsides 6 = .ok (.if_icmp .ge 51, 3) := by decide +kernel
theorem dX4_outsides_9 : decode cX4_outsides 9 = .ok (.iload_n 2, 1) := by decide +kernel
theorem dX4_outsides_10 : decode cX4_outsides 10 = .ok (.aload_n 0, 1) := by decide +kernel
theorem dX4_outsides_11 : decode cX4_outsides 11 = .ok (.iload_n 1, 1) := by decide +kernel
theorem dX4_outsides_12 : decode cX4_outsides 12 = .ok (.iload_n 3, 1) := by decide +kernel
theorem dX4_outsides_13 : decode cX4_outsides 13 = .ok (.invokevirtual 99, 3) := by decide +kernel
theorem dX4_outsides_16 : decode cX4_outsides 16 = .ok (.ifCond .ne 7, 3) := by decide +kernel
theorem dX4_outsides_19 : decode cX4_outsides 19 = .ok (.iconst 1, 1) := by decide +kernel
theorem dX4_outsides_20 : decode cX4_outsides 20 = .ok (.goto 4, 3) := by decide +kernel
theorem dX4_outsides_23 : decode cX4_outsides 23 = .ok (.iconst 0, 1) := by decide +kernel
theorem dX4_outsides_24 : decode cX4_outsides 24 = .ok (.iadd, 1) := by decide +kernel
theorem dX4_outsides_25 : decode cX4_outsides 25 = .ok (.istore_n 2, 1) := by decide +kernel
theorem dX4_outsides_26 : decode cX4_outsides 26 = .ok (.iload_n 2, 1) := by decide +kernel
theorem dX4_outsides_27 : decode cX4_outsides 27 = .ok (.aload_n 0, 1) := by decide +kernel
theorem dX4_outsides_28 : decode cX4_outsides 28 = .ok (.iload_n 1, 1) := by decide +kernel
theorem dX4_outsides_29 : decode cX4_outsides 29 = .ok (.iload_n 3, 1) := by decide +kernel
theorem dX4_outsides_30 : decode cX4_outsides 30 = .ok (.invokevirtual 99, 3) := by decide +kernel
theorem dX4_outsides_33 : decode cX4_outsides 33 = .ok (.aload_n 0, 1) := by decide +kernel
theorem dX4_outsides_34 : decode cX4_outsides 34 = .ok (.getfield 7, 3) := by decide +kernel
theorem dX4_outsides_37 : decode cX4_outsides 37 = .ok (.iload_n 3, 1) := by decide +kernel
theorem dX4_outsides_38 : decode cX4_outsides 38 = .ok (.iaload, 1) := by decide +kernel
theorem dX4_outsides_39 : decode cX4_outsides 39 = .ok (.iconst 1, 1) := by decide +kernel
theorem dX4_outsides_40 : decode cX4_outsides 40 = .ok (.isub, 1) := by decide +kernel
theorem dX4_outsides_41 : decode cX4_outsides 41 = .ok (.if_icmp .ne 7, 3) := by decide +kernel
theorem dX4_outsides_44 : decode cX4_outsides 44 = .ok (.iconst 1, 1) := by decide +kernel
theorem dX4_outsides_45 : decode cX4_outsides 45 = .ok (.goto 4, 3) := by decide +kernel
theorem dX4_outsides_48 : decode cX4_outsides 48 = .ok (.iconst 0, 1) := by decide +kernel
theorem dX4_outsides_49 : decode cX4_outsides 49 = .ok (.iadd, 1) := by decide +kernel
theorem dX4_outsides_50 : decode cX4_outsides 50 = .ok (.istore_n 2, 1) := by decide +kernel
theorem dX4_outsides_51 : decode cX4_outsides 51 = .ok (.iinc 3 1, 3) := by decide +kernel
theorem dX4_outsides_54 : decode cX4_outsides 54 = .ok (.goto (-50), 3) := by decide +kernel
theorem dX4_outsides_57 : decode cX4_outsides 57 = .ok (.iload_n 2, 1) := by decide +kernel
theorem dX4_outsides_58 : decode cX4_outsides 58 = .ok (.ireturn, 1) := by decide +kernel
set_option maxRecDepth 20000 in
theorem ggX4_skinOf_X4_cells : GoodIn wsX4_skinOf wsX4_cells := goodIn_r _ [7, 2, 24, 25, 26, 27, 28, 29, 30, 31, 32, 33, 34, 35, 36, 37, 38, 39, 40, 41, 42, 43, 44, 45] (by decide +kernel) (by decide +kernel)
set_option maxRecDepth 20000 in
theorem gX4_skinOf_X4_cells : GoodIn wsX4_skinOf (wsV RX4 70 RX4 yX4_cells wsX4_cells) := goodIn_app (goodIn_of _ (by decide +kernel)) ggX4_skinOf_X4_cells
set_option maxRecDepth 20000 in
theorem ggX4_skinOf_X4_outsides : GoodIn wsX4_skinOf wsX4_outsides := goodIn_r _ [11, 2, 12, 13, 14, 6, 15, 24, 25, 26, 27, 28, 29, 30, 31, 32, 33, 34, 35, 36, 37, 38, 39, 40, 41, 42, 43, 44, 45] (by decide +kernel) (by decide +kernel)
set_option maxRecDepth 20000 in
theorem gX4_skinOf_X4_outsides : GoodIn wsX4_skinOf (wsV RX4 115 RX4 yX4_outsides wsX4_outsides) := goodIn_app (goodIn_of _ (by decide +kernel)) ggX4_skinOf_X4_outsides
set_option maxRecDepth 20000 in
theorem ggX4_skinOf_X4_placeOf : GoodIn wsX4_skinOf wsX4_placeOf := goodIn_r _ [15, 2, 24, 25, 26, 27, 28, 29, 30, 31, 32, 33, 34, 35, 36, 37, 38, 39, 40, 41, 42, 43, 44, 45] (by decide +kernel) (by decide +kernel)
set_option maxRecDepth 20000 in
theorem gX4_skinOf_X4_placeOf : GoodIn wsX4_skinOf (wsV RX4 99 RX4 yX4_placeOf wsX4_placeOf) := goodIn_app (goodIn_of _ (by decide +kernel)) ggX4_skinOf_X4_placeOf
set_option maxRecDepth 20000 in
theorem ggX4_skinOf_X4_stride : GoodIn wsX4_skinOf wsX4_stride := goodIn_r _ [19, 2, 24, 25, 26, 27, 28, 29, 30, 31, 32, 33, 34, 35, 36, 37, 38, 39, 40, 41, 42, 43, 44, 45] (by decide +kernel) (by decide +kernel)
set_option maxRecDepth 20000 in
theorem gX4_skinOf_X4_stride : GoodIn wsX4_skinOf (wsV RX4 95 RX4 yX4_stride wsX4_stride) := goodIn_app (goodIn_of _ (by decide +kernel)) ggX4_skinOf_X4_stride
set_option maxRecDepth 20000 in
theorem ggX4_skinOf_X4_faceCost : GoodIn wsX4_skinOf wsX4_faceCost := goodIn_r _ [23, 1, 24, 25, 26, 27, 28, 29, 30, 31, 32, 33, 34, 35, 36, 37, 38, 39, 40, 41, 42, 43, 44, 45] (by decide +kernel) (by decide +kernel)
set_option maxRecDepth 20000 in
theorem gX4_skinOf_X4_faceCost : GoodIn wsX4_skinOf (wsV RX4 111 RX4 yX4_faceCost wsX4_faceCost) := goodIn_app (goodIn_of _ (by decide +kernel)) ggX4_skinOf_X4_faceCost
theorem dX4_skinOf_0 : decode cX4_skinOf 0 = .ok (.lconst 0, 1) := by decide +kernel
theorem dX4_skinOf_1 : decode cX4_skinOf 1 = .ok (.lstore_n 3, 1) := by decide +kernel
theorem dX4_skinOf_2 : decode cX4_skinOf 2 = .ok (.iconst 0, 1) := by decide +kernel
theorem dX4_skinOf_3 : decode cX4_skinOf 3 = .ok (.istore 5, 2) := by decide +kernel
theorem dX4_skinOf_5 : decode cX4_skinOf 5 = .ok (.iload 5, 2) := by decide +kernel
theorem dX4_skinOf_7 : decode cX4_skinOf 7 = .ok (.aload_n 0, 1) := by decide +kernel
theorem dX4_skinOf_8 : decode cX4_skinOf 8 = .ok (.invokevirtual 70, 3) := by decide +kernel
theorem dX4_skinOf_11 : decode cX4_skinOf 11 = .ok (.if_icmp .ge 149, 3) := by decide +kernel
theorem dX4_skinOf_14 : decode cX4_skinOf 14 = .ok (.lload_n 1, 1) := by decide +kernel
theorem dX4_skinOf_15 : decode cX4_skinOf 15 = .ok (.iload 5, 2) := by decide +kernel
theorem dX4_skinOf_17 : decode cX4_skinOf 17 = .ok (.lshr, 1) := by decide +kernel
theorem dX4_skinOf_18 : decode cX4_skinOf 18 = .ok (.lconst 1, 1) := by decide +kernel
theorem dX4_skinOf_19 : decode cX4_skinOf 19 = .ok (.land, 1) := by decide +kernel
theorem dX4_skinOf_20 : decode cX4_skinOf 20 = .ok (.lconst 1, 1) := by decide +kernel
theorem dX4_skinOf_21 : decode cX4_skinOf 21 = .ok (.lcmp, 1) := by decide +kernel
theorem dX4_skinOf_22 : decode cX4_skinOf 22 = .ok (.ifCond .ne 7, 3) := by decide +kernel
theorem dX4_skinOf_25 : decode cX4_skinOf 25 = .ok (.iconst 1, 1) := by decide +kernel
theorem dX4_skinOf_26 : decode cX4_skinOf 26 = .ok (.goto 4, 3) := by decide +kernel
theorem dX4_skinOf_29 : decode cX4_skinOf 29 = .ok (.iconst 0, 1) := by decide +kernel
theorem dX4_skinOf_30 : decode cX4_skinOf 30 = .ok (.istore 6, 2) := by decide +kernel
theorem dX4_skinOf_32 : decode cX4_skinOf 32 = .ok (.lload_n 3, 1) := by decide +kernel
theorem dX4_skinOf_33 : decode cX4_skinOf 33 = .ok (.iload 6, 2) := by decide +kernel
theorem dX4_skinOf_35 : decode cX4_skinOf 35 = .ok (.ifCond .eq 20, 3) := by decide +kernel
theorem dX4_skinOf_38 : decode cX4_skinOf 38 = .ok (.aload_n 0, 1) := by decide +kernel
theorem dX4_skinOf_39 : decode cX4_skinOf 39 = .ok (.getfield 19, 3) := by decide +kernel
theorem dX4_skinOf_42 : decode cX4_skinOf 42 = .ok (.iconst 3, 1) := by decide +kernel
theorem dX4_skinOf_43 : decode cX4_skinOf 43 = .ok (.iaload, 1) := by decide +kernel
theorem dX4_skinOf_44 : decode cX4_skinOf 44 = .ok (.aload_n 0, 1) := by decide +kernel
theorem dX4_skinOf_45 : decode cX4_skinOf 45 = .ok (.iload 5, 2) := by decide +kernel
theorem dX4_skinOf_47 : decode cX4_skinOf 47 = .ok (.invokevirtual 115, 3) := by decide +kernel
theorem dX4_skinOf_50 : decode cX4_skinOf 50 = .ok (.imul, 1) := by decide +kernel
theorem dX4_skinOf_51 : decode cX4_skinOf 51 = .ok (.i2l, 1) := by decide +kernel
theorem dX4_skinOf_52 : decode cX4_skinOf 52 = .ok (.goto 4, 3) := by decide +kernel
theorem dX4_skinOf_55 : decode cX4_skinOf 55 = .ok (.lconst 0, 1) := by decide +kernel
theorem dX4_skinOf_56 : decode cX4_skinOf 56 = .ok (.ladd, 1) := by decide +kernel
theorem dX4_skinOf_57 : decode cX4_skinOf 57 = .ok (.lstore_n 3, 1) := by decide +kernel
theorem dX4_skinOf_58 : decode cX4_skinOf 58 = .ok (.iconst 0, 1) := by decide +kernel
theorem dX4_skinOf_59 : decode cX4_skinOf 59 = .ok (.istore 7, 2) := by decide +kernel
theorem dX4_skinOf_61 : decode cX4_skinOf 61 = .ok (.iload 7, 2) := by decide +kernel
theorem dX4_skinOf_63 : decode cX4_skinOf 63 = .ok (.iconst 3, 1) := by decide +kernel
theorem dX4_skinOf_64 : decode cX4_skinOf 64 = .ok (.if_icmp .ge 90, 3) := by decide +kernel
theorem dX4_skinOf_67 : decode cX4_skinOf 67 = .ok (.aload_n 0, 1) := by decide +kernel
theorem dX4_skinOf_68 : decode cX4_skinOf 68 = .ok (.iload 5, 2) := by decide +kernel
theorem dX4_skinOf_70 : decode cX4_skinOf 70 = .ok (.iload 7, 2) := by decide +kernel
theorem dX4_skinOf_72 : decode cX4_skinOf 72 = .ok (.invokevirtual 99, 3) := by decide +kernel
theorem dX4_skinOf_75 : decode cX4_skinOf 75 = .ok (.iconst 1, 1) := by decide +kernel
theorem dX4_skinOf_76 : decode cX4_skinOf 76 = .ok (.iadd, 1) := by decide +kernel
theorem dX4_skinOf_77 : decode cX4_skinOf 77 = .ok (.aload_n 0, 1) := by decide +kernel
theorem dX4_skinOf_78 : decode cX4_skinOf 78 = .ok (.getfield 7, 3) := by decide +kernel
theorem dX4_skinOf_81 : decode cX4_skinOf 81 = .ok (.iload 7, 2) := by decide +kernel
theorem dX4_skinOf_83 : decode cX4_skinOf 83 = .ok (.iaload, 1) := by decide +kernel
theorem dX4_skinOf_84 : decode cX4_skinOf 84 = .ok (.if_icmp .ge 64, 3) := by decide +kernel
theorem dX4_skinOf_87 : decode cX4_skinOf 87 = .ok (.lload_n 1, 1) := by decide +kernel
theorem dX4_skinOf_88 : decode cX4_skinOf 88 = .ok (.iload 5, 2) := by decide +kernel
theorem dX4_skinOf_90 : decode cX4_skinOf 90 = .ok (.aload_n 0, 1) := by decide +kernel
theorem dX4_skinOf_91 : decode cX4_skinOf 91 = .ok (.iload 7, 2) := by decide +kernel
theorem dX4_skinOf_93 : decode cX4_skinOf 93 = .ok (.invokevirtual 95, 3) := by decide +kernel
theorem dX4_skinOf_96 : decode cX4_skinOf 96 = .ok (.iadd, 1) := by decide +kernel
theorem dX4_skinOf_97 : decode cX4_skinOf 97 = .ok (.lshr, 1) := by decide +kernel
theorem dX4_skinOf_98 : decode cX4_skinOf 98 = .ok (.lconst 1, 1) := by decide +kernel
theorem dX4_skinOf_99 : decode cX4_skinOf 99 = .ok (.land, 1) := by decide +kernel
theorem dX4_skinOf_100 : decode cX4_skinOf 100 = .ok (.lconst 1, 1) := by decide +kernel
theorem dX4_skinOf_101 : decode cX4_skinOf 101 = .ok (.lcmp, 1) := by decide +kernel
theorem dX4_skinOf_102 : decode cX4_skinOf 102 = .ok (.ifCond .ne 7, 3) := by decide +kernel
theorem dX4_skinOf_105 : decode cX4_skinOf 105 = .ok (.iconst 1, 1) := by decide +kernel
theorem dX4_skinOf_106 : decode cX4_skinOf 106 = .ok (.goto 4, 3) := by decide +kernel
theorem dX4_skinOf_109 : decode cX4_skinOf 109 = .ok (.iconst 0, 1) := by decide +kernel
theorem dX4_skinOf_110 : decode cX4_skinOf 110 = .ok (.istore 8, 2) := by decide +kernel
theorem dX4_skinOf_112 : decode cX4_skinOf 112 = .ok (.lload_n 3, 1) := by decide +kernel
theorem dX4_skinOf_113 : decode cX4_skinOf 113 = .ok (.iload 6, 2) := by decide +kernel
theorem dX4_skinOf_115 : decode cX4_skinOf 115 = .ok (.iload 8, 2) := by decide +kernel
theorem dX4_skinOf_117 : decode cX4_skinOf 117 = .ok (.if_icmp .eq 28, 3) := by decide +kernel
theorem dX4_skinOf_120 : decode cX4_skinOf 120 = .ok (.aload_n 0, 1) := by decide +kernel
theorem dX4_skinOf_121 : decode cX4_skinOf 121 = .ok (.aload_n 0, 1) := by decide +kernel
theorem dX4_skinOf_122 : decode cX4_skinOf 122 = .ok (.getfield 19, 3) := by decide +kernel
theorem dX4_skinOf_125 : decode cX4_skinOf 125 = .ok (.bipush 6, 2) := by decide +kernel
theorem dX4_skinOf_127 : decode cX4_skinOf 127 = .ok (.iaload, 1) := by decide +kernel
theorem dX4_skinOf_128 : decode cX4_skinOf 128 = .ok (.iload 7, 2) := by decide +kernel
theorem dX4_skinOf_130 : decode cX4_skinOf 130 = .ok (.aload_n 0, 1) := by decide +kernel
theorem dX4_skinOf_131 : decode cX4_skinOf 131 = .ok (.iload 5, 2) := by decide +kernel
theorem dX4_skinOf_133 : decode cX4_skinOf 133 = .ok (.iload 7, 2) := by decide +kernel
theorem dX4_skinOf_135 : decode cX4_skinOf 135 = .ok (.invokevirtual 99, 3) := by decide +kernel
theorem dX4_skinOf_138 : decode cX4_skinOf 138 = .ok (.invokevirtual 111, 3) := by decide +kernel
theorem dX4_skinOf_141 : decode cX4_skinOf 141 = .ok (.i2l, 1) := by decide +kernel
theorem dX4_skinOf_142 : decode cX4_skinOf 142 = .ok (.goto 4, 3) := by decide +kernel
theorem dX4_skinOf_145 : decode cX4_skinOf 145 = .ok (.lconst 0, 1) := by decide +kernel
theorem dX4_skinOf_146 : decode cX4_skinOf 146 = .ok (.ladd, 1) := by decide +kernel
theorem dX4_skinOf_147 : decode cX4_skinOf 147 = .ok (.lstore_n 3, 1) := by decide +kernel
theorem dX4_skinOf_148 : decode cX4_skinOf 148 = .ok (.iinc 7 1, 3) := by decide +kernel
theorem dX4_skinOf_151 : decode cX4_skinOf 151 = .ok (.goto (-90), 3) := by decide +kernel
theorem dX4_skinOf_154 : decode cX4_skinOf 154 = .ok (.iinc 5 1, 3) := by decide +kernel
theorem dX4_skinOf_157 : decode cX4_skinOf 157 = .ok (.goto (-152), 3) := by decide +kernel
theorem dX4_skinOf_160 : decode cX4_skinOf 160 = .ok (.lload_n 3, 1) := by decide +kernel
theorem dX4_skinOf_161 : decode cX4_skinOf 161 = .ok (.lreturn, 1) := by decide +kernel
set_option maxRecDepth 20000 in
theorem ggX4_skin_X4_isSet : GoodIn wsX4_skin wsX4_isSet := goodIn_r _ [7, 8, 9, 10, 6, 11, 12, 34, 35, 36, 37, 38, 39, 40, 41, 42, 43, 44, 45, 46, 47, 48, 49, 50, 51, 52, 53, 54, 55] (by decide +kernel) (by decide +kernel)
set_option maxRecDepth 20000 in
theorem gX4_skin_X4_isSet : GoodIn wsX4_skin (wsV RX4 118 RX4 yX4_isSet wsX4_isSet) := goodIn_app (goodIn_of _ (by decide +kernel)) ggX4_skin_X4_isSet
set_option maxRecDepth 20000 in
theorem ggX4_skin_X4_skinOf : GoodIn wsX4_skin wsX4_skinOf := goodIn_r _ [16, 17, 12, 8, 9, 10, 6, 11, 18, 19, 20, 21, 22, 23, 24, 25, 26, 27, 28, 29, 30, 31, 32, 33, 34, 35, 36, 37, 38, 39, 40, 41, 42, 43, 44, 45, 46, 47, 48, 49, 50, 51, 52, 53, 54, 55] (by decide +kernel) (by decide +kernel)
set_option maxRecDepth 20000 in
theorem gX4_skin_X4_skinOf : GoodIn wsX4_skin (wsV RX4 122 RX4 yX4_skinOf wsX4_skinOf) := goodIn_app (goodIn_of _ (by decide +kernel)) ggX4_skin_X4_skinOf
theorem dX4_skin_0 : decode cX4_skin 0 = .ok (.aload_n 0, 1) := by decide +kernel
theorem dX4_skin_1 : decode cX4_skin 1 = .ok (.iconst 0, 1) := by decide +kernel
theorem dX4_skin_2 : decode cX4_skin 2 = .ok (.putfield 67, 3) := by decide +kernel
theorem dX4_skin_5 : decode cX4_skin 5 = .ok (.aload_n 0, 1) := by decide +kernel
theorem dX4_skin_6 : decode cX4_skin 6 = .ok (.lload_n 1, 1) := by decide +kernel
theorem dX4_skin_7 : decode cX4_skin 7 = .ok (.invokevirtual 118, 3) := by decide +kernel
theorem dX4_skin_10 : decode cX4_skin 10 = .ok (.ifCond .eq 11, 3) := by decide +kernel
theorem dX4_skin_13 : decode cX4_skin 13 = .ok (.aload_n 0, 1) := by decide +kernel
theorem dX4_skin_14 : decode cX4_skin 14 = .ok (.lload_n 1, 1) := by decide +kernel
theorem dX4_skin_15 : decode cX4_skin 15 = .ok (.invokevirtual 122, 3) := by decide +kernel
theorem dX4_skin_18 : decode cX4_skin 18 = .ok (.goto 6, 3) := by decide +kernel
theorem dX4_skin_21 : decode cX4_skin 21 = .ok (.ldc2_w 126, 3) := by decide +kernel
theorem dX4_skin_24 : decode cX4_skin 24 = .ok (.lreturn, 1) := by decide +kernel
set_option maxRecDepth 20000 in
theorem ggX4_all_X4_isSet : GoodIn wsX4_all wsX4_isSet := goodIn_r _ [8, 9, 10, 11, 7, 12, 13, 35, 36, 37, 38, 39, 40, 41, 42, 43, 44, 45, 46, 47, 48, 49, 50, 51, 52, 53, 54, 55, 56] (by decide +kernel) (by decide +kernel)
set_option maxRecDepth 20000 in
theorem gX4_all_X4_isSet : GoodIn wsX4_all (wsV RX4 118 RX4 yX4_isSet wsX4_isSet) := goodIn_app (goodIn_of _ (by decide +kernel)) ggX4_all_X4_isSet
set_option maxRecDepth 20000 in
theorem ggX4_all_X4_skinOf : GoodIn wsX4_all wsX4_skinOf := goodIn_r _ [17, 18, 13, 9, 10, 11, 7, 12, 19, 20, 21, 22, 23, 24, 25, 26, 27, 28, 29, 30, 31, 32, 33, 34, 35, 36, 37, 38, 39, 40, 41, 42, 43, 44, 45, 46, 47, 48, 49, 50, 51, 52, 53, 54, 55, 56] (by decide +kernel) (by decide +kernel)
set_option maxRecDepth 20000 in
theorem gX4_all_X4_skinOf : GoodIn wsX4_all (wsV RX4 122 RX4 yX4_skinOf wsX4_skinOf) := goodIn_app (goodIn_of _ (by decide +kernel)) ggX4_all_X4_skinOf
set_option maxRecDepth 20000 in
theorem ggX4_all_X4_cells : GoodIn wsX4_all wsX4_cells := goodIn_r _ [12, 13, 35, 36, 37, 38, 39, 40, 41, 42, 43, 44, 45, 46, 47, 48, 49, 50, 51, 52, 53, 54, 55, 56] (by decide +kernel) (by decide +kernel)
set_option maxRecDepth 20000 in
theorem gX4_all_X4_cells : GoodIn wsX4_all (wsV RX4 70 RX4 yX4_cells wsX4_cells) := goodIn_app (goodIn_of _ (by decide +kernel)) ggX4_all_X4_cells
theorem dX4_all_0 : decode cX4_all 0 = .ok (.aload_n 0, 1) := by decide +kernel
theorem dX4_all_1 : decode cX4_all 1 = .ok (.iconst 0, 1) := by decide +kernel
theorem dX4_all_2 : decode cX4_all 2 = .ok (.putfield 67, 3) := by decide +kernel
theorem dX4_all_5 : decode cX4_all 5 = .ok (.aload_n 0, 1) := by decide +kernel
theorem dX4_all_6 : decode cX4_all 6 = .ok (.lload_n 1, 1) := by decide +kernel
theorem dX4_all_7 : decode cX4_all 7 = .ok (.invokevirtual 118, 3) := by decide +kernel
theorem dX4_all_10 : decode cX4_all 10 = .ok (.ifCond .ne 7, 3) := by decide +kernel
theorem dX4_all_13 : decode cX4_all 13 = .ok (.ldc2_w 128, 3) := by decide +kernel
theorem dX4_all_16 : decode cX4_all 16 = .ok (.lreturn, 1) := by decide +kernel
theorem dX4_all_17 : decode cX4_all 17 = .ok (.aload_n 0, 1) := by decide +kernel
theorem dX4_all_18 : decode cX4_all 18 = .ok (.lload_n 1, 1) := by decide +kernel
theorem dX4_all_19 : decode cX4_all 19 = .ok (.invokevirtual 122, 3) := by decide +kernel
theorem dX4_all_22 : decode cX4_all 22 = .ok (.lstore_n 3, 1) := by decide +kernel
theorem dX4_all_23 : decode cX4_all 23 = .ok (.iconst 0, 1) := by decide +kernel
theorem dX4_all_24 : decode cX4_all 24 = .ok (.istore 5, 2) := by decide +kernel
theorem dX4_all_26 : decode cX4_all 26 = .ok (.iload 5, 2) := by decide +kernel
theorem dX4_all_28 : decode cX4_all 28 = .ok (.aload_n 0, 1) := by decide +kernel
theorem dX4_all_29 : decode cX4_all 29 = .ok (.invokevirtual 70, 3) := by decide +kernel
theorem dX4_all_32 : decode cX4_all 32 = .ok (.if_icmp .ge 35, 3) := by decide +kernel
theorem dX4_all_35 : decode cX4_all 35 = .ok (.lload_n 3, 1) := by decide +kernel
theorem dX4_all_36 : decode cX4_all 36 = .ok (.lload_n 1, 1) := by decide +kernel
theorem dX4_all_37 : decode cX4_all 37 = .ok (.iload 5, 2) := by decide +kernel
theorem dX4_all_39 : decode cX4_all 39 = .ok (.lshr, 1) := by decide +kernel
theorem dX4_all_40 : decode cX4_all 40 = .ok (.lconst 1, 1) := by decide +kernel
theorem dX4_all_41 : decode cX4_all 41 = .ok (.land, 1) := by decide +kernel
theorem dX4_all_42 : decode cX4_all 42 = .ok (.lconst 1, 1) := by decide +kernel
theorem dX4_all_43 : decode cX4_all 43 = .ok (.lcmp, 1) := by decide +kernel
theorem dX4_all_44 : decode cX4_all 44 = .ok (.ifCond .ne 14, 3) := by decide +kernel
theorem dX4_all_47 : decode cX4_all 47 = .ok (.aload_n 0, 1) := by decide +kernel
theorem dX4_all_48 : decode cX4_all 48 = .ok (.getfield 16, 3) := by decide +kernel
theorem dX4_all_51 : decode cX4_all 51 = .ok (.iload 5, 2) := by decide +kernel
theorem dX4_all_53 : decode cX4_all 53 = .ok (.iaload, 1) := by decide +kernel
theorem dX4_all_54 : decode cX4_all 54 = .ok (.i2l, 1) := by decide +kernel
theorem dX4_all_55 : decode cX4_all 55 = .ok (.goto 4, 3) := by decide +kernel
theorem dX4_all_58 : decode cX4_all 58 = .ok (.lconst 0, 1) := by decide +kernel
theorem dX4_all_59 : decode cX4_all 59 = .ok (.ladd, 1) := by decide +kernel
theorem dX4_all_60 : decode cX4_all 60 = .ok (.lstore_n 3, 1) := by decide +kernel
theorem dX4_all_61 : decode cX4_all 61 = .ok (.iinc 5 1, 3) := by decide +kernel
theorem dX4_all_64 : decode cX4_all 64 = .ok (.goto (-38), 3) := by decide +kernel
theorem dX4_all_67 : decode cX4_all 67 = .ok (.lload_n 3, 1) := by decide +kernel
theorem dX4_all_68 : decode cX4_all 68 = .ok (.lreturn, 1) := by decide +kernel
set_option maxRecDepth 20000 in
theorem ggX4_right_X4_isSet : GoodIn wsX4_right wsX4_isSet := goodIn_r _ [7, 8, 9, 10, 6, 11, 12, 13, 14, 15, 16, 17, 18, 19, 20, 21, 22, 23, 24, 25, 26, 27, 28, 29, 30, 31, 32, 33, 34] (by decide +kernel) (by decide +kernel)
set_option maxRecDepth 20000 in
theorem gX4_right_X4_isSet : GoodIn wsX4_right (wsV RX4 118 RX4 yX4_isSet wsX4_isSet) := goodIn_app (goodIn_of _ (by decide +kernel)) ggX4_right_X4_isSet
set_option maxRecDepth 20000 in
theorem ggX4_right_X4_cells : GoodIn wsX4_right wsX4_cells := goodIn_r _ [11, 12, 13, 14, 15, 16, 17, 18, 19, 20, 21, 22, 23, 24, 25, 26, 27, 28, 29, 30, 31, 32, 33, 34] (by decide +kernel) (by decide +kernel)
set_option maxRecDepth 20000 in
theorem gX4_right_X4_cells : GoodIn wsX4_right (wsV RX4 70 RX4 yX4_cells wsX4_cells) := goodIn_app (goodIn_of _ (by decide +kernel)) ggX4_right_X4_cells
theorem dX4_right_0 : decode cX4_right 0 = .ok (.aload_n 0, 1) := by decide +kernel
theorem dX4_right_1 : decode cX4_right 1 = .ok (.iconst 0, 1) := by decide +kernel
theorem dX4_right_2 : decode cX4_right 2 = .ok (.putfield 67, 3) := by decide +kernel
theorem dX4_right_5 : decode cX4_right 5 = .ok (.aload_n 0, 1) := by decide +kernel
theorem dX4_right_6 : decode cX4_right 6 = .ok (.lload_n 1, 1) := by decide +kernel
theorem dX4_right_7 : decode cX4_right 7 = .ok (.invokevirtual 118, 3) := by decide +kernel
theorem dX4_right_10 : decode cX4_right 10 = .ok (.ifCond .ne 5, 3) := by decide +kernel
theorem dX4_right_13 : decode cX4_right 13 = .ok (.iconst (-1), 1) := by decide +kernel
theorem dX4_right_14 : decode cX4_right 14 = .ok (.ireturn, 1) := by decide +kernel
theorem dX4_right_15 : decode cX4_right 15 = .ok (.iconst 1, 1) := by decide +kernel
theorem dX4_right_16 : decode cX4_right 16 = .ok (.istore_n 3, 1) := by decide +kernel
theorem dX4_right_17 : decode cX4_right 17 = .ok (.iconst 0, 1) := by decide +kernel
theorem dX4_right_18 : decode cX4_right 18 = .ok (.istore 4, 2) := by decide +kernel
theorem dX4_right_20 : decode cX4_right 20 = .ok (.iload 4, 2) := by decide +kernel
theorem dX4_right_22 : decode cX4_right 22 = .ok (.aload_n 0, 1) := by decide +kernel
theorem dX4_right_23 : decode cX4_right 23 = .ok (.invokevirtual 70, 3) := by decide +kernel
theorem dX4_right_26 : decode cX4_right 26 = .ok (.if_icmp .ge 43, 3) := by decide +kernel
theorem dX4_right_29 : decode cX4_right 29 = .ok (.iload_n 3, 1) := by decide +kernel
theorem dX4_right_30 : decode cX4_right 30 = .ok (.aload_n 0, 1) := by decide +kernel
theorem dX4_right_31 : decode cX4_right 31 = .ok (.getfield 13, 3) := by decide +kernel
theorem dX4_right_34 : decode cX4_right 34 = .ok (.iload 4, 2) := by decide +kernel
theorem dX4_right_36 : decode cX4_right 36 = .ok (.iaload, 1) := by decide +kernel
theorem dX4_right_37 : decode cX4_right 37 = .ok (.lload_n 1, 1) := by decide +kernel
theorem dX4_right_38 : decode cX4_right 38 = .ok (.iload 4, 2) := by decide +kernel
theorem dX4_right_40 : decode cX4_right 40 = .ok (.lshr, 1) := by decide +kernel
theorem dX4_right_41 : decode cX4_right 41 = .ok (.lconst 1, 1) := by decide +kernel
theorem dX4_right_42 : decode cX4_right 42 = .ok (.land, 1) := by decide +kernel
theorem dX4_right_43 : decode cX4_right 43 = .ok (.lconst 1, 1) := by decide +kernel
theorem dX4_right_44 : decode cX4_right 44 = .ok (.lcmp, 1) := by decide +kernel
theorem dX4_right_45 : decode cX4_right 45 = .ok (.ifCond .ne 7, 3) := by decide +kernel
theorem dX4_right_48 : decode cX4_right 48 = .ok (.iconst 2, 1) := by decide +kernel
theorem dX4_right_49 : decode cX4_right 49 = .ok (.goto 4, 3) := by decide +kernel
theorem dX4_right_52 : decode cX4_right 52 = .ok (.iconst 1, 1) := by decide +kernel
theorem dX4_right_53 : decode cX4_right 53 = .ok (.if_icmp .eq 7, 3) := by decide +kernel
theorem dX4_right_56 : decode cX4_right 56 = .ok (.iconst 1, 1) := by decide +kernel
theorem dX4_right_57 : decode cX4_right 57 = .ok (.goto 4, 3) := by decide +kernel
theorem dX4_right_60 : decode cX4_right 60 = .ok (.iconst 0, 1) := by decide +kernel
theorem dX4_right_61 : decode cX4_right 61 = .ok (.iand, 1) := by decide +kernel
theorem dX4_right_62 : decode cX4_right 62 = .ok (.istore_n 3, 1) := by decide +kernel
theorem dX4_right_63 : decode cX4_right 63 = .ok (.iinc 4 1, 3) := by decide +kernel
theorem dX4_right_66 : decode cX4_right 66 = .ok (.goto (-46), 3) := by decide +kernel
theorem dX4_right_69 : decode cX4_right 69 = .ok (.iload_n 3, 1) := by decide +kernel
theorem dX4_right_70 : decode cX4_right 70 = .ok (.ifCond .eq 7, 3) := by decide +kernel
theorem dX4_right_73 : decode cX4_right 73 = .ok (.iconst 1, 1) := by decide +kernel
theorem dX4_right_74 : decode cX4_right 74 = .ok (.goto 4, 3) := by decide +kernel
theorem dX4_right_77 : decode cX4_right 77 = .ok (.iconst 0, 1) := by decide +kernel
theorem dX4_right_78 : decode cX4_right 78 = .ok (.ireturn, 1) := by decide +kernel
theorem dX4_orders_0 : decode cX4_orders 0 = .ok (.iconst 0, 1) := by decide +kernel
theorem dX4_orders_1 : decode cX4_orders 1 = .ok (.istore_n 1, 1) := by decide +kernel
theorem dX4_orders_2 : decode cX4_orders 2 = .ok (.iload_n 1, 1) := by decide +kernel
theorem dX4_orders_3 : decode cX4_orders 3 = .ok (.iconst 3, 1) := by decide +kernel
theorem dX4_orders_4 : decode cX4_orders 4 = .ok (.if_icmp .ge 64, 3) := by decide +kernel
theorem dX4_orders_7 : decode cX4_orders 7 = .ok (.iload_n 1, 1) := by decide +kernel
theorem dX4_orders_8 : decode cX4_orders 8 = .ok (.istore_n 2, 1) := by decide +kernel
theorem dX4_orders_9 : decode cX4_orders 9 = .ok (.iload_n 2, 1) := by decide +kernel
theorem dX4_orders_10 : decode cX4_orders 10 = .ok (.ifCond .le 45, 3) := by decide +kernel
theorem dX4_orders_13 : decode cX4_orders 13 = .ok (.aload_n 0, 1) := by decide +kernel
theorem dX4_orders_14 : decode cX4_orders 14 = .ok (.getfield 7, 3) := by decide +kernel
theorem dX4_orders_17 : decode cX4_orders 17 = .ok (.aload_n 0, 1) := by decide +kernel
theorem dX4_orders_18 : decode cX4_orders 18 = .ok (.getfield 22, 3) := by decide +kernel
theorem dX4_orders_21 : decode cX4_orders 21 = .ok (.iload_n 2, 1) := by decide +kernel
theorem dX4_orders_22 : decode cX4_orders 22 = .ok (.iconst 1, 1) := by decide +kernel
theorem dX4_orders_23 : decode cX4_orders 23 = .ok (.isub, 1) := by decide +kernel
theorem dX4_orders_24 : decode cX4_orders 24 = .ok (.iaload, 1) := by decide +kernel
theorem dX4_orders_25 : decode cX4_orders 25 = .ok (.iaload, 1) := by decide +kernel
theorem dX4_orders_26 : decode cX4_orders 26 = .ok (.aload_n 0, 1) := by decide +kernel
theorem dX4_orders_27 : decode cX4_orders 27 = .ok (.getfield 7, 3) := by decide +kernel
theorem dX4_orders_30 : decode cX4_orders 30 = .ok (.iload_n 1, 1) := by decide +kernel
theorem dX4_orders_31 : decode cX4_orders 31 = .ok (.iaload, 1) := by decide +kernel
theorem dX4_orders_32 : decode cX4_orders 32 = .ok (.if_icmp .le 23, 3) := by decide +kernel
theorem dX4_orders_35 : decode cX4_orders 35 = .ok (.aload_n 0, 1) := by decide +kernel
theorem dX4_orders_36 : decode cX4_orders 36 = .ok (.getfield 22, 3) := by decide +kernel
theorem dX4_orders_39 : decode cX4_orders 39 = .ok (.iload_n 2, 1) := by decide +kernel
theorem dX4_orders_40 : decode cX4_orders 40 = .ok (.aload_n 0, 1) := by decide +kernel
theorem dX4_orders_41 : decode cX4_orders 41 = .ok (.getfield 22, 3) := by decide +kernel
theorem dX4_orders_44 : decode cX4_orders 44 = .ok (.iload_n 2, 1) := by decide +kernel
theorem dX4_orders_45 : decode cX4_orders 45 = .ok (.iconst 1, 1) := by decide +kernel
theorem dX4_orders_46 : decode cX4_orders 46 = .ok (.isub, 1) := by decide +kernel
theorem dX4_orders_47 : decode cX4_orders 47 = .ok (.iaload, 1) := by decide +kernel
theorem dX4_orders_48 : decode cX4_orders 48 = .ok (.iastore, 1) := by decide +kernel
theorem dX4_orders_49 : decode cX4_orders 49 = .ok (.iinc 2 (-1), 3) := by decide +kernel
theorem dX4_orders_52 : decode cX4_orders 52 = .ok (.goto (-43), 3) := by decide +kernel
theorem dX4_orders_55 : decode cX4_orders 55 = .ok (.aload_n 0, 1) := by decide +kernel
theorem dX4_orders_56 : decode cX4_orders 56 = .ok (.getfield 22, 3) := by decide +kernel
theorem dX4_orders_59 : decode cX4_orders 59 = .ok (.iload_n 2, 1) := by decide +kernel
theorem dX4_orders_60 : decode cX4_orders 60 = .ok (.iload_n 1, 1) := by decide +kernel
theorem dX4_orders_61 : decode cX4_orders 61 = .ok (.iastore, 1) := by decide +kernel
theorem dX4_orders_62 : decode cX4_orders 62 = .ok (.iinc 1 1, 3) := by decide +kernel
theorem dX4_orders_65 : decode cX4_orders 65 = .ok (.goto (-63), 3) := by decide +kernel
theorem dX4_orders_68 : decode cX4_orders 68 = .ok (.return_, 1) := by decide +kernel
set_option maxRecDepth 20000 in
theorem ggX4_cellAt_X4_stride : GoodIn wsX4_cellAt wsX4_stride := goodIn_r _ [8, 1, 9, 10, 11, 12, 13, 14, 15, 16, 17, 18, 19, 20, 21, 22, 23, 24, 25, 26, 27, 28, 29, 30] (by decide +kernel) (by decide +kernel)
set_option maxRecDepth 20000 in
theorem gX4_cellAt_X4_stride : GoodIn wsX4_cellAt (wsV RX4 95 RX4 yX4_stride wsX4_stride) := goodIn_app (goodIn_of _ (by decide +kernel)) ggX4_cellAt_X4_stride
theorem dX4_cellAt_0 : decode cX4_cellAt 0 = .ok (.aload_n 0, 1) := by decide +kernel
theorem dX4_cellAt_1 : decode cX4_cellAt 1 = .ok (.getfield 7, 3) := by decide +kernel
theorem dX4_cellAt_4 : decode cX4_cellAt 4 = .ok (.aload_n 0, 1) := by decide +kernel
theorem dX4_cellAt_5 : decode cX4_cellAt 5 = .ok (.getfield 22, 3) := by decide +kernel
theorem dX4_cellAt_8 : decode cX4_cellAt 8 = .ok (.iconst 0, 1) := by decide +kernel
theorem dX4_cellAt_9 : decode cX4_cellAt 9 = .ok (.iaload, 1) := by decide +kernel
theorem dX4_cellAt_10 : decode cX4_cellAt 10 = .ok (.iaload, 1) := by decide +kernel
theorem dX4_cellAt_11 : decode cX4_cellAt 11 = .ok (.istore_n 2, 1) := by decide +kernel
theorem dX4_cellAt_12 : decode cX4_cellAt 12 = .ok (.aload_n 0, 1) := by decide +kernel
theorem dX4_cellAt_13 : decode cX4_cellAt 13 = .ok (.getfield 7, 3) := by decide +kernel
theorem dX4_cellAt_16 : decode cX4_cellAt 16 = .ok (.aload_n 0, 1) := by decide +kernel
theorem dX4_cellAt_17 : decode cX4_cellAt 17 = .ok (.getfield 22, 3) := by decide +kernel
theorem dX4_cellAt_20 : decode cX4_cellAt 20 = .ok (.iconst 1, 1) := by decide +kernel
theorem dX4_cellAt_21 : decode cX4_cellAt 21 = .ok (.iaload, 1) := by decide +kernel
theorem dX4_cellAt_22 : decode cX4_cellAt 22 = .ok (.iaload, 1) := by decide +kernel
theorem dX4_cellAt_23 : decode cX4_cellAt 23 = .ok (.istore_n 3, 1) := by decide +kernel
theorem dX4_cellAt_24 : decode cX4_cellAt 24 = .ok (.aload_n 0, 1) := by decide +kernel
theorem dX4_cellAt_25 : decode cX4_cellAt 25 = .ok (.getfield 25, 3) := by decide +kernel
theorem dX4_cellAt_28 : decode cX4_cellAt 28 = .ok (.iconst 0, 1) := by decide +kernel
theorem dX4_cellAt_29 : decode cX4_cellAt 29 = .ok (.iload_n 1, 1) := by decide +kernel
theorem dX4_cellAt_30 : decode cX4_cellAt 30 = .ok (.iload_n 2, 1) := by decide +kernel
theorem dX4_cellAt_31 : decode cX4_cellAt 31 = .ok (.irem, 1) := by decide +kernel
theorem dX4_cellAt_32 : decode cX4_cellAt 32 = .ok (.iastore, 1) := by decide +kernel
theorem dX4_cellAt_33 : decode cX4_cellAt 33 = .ok (.aload_n 0, 1) := by decide +kernel
theorem dX4_cellAt_34 : decode cX4_cellAt 34 = .ok (.getfield 25, 3) := by decide +kernel
theorem dX4_cellAt_37 : decode cX4_cellAt 37 = .ok (.iconst 1, 1) := by decide +kernel
theorem dX4_cellAt_38 : decode cX4_cellAt 38 = .ok (.iload_n 1, 1) := by decide +kernel
theorem dX4_cellAt_39 : decode cX4_cellAt 39 = .ok (.iload_n 2, 1) := by decide +kernel
theorem dX4_cellAt_40 : decode cX4_cellAt 40 = .ok (.idiv, 1) := by decide +kernel
theorem dX4_cellAt_41 : decode cX4_cellAt 41 = .ok (.iload_n 3, 1) := by decide +kernel
theorem dX4_cellAt_42 : decode cX4_cellAt 42 = .ok (.irem, 1) := by decide +kernel
theorem dX4_cellAt_43 : decode cX4_cellAt 43 = .ok (.iastore, 1) := by decide +kernel
theorem dX4_cellAt_44 : decode cX4_cellAt 44 = .ok (.aload_n 0, 1) := by decide +kernel
theorem dX4_cellAt_45 : decode cX4_cellAt 45 = .ok (.getfield 25, 3) := by decide +kernel
theorem dX4_cellAt_48 : decode cX4_cellAt 48 = .ok (.iconst 2, 1) := by decide +kernel
theorem dX4_cellAt_49 : decode cX4_cellAt 49 = .ok (.iload_n 1, 1) := by decide +kernel
theorem dX4_cellAt_50 : decode cX4_cellAt 50 = .ok (.iload_n 2, 1) := by decide +kernel
theorem dX4_cellAt_51 : decode cX4_cellAt 51 = .ok (.idiv, 1) := by decide +kernel
theorem dX4_cellAt_52 : decode cX4_cellAt 52 = .ok (.iload_n 3, 1) := by decide +kernel
theorem dX4_cellAt_53 : decode cX4_cellAt 53 = .ok (.idiv, 1) := by decide +kernel
theorem dX4_cellAt_54 : decode cX4_cellAt 54 = .ok (.iastore, 1) := by decide +kernel
theorem dX4_cellAt_55 : decode cX4_cellAt 55 = .ok (.aload_n 0, 1) := by decide +kernel
theorem dX4_cellAt_56 : decode cX4_cellAt 56 = .ok (.getfield 25, 3) := by decide +kernel
theorem dX4_cellAt_59 : decode cX4_cellAt 59 = .ok (.iconst 0, 1) := by decide +kernel
theorem dX4_cellAt_60 : decode cX4_cellAt 60 = .ok (.iaload, 1) := by decide +kernel
theorem dX4_cellAt_61 : decode cX4_cellAt 61 = .ok (.aload_n 0, 1) := by decide +kernel
theorem dX4_cellAt_62 : decode cX4_cellAt 62 = .ok (.aload_n 0, 1) := by decide +kernel
theorem dX4_cellAt_63 : decode cX4_cellAt 63 = .ok (.getfield 22, 3) := by decide +kernel
theorem dX4_cellAt_66 : decode cX4_cellAt 66 = .ok (.iconst 0, 1) := by decide +kernel
theorem dX4_cellAt_67 : decode cX4_cellAt 67 = .ok (.iaload, 1) := by decide +kernel
theorem dX4_cellAt_68 : decode cX4_cellAt 68 = .ok (.invokevirtual 95, 3) := by decide +kernel
theorem dX4_cellAt_71 : decode cX4_cellAt 71 = .ok (.imul, 1) := by decide +kernel
theorem dX4_cellAt_72 : decode cX4_cellAt 72 = .ok (.aload_n 0, 1) := by decide +kernel
theorem dX4_cellAt_73 : decode cX4_cellAt 73 = .ok (.getfield 25, 3) := by decide +kernel
theorem dX4_cellAt_76 : decode cX4_cellAt 76 = .ok (.iconst 1, 1) := by decide +kernel
theorem dX4_cellAt_77 : decode cX4_cellAt 77 = .ok (.iaload, 1) := by decide +kernel
theorem dX4_cellAt_78 : decode cX4_cellAt 78 = .ok (.aload_n 0, 1) := by decide +kernel
theorem dX4_cellAt_79 : decode cX4_cellAt 79 = .ok (.aload_n 0, 1) := by decide +kernel
theorem dX4_cellAt_80 : decode cX4_cellAt 80 = .ok (.getfield 22, 3) := by decide +kernel
theorem dX4_cellAt_83 : decode cX4_cellAt 83 = .ok (.iconst 1, 1) := by decide +kernel
theorem dX4_cellAt_84 : decode cX4_cellAt 84 = .ok (.iaload, 1) := by decide +kernel
theorem dX4_cellAt_85 : decode cX4_cellAt 85 = .ok (.invokevirtual 95, 3) := by decide +kernel
theorem dX4_cellAt_88 : decode cX4_cellAt 88 = .ok (.imul, 1) := by decide +kernel
theorem dX4_cellAt_89 : decode cX4_cellAt 89 = .ok (.iadd, 1) := by decide +kernel
theorem dX4_cellAt_90 : decode cX4_cellAt 90 = .ok (.aload_n 0, 1) := by decide +kernel
theorem dX4_cellAt_91 : decode cX4_cellAt 91 = .ok (.getfield 25, 3) := by decide +kernel
theorem dX4_cellAt_94 : decode cX4_cellAt 94 = .ok (.iconst 2, 1) := by decide +kernel
theorem dX4_cellAt_95 : decode cX4_cellAt 95 = .ok (.iaload, 1) := by decide +kernel
theorem dX4_cellAt_96 : decode cX4_cellAt 96 = .ok (.aload_n 0, 1) := by decide +kernel
theorem dX4_cellAt_97 : decode cX4_cellAt 97 = .ok (.aload_n 0, 1) := by decide +kernel
theorem dX4_cellAt_98 : decode cX4_cellAt 98 = .ok (.getfield 22, 3) := by decide +kernel
theorem dX4_cellAt_101 : decode cX4_cellAt 101 = .ok (.iconst 2, 1) := by decide +kernel
theorem dX4_cellAt_102 : decode cX4_cellAt 102 = .ok (.iaload, 1) := by decide +kernel
theorem dX4_cellAt_103 : decode cX4_cellAt 103 = .ok (.invokevirtual 95, 3) := by decide +kernel
theorem dX4_cellAt_106 : decode cX4_cellAt 106 = .ok (.imul, 1) := by decide +kernel
theorem dX4_cellAt_107 : decode cX4_cellAt 107 = .ok (.iadd, 1) := by decide +kernel
theorem dX4_cellAt_108 : decode cX4_cellAt 108 = .ok (.ireturn, 1) := by decide +kernel
set_option maxRecDepth 20000 in
theorem ggX4_adds_X4_outsides : GoodIn wsX4_adds wsX4_outsides := goodIn_r _ [10, 5, 11, 12, 13, 9, 14, 19, 20, 21, 22, 23, 24, 25, 26, 27, 28, 29, 30, 31, 32, 33, 34, 35, 36, 37, 38, 39, 40] (by decide +kernel) (by decide +kernel)
set_option maxRecDepth 20000 in
theorem gX4_adds_X4_outsides : GoodIn wsX4_adds (wsV RX4 115 RX4 yX4_outsides wsX4_outsides) := goodIn_app (goodIn_of _ (by decide +kernel)) ggX4_adds_X4_outsides
set_option maxRecDepth 20000 in
theorem ggX4_adds_X4_faceCost : GoodIn wsX4_adds wsX4_faceCost := goodIn_r _ [18, 2, 19, 20, 21, 22, 23, 24, 25, 26, 27, 28, 29, 30, 31, 32, 33, 34, 35, 36, 37, 38, 39, 40] (by decide +kernel) (by decide +kernel)
set_option maxRecDepth 20000 in
theorem gX4_adds_X4_faceCost : GoodIn wsX4_adds (wsV RX4 111 RX4 yX4_faceCost wsX4_faceCost) := goodIn_app (goodIn_of _ (by decide +kernel)) ggX4_adds_X4_faceCost
theorem dX4_adds_0 : decode cX4_adds 0 = .ok (.iload_n 3, 1) := by decide +kernel
theorem dX4_adds_1 : decode cX4_adds 1 = .ok (.iconst 1, 1) := by decide +kernel
theorem dX4_adds_2 : decode cX4_adds 2 = .ok (.if_icmp .ne 28, 3) := by decide +kernel
theorem dX4_adds_5 : decode cX4_adds 5 = .ok (.aload_n 0, 1) := by decide +kernel
theorem dX4_adds_6 : decode cX4_adds 6 = .ok (.getfield 16, 3) := by decide +kernel
theorem dX4_adds_9 : decode cX4_adds 9 = .ok (.iload_n 1, 1) := by decide +kernel
theorem dX4_adds_10 : decode cX4_adds 10 = .ok (.iaload, 1) := by decide +kernel
theorem dX4_adds_11 : decode cX4_adds 11 = .ok (.iload 4, 2) := by decide +kernel
theorem dX4_adds_13 : decode cX4_adds 13 = .ok (.iadd, 1) := by decide +kernel
theorem dX4_adds_14 : decode cX4_adds 14 = .ok (.aload_n 0, 1) := by decide +kernel
theorem dX4_adds_15 : decode cX4_adds 15 = .ok (.getfield 19, 3) := by decide +kernel
theorem dX4_adds_18 : decode cX4_adds 18 = .ok (.iconst 3, 1) := by decide +kernel
theorem dX4_adds_19 : decode cX4_adds 19 = .ok (.iaload, 1) := by decide +kernel
theorem dX4_adds_20 : decode cX4_adds 20 = .ok (.aload_n 0, 1) := by decide +kernel
theorem dX4_adds_21 : decode cX4_adds 21 = .ok (.iload_n 1, 1) := by decide +kernel
theorem dX4_adds_22 : decode cX4_adds 22 = .ok (.invokevirtual 115, 3) := by decide +kernel
theorem dX4_adds_25 : decode cX4_adds 25 = .ok (.imul, 1) := by decide +kernel
theorem dX4_adds_26 : decode cX4_adds 26 = .ok (.iadd, 1) := by decide +kernel
theorem dX4_adds_27 : decode cX4_adds 27 = .ok (.goto 4, 3) := by decide +kernel
theorem dX4_adds_30 : decode cX4_adds 30 = .ok (.iconst 0, 1) := by decide +kernel
theorem dX4_adds_31 : decode cX4_adds 31 = .ok (.istore 5, 2) := by decide +kernel
theorem dX4_adds_33 : decode cX4_adds 33 = .ok (.iconst 1, 1) := by decide +kernel
theorem dX4_adds_34 : decode cX4_adds 34 = .ok (.istore 6, 2) := by decide +kernel
theorem dX4_adds_36 : decode cX4_adds 36 = .ok (.iconst 0, 1) := by decide +kernel
theorem dX4_adds_37 : decode cX4_adds 37 = .ok (.istore 7, 2) := by decide +kernel
theorem dX4_adds_39 : decode cX4_adds 39 = .ok (.iload 7, 2) := by decide +kernel
theorem dX4_adds_41 : decode cX4_adds 41 = .ok (.iconst 3, 1) := by decide +kernel
theorem dX4_adds_42 : decode cX4_adds 42 = .ok (.if_icmp .ge 80, 3) := by decide +kernel
theorem dX4_adds_45 : decode cX4_adds 45 = .ok (.aload_n 0, 1) := by decide +kernel
theorem dX4_adds_46 : decode cX4_adds 46 = .ok (.getfield 25, 3) := by decide +kernel
theorem dX4_adds_49 : decode cX4_adds 49 = .ok (.iload 7, 2) := by decide +kernel
theorem dX4_adds_51 : decode cX4_adds 51 = .ok (.iaload, 1) := by decide +kernel
theorem dX4_adds_52 : decode cX4_adds 52 = .ok (.ifCond .le 47, 3) := by decide +kernel
theorem dX4_adds_55 : decode cX4_adds 55 = .ok (.iload_n 2, 1) := by decide +kernel
theorem dX4_adds_56 : decode cX4_adds 56 = .ok (.iload 6, 2) := by decide +kernel
theorem dX4_adds_58 : decode cX4_adds 58 = .ok (.iconst 1, 1) := by decide +kernel
theorem dX4_adds_59 : decode cX4_adds 59 = .ok (.isub, 1) := by decide +kernel
theorem dX4_adds_60 : decode cX4_adds 60 = .ok (.ishr, 1) := by decide +kernel
theorem dX4_adds_61 : decode cX4_adds 61 = .ok (.iconst 1, 1) := by decide +kernel
theorem dX4_adds_62 : decode cX4_adds 62 = .ok (.iand, 1) := by decide +kernel
theorem dX4_adds_63 : decode cX4_adds 63 = .ok (.iload_n 3, 1) := by decide +kernel
theorem dX4_adds_64 : decode cX4_adds 64 = .ok (.if_icmp .eq 35, 3) := by decide +kernel
theorem dX4_adds_67 : decode cX4_adds 67 = .ok (.iload 5, 2) := by decide +kernel
theorem dX4_adds_69 : decode cX4_adds 69 = .ok (.aload_n 0, 1) := by decide +kernel
theorem dX4_adds_70 : decode cX4_adds 70 = .ok (.aload_n 0, 1) := by decide +kernel
theorem dX4_adds_71 : decode cX4_adds 71 = .ok (.getfield 19, 3) := by decide +kernel
theorem dX4_adds_74 : decode cX4_adds 74 = .ok (.bipush 6, 2) := by decide +kernel
theorem dX4_adds_76 : decode cX4_adds 76 = .ok (.iaload, 1) := by decide +kernel
theorem dX4_adds_77 : decode cX4_adds 77 = .ok (.aload_n 0, 1) := by decide +kernel
theorem dX4_adds_78 : decode cX4_adds 78 = .ok (.getfield 22, 3) := by decide +kernel
theorem dX4_adds_81 : decode cX4_adds 81 = .ok (.iload 7, 2) := by decide +kernel
theorem dX4_adds_83 : decode cX4_adds 83 = .ok (.iaload, 1) := by decide +kernel
theorem dX4_adds_84 : decode cX4_adds 84 = .ok (.aload_n 0, 1) := by decide +kernel
theorem dX4_adds_85 : decode cX4_adds 85 = .ok (.getfield 25, 3) := by decide +kernel
theorem dX4_adds_88 : decode cX4_adds 88 = .ok (.iload 7, 2) := by decide +kernel
theorem dX4_adds_90 : decode cX4_adds 90 = .ok (.iaload, 1) := by decide +kernel
theorem dX4_adds_91 : decode cX4_adds 91 = .ok (.iconst 1, 1) := by decide +kernel
theorem dX4_adds_92 : decode cX4_adds 92 = .ok (.isub, 1) := by decide +kernel
theorem dX4_adds_93 : decode cX4_adds 93 = .ok (.invokevirtual 111, 3) := by decide +kernel
theorem dX4_adds_96 : decode cX4_adds 96 = .ok (.iadd, 1) := by decide +kernel
theorem dX4_adds_97 : decode cX4_adds 97 = .ok (.istore 5, 2) := by decide +kernel
theorem dX4_adds_99 : decode cX4_adds 99 = .ok (.iload 6, 2) := by decide +kernel
theorem dX4_adds_101 : decode cX4_adds 101 = .ok (.aload_n 0, 1) := by decide +kernel
theorem dX4_adds_102 : decode cX4_adds 102 = .ok (.getfield 7, 3) := by decide +kernel
theorem dX4_adds_105 : decode cX4_adds 105 = .ok (.aload_n 0, 1) := by decide +kernel
theorem dX4_adds_106 : decode cX4_adds 106 = .ok (.getfield 22, 3) := by decide +kernel
theorem dX4_adds_109 : decode cX4_adds 109 = .ok (.iload 7, 2) := by decide +kernel
theorem dX4_adds_111 : decode cX4_adds 111 = .ok (.iaload, 1) := by decide +kernel
theorem dX4_adds_112 : decode cX4_adds 112 = .ok (.iaload, 1) := by decide +kernel
theorem dX4_adds_113 : decode cX4_adds 113 = .ok (.imul, 1) := by decide +kernel
theorem dX4_adds_114 : decode cX4_adds 114 = .ok (.istore 6, 2) := by decide +kernel
theorem dX4_adds_116 : decode cX4_adds 116 = .ok (.iinc 7 1, 3) := by decide +kernel
theorem dX4_adds_119 : decode cX4_adds 119 = .ok (.goto (-80), 3) := by decide +kernel
theorem dX4_adds_122 : decode cX4_adds 122 = .ok (.iload 5, 2) := by decide +kernel
theorem dX4_adds_124 : decode cX4_adds 124 = .ok (.ireturn, 1) := by decide +kernel
set_option maxRecDepth 20000 in
theorem ggX4_finds_X4_orders : GoodIn wsX4_finds wsX4_orders := goodIn_r _ [19, 1, 2, 51, 52, 53, 54, 55, 56, 57, 58, 59, 60, 61, 62, 63, 64, 65, 66, 67, 68, 69, 70, 71, 72] (by decide +kernel) (by decide +kernel)
set_option maxRecDepth 20000 in
theorem gX4_finds_X4_orders : GoodIn wsX4_finds (wsV RX4 130 RX4 yX4_orders wsX4_orders) := goodIn_app (goodIn_of _ (by decide +kernel)) ggX4_finds_X4_orders
set_option maxRecDepth 20000 in
theorem ggX4_finds_X4_cells : GoodIn wsX4_finds wsX4_cells := goodIn_r _ [23, 1, 51, 52, 53, 54, 55, 56, 57, 58, 59, 60, 61, 62, 63, 64, 65, 66, 67, 68, 69, 70, 71, 72] (by decide +kernel) (by decide +kernel)
set_option maxRecDepth 20000 in
theorem gX4_finds_X4_cells : GoodIn wsX4_finds (wsV RX4 70 RX4 yX4_cells wsX4_cells) := goodIn_app (goodIn_of _ (by decide +kernel)) ggX4_finds_X4_cells
set_option maxRecDepth 20000 in
theorem ggX4_finds_X4_cellAt : GoodIn wsX4_finds wsX4_cellAt := goodIn_r _ [27, 1, 2, 28, 29, 30, 31, 18, 32, 51, 52, 53, 54, 55, 56, 57, 58, 59, 60, 61, 62, 63, 64, 65, 66, 67, 68, 69, 70, 71, 72] (by decide +kernel) (by decide +kernel)
set_option maxRecDepth 20000 in
theorem gX4_finds_X4_cellAt : GoodIn wsX4_finds (wsV RX4 135 RX4 yX4_cellAt wsX4_cellAt) := goodIn_app (goodIn_of _ (by decide +kernel)) ggX4_finds_X4_cellAt
set_option maxRecDepth 20000 in
theorem ggX4_finds_X4_adds : GoodIn wsX4_finds wsX4_adds := goodIn_r _ [36, 37, 38, 28, 2, 1, 39, 40, 41, 18, 42, 43, 44, 45, 46, 47, 48, 49, 50, 51, 52, 53, 54, 55, 56, 57, 58, 59, 60, 61, 62, 63, 64, 65, 66, 67, 68, 69, 70, 71, 72] (by decide +kernel) (by decide +kernel)
set_option maxRecDepth 20000 in
theorem gX4_finds_X4_adds : GoodIn wsX4_finds (wsV RX4 140 RX4 yX4_adds wsX4_adds) := goodIn_app (goodIn_of _ (by decide +kernel)) ggX4_finds_X4_adds
theorem dX4_finds_0 : decode cX4_finds 0 = .ok (.aload_n 0, 1) := by decide +kernel
theorem dX4_finds_1 : decode cX4_finds 1 = .ok (.invokevirtual 130, 3) := by decide +kernel
theorem dX4_finds_4 : decode cX4_finds 4 = .ok (.aload_n 0, 1) := by decide +kernel
theorem dX4_finds_5 : decode cX4_finds 5 = .ok (.getfield 7, 3) := by decide +kernel
theorem dX4_finds_8 : decode cX4_finds 8 = .ok (.aload_n 0, 1) := by decide +kernel
theorem dX4_finds_9 : decode cX4_finds 9 = .ok (.getfield 22, 3) := by decide +kernel
theorem dX4_finds_12 : decode cX4_finds 12 = .ok (.iconst 0, 1) := by decide +kernel
theorem dX4_finds_13 : decode cX4_finds 13 = .ok (.iaload, 1) := by decide +kernel
theorem dX4_finds_14 : decode cX4_finds 14 = .ok (.iaload, 1) := by decide +kernel
theorem dX4_finds_15 : decode cX4_finds 15 = .ok (.aload_n 0, 1) := by decide +kernel
theorem dX4_finds_16 : decode cX4_finds 16 = .ok (.getfield 7, 3) := by decide +kernel
theorem dX4_finds_19 : decode cX4_finds 19 = .ok (.aload_n 0, 1) := by decide +kernel
theorem dX4_finds_20 : decode cX4_finds 20 = .ok (.getfield 22, 3) := by decide +kernel
theorem dX4_finds_23 : decode cX4_finds 23 = .ok (.iconst 1, 1) := by decide +kernel
theorem dX4_finds_24 : decode cX4_finds 24 = .ok (.iaload, 1) := by decide +kernel
theorem dX4_finds_25 : decode cX4_finds 25 = .ok (.iaload, 1) := by decide +kernel
theorem dX4_finds_26 : decode cX4_finds 26 = .ok (.imul, 1) := by decide +kernel
theorem dX4_finds_27 : decode cX4_finds 27 = .ok (.istore_n 3, 1) := by decide +kernel
theorem dX4_finds_28 : decode cX4_finds 28 = .ok (.iconst 1, 1) := by decide +kernel
theorem dX4_finds_29 : decode cX4_finds 29 = .ok (.iload_n 3, 1) := by decide +kernel
theorem dX4_finds_30 : decode cX4_finds 30 = .ok (.ishl, 1) := by decide +kernel
theorem dX4_finds_31 : decode cX4_finds 31 = .ok (.istore 4, 2) := by decide +kernel
theorem dX4_finds_33 : decode cX4_finds 33 = .ok (.iconst 0, 1) := by decide +kernel
theorem dX4_finds_34 : decode cX4_finds 34 = .ok (.istore 5, 2) := by decide +kernel
theorem dX4_finds_36 : decode cX4_finds 36 = .ok (.iload 5, 2) := by decide +kernel
theorem dX4_finds_38 : decode cX4_finds 38 = .ok (.iload 4, 2) := by decide +kernel
theorem dX4_finds_40 : decode cX4_finds 40 = .ok (.if_icmp .ge 53, 3) := by decide +kernel
theorem dX4_finds_43 : decode cX4_finds 43 = .ok (.aload_n 0, 1) := by decide +kernel
theorem dX4_finds_44 : decode cX4_finds 44 = .ok (.getfield 28, 3) := by decide +kernel
theorem dX4_finds_47 : decode cX4_finds 47 = .ok (.iload 5, 2) := by decide +kernel
theorem dX4_finds_49 : decode cX4_finds 49 = .ok (.iload 5, 2) := by decide +kernel
theorem dX4_finds_51 : decode cX4_finds 51 = .ok (.ifCond .ne 7, 3) := by decide +kernel
theorem dX4_finds_54 : decode cX4_finds 54 = .ok (.lconst 0, 1) := by decide +kernel
theorem dX4_finds_55 : decode cX4_finds 55 = .ok (.goto 6, 3) := by decide +kernel
theorem dX4_finds_58 : decode cX4_finds 58 = .ok (.ldc2_w 133, 3) := by decide +kernel
theorem dX4_finds_61 : decode cX4_finds 61 = .ok (.lastore, 1) := by decide +kernel
theorem dX4_finds_62 : decode cX4_finds 62 = .ok (.aload_n 0, 1) := by decide +kernel
theorem dX4_finds_63 : decode cX4_finds 63 = .ok (.getfield 32, 3) := by decide +kernel
theorem dX4_finds_66 : decode cX4_finds 66 = .ok (.iload 5, 2) := by decide +kernel
theorem dX4_finds_68 : decode cX4_finds 68 = .ok (.lconst 0, 1) := by decide +kernel
theorem dX4_finds_69 : decode cX4_finds 69 = .ok (.lastore, 1) := by decide +kernel
theorem dX4_finds_70 : decode cX4_finds 70 = .ok (.aload_n 0, 1) := by decide +kernel
theorem dX4_finds_71 : decode cX4_finds 71 = .ok (.getfield 35, 3) := by decide +kernel
theorem dX4_finds_74 : decode cX4_finds 74 = .ok (.iload 5, 2) := by decide +kernel
theorem dX4_finds_76 : decode cX4_finds 76 = .ok (.iload 5, 2) := by decide +kernel
theorem dX4_finds_78 : decode cX4_finds 78 = .ok (.ifCond .ne 7, 3) := by decide +kernel
theorem dX4_finds_81 : decode cX4_finds 81 = .ok (.lconst 1, 1) := by decide +kernel
theorem dX4_finds_82 : decode cX4_finds 82 = .ok (.goto 4, 3) := by decide +kernel
theorem dX4_finds_85 : decode cX4_finds 85 = .ok (.lconst 0, 1) := by decide +kernel
theorem dX4_finds_86 : decode cX4_finds 86 = .ok (.lastore, 1) := by decide +kernel
theorem dX4_finds_87 : decode cX4_finds 87 = .ok (.iinc 5 1, 3) := by decide +kernel
theorem dX4_finds_90 : decode cX4_finds 90 = .ok (.goto (-54), 3) := by decide +kernel
theorem dX4_finds_93 : decode cX4_finds 93 = .ok (.iconst 0, 1) := by decide +kernel
theorem dX4_finds_94 : decode cX4_finds 94 = .ok (.istore 5, 2) := by decide +kernel
theorem dX4_finds_96 : decode cX4_finds 96 = .ok (.iload 5, 2) := by decide +kernel
theorem dX4_finds_98 : decode cX4_finds 98 = .ok (.aload_n 0, 1) := by decide +kernel
theorem dX4_finds_99 : decode cX4_finds 99 = .ok (.invokevirtual 70, 3) := by decide +kernel
theorem dX4_finds_102 : decode cX4_finds 102 = .ok (.if_icmp .ge 306, 3) := by decide +kernel
theorem dX4_finds_105 : decode cX4_finds 105 = .ok (.aload_n 0, 1) := by decide +kernel
theorem dX4_finds_106 : decode cX4_finds 106 = .ok (.iload 5, 2) := by decide +kernel
theorem dX4_finds_108 : decode cX4_finds 108 = .ok (.invokevirtual 135, 3) := by decide +kernel
theorem dX4_finds_111 : decode cX4_finds 111 = .ok (.istore 6, 2) := by decide +kernel
theorem dX4_finds_113 : decode cX4_finds 113 = .ok (.iconst 0, 1) := by decide +kernel
theorem dX4_finds_114 : decode cX4_finds 114 = .ok (.istore 7, 2) := by decide +kernel
theorem dX4_finds_116 : decode cX4_finds 116 = .ok (.iload 7, 2) := by decide +kernel
theorem dX4_finds_118 : decode cX4_finds 118 = .ok (.iload 4, 2) := by decide +kernel
theorem dX4_finds_120 : decode cX4_finds 120 = .ok (.if_icmp .ge 27, 3) := by decide +kernel
theorem dX4_finds_123 : decode cX4_finds 123 = .ok (.aload_n 0, 1) := by decide +kernel
theorem dX4_finds_124 : decode cX4_finds 124 = .ok (.getfield 38, 3) := by decide +kernel
theorem dX4_finds_127 : decode cX4_finds 127 = .ok (.iload 7, 2) := by decide +kernel
theorem dX4_finds_129 : decode cX4_finds 129 = .ok (.ldc2_w 133, 3) := by decide +kernel
theorem dX4_finds_132 : decode cX4_finds 132 = .ok (.lastore, 1) := by decide +kernel
theorem dX4_finds_133 : decode cX4_finds 133 = .ok (.aload_n 0, 1) := by decide +kernel
theorem dX4_finds_134 : decode cX4_finds 134 = .ok (.getfield 44, 3) := by decide +kernel
theorem dX4_finds_137 : decode cX4_finds 137 = .ok (.iload 7, 2) := by decide +kernel
theorem dX4_finds_139 : decode cX4_finds 139 = .ok (.lconst 0, 1) := by decide +kernel
theorem dX4_finds_140 : decode cX4_finds 140 = .ok (.lastore, 1) := by decide +kernel
theorem dX4_finds_141 : decode cX4_finds 141 = .ok (.iinc 7 1, 3) := by decide +kernel
theorem dX4_finds_144 : decode cX4_finds 144 = .ok (.goto (-28), 3) := by decide +kernel
theorem dX4_finds_147 : decode cX4_finds 147 = .ok (.iconst 0, 1) := by decide +kernel
theorem dX4_finds_148 : decode cX4_finds 148 = .ok (.istore 7, 2) := by decide +kernel
theorem dX4_finds_150 : decode cX4_finds 150 = .ok (.iload 7, 2) := by decide +kernel
theorem dX4_finds_152 : decode cX4_finds 152 = .ok (.iload 4, 2) := by decide +kernel
theorem dX4_finds_154 : decode cX4_finds 154 = .ok (.if_icmp .ge 190, 3) := by decide +kernel
theorem dX4_finds_157 : decode cX4_finds 157 = .ok (.iconst 0, 1) := by decide +kernel
theorem dX4_finds_158 : decode cX4_finds 158 = .ok (.istore 8, 2) := by decide +kernel
theorem dX4_finds_160 : decode cX4_finds 160 = .ok (.iload 8, 2) := by decide +kernel
theorem dX4_finds_162 : decode cX4_finds 162 = .ok (.iconst 2, 1) := by decide +kernel
theorem dX4_finds_163 : decode cX4_finds 163 = .ok (.if_icmp .ge 175, 3) := by decide +kernel
theorem dX4_finds_166 : decode cX4_finds 166 = .ok (.aload_n 0, 1) := by decide +kernel
theorem dX4_finds_167 : decode cX4_finds 167 = .ok (.getfield 28, 3) := by decide +kernel
theorem dX4_finds_170 : decode cX4_finds 170 = .ok (.iload 7, 2) := by decide +kernel
theorem dX4_finds_172 : decode cX4_finds 172 = .ok (.laload, 1) := by decide +kernel
theorem dX4_finds_173 : decode cX4_finds 173 = .ok (.ldc2_w 133, 3) := by decide +kernel
theorem dX4_finds_176 : decode cX4_finds 176 = .ok (.lcmp, 1) := by decide +kernel
theorem dX4_finds_177 : decode cX4_finds 177 = .ok (.ifCond .ge 155, 3) := by decide +kernel
theorem dX4_finds_180 : decode cX4_finds 180 = .ok (.aload_n 0, 1) := by decide +kernel
theorem dX4_finds_181 : decode cX4_finds 181 = .ok (.getfield 13, 3) := by decide +kernel
theorem dX4_finds_184 : decode cX4_finds 184 = .ok (.iload 6, 2) := by decide +kernel
theorem dX4_finds_186 : decode cX4_finds 186 = .ok (.iaload, 1) := by decide +kernel
theorem dX4_finds_187 : decode cX4_finds 187 = .ok (.iconst 1, 1) := by decide +kernel
theorem dX4_finds_188 : decode cX4_finds 188 = .ok (.iload 8, 2) := by decide +kernel
theorem dX4_finds_190 : decode cX4_finds 190 = .ok (.iadd, 1) := by decide +kernel
theorem dX4_finds_191 : decode cX4_finds 191 = .ok (.if_icmp .eq 141, 3) := by decide +kernel
theorem dX4_finds_194 : decode cX4_finds 194 = .ok (.iload 7, 2) := by decide +kernel
theorem dX4_finds_196 : decode cX4_finds 196 = .ok (.iconst 1, 1) := by decide +kernel
theorem dX4_finds_197 : decode cX4_finds 197 = .ok (.ishl, 1) := by decide +kernel
theorem dX4_finds_198 : decode cX4_finds 198 = .ok (.iload 8, 2) := by decide +kernel
theorem dX4_finds_200 : decode cX4_finds 200 = .ok (.ior, 1) := by decide +kernel
theorem dX4_finds_201 : decode cX4_finds 201 = .ok (.iload 4, 2) := by decide +kernel
theorem dX4_finds_203 : decode cX4_finds 203 = .ok (.iconst 1, 1) := by decide +kernel
theorem dX4_finds_204 : decode cX4_finds 204 = .ok (.isub, 1) := by decide +kernel
theorem dX4_finds_205 : decode cX4_finds 205 = .ok (.iand, 1) := by decide +kernel
theorem dX4_finds_206 : decode cX4_finds 206 = .ok (.istore 9, 2) := by decide +kernel
theorem dX4_finds_208 : decode cX4_finds 208 = .ok (.aload_n 0, 1) := by decide +kernel
theorem dX4_finds_209 : decode cX4_finds 209 = .ok (.getfield 28, 3) := by decide +kernel
theorem dX4_finds_212 : decode cX4_finds 212 = .ok (.iload 7, 2) := by decide +kernel
theorem dX4_finds_214 : decode cX4_finds 214 = .ok (.laload, 1) := by decide +kernel
theorem dX4_finds_215 : decode cX4_finds 215 = .ok (.ldc2_w 138, 3) := by decide +kernel
theorem dX4_finds_218 : decode cX4_finds 218 = .ok (.aload_n 0, 1) := by decide +kernel
theorem dX4_finds_219 : decode cX4_finds 219 = .ok (.iload 6, 2) := by decide +kernel
theorem dX4_finds_221 : decode cX4_finds 221 = .ok (.iload 7, 2) := by decide +kernel
theorem dX4_finds_223 : decode cX4_finds 223 = .ok (.iload 8, 2) := by decide +kernel
theorem dX4_finds_225 : decode cX4_finds 225 = .ok (.iload_n 1, 1) := by decide +kernel
theorem dX4_finds_226 : decode cX4_finds 226 = .ok (.invokevirtual 140, 3) := by decide +kernel
theorem dX4_finds_229 : decode cX4_finds 229 = .ok (.i2l, 1) := by decide +kernel
theorem dX4_finds_230 : decode cX4_finds 230 = .ok (.lmul, 1) := by decide +kernel
theorem dX4_finds_231 : decode cX4_finds 231 = .ok (.ladd, 1) := by decide +kernel
theorem dX4_finds_232 : decode cX4_finds 232 = .ok (.iload 8, 2) := by decide +kernel
theorem dX4_finds_234 : decode cX4_finds 234 = .ok (.iconst 1, 1) := by decide +kernel
theorem dX4_finds_235 : decode cX4_finds 235 = .ok (.if_icmp .ne 7, 3) := by decide +kernel
theorem dX4_finds_238 : decode cX4_finds 238 = .ok (.iload_n 2, 1) := by decide +kernel
theorem dX4_finds_239 : decode cX4_finds 239 = .ok (.goto 4, 3) := by decide +kernel
theorem dX4_finds_242 : decode cX4_finds 242 = .ok (.iconst 0, 1) := by decide +kernel
theorem dX4_finds_243 : decode cX4_finds 243 = .ok (.i2l, 1) := by decide +kernel
theorem dX4_finds_244 : decode cX4_finds 244 = .ok (.ladd, 1) := by decide +kernel
theorem dX4_finds_245 : decode cX4_finds 245 = .ok (.lstore 10, 2) := by decide +kernel
theorem dX4_finds_247 : decode cX4_finds 247 = .ok (.lload 10, 2) := by decide +kernel
theorem dX4_finds_249 : decode cX4_finds 249 = .ok (.aload_n 0, 1) := by decide +kernel
theorem dX4_finds_250 : decode cX4_finds 250 = .ok (.getfield 38, 3) := by decide +kernel
theorem dX4_finds_253 : decode cX4_finds 253 = .ok (.iload 9, 2) := by decide +kernel
theorem dX4_finds_255 : decode cX4_finds 255 = .ok (.laload, 1) := by decide +kernel
theorem dX4_finds_256 : decode cX4_finds 256 = .ok (.lcmp, 1) := by decide +kernel
theorem dX4_finds_257 : decode cX4_finds 257 = .ok (.ifCond .ge 41, 3) := by decide +kernel
theorem dX4_finds_260 : decode cX4_finds 260 = .ok (.aload_n 0, 1) := by decide +kernel
theorem dX4_finds_261 : decode cX4_finds 261 = .ok (.getfield 38, 3) := by decide +kernel
theorem dX4_finds_264 : decode cX4_finds 264 = .ok (.iload 9, 2) := by decide +kernel
theorem dX4_finds_266 : decode cX4_finds 266 = .ok (.lload 10, 2) := by decide +kernel
theorem dX4_finds_268 : decode cX4_finds 268 = .ok (.lastore, 1) := by decide +kernel
theorem dX4_finds_269 : decode cX4_finds 269 = .ok (.aload_n 0, 1) := by decide +kernel
theorem dX4_finds_270 : decode cX4_finds 270 = .ok (.getfield 41, 3) := by decide +kernel
theorem dX4_finds_273 : decode cX4_finds 273 = .ok (.iload 9, 2) := by decide +kernel
theorem dX4_finds_275 : decode cX4_finds 275 = .ok (.aload_n 0, 1) := by decide +kernel
theorem dX4_finds_276 : decode cX4_finds 276 = .ok (.getfield 32, 3) := by decide +kernel
theorem dX4_finds_279 : decode cX4_finds 279 = .ok (.iload 7, 2) := by decide +kernel
theorem dX4_finds_281 : decode cX4_finds 281 = .ok (.laload, 1) := by decide +kernel
theorem dX4_finds_282 : decode cX4_finds 282 = .ok (.iload 8, 2) := by decide +kernel
theorem dX4_finds_284 : decode cX4_finds 284 = .ok (.i2l, 1) := by decide +kernel
theorem dX4_finds_285 : decode cX4_finds 285 = .ok (.iload 6, 2) := by decide +kernel
theorem dX4_finds_287 : decode cX4_finds 287 = .ok (.lshl, 1) := by decide +kernel
theorem dX4_finds_288 : decode cX4_finds 288 = .ok (.lor, 1) := by decide +kernel
theorem dX4_finds_289 : decode cX4_finds 289 = .ok (.lastore, 1) := by decide +kernel
theorem dX4_finds_290 : decode cX4_finds 290 = .ok (.aload_n 0, 1) := by decide +kernel
theorem dX4_finds_291 : decode cX4_finds 291 = .ok (.getfield 44, 3) := by decide +kernel
theorem dX4_finds_294 : decode cX4_finds 294 = .ok (.iload 9, 2) := by decide +kernel
theorem dX4_finds_296 : decode cX4_finds 296 = .ok (.lconst 0, 1) := by decide +kernel
theorem dX4_finds_297 : decode cX4_finds 297 = .ok (.lastore, 1) := by decide +kernel
theorem dX4_finds_298 : decode cX4_finds 298 = .ok (.aload_n 0, 1) := by decide +kernel
theorem dX4_finds_299 : decode cX4_finds 299 = .ok (.getfield 44, 3) := by decide +kernel
theorem dX4_finds_302 : decode cX4_finds 302 = .ok (.iload 9, 2) := by decide +kernel
theorem dX4_finds_304 : decode cX4_finds 304 = .ok (.dup2, 1) := by decide +kernel
theorem dX4_finds_305 : decode cX4_finds 305 = .ok (.laload, 1) := by decide +kernel
theorem dX4_finds_306 : decode cX4_finds 306 = .ok (.lload 10, 2) := by decide +kernel
theorem dX4_finds_308 : decode cX4_finds 308 = .ok (.aload_n 0, 1) := by decide +kernel
theorem dX4_finds_309 : decode cX4_finds 309 = .ok (.getfield 38, 3) := by decide +kernel
theorem dX4_finds_312 : decode cX4_finds 312 = .ok (.iload 9, 2) := by decide +kernel
theorem dX4_finds_314 : decode cX4_finds 314 = .ok (.laload, 1) := by decide +kernel
theorem dX4_finds_315 : decode cX4_finds 315 = .ok (.lcmp, 1) := by decide +kernel
theorem dX4_finds_316 : decode cX4_finds 316 = .ok (.ifCond .ne 13, 3) := by decide +kernel
theorem dX4_finds_319 : decode cX4_finds 319 = .ok (.aload_n 0, 1) := by decide +kernel
theorem dX4_finds_320 : decode cX4_finds 320 = .ok (.getfield 35, 3) := by decide +kernel
theorem dX4_finds_323 : decode cX4_finds 323 = .ok (.iload 7, 2) := by decide +kernel
theorem dX4_finds_325 : decode cX4_finds 325 = .ok (.laload, 1) := by decide +kernel
theorem dX4_finds_326 : decode cX4_finds 326 = .ok (.goto 4, 3) := by decide +kernel
theorem dX4_finds_329 : decode cX4_finds 329 = .ok (.lconst 0, 1) := by decide +kernel
theorem dX4_finds_330 : decode cX4_finds 330 = .ok (.ladd, 1) := by decide +kernel
theorem dX4_finds_331 : decode cX4_finds 331 = .ok (.lastore, 1) := by decide +kernel
theorem dX4_finds_332 : decode cX4_finds 332 = .ok (.iinc 8 1, 3) := by decide +kernel
theorem dX4_finds_335 : decode cX4_finds 335 = .ok (.goto (-175), 3) := by decide +kernel
theorem dX4_finds_338 : decode cX4_finds 338 = .ok (.iinc 7 1, 3) := by decide +kernel
theorem dX4_finds_341 : decode cX4_finds 341 = .ok (.goto (-191), 3) := by decide +kernel
theorem dX4_finds_344 : decode cX4_finds 344 = .ok (.iconst 0, 1) := by decide +kernel
theorem dX4_finds_345 : decode cX4_finds 345 = .ok (.istore 7, 2) := by decide +kernel
theorem dX4_finds_347 : decode cX4_finds 347 = .ok (.iload 7, 2) := by decide +kernel
theorem dX4_finds_349 : decode cX4_finds 349 = .ok (.iload 4, 2) := by decide +kernel
theorem dX4_finds_351 : decode cX4_finds 351 = .ok (.if_icmp .ge 51, 3) := by decide +kernel
theorem dX4_finds_354 : decode cX4_finds 354 = .ok (.aload_n 0, 1) := by decide +kernel
theorem dX4_finds_355 : decode cX4_finds 355 = .ok (.getfield 28, 3) := by decide +kernel
theorem dX4_finds_358 : decode cX4_finds 358 = .ok (.iload 7, 2) := by decide +kernel
theorem dX4_finds_360 : decode cX4_finds 360 = .ok (.aload_n 0, 1) := by decide +kernel
theorem dX4_finds_361 : decode cX4_finds 361 = .ok (.getfield 38, 3) := by decide +kernel
theorem dX4_finds_364 : decode cX4_finds 364 = .ok (.iload 7, 2) := by decide +kernel
theorem dX4_finds_366 : decode cX4_finds 366 = .ok (.laload, 1) := by decide +kernel
theorem dX4_finds_367 : decode cX4_finds 367 = .ok (.lastore, 1) := by decide +kernel
theorem dX4_finds_368 : decode cX4_finds 368 = .ok (.aload_n 0, 1) := by decide +kernel
theorem dX4_finds_369 : decode cX4_finds 369 = .ok (.getfield 32, 3) := by decide +kernel
theorem dX4_finds_372 : decode cX4_finds 372 = .ok (.iload 7, 2) := by decide +kernel
theorem dX4_finds_374 : decode cX4_finds 374 = .ok (.aload_n 0, 1) := by decide +kernel
theorem dX4_finds_375 : decode cX4_finds 375 = .ok (.getfield 41, 3) := by decide +kernel
theorem dX4_finds_378 : decode cX4_finds 378 = .ok (.iload 7, 2) := by decide +kernel
theorem dX4_finds_380 : decode cX4_finds 380 = .ok (.laload, 1) := by decide +kernel
theorem dX4_finds_381 : decode cX4_finds 381 = .ok (.lastore, 1) := by decide +kernel
theorem dX4_finds_382 : decode cX4_finds 382 = .ok (.aload_n 0, 1) := by decide +kernel
theorem dX4_finds_383 : decode cX4_finds 383 = .ok (.getfield 35, 3) := by decide +kernel
theorem dX4_finds_386 : decode cX4_finds 386 = .ok (.iload 7, 2) := by decide +kernel
theorem dX4_finds_388 : decode cX4_finds 388 = .ok (.aload_n 0, 1) := by decide +kernel
theorem dX4_finds_389 : decode cX4_finds 389 = .ok (.getfield 44, 3) := by decide +kernel
theorem dX4_finds_392 : decode cX4_finds 392 = .ok (.iload 7, 2) := by decide +kernel
theorem dX4_finds_394 : decode cX4_finds 394 = .ok (.laload, 1) := by decide +kernel
theorem dX4_finds_395 : decode cX4_finds 395 = .ok (.lastore, 1) := by decide +kernel
theorem dX4_finds_396 : decode cX4_finds 396 = .ok (.iinc 7 1, 3) := by decide +kernel
theorem dX4_finds_399 : decode cX4_finds 399 = .ok (.goto (-52), 3) := by decide +kernel
theorem dX4_finds_402 : decode cX4_finds 402 = .ok (.iinc 5 1, 3) := by decide +kernel
theorem dX4_finds_405 : decode cX4_finds 405 = .ok (.goto (-309), 3) := by decide +kernel
theorem dX4_finds_408 : decode cX4_finds 408 = .ok (.aload_n 0, 1) := by decide +kernel
theorem dX4_finds_409 : decode cX4_finds 409 = .ok (.ldc2_w 133, 3) := by decide +kernel
theorem dX4_finds_412 : decode cX4_finds 412 = .ok (.putfield 144, 3) := by decide +kernel
theorem dX4_finds_415 : decode cX4_finds 415 = .ok (.aload_n 0, 1) := by decide +kernel
theorem dX4_finds_416 : decode cX4_finds 416 = .ok (.lconst 0, 1) := by decide +kernel
theorem dX4_finds_417 : decode cX4_finds 417 = .ok (.putfield 147, 3) := by decide +kernel
theorem dX4_finds_420 : decode cX4_finds 420 = .ok (.iconst 0, 1) := by decide +kernel
theorem dX4_finds_421 : decode cX4_finds 421 = .ok (.istore 5, 2) := by decide +kernel
theorem dX4_finds_423 : decode cX4_finds 423 = .ok (.iload 5, 2) := by decide +kernel
theorem dX4_finds_425 : decode cX4_finds 425 = .ok (.iload 4, 2) := by decide +kernel
theorem dX4_finds_427 : decode cX4_finds 427 = .ok (.if_icmp .ge 97, 3) := by decide +kernel
theorem dX4_finds_430 : decode cX4_finds 430 = .ok (.aload_n 0, 1) := by decide +kernel
theorem dX4_finds_431 : decode cX4_finds 431 = .ok (.getfield 28, 3) := by decide +kernel
theorem dX4_finds_434 : decode cX4_finds 434 = .ok (.iload 5, 2) := by decide +kernel
theorem dX4_finds_436 : decode cX4_finds 436 = .ok (.laload, 1) := by decide +kernel
theorem dX4_finds_437 : decode cX4_finds 437 = .ok (.aload_n 0, 1) := by decide +kernel
theorem dX4_finds_438 : decode cX4_finds 438 = .ok (.getfield 144, 3) := by decide +kernel
theorem dX4_finds_441 : decode cX4_finds 441 = .ok (.lcmp, 1) := by decide +kernel
theorem dX4_finds_442 : decode cX4_finds 442 = .ok (.ifCond .ge 30, 3) := by decide +kernel
theorem dX4_finds_445 : decode cX4_finds 445 = .ok (.aload_n 0, 1) := by decide +kernel
theorem dX4_finds_446 : decode cX4_finds 446 = .ok (.aload_n 0, 1) := by decide +kernel
theorem dX4_finds_447 : decode cX4_finds 447 = .ok (.getfield 28, 3) := by decide +kernel
theorem dX4_finds_450 : decode cX4_finds 450 = .ok (.iload 5, 2) := by decide +kernel
theorem dX4_finds_452 : decode cX4_finds 452 = .ok (.laload, 1) := by decide +kernel
theorem dX4_finds_453 : decode cX4_finds 453 = .ok (.putfield 144, 3) := by decide +kernel
theorem dX4_finds_456 : decode cX4_finds 456 = .ok (.aload_n 0, 1) := by decide +kernel
theorem dX4_finds_457 : decode cX4_finds 457 = .ok (.aload_n 0, 1) := by decide +kernel
theorem dX4_finds_458 : decode cX4_finds 458 = .ok (.getfield 32, 3) := by decide +kernel
theorem dX4_finds_461 : decode cX4_finds 461 = .ok (.iload 5, 2) := by decide +kernel
theorem dX4_finds_463 : decode cX4_finds 463 = .ok (.laload, 1) := by decide +kernel
theorem dX4_finds_464 : decode cX4_finds 464 = .ok (.putfield 150, 3) := by decide +kernel
theorem dX4_finds_467 : decode cX4_finds 467 = .ok (.aload_n 0, 1) := by decide +kernel
theorem dX4_finds_468 : decode cX4_finds 468 = .ok (.lconst 0, 1) := by decide +kernel
theorem dX4_finds_469 : decode cX4_finds 469 = .ok (.putfield 147, 3) := by decide +kernel
theorem dX4_finds_472 : decode cX4_finds 472 = .ok (.aload_n 0, 1) := by decide +kernel
theorem dX4_finds_473 : decode cX4_finds 473 = .ok (.dup, 1) := by decide +kernel
theorem dX4_finds_474 : decode cX4_finds 474 = .ok (.getfield 147, 3) := by decide +kernel
theorem dX4_finds_477 : decode cX4_finds 477 = .ok (.aload_n 0, 1) := by decide +kernel
theorem dX4_finds_478 : decode cX4_finds 478 = .ok (.getfield 28, 3) := by decide +kernel
theorem dX4_finds_481 : decode cX4_finds 481 = .ok (.iload 5, 2) := by decide +kernel
theorem dX4_finds_483 : decode cX4_finds 483 = .ok (.laload, 1) := by decide +kernel
theorem dX4_finds_484 : decode cX4_finds 484 = .ok (.aload_n 0, 1) := by decide +kernel
theorem dX4_finds_485 : decode cX4_finds 485 = .ok (.getfield 144, 3) := by decide +kernel
theorem dX4_finds_488 : decode cX4_finds 488 = .ok (.lcmp, 1) := by decide +kernel
theorem dX4_finds_489 : decode cX4_finds 489 = .ok (.ifCond .ne 24, 3) := by decide +kernel
theorem dX4_finds_492 : decode cX4_finds 492 = .ok (.aload_n 0, 1) := by decide +kernel
theorem dX4_finds_493 : decode cX4_finds 493 = .ok (.getfield 144, 3) := by decide +kernel
theorem dX4_finds_496 : decode cX4_finds 496 = .ok (.ldc2_w 133, 3) := by decide +kernel
theorem dX4_finds_499 : decode cX4_finds 499 = .ok (.lcmp, 1) := by decide +kernel
theorem dX4_finds_500 : decode cX4_finds 500 = .ok (.ifCond .ge 13, 3) := by decide +kernel
theorem dX4_finds_503 : decode cX4_finds 503 = .ok (.aload_n 0, 1) := by decide +kernel
theorem dX4_finds_504 : decode cX4_finds 504 = .ok (.getfield 35, 3) := by decide +kernel
theorem dX4_finds_507 : decode cX4_finds 507 = .ok (.iload 5, 2) := by decide +kernel
theorem dX4_finds_509 : decode cX4_finds 509 = .ok (.laload, 1) := by decide +kernel
theorem dX4_finds_510 : decode cX4_finds 510 = .ok (.goto 4, 3) := by decide +kernel
theorem dX4_finds_513 : decode cX4_finds 513 = .ok (.lconst 0, 1) := by decide +kernel
theorem dX4_finds_514 : decode cX4_finds 514 = .ok (.ladd, 1) := by decide +kernel
theorem dX4_finds_515 : decode cX4_finds 515 = .ok (.putfield 147, 3) := by decide +kernel
theorem dX4_finds_518 : decode cX4_finds 518 = .ok (.iinc 5 1, 3) := by decide +kernel
theorem dX4_finds_521 : decode cX4_finds 521 = .ok (.goto (-98), 3) := by decide +kernel
theorem dX4_finds_524 : decode cX4_finds 524 = .ok (.return_, 1) := by decide +kernel
set_option maxRecDepth 20000 in
theorem ggX4_least_X4_finds : GoodIn wsX4_least wsX4_finds := goodIn_r _ [8, 9, 10, 11, 12, 13, 14, 15, 16, 17, 3, 18, 2, 19, 20, 21, 22, 23, 7, 24, 25, 26, 27, 28, 29, 30, 31, 32, 33, 34, 35, 36, 37, 38, 39, 40, 41, 42, 43, 44, 45, 46, 47, 48, 49, 50, 51, 52, 53, 54, 55, 56, 57, 58, 59, 60, 61, 62, 63, 64, 65, 66, 67, 68, 69, 70, 71, 72, 73, 74, 75, 76, 77] (by decide +kernel) (by decide +kernel)
set_option maxRecDepth 20000 in
theorem gX4_least_X4_finds : GoodIn wsX4_least (wsV RX4 153 RX4 yX4_finds wsX4_finds) := goodIn_app (goodIn_of _ (by decide +kernel)) ggX4_least_X4_finds
theorem dX4_least_0 : decode cX4_least 0 = .ok (.aload_n 0, 1) := by decide +kernel
theorem dX4_least_1 : decode cX4_least 1 = .ok (.iconst 0, 1) := by decide +kernel
theorem dX4_least_2 : decode cX4_least 2 = .ok (.putfield 67, 3) := by decide +kernel
theorem dX4_least_5 : decode cX4_least 5 = .ok (.aload_n 0, 1) := by decide +kernel
theorem dX4_least_6 : decode cX4_least 6 = .ok (.iconst 0, 1) := by decide +kernel
theorem dX4_least_7 : decode cX4_least 7 = .ok (.iconst 0, 1) := by decide +kernel
theorem dX4_least_8 : decode cX4_least 8 = .ok (.invokevirtual 153, 3) := by decide +kernel
theorem dX4_least_11 : decode cX4_least 11 = .ok (.aload_n 0, 1) := by decide +kernel
theorem dX4_least_12 : decode cX4_least 12 = .ok (.getfield 144, 3) := by decide +kernel
theorem dX4_least_15 : decode cX4_least 15 = .ok (.ldc2_w 138, 3) := by decide +kernel
theorem dX4_least_18 : decode cX4_least 18 = .ok (.ldiv, 1) := by decide +kernel
theorem dX4_least_19 : decode cX4_least 19 = .ok (.lreturn, 1) := by decide +kernel
set_option maxRecDepth 20000 in
theorem ggX4_film_X4_in : GoodIn wsX4_film wsX4_in := goodIn_r _ [7] (by decide +kernel) (by decide +kernel)
set_option maxRecDepth 20000 in
theorem gX4_film_X4_in : GoodIn wsX4_film (va_wsS RX4 74 yX4_in wsX4_in) := goodIn_app (goodIn_of _ (by decide +kernel)) ggX4_film_X4_in
set_option maxRecDepth 20000 in
theorem ggX4_film_X4_finds : GoodIn wsX4_film wsX4_finds := goodIn_r _ [11, 12, 13, 14, 15, 16, 17, 18, 19, 20, 21, 22, 23, 24, 3, 25, 26, 27, 6, 28, 29, 30, 31, 32, 33, 34, 35, 36, 37, 38, 39, 40, 41, 42, 43, 44, 45, 46, 47, 48, 49, 50, 51, 52, 53, 54, 55, 56, 57, 58, 59, 60, 61, 62, 63, 64, 65, 66, 67, 68, 69, 70, 71, 72, 73, 74, 75, 76, 77, 78, 79, 80, 81] (by decide +kernel) (by decide +kernel)
set_option maxRecDepth 20000 in
theorem gX4_film_X4_finds : GoodIn wsX4_film (wsV RX4 153 RX4 yX4_finds wsX4_finds) := goodIn_app (goodIn_of _ (by decide +kernel)) ggX4_film_X4_finds
theorem dX4_film_0 : decode cX4_film 0 = .ok (.aload_n 0, 1) := by decide +kernel
theorem dX4_film_1 : decode cX4_film 1 = .ok (.iconst 0, 1) := by decide +kernel
theorem dX4_film_2 : decode cX4_film 2 = .ok (.putfield 67, 3) := by decide +kernel
theorem dX4_film_5 : decode cX4_film 5 = .ok (.iload_n 1, 1) := by decide +kernel
theorem dX4_film_6 : decode cX4_film 6 = .ok (.i2l, 1) := by decide +kernel
theorem dX4_film_7 : decode cX4_film 7 = .ok (.lconst 0, 1) := by decide +kernel
theorem dX4_film_8 : decode cX4_film 8 = .ok (.lconst 1, 1) := by decide +kernel
theorem dX4_film_9 : decode cX4_film 9 = .ok (.invokestatic 74, 3) := by decide +kernel
theorem dX4_film_12 : decode cX4_film 12 = .ok (.ifCond .ne 7, 3) := by decide +kernel
theorem dX4_film_15 : decode cX4_film 15 = .ok (.ldc2_w 126, 3) := by decide +kernel
theorem dX4_film_18 : decode cX4_film 18 = .ok (.lreturn, 1) := by decide +kernel
theorem dX4_film_19 : decode cX4_film 19 = .ok (.aload_n 0, 1) := by decide +kernel
theorem dX4_film_20 : decode cX4_film 20 = .ok (.iconst 0, 1) := by decide +kernel
theorem dX4_film_21 : decode cX4_film 21 = .ok (.iload_n 1, 1) := by decide +kernel
theorem dX4_film_22 : decode cX4_film 22 = .ok (.ifCond .ne 7, 3) := by decide +kernel
theorem dX4_film_25 : decode cX4_film 25 = .ok (.iconst 1, 1) := by decide +kernel
theorem dX4_film_26 : decode cX4_film 26 = .ok (.goto 4, 3) := by decide +kernel
theorem dX4_film_29 : decode cX4_film 29 = .ok (.iconst (-1), 1) := by decide +kernel
theorem dX4_film_30 : decode cX4_film 30 = .ok (.invokevirtual 153, 3) := by decide +kernel
theorem dX4_film_33 : decode cX4_film 33 = .ok (.aload_n 0, 1) := by decide +kernel
theorem dX4_film_34 : decode cX4_film 34 = .ok (.getfield 150, 3) := by decide +kernel
theorem dX4_film_37 : decode cX4_film 37 = .ok (.lreturn, 1) := by decide +kernel
set_option maxRecDepth 20000 in
theorem ggX4_room_X4_in : GoodIn wsX4_room wsX4_in := goodIn_r _ [8] (by decide +kernel) (by decide +kernel)
set_option maxRecDepth 20000 in
theorem gX4_room_X4_in : GoodIn wsX4_room (va_wsS RX4 74 yX4_in wsX4_in) := goodIn_app (goodIn_of _ (by decide +kernel)) ggX4_room_X4_in
set_option maxRecDepth 20000 in
theorem ggX4_room_X4_finds : GoodIn wsX4_room wsX4_finds := goodIn_r _ [12, 13, 14, 15, 16, 17, 18, 19, 20, 21, 22, 23, 24, 25, 4, 26, 27, 28, 7, 29, 30, 31, 32, 33, 34, 35, 36, 37, 38, 39, 40, 41, 42, 43, 44, 45, 46, 47, 48, 49, 50, 51, 52, 53, 54, 55, 56, 57, 58, 59, 60, 61, 62, 63, 64, 65, 66, 67, 68, 69, 70, 71, 72, 73, 74, 75, 76, 77, 78, 79, 80, 81, 82] (by decide +kernel) (by decide +kernel)
set_option maxRecDepth 20000 in
theorem gX4_room_X4_finds : GoodIn wsX4_room (wsV RX4 153 RX4 yX4_finds wsX4_finds) := goodIn_app (goodIn_of _ (by decide +kernel)) ggX4_room_X4_finds
set_option maxRecDepth 20000 in
theorem ggX4_room_X4_cells : GoodIn wsX4_room wsX4_cells := goodIn_r _ [33, 13, 61, 62, 63, 64, 65, 66, 67, 68, 69, 70, 71, 72, 73, 74, 75, 76, 77, 78, 79, 80, 81, 82] (by decide +kernel) (by decide +kernel)
set_option maxRecDepth 20000 in
theorem gX4_room_X4_cells : GoodIn wsX4_room (wsV RX4 70 RX4 yX4_cells wsX4_cells) := goodIn_app (goodIn_of _ (by decide +kernel)) ggX4_room_X4_cells
theorem dX4_room_0 : decode cX4_room 0 = .ok (.aload_n 0, 1) := by decide +kernel
theorem dX4_room_1 : decode cX4_room 1 = .ok (.iconst 0, 1) := by decide +kernel
theorem dX4_room_2 : decode cX4_room 2 = .ok (.putfield 67, 3) := by decide +kernel
theorem dX4_room_5 : decode cX4_room 5 = .ok (.iload_n 1, 1) := by decide +kernel
theorem dX4_room_6 : decode cX4_room 6 = .ok (.i2l, 1) := by decide +kernel
theorem dX4_room_7 : decode cX4_room 7 = .ok (.ldc2_w 157, 3) := by decide +kernel
theorem dX4_room_10 : decode cX4_room 10 = .ok (.ldc2_w 159, 3) := by decide +kernel
theorem dX4_room_13 : decode cX4_room 13 = .ok (.invokestatic 74, 3) := by decide +kernel
theorem dX4_room_16 : decode cX4_room 16 = .ok (.ifCond .eq 13, 3) := by decide +kernel
theorem dX4_room_19 : decode cX4_room 19 = .ok (.iload_n 2, 1) := by decide +kernel
theorem dX4_room_20 : decode cX4_room 20 = .ok (.i2l, 1) := by decide +kernel
theorem dX4_room_21 : decode cX4_room 21 = .ok (.lconst 0, 1) := by decide +kernel
theorem dX4_room_22 : decode cX4_room 22 = .ok (.lconst 1, 1) := by decide +kernel
theorem dX4_room_23 : decode cX4_room 23 = .ok (.invokestatic 74, 3) := by decide +kernel
theorem dX4_room_26 : decode cX4_room 26 = .ok (.ifCond .ne 5, 3) := by decide +kernel
theorem dX4_room_29 : decode cX4_room 29 = .ok (.iconst (-1), 1) := by decide +kernel
theorem dX4_room_30 : decode cX4_room 30 = .ok (.ireturn, 1) := by decide +kernel
theorem dX4_room_31 : decode cX4_room 31 = .ok (.aload_n 0, 1) := by decide +kernel
theorem dX4_room_32 : decode cX4_room 32 = .ok (.iload_n 1, 1) := by decide +kernel
theorem dX4_room_33 : decode cX4_room 33 = .ok (.iload_n 2, 1) := by decide +kernel
theorem dX4_room_34 : decode cX4_room 34 = .ok (.ifCond .ne 7, 3) := by decide +kernel
theorem dX4_room_37 : decode cX4_room 37 = .ok (.iconst 1, 1) := by decide +kernel
theorem dX4_room_38 : decode cX4_room 38 = .ok (.goto 4, 3) := by decide +kernel
theorem dX4_room_41 : decode cX4_room 41 = .ok (.iconst (-1), 1) := by decide +kernel
theorem dX4_room_42 : decode cX4_room 42 = .ok (.invokevirtual 153, 3) := by decide +kernel
theorem dX4_room_45 : decode cX4_room 45 = .ok (.iconst 0, 1) := by decide +kernel
theorem dX4_room_46 : decode cX4_room 46 = .ok (.istore_n 3, 1) := by decide +kernel
theorem dX4_room_47 : decode cX4_room 47 = .ok (.iconst 0, 1) := by decide +kernel
theorem dX4_room_48 : decode cX4_room 48 = .ok (.istore 4, 2) := by decide +kernel
theorem dX4_room_50 : decode cX4_room 50 = .ok (.iload 4, 2) := by decide +kernel
theorem dX4_room_52 : decode cX4_room 52 = .ok (.aload_n 0, 1) := by decide +kernel
theorem dX4_room_53 : decode cX4_room 53 = .ok (.invokevirtual 70, 3) := by decide +kernel
theorem dX4_room_56 : decode cX4_room 56 = .ok (.if_icmp .ge 22, 3) := by decide +kernel
theorem dX4_room_59 : decode cX4_room 59 = .ok (.iload_n 3, 1) := by decide +kernel
theorem dX4_room_60 : decode cX4_room 60 = .ok (.aload_n 0, 1) := by decide +kernel
theorem dX4_room_61 : decode cX4_room 61 = .ok (.getfield 150, 3) := by decide +kernel
theorem dX4_room_64 : decode cX4_room 64 = .ok (.iload 4, 2) := by decide +kernel
theorem dX4_room_66 : decode cX4_room 66 = .ok (.lshr, 1) := by decide +kernel
theorem dX4_room_67 : decode cX4_room 67 = .ok (.lconst 1, 1) := by decide +kernel
theorem dX4_room_68 : decode cX4_room 68 = .ok (.land, 1) := by decide +kernel
theorem dX4_room_69 : decode cX4_room 69 = .ok (.l2i, 1) := by decide +kernel
theorem dX4_room_70 : decode cX4_room 70 = .ok (.iadd, 1) := by decide +kernel
theorem dX4_room_71 : decode cX4_room 71 = .ok (.istore_n 3, 1) := by decide +kernel
theorem dX4_room_72 : decode cX4_room 72 = .ok (.iinc 4 1, 3) := by decide +kernel
theorem dX4_room_75 : decode cX4_room 75 = .ok (.goto (-25), 3) := by decide +kernel
theorem dX4_room_78 : decode cX4_room 78 = .ok (.iload_n 3, 1) := by decide +kernel
theorem dX4_room_79 : decode cX4_room 79 = .ok (.ireturn, 1) := by decide +kernel
set_option maxRecDepth 20000 in
theorem ggX4_free_X4_cells : GoodIn wsX4_free wsX4_cells := goodIn_r _ [6, 7, 8, 9, 10, 11, 12, 13, 14, 15, 16, 17, 18, 19, 20, 21, 22, 23, 24, 25, 26, 27, 28, 29] (by decide +kernel) (by decide +kernel)
set_option maxRecDepth 20000 in
theorem gX4_free_X4_cells : GoodIn wsX4_free (wsV RX4 70 RX4 yX4_cells wsX4_cells) := goodIn_app (goodIn_of _ (by decide +kernel)) ggX4_free_X4_cells
theorem dX4_free_0 : decode cX4_free 0 = .ok (.iconst 0, 1) := by decide +kernel
theorem dX4_free_1 : decode cX4_free 1 = .ok (.istore_n 1, 1) := by decide +kernel
theorem dX4_free_2 : decode cX4_free 2 = .ok (.iconst 0, 1) := by decide +kernel
theorem dX4_free_3 : decode cX4_free 3 = .ok (.istore_n 2, 1) := by decide +kernel
theorem dX4_free_4 : decode cX4_free 4 = .ok (.iload_n 2, 1) := by decide +kernel
theorem dX4_free_5 : decode cX4_free 5 = .ok (.aload_n 0, 1) := by decide +kernel
theorem dX4_free_6 : decode cX4_free 6 = .ok (.invokevirtual 70, 3) := by decide +kernel
theorem dX4_free_9 : decode cX4_free 9 = .ok (.if_icmp .ge 26, 3) := by decide +kernel
theorem dX4_free_12 : decode cX4_free 12 = .ok (.iload_n 1, 1) := by decide +kernel
theorem dX4_free_13 : decode cX4_free 13 = .ok (.aload_n 0, 1) := by decide +kernel
theorem dX4_free_14 : decode cX4_free 14 = .ok (.getfield 13, 3) := by decide +kernel
theorem dX4_free_17 : decode cX4_free 17 = .ok (.iload_n 2, 1) := by decide +kernel
theorem dX4_free_18 : decode cX4_free 18 = .ok (.iaload, 1) := by decide +kernel
theorem dX4_free_19 : decode cX4_free 19 = .ok (.ifCond .ne 7, 3) := by decide +kernel
theorem dX4_free_22 : decode cX4_free 22 = .ok (.iconst 1, 1) := by decide +kernel
theorem dX4_free_23 : decode cX4_free 23 = .ok (.goto 4, 3) := by decide +kernel
theorem dX4_free_26 : decode cX4_free 26 = .ok (.iconst 0, 1) := by decide +kernel
theorem dX4_free_27 : decode cX4_free 27 = .ok (.iadd, 1) := by decide +kernel
theorem dX4_free_28 : decode cX4_free 28 = .ok (.istore_n 1, 1) := by decide +kernel
theorem dX4_free_29 : decode cX4_free 29 = .ok (.iinc 2 1, 3) := by decide +kernel
theorem dX4_free_32 : decode cX4_free 32 = .ok (.goto (-28), 3) := by decide +kernel
theorem dX4_free_35 : decode cX4_free 35 = .ok (.iload_n 1, 1) := by decide +kernel
theorem dX4_free_36 : decode cX4_free 36 = .ok (.ireturn, 1) := by decide +kernel
set_option maxRecDepth 20000 in
theorem ggX4_many_X4_free : GoodIn wsX4_many wsX4_free := goodIn_r _ [7, 8, 9, 10, 11, 6, 12, 13, 60, 61, 62, 63, 64, 65, 66, 67, 68, 69, 70, 71, 72, 73, 74, 75, 76, 77, 78, 79, 80, 81] (by decide +kernel) (by decide +kernel)
set_option maxRecDepth 20000 in
theorem gX4_many_X4_free : GoodIn wsX4_many (wsV RX4 161 RX4 yX4_free wsX4_free) := goodIn_app (goodIn_of _ (by decide +kernel)) ggX4_many_X4_free
set_option maxRecDepth 20000 in
theorem ggX4_many_X4_finds : GoodIn wsX4_many wsX4_finds := goodIn_r _ [17, 13, 18, 19, 20, 21, 22, 23, 24, 8, 25, 26, 27, 2, 28, 29, 30, 31, 6, 32, 9, 10, 11, 12, 33, 34, 35, 36, 37, 38, 39, 40, 41, 42, 43, 44, 45, 46, 47, 48, 49, 50, 51, 52, 53, 54, 55, 56, 57, 58, 59, 60, 61, 62, 63, 64, 65, 66, 67, 68, 69, 70, 71, 72, 73, 74, 75, 76, 77, 78, 79, 80, 81] (by decide +kernel) (by decide +kernel)
set_option maxRecDepth 20000 in
theorem gX4_many_X4_finds : GoodIn wsX4_many (wsV RX4 153 RX4 yX4_finds wsX4_finds) := goodIn_app (goodIn_of _ (by decide +kernel)) ggX4_many_X4_finds
theorem dX4_many_0 : decode cX4_many 0 = .ok (.aload_n 0, 1) := by decide +kernel
theorem dX4_many_1 : decode cX4_many 1 = .ok (.iconst 0, 1) := by decide +kernel
theorem dX4_many_2 : decode cX4_many 2 = .ok (.putfield 67, 3) := by decide +kernel
theorem dX4_many_5 : decode cX4_many 5 = .ok (.aload_n 0, 1) := by decide +kernel
theorem dX4_many_6 : decode cX4_many 6 = .ok (.invokevirtual 161, 3) := by decide +kernel
theorem dX4_many_9 : decode cX4_many 9 = .ok (.bipush 12, 2) := by decide +kernel
theorem dX4_many_11 : decode cX4_many 11 = .ok (.if_icmp .le 6, 3) := by decide +kernel
theorem dX4_many_14 : decode cX4_many 14 = .ok (.bipush (-2), 2) := by decide +kernel
theorem dX4_many_16 : decode cX4_many 16 = .ok (.ireturn, 1) := by decide +kernel
theorem dX4_many_17 : decode cX4_many 17 = .ok (.aload_n 0, 1) := by decide +kernel
theorem dX4_many_18 : decode cX4_many 18 = .ok (.iconst 0, 1) := by decide +kernel
theorem dX4_many_19 : decode cX4_many 19 = .ok (.iconst 0, 1) := by decide +kernel
theorem dX4_many_20 : decode cX4_many 20 = .ok (.invokevirtual 153, 3) := by decide +kernel
theorem dX4_many_23 : decode cX4_many 23 = .ok (.aload_n 0, 1) := by decide +kernel
theorem dX4_many_24 : decode cX4_many 24 = .ok (.getfield 147, 3) := by decide +kernel
theorem dX4_many_27 : decode cX4_many 27 = .ok (.l2i, 1) := by decide +kernel
theorem dX4_many_28 : decode cX4_many 28 = .ok (.ireturn, 1) := by decide +kernel
theorem dX4_pins_0 : decode cX4_pins 0 = .ok (.iconst 0, 1) := by decide +kernel
theorem dX4_pins_1 : decode cX4_pins 1 = .ok (.istore_n 1, 1) := by decide +kernel
theorem dX4_pins_2 : decode cX4_pins 2 = .ok (.iload_n 1, 1) := by decide +kernel
theorem dX4_pins_3 : decode cX4_pins 3 = .ok (.bipush 64, 2) := by decide +kernel
theorem dX4_pins_5 : decode cX4_pins 5 = .ok (.if_icmp .ge 65, 3) := by decide +kernel
theorem dX4_pins_8 : decode cX4_pins 8 = .ok (.iload_n 1, 1) := by decide +kernel
theorem dX4_pins_9 : decode cX4_pins 9 = .ok (.bipush 8, 2) := by decide +kernel
theorem dX4_pins_11 : decode cX4_pins 11 = .ok (.irem, 1) := by decide +kernel
theorem dX4_pins_12 : decode cX4_pins 12 = .ok (.istore_n 2, 1) := by decide +kernel
theorem dX4_pins_13 : decode cX4_pins 13 = .ok (.iload_n 1, 1) := by decide +kernel
theorem dX4_pins_14 : decode cX4_pins 14 = .ok (.bipush 8, 2) := by decide +kernel
theorem dX4_pins_16 : decode cX4_pins 16 = .ok (.idiv, 1) := by decide +kernel
theorem dX4_pins_17 : decode cX4_pins 17 = .ok (.istore_n 3, 1) := by decide +kernel
theorem dX4_pins_18 : decode cX4_pins 18 = .ok (.aload_n 0, 1) := by decide +kernel
theorem dX4_pins_19 : decode cX4_pins 19 = .ok (.getfield 54, 3) := by decide +kernel
theorem dX4_pins_22 : decode cX4_pins 22 = .ok (.iload_n 1, 1) := by decide +kernel
theorem dX4_pins_23 : decode cX4_pins 23 = .ok (.iconst 0, 1) := by decide +kernel
theorem dX4_pins_24 : decode cX4_pins 24 = .ok (.iastore, 1) := by decide +kernel
theorem dX4_pins_25 : decode cX4_pins 25 = .ok (.aload_n 0, 1) := by decide +kernel
theorem dX4_pins_26 : decode cX4_pins 26 = .ok (.getfield 57, 3) := by decide +kernel
theorem dX4_pins_29 : decode cX4_pins 29 = .ok (.iload_n 1, 1) := by decide +kernel
theorem dX4_pins_30 : decode cX4_pins 30 = .ok (.iload_n 2, 1) := by decide +kernel
theorem dX4_pins_31 : decode cX4_pins 31 = .ok (.ifCond .eq 27, 3) := by decide +kernel
theorem dX4_pins_34 : decode cX4_pins 34 = .ok (.iload_n 3, 1) := by decide +kernel
theorem dX4_pins_35 : decode cX4_pins 35 = .ok (.ifCond .eq 23, 3) := by decide +kernel
theorem dX4_pins_38 : decode cX4_pins 38 = .ok (.iload_n 2, 1) := by decide +kernel
theorem dX4_pins_39 : decode cX4_pins 39 = .ok (.aload_n 0, 1) := by decide +kernel
theorem dX4_pins_40 : decode cX4_pins 40 = .ok (.getfield 47, 3) := by decide +kernel
theorem dX4_pins_43 : decode cX4_pins 43 = .ok (.iconst 1, 1) := by decide +kernel
theorem dX4_pins_44 : decode cX4_pins 44 = .ok (.isub, 1) := by decide +kernel
theorem dX4_pins_45 : decode cX4_pins 45 = .ok (.if_icmp .eq 13, 3) := by decide +kernel
theorem dX4_pins_48 : decode cX4_pins 48 = .ok (.iload_n 3, 1) := by decide +kernel
theorem dX4_pins_49 : decode cX4_pins 49 = .ok (.aload_n 0, 1) := by decide +kernel
theorem dX4_pins_50 : decode cX4_pins 50 = .ok (.getfield 51, 3) := by decide +kernel
theorem dX4_pins_53 : decode cX4_pins 53 = .ok (.iconst 1, 1) := by decide +kernel
theorem dX4_pins_54 : decode cX4_pins 54 = .ok (.isub, 1) := by decide +kernel
theorem dX4_pins_55 : decode cX4_pins 55 = .ok (.if_icmp .ne 7, 3) := by decide +kernel
theorem dX4_pins_58 : decode cX4_pins 58 = .ok (.iconst 1, 1) := by decide +kernel
theorem dX4_pins_59 : decode cX4_pins 59 = .ok (.goto 4, 3) := by decide +kernel
theorem dX4_pins_62 : decode cX4_pins 62 = .ok (.iconst 0, 1) := by decide +kernel
theorem dX4_pins_63 : decode cX4_pins 63 = .ok (.bastore, 1) := by decide +kernel
theorem dX4_pins_64 : decode cX4_pins 64 = .ok (.iinc 1 1, 3) := by decide +kernel
theorem dX4_pins_67 : decode cX4_pins 67 = .ok (.goto (-65), 3) := by decide +kernel
theorem dX4_pins_70 : decode cX4_pins 70 = .ok (.return_, 1) := by decide +kernel
set_option maxRecDepth 20000 in
theorem ggX4_isPoint_X4_in : GoodIn wsX4_isPoint wsX4_in := goodIn_r _ [6] (by decide +kernel) (by decide +kernel)
set_option maxRecDepth 20000 in
theorem gX4_isPoint_X4_in : GoodIn wsX4_isPoint (va_wsS RX4 74 yX4_in wsX4_in) := goodIn_app (goodIn_of _ (by decide +kernel)) ggX4_isPoint_X4_in
theorem dX4_isPoint_0 : decode cX4_isPoint 0 = .ok (.iload_n 1, 1) := by decide +kernel
theorem dX4_isPoint_1 : decode cX4_isPoint 1 = .ok (.i2l, 1) := by decide +kernel
theorem dX4_isPoint_2 : decode cX4_isPoint 2 = .ok (.lconst 0, 1) := by decide +kernel
theorem dX4_isPoint_3 : decode cX4_isPoint 3 = .ok (.aload_n 0, 1) := by decide +kernel
theorem dX4_isPoint_4 : decode cX4_isPoint 4 = .ok (.getfield 47, 3) := by decide +kernel
theorem dX4_isPoint_7 : decode cX4_isPoint 7 = .ok (.iconst 1, 1) := by decide +kernel
theorem dX4_isPoint_8 : decode cX4_isPoint 8 = .ok (.isub, 1) := by decide +kernel
theorem dX4_isPoint_9 : decode cX4_isPoint 9 = .ok (.i2l, 1) := by decide +kernel
theorem dX4_isPoint_10 : decode cX4_isPoint 10 = .ok (.invokestatic 74, 3) := by decide +kernel
theorem dX4_isPoint_13 : decode cX4_isPoint 13 = .ok (.ifCond .eq 23, 3) := by decide +kernel
theorem dX4_isPoint_16 : decode cX4_isPoint 16 = .ok (.iload_n 2, 1) := by decide +kernel
theorem dX4_isPoint_17 : decode cX4_isPoint 17 = .ok (.i2l, 1) := by decide +kernel
theorem dX4_isPoint_18 : decode cX4_isPoint 18 = .ok (.lconst 0, 1) := by decide +kernel
theorem dX4_isPoint_19 : decode cX4_isPoint 19 = .ok (.aload_n 0, 1) := by decide +kernel
theorem dX4_isPoint_20 : decode cX4_isPoint 20 = .ok (.getfield 51, 3) := by decide +kernel
theorem dX4_isPoint_23 : decode cX4_isPoint 23 = .ok (.iconst 1, 1) := by decide +kernel
theorem dX4_isPoint_24 : decode cX4_isPoint 24 = .ok (.isub, 1) := by decide +kernel
theorem dX4_isPoint_25 : decode cX4_isPoint 25 = .ok (.i2l, 1) := by decide +kernel
theorem dX4_isPoint_26 : decode cX4_isPoint 26 = .ok (.invokestatic 74, 3) := by decide +kernel
theorem dX4_isPoint_29 : decode cX4_isPoint 29 = .ok (.ifCond .eq 7, 3) := by decide +kernel
theorem dX4_isPoint_32 : decode cX4_isPoint 32 = .ok (.iconst 1, 1) := by decide +kernel
theorem dX4_isPoint_33 : decode cX4_isPoint 33 = .ok (.goto 4, 3) := by decide +kernel
theorem dX4_isPoint_36 : decode cX4_isPoint 36 = .ok (.iconst 0, 1) := by decide +kernel
theorem dX4_isPoint_37 : decode cX4_isPoint 37 = .ok (.ireturn, 1) := by decide +kernel
set_option maxRecDepth 20000 in
theorem ggX4_net_X4_in : GoodIn wsX4_net wsX4_in := goodIn_r _ [9] (by decide +kernel) (by decide +kernel)
set_option maxRecDepth 20000 in
theorem gX4_net_X4_in : GoodIn wsX4_net (va_wsS RX4 74 yX4_in wsX4_in) := goodIn_app (goodIn_of _ (by decide +kernel)) ggX4_net_X4_in
set_option maxRecDepth 20000 in
theorem ggX4_net_X4_pins : GoodIn wsX4_net wsX4_pins := goodIn_r _ [13, 14, 15, 4, 5, 16, 17, 18, 19, 20, 21, 22, 23, 24, 25, 26, 27, 28, 29, 30, 31, 32, 33, 34, 35, 36, 37] (by decide +kernel) (by decide +kernel)
set_option maxRecDepth 20000 in
theorem gX4_net_X4_pins : GoodIn wsX4_net (wsV RX4 64 RX4 yX4_pins wsX4_pins) := goodIn_app (goodIn_of _ (by decide +kernel)) ggX4_net_X4_pins
theorem dX4_net_0 : decode cX4_net 0 = .ok (.aload_n 0, 1) := by decide +kernel
theorem dX4_net_1 : decode cX4_net 1 = .ok (.iconst 0, 1) := by decide +kernel
theorem dX4_net_2 : decode cX4_net 2 = .ok (.putfield 67, 3) := by decide +kernel
theorem dX4_net_5 : decode cX4_net 5 = .ok (.iload_n 1, 1) := by decide +kernel
theorem dX4_net_6 : decode cX4_net 6 = .ok (.i2l, 1) := by decide +kernel
theorem dX4_net_7 : decode cX4_net 7 = .ok (.ldc2_w 84, 3) := by decide +kernel
theorem dX4_net_10 : decode cX4_net 10 = .ok (.ldc2_w 164, 3) := by decide +kernel
theorem dX4_net_13 : decode cX4_net 13 = .ok (.invokestatic 74, 3) := by decide +kernel
theorem dX4_net_16 : decode cX4_net 16 = .ok (.ifCond .eq 17, 3) := by decide +kernel
theorem dX4_net_19 : decode cX4_net 19 = .ok (.iload_n 2, 1) := by decide +kernel
theorem dX4_net_20 : decode cX4_net 20 = .ok (.i2l, 1) := by decide +kernel
theorem dX4_net_21 : decode cX4_net 21 = .ok (.ldc2_w 84, 3) := by decide +kernel
theorem dX4_net_24 : decode cX4_net 24 = .ok (.ldc2_w 164, 3) := by decide +kernel
theorem dX4_net_27 : decode cX4_net 27 = .ok (.invokestatic 74, 3) := by decide +kernel
theorem dX4_net_30 : decode cX4_net 30 = .ok (.ifCond .ne 5, 3) := by decide +kernel
theorem dX4_net_33 : decode cX4_net 33 = .ok (.iconst (-1), 1) := by decide +kernel
theorem dX4_net_34 : decode cX4_net 34 = .ok (.ireturn, 1) := by decide +kernel
theorem dX4_net_35 : decode cX4_net 35 = .ok (.aload_n 0, 1) := by decide +kernel
theorem dX4_net_36 : decode cX4_net 36 = .ok (.iload_n 1, 1) := by decide +kernel
theorem dX4_net_37 : decode cX4_net 37 = .ok (.putfield 47, 3) := by decide +kernel
theorem dX4_net_40 : decode cX4_net 40 = .ok (.aload_n 0, 1) := by decide +kernel
theorem dX4_net_41 : decode cX4_net 41 = .ok (.iload_n 2, 1) := by decide +kernel
theorem dX4_net_42 : decode cX4_net 42 = .ok (.putfield 51, 3) := by decide +kernel
theorem dX4_net_45 : decode cX4_net 45 = .ok (.aload_n 0, 1) := by decide +kernel
theorem dX4_net_46 : decode cX4_net 46 = .ok (.invokevirtual 64, 3) := by decide +kernel
theorem dX4_net_49 : decode cX4_net 49 = .ok (.aload_n 0, 1) := by decide +kernel
theorem dX4_net_50 : decode cX4_net 50 = .ok (.getfield 47, 3) := by decide +kernel
theorem dX4_net_53 : decode cX4_net 53 = .ok (.iconst 2, 1) := by decide +kernel
theorem dX4_net_54 : decode cX4_net 54 = .ok (.isub, 1) := by decide +kernel
theorem dX4_net_55 : decode cX4_net 55 = .ok (.aload_n 0, 1) := by decide +kernel
theorem dX4_net_56 : decode cX4_net 56 = .ok (.getfield 51, 3) := by decide +kernel
theorem dX4_net_59 : decode cX4_net 59 = .ok (.iconst 2, 1) := by decide +kernel
theorem dX4_net_60 : decode cX4_net 60 = .ok (.isub, 1) := by decide +kernel
theorem dX4_net_61 : decode cX4_net 61 = .ok (.imul, 1) := by decide +kernel
theorem dX4_net_62 : decode cX4_net 62 = .ok (.ireturn, 1) := by decide +kernel
set_option maxRecDepth 20000 in
theorem ggX4_lift_X4_isPoint : GoodIn wsX4_lift wsX4_isPoint := goodIn_r _ [10, 11, 12, 13, 14, 9, 15, 16, 17, 18, 19, 20, 21, 22, 23, 24, 25, 26, 27, 28, 29, 30, 31, 32, 33, 34, 35, 36, 37] (by decide +kernel) (by decide +kernel)
set_option maxRecDepth 20000 in
theorem gX4_lift_X4_isPoint : GoodIn wsX4_lift (wsV RX4 166 RX4 yX4_isPoint wsX4_isPoint) := goodIn_app (goodIn_of _ (by decide +kernel)) ggX4_lift_X4_isPoint
set_option maxRecDepth 20000 in
theorem ggX4_lift_X4_in : GoodIn wsX4_lift wsX4_in := goodIn_r _ [15] (by decide +kernel) (by decide +kernel)
set_option maxRecDepth 20000 in
theorem gX4_lift_X4_in : GoodIn wsX4_lift (va_wsS RX4 74 yX4_in wsX4_in) := goodIn_app (goodIn_of _ (by decide +kernel)) ggX4_lift_X4_in
theorem dX4_lift_0 : decode cX4_lift 0 = .ok (.aload_n 0, 1) := by decide +kernel
theorem dX4_lift_1 : decode cX4_lift 1 = .ok (.iconst 0, 1) := by decide +kernel
theorem dX4_lift_2 : decode cX4_lift 2 = .ok (.putfield 67, 3) := by decide +kernel
theorem dX4_lift_5 : decode cX4_lift 5 = .ok (.aload_n 0, 1) := by decide +kernel
theorem dX4_lift_6 : decode cX4_lift 6 = .ok (.iload_n 1, 1) := by decide +kernel
theorem dX4_lift_7 : decode cX4_lift 7 = .ok (.iload_n 2, 1) := by decide +kernel
theorem dX4_lift_8 : decode cX4_lift 8 = .ok (.invokevirtual 166, 3) := by decide +kernel
theorem dX4_lift_11 : decode cX4_lift 11 = .ok (.ifCond .eq 17, 3) := by decide +kernel
theorem dX4_lift_14 : decode cX4_lift 14 = .ok (.iload_n 3, 1) := by decide +kernel
theorem dX4_lift_15 : decode cX4_lift 15 = .ok (.i2l, 1) := by decide +kernel
theorem dX4_lift_16 : decode cX4_lift 16 = .ok (.ldc2_w 170, 3) := by decide +kernel
theorem dX4_lift_19 : decode cX4_lift 19 = .ok (.ldc2_w 172, 3) := by decide +kernel
theorem dX4_lift_22 : decode cX4_lift 22 = .ok (.invokestatic 74, 3) := by decide +kernel
theorem dX4_lift_25 : decode cX4_lift 25 = .ok (.ifCond .ne 6, 3) := by decide +kernel
theorem dX4_lift_28 : decode cX4_lift 28 = .ok (.ldc 90, 2) := by decide +kernel
theorem dX4_lift_30 : decode cX4_lift 30 = .ok (.ireturn, 1) := by decide +kernel
theorem dX4_lift_31 : decode cX4_lift 31 = .ok (.aload_n 0, 1) := by decide +kernel
theorem dX4_lift_32 : decode cX4_lift 32 = .ok (.getfield 54, 3) := by decide +kernel
theorem dX4_lift_35 : decode cX4_lift 35 = .ok (.bipush 8, 2) := by decide +kernel
theorem dX4_lift_37 : decode cX4_lift 37 = .ok (.iload_n 2, 1) := by decide +kernel
theorem dX4_lift_38 : decode cX4_lift 38 = .ok (.imul, 1) := by decide +kernel
theorem dX4_lift_39 : decode cX4_lift 39 = .ok (.iload_n 1, 1) := by decide +kernel
theorem dX4_lift_40 : decode cX4_lift 40 = .ok (.iadd, 1) := by decide +kernel
theorem dX4_lift_41 : decode cX4_lift 41 = .ok (.iaload, 1) := by decide +kernel
theorem dX4_lift_42 : decode cX4_lift 42 = .ok (.istore 4, 2) := by decide +kernel
theorem dX4_lift_44 : decode cX4_lift 44 = .ok (.aload_n 0, 1) := by decide +kernel
theorem dX4_lift_45 : decode cX4_lift 45 = .ok (.getfield 54, 3) := by decide +kernel
theorem dX4_lift_48 : decode cX4_lift 48 = .ok (.bipush 8, 2) := by decide +kernel
theorem dX4_lift_50 : decode cX4_lift 50 = .ok (.iload_n 2, 1) := by decide +kernel
theorem dX4_lift_51 : decode cX4_lift 51 = .ok (.imul, 1) := by decide +kernel
theorem dX4_lift_52 : decode cX4_lift 52 = .ok (.iload_n 1, 1) := by decide +kernel
theorem dX4_lift_53 : decode cX4_lift 53 = .ok (.iadd, 1) := by decide +kernel
theorem dX4_lift_54 : decode cX4_lift 54 = .ok (.iload_n 3, 1) := by decide +kernel
theorem dX4_lift_55 : decode cX4_lift 55 = .ok (.iastore, 1) := by decide +kernel
theorem dX4_lift_56 : decode cX4_lift 56 = .ok (.iload 4, 2) := by decide +kernel
theorem dX4_lift_58 : decode cX4_lift 58 = .ok (.ireturn, 1) := by decide +kernel
set_option maxRecDepth 20000 in
theorem ggX4_pin_X4_isPoint : GoodIn wsX4_pin wsX4_isPoint := goodIn_r _ [7, 8, 9, 10, 11, 6, 12, 13, 14, 15, 16, 17, 18, 19, 20, 21, 22, 23, 24, 25, 26, 27, 28, 29, 30, 31, 32, 33, 34] (by decide +kernel) (by decide +kernel)
set_option maxRecDepth 20000 in
theorem gX4_pin_X4_isPoint : GoodIn wsX4_pin (wsV RX4 166 RX4 yX4_isPoint wsX4_isPoint) := goodIn_app (goodIn_of _ (by decide +kernel)) ggX4_pin_X4_isPoint
theorem dX4_pin_0 : decode cX4_pin 0 = .ok (.aload_n 0, 1) := by decide +kernel
theorem dX4_pin_1 : decode cX4_pin 1 = .ok (.iconst 0, 1) := by decide +kernel
theorem dX4_pin_2 : decode cX4_pin 2 = .ok (.putfield 67, 3) := by decide +kernel
theorem dX4_pin_5 : decode cX4_pin 5 = .ok (.aload_n 0, 1) := by decide +kernel
theorem dX4_pin_6 : decode cX4_pin 6 = .ok (.iload_n 1, 1) := by decide +kernel
theorem dX4_pin_7 : decode cX4_pin 7 = .ok (.iload_n 2, 1) := by decide +kernel
theorem dX4_pin_8 : decode cX4_pin 8 = .ok (.invokevirtual 166, 3) := by decide +kernel
theorem dX4_pin_11 : decode cX4_pin 11 = .ok (.ifCond .ne 5, 3) := by decide +kernel
theorem dX4_pin_14 : decode cX4_pin 14 = .ok (.iconst (-1), 1) := by decide +kernel
theorem dX4_pin_15 : decode cX4_pin 15 = .ok (.ireturn, 1) := by decide +kernel
theorem dX4_pin_16 : decode cX4_pin 16 = .ok (.aload_n 0, 1) := by decide +kernel
theorem dX4_pin_17 : decode cX4_pin 17 = .ok (.getfield 57, 3) := by decide +kernel
theorem dX4_pin_20 : decode cX4_pin 20 = .ok (.bipush 8, 2) := by decide +kernel
theorem dX4_pin_22 : decode cX4_pin 22 = .ok (.iload_n 2, 1) := by decide +kernel
theorem dX4_pin_23 : decode cX4_pin 23 = .ok (.imul, 1) := by decide +kernel
theorem dX4_pin_24 : decode cX4_pin 24 = .ok (.iload_n 1, 1) := by decide +kernel
theorem dX4_pin_25 : decode cX4_pin 25 = .ok (.iadd, 1) := by decide +kernel
theorem dX4_pin_26 : decode cX4_pin 26 = .ok (.baload, 1) := by decide +kernel
theorem dX4_pin_27 : decode cX4_pin 27 = .ok (.ifCond .eq 7, 3) := by decide +kernel
theorem dX4_pin_30 : decode cX4_pin 30 = .ok (.iconst 1, 1) := by decide +kernel
theorem dX4_pin_31 : decode cX4_pin 31 = .ok (.goto 4, 3) := by decide +kernel
theorem dX4_pin_34 : decode cX4_pin 34 = .ok (.iconst 0, 1) := by decide +kernel
theorem dX4_pin_35 : decode cX4_pin 35 = .ok (.istore 4, 2) := by decide +kernel
theorem dX4_pin_37 : decode cX4_pin 37 = .ok (.aload_n 0, 1) := by decide +kernel
theorem dX4_pin_38 : decode cX4_pin 38 = .ok (.getfield 57, 3) := by decide +kernel
theorem dX4_pin_41 : decode cX4_pin 41 = .ok (.bipush 8, 2) := by decide +kernel
theorem dX4_pin_43 : decode cX4_pin 43 = .ok (.iload_n 2, 1) := by decide +kernel
theorem dX4_pin_44 : decode cX4_pin 44 = .ok (.imul, 1) := by decide +kernel
theorem dX4_pin_45 : decode cX4_pin 45 = .ok (.iload_n 1, 1) := by decide +kernel
theorem dX4_pin_46 : decode cX4_pin 46 = .ok (.iadd, 1) := by decide +kernel
theorem dX4_pin_47 : decode cX4_pin 47 = .ok (.iload_n 3, 1) := by decide +kernel
theorem dX4_pin_48 : decode cX4_pin 48 = .ok (.bastore, 1) := by decide +kernel
theorem dX4_pin_49 : decode cX4_pin 49 = .ok (.iload 4, 2) := by decide +kernel
theorem dX4_pin_51 : decode cX4_pin 51 = .ok (.ireturn, 1) := by decide +kernel
set_option maxRecDepth 20000 in
theorem ggX4_height_X4_isPoint : GoodIn wsX4_height wsX4_isPoint := goodIn_r _ [8, 9, 10, 11, 12, 7, 13, 14, 15, 16, 17, 18, 19, 20, 21, 22, 23, 24, 25, 26, 27, 28, 29, 30, 31, 32, 33, 34, 35] (by decide +kernel) (by decide +kernel)
set_option maxRecDepth 20000 in
theorem gX4_height_X4_isPoint : GoodIn wsX4_height (wsV RX4 166 RX4 yX4_isPoint wsX4_isPoint) := goodIn_app (goodIn_of _ (by decide +kernel)) ggX4_height_X4_isPoint
theorem dX4_height_0 : decode cX4_height 0 = .ok (.aload_n 0, 1) := by decide +kernel
theorem dX4_height_1 : decode cX4_height 1 = .ok (.iconst 0, 1) := by decide +kernel
theorem dX4_height_2 : decode cX4_height 2 = .ok (.putfield 67, 3) := by decide +kernel
theorem dX4_height_5 : decode cX4_height 5 = .ok (.aload_n 0, 1) := by decide +kernel
theorem dX4_height_6 : decode cX4_height 6 = .ok (.iload_n 1, 1) := by decide +kernel
theorem dX4_height_7 : decode cX4_height 7 = .ok (.iload_n 2, 1) := by decide +kernel
theorem dX4_height_8 : decode cX4_height 8 = .ok (.invokevirtual 166, 3) := by decide +kernel
theorem dX4_height_11 : decode cX4_height 11 = .ok (.ifCond .eq 17, 3) := by decide +kernel
theorem dX4_height_14 : decode cX4_height 14 = .ok (.aload_n 0, 1) := by decide +kernel
theorem dX4_height_15 : decode cX4_height 15 = .ok (.getfield 54, 3) := by decide +kernel
theorem dX4_height_18 : decode cX4_height 18 = .ok (.bipush 8, 2) := by decide +kernel
theorem dX4_height_20 : decode cX4_height 20 = .ok (.iload_n 2, 1) := by decide +kernel
theorem dX4_height_21 : decode cX4_height 21 = .ok (.imul, 1) := by decide +kernel
theorem dX4_height_22 : decode cX4_height 22 = .ok (.iload_n 1, 1) := by decide +kernel
theorem dX4_height_23 : decode cX4_height 23 = .ok (.iadd, 1) := by decide +kernel
theorem dX4_height_24 : decode cX4_height 24 = .ok (.iaload, 1) := by decide +kernel
theorem dX4_height_25 : decode cX4_height 25 = .ok (.goto 5, 3) := by decide +kernel
theorem dX4_height_28 : decode cX4_height 28 = .ok (.ldc 90, 2) := by decide +kernel
theorem dX4_height_30 : decode cX4_height 30 = .ok (.ireturn, 1) := by decide +kernel
theorem dX4_size_0 : decode cX4_size 0 = .ok (.iload_n 0, 1) := by decide +kernel
theorem dX4_size_1 : decode cX4_size 1 = .ok (.ifCond .ge 8, 3) := by decide +kernel
theorem dX4_size_4 : decode cX4_size 4 = .ok (.iload_n 0, 1) := by decide +kernel
theorem dX4_size_5 : decode cX4_size 5 = .ok (.ineg, 1) := by decide +kernel
theorem dX4_size_6 : decode cX4_size 6 = .ok (.goto 4, 3) := by decide +kernel
theorem dX4_size_9 : decode cX4_size 9 = .ok (.iload_n 0, 1) := by decide +kernel
theorem dX4_size_10 : decode cX4_size 10 = .ok (.ireturn, 1) := by decide +kernel
set_option maxRecDepth 20000 in
theorem ggX4_drawn_X4_size : GoodIn wsX4_drawn wsX4_size := goodIn_r _ [8] (by decide +kernel) (by decide +kernel)
set_option maxRecDepth 20000 in
theorem gX4_drawn_X4_size : GoodIn wsX4_drawn (va_wsS RX4 174 yX4_size wsX4_size) := goodIn_app (goodIn_of _ (by decide +kernel)) ggX4_drawn_X4_size
theorem dX4_drawn_0 : decode cX4_drawn 0 = .ok (.aload_n 0, 1) := by decide +kernel
theorem dX4_drawn_1 : decode cX4_drawn 1 = .ok (.iconst 0, 1) := by decide +kernel
theorem dX4_drawn_2 : decode cX4_drawn 2 = .ok (.putfield 67, 3) := by decide +kernel
theorem dX4_drawn_5 : decode cX4_drawn 5 = .ok (.iconst 0, 1) := by decide +kernel
theorem dX4_drawn_6 : decode cX4_drawn 6 = .ok (.istore_n 1, 1) := by decide +kernel
theorem dX4_drawn_7 : decode cX4_drawn 7 = .ok (.iconst 0, 1) := by decide +kernel
theorem dX4_drawn_8 : decode cX4_drawn 8 = .ok (.istore_n 2, 1) := by decide +kernel
theorem dX4_drawn_9 : decode cX4_drawn 9 = .ok (.iload_n 2, 1) := by decide +kernel
theorem dX4_drawn_10 : decode cX4_drawn 10 = .ok (.aload_n 0, 1) := by decide +kernel
theorem dX4_drawn_11 : decode cX4_drawn 11 = .ok (.getfield 51, 3) := by decide +kernel
theorem dX4_drawn_14 : decode cX4_drawn 14 = .ok (.if_icmp .ge 116, 3) := by decide +kernel
theorem dX4_drawn_17 : decode cX4_drawn 17 = .ok (.iconst 0, 1) := by decide +kernel
theorem dX4_drawn_18 : decode cX4_drawn 18 = .ok (.istore_n 3, 1) := by decide +kernel
theorem dX4_drawn_19 : decode cX4_drawn 19 = .ok (.iload_n 3, 1) := by decide +kernel
theorem dX4_drawn_20 : decode cX4_drawn 20 = .ok (.aload_n 0, 1) := by decide +kernel
theorem dX4_drawn_21 : decode cX4_drawn 21 = .ok (.getfield 47, 3) := by decide +kernel
theorem dX4_drawn_24 : decode cX4_drawn 24 = .ok (.if_icmp .ge 100, 3) := by decide +kernel
theorem dX4_drawn_27 : decode cX4_drawn 27 = .ok (.iload_n 1, 1) := by decide +kernel
theorem dX4_drawn_28 : decode cX4_drawn 28 = .ok (.iload_n 3, 1) := by decide +kernel
theorem dX4_drawn_29 : decode cX4_drawn 29 = .ok (.iconst 1, 1) := by decide +kernel
theorem dX4_drawn_30 : decode cX4_drawn 30 = .ok (.iadd, 1) := by decide +kernel
theorem dX4_drawn_31 : decode cX4_drawn 31 = .ok (.aload_n 0, 1) := by decide +kernel
theorem dX4_drawn_32 : decode cX4_drawn 32 = .ok (.getfield 47, 3) := by decide +kernel
theorem dX4_drawn_35 : decode cX4_drawn 35 = .ok (.if_icmp .ge 34, 3) := by decide +kernel
theorem dX4_drawn_38 : decode cX4_drawn 38 = .ok (.aload_n 0, 1) := by decide +kernel
theorem dX4_drawn_39 : decode cX4_drawn 39 = .ok (.getfield 54, 3) := by decide +kernel
theorem dX4_drawn_42 : decode cX4_drawn 42 = .ok (.bipush 8, 2) := by decide +kernel
theorem dX4_drawn_44 : decode cX4_drawn 44 = .ok (.iload_n 2, 1) := by decide +kernel
theorem dX4_drawn_45 : decode cX4_drawn 45 = .ok (.imul, 1) := by decide +kernel
theorem dX4_drawn_46 : decode cX4_drawn 46 = .ok (.iload_n 3, 1) := by decide +kernel
theorem dX4_drawn_47 : decode cX4_drawn 47 = .ok (.iadd, 1) := by decide +kernel
theorem dX4_drawn_48 : decode cX4_drawn 48 = .ok (.iaload, 1) := by decide +kernel
theorem dX4_drawn_49 : decode cX4_drawn 49 = .ok (.aload_n 0, 1) := by decide +kernel
theorem dX4_drawn_50 : decode cX4_drawn 50 = .ok (.getfield 54, 3) := by decide +kernel
theorem dX4_drawn_53 : decode cX4_drawn 53 = .ok (.bipush 8, 2) := by decide +kernel
theorem dX4_drawn_55 : decode cX4_drawn 55 = .ok (.iload_n 2, 1) := by decide +kernel
theorem dX4_drawn_56 : decode cX4_drawn 56 = .ok (.imul, 1) := by decide +kernel
theorem dX4_drawn_57 : decode cX4_drawn 57 = .ok (.iload_n 3, 1) := by decide +kernel
theorem dX4_drawn_58 : decode cX4_drawn 58 = .ok (.iadd, 1) := by decide +kernel
theorem dX4_drawn_59 : decode cX4_drawn 59 = .ok (.iconst 1, 1) := by decide +kernel
theorem dX4_drawn_60 : decode cX4_drawn 60 = .ok (.iadd, 1) := by decide +kernel
theorem dX4_drawn_61 : decode cX4_drawn 61 = .ok (.iaload, 1) := by decide +kernel
theorem dX4_drawn_62 : decode cX4_drawn 62 = .ok (.isub, 1) := by decide +kernel
theorem dX4_drawn_63 : decode cX4_drawn 63 = .ok (.invokestatic 174, 3) := by decide +kernel
theorem dX4_drawn_66 : decode cX4_drawn 66 = .ok (.goto 4, 3) := by decide +kernel
theorem dX4_drawn_69 : decode cX4_drawn 69 = .ok (.iconst 0, 1) := by decide +kernel
theorem dX4_drawn_70 : decode cX4_drawn 70 = .ok (.iadd, 1) := by decide +kernel
theorem dX4_drawn_71 : decode cX4_drawn 71 = .ok (.istore_n 1, 1) := by decide +kernel
theorem dX4_drawn_72 : decode cX4_drawn 72 = .ok (.iload_n 1, 1) := by decide +kernel
theorem dX4_drawn_73 : decode cX4_drawn 73 = .ok (.iload_n 2, 1) := by decide +kernel
theorem dX4_drawn_74 : decode cX4_drawn 74 = .ok (.iconst 1, 1) := by decide +kernel
theorem dX4_drawn_75 : decode cX4_drawn 75 = .ok (.iadd, 1) := by decide +kernel
theorem dX4_drawn_76 : decode cX4_drawn 76 = .ok (.aload_n 0, 1) := by decide +kernel
theorem dX4_drawn_77 : decode cX4_drawn 77 = .ok (.getfield 51, 3) := by decide +kernel
theorem dX4_drawn_80 : decode cX4_drawn 80 = .ok (.if_icmp .ge 35, 3) := by decide +kernel
theorem dX4_drawn_83 : decode cX4_drawn 83 = .ok (.aload_n 0, 1) := by decide +kernel
theorem dX4_drawn_84 : decode cX4_drawn 84 = .ok (.getfield 54, 3) := by decide +kernel
theorem dX4_drawn_87 : decode cX4_drawn 87 = .ok (.bipush 8, 2) := by decide +kernel
theorem dX4_drawn_89 : decode cX4_drawn 89 = .ok (.iload_n 2, 1) := by decide +kernel
theorem dX4_drawn_90 : decode cX4_drawn 90 = .ok (.imul, 1) := by decide +kernel
theorem dX4_drawn_91 : decode cX4_drawn 91 = .ok (.iload_n 3, 1) := by decide +kernel
theorem dX4_drawn_92 : decode cX4_drawn 92 = .ok (.iadd, 1) := by decide +kernel
theorem dX4_drawn_93 : decode cX4_drawn 93 = .ok (.iaload, 1) := by decide +kernel
theorem dX4_drawn_94 : decode cX4_drawn 94 = .ok (.aload_n 0, 1) := by decide +kernel
theorem dX4_drawn_95 : decode cX4_drawn 95 = .ok (.getfield 54, 3) := by decide +kernel
theorem dX4_drawn_98 : decode cX4_drawn 98 = .ok (.bipush 8, 2) := by decide +kernel
theorem dX4_drawn_100 : decode cX4_drawn 100 = .ok (.iload_n 2, 1) := by decide +kernel
theorem dX4_drawn_101 : decode cX4_drawn 101 = .ok (.imul, 1) := by decide +kernel
theorem dX4_drawn_102 : decode cX4_drawn 102 = .ok (.bipush 8, 2) := by decide +kernel
theorem dX4_drawn_104 : decode cX4_drawn 104 = .ok (.iadd, 1) := by decide +kernel
theorem dX4_drawn_105 : decode cX4_drawn 105 = .ok (.iload_n 3, 1) := by decide +kernel
theorem dX4_drawn_106 : decode cX4_drawn 106 = .ok (.iadd, 1) := by decide +kernel
theorem dX4_drawn_107 : decode cX4_drawn 107 = .ok (.iaload, 1) := by decide +kernel
theorem dX4_drawn_108 : decode cX4_drawn 108 = .ok (.isub, 1) := by decide +kernel
theorem dX4_drawn_109 : decode cX4_drawn 109 = .ok (.invokestatic 174, 3) := by decide +kernel
theorem dX4_drawn_112 : decode cX4_drawn 112 = .ok (.goto 4, 3) := by decide +kernel
theorem dX4_drawn_115 : decode cX4_drawn 115 = .ok (.iconst 0, 1) := by decide +kernel
theorem dX4_drawn_116 : decode cX4_drawn 116 = .ok (.iadd, 1) := by decide +kernel
theorem dX4_drawn_117 : decode cX4_drawn 117 = .ok (.istore_n 1, 1) := by decide +kernel
theorem dX4_drawn_118 : decode cX4_drawn 118 = .ok (.iinc 3 1, 3) := by decide +kernel
theorem dX4_drawn_121 : decode cX4_drawn 121 = .ok (.goto (-102), 3) := by decide +kernel
theorem dX4_drawn_124 : decode cX4_drawn 124 = .ok (.iinc 2 1, 3) := by decide +kernel
theorem dX4_drawn_127 : decode cX4_drawn 127 = .ok (.goto (-118), 3) := by decide +kernel
theorem dX4_drawn_130 : decode cX4_drawn 130 = .ok (.iload_n 1, 1) := by decide +kernel
theorem dX4_drawn_131 : decode cX4_drawn 131 = .ok (.ireturn, 1) := by decide +kernel
theorem dX4_puts_0 : decode cX4_puts 0 = .ok (.iload_n 1, 1) := by decide +kernel
theorem dX4_puts_1 : decode cX4_puts 1 = .ok (.istore_n 3, 1) := by decide +kernel
theorem dX4_puts_2 : decode cX4_puts 2 = .ok (.iload_n 3, 1) := by decide +kernel
theorem dX4_puts_3 : decode cX4_puts 3 = .ok (.ifCond .le 35, 3) := by decide +kernel
theorem dX4_puts_6 : decode cX4_puts 6 = .ok (.aload_n 0, 1) := by decide +kernel
theorem dX4_puts_7 : decode cX4_puts 7 = .ok (.getfield 61, 3) := by decide +kernel
theorem dX4_puts_10 : decode cX4_puts 10 = .ok (.iload_n 3, 1) := by decide +kernel
theorem dX4_puts_11 : decode cX4_puts 11 = .ok (.iconst 1, 1) := by decide +kernel
theorem dX4_puts_12 : decode cX4_puts 12 = .ok (.isub, 1) := by decide +kernel
theorem dX4_puts_13 : decode cX4_puts 13 = .ok (.iaload, 1) := by decide +kernel
theorem dX4_puts_14 : decode cX4_puts 14 = .ok (.iload_n 2, 1) := by decide +kernel
theorem dX4_puts_15 : decode cX4_puts 15 = .ok (.if_icmp .le 23, 3) := by decide +kernel
theorem dX4_puts_18 : decode cX4_puts 18 = .ok (.aload_n 0, 1) := by decide +kernel
theorem dX4_puts_19 : decode cX4_puts 19 = .ok (.getfield 61, 3) := by decide +kernel
theorem dX4_puts_22 : decode cX4_puts 22 = .ok (.iload_n 3, 1) := by decide +kernel
theorem dX4_puts_23 : decode cX4_puts 23 = .ok (.aload_n 0, 1) := by decide +kernel
theorem dX4_puts_24 : decode cX4_puts 24 = .ok (.getfield 61, 3) := by decide +kernel
theorem dX4_puts_27 : decode cX4_puts 27 = .ok (.iload_n 3, 1) := by decide +kernel
theorem dX4_puts_28 : decode cX4_puts 28 = .ok (.iconst 1, 1) := by decide +kernel
theorem dX4_puts_29 : decode cX4_puts 29 = .ok (.isub, 1) := by decide +kernel
theorem dX4_puts_30 : decode cX4_puts 30 = .ok (.iaload, 1) := by decide +kernel
theorem dX4_puts_31 : decode cX4_puts 31 = .ok (.iastore, 1) := by decide +kernel
theorem dX4_puts_32 : decode cX4_puts 32 = .ok (.iinc 3 (-1), 3) := by decide +kernel
theorem dX4_puts_35 : decode cX4_puts 35 = .ok (.goto (-33), 3) := by decide +kernel
theorem dX4_puts_38 : decode cX4_puts 38 = .ok (.aload_n 0, 1) := by decide +kernel
theorem dX4_puts_39 : decode cX4_puts 39 = .ok (.getfield 61, 3) := by decide +kernel
theorem dX4_puts_42 : decode cX4_puts 42 = .ok (.iload_n 3, 1) := by decide +kernel
theorem dX4_puts_43 : decode cX4_puts 43 = .ok (.iload_n 2, 1) := by decide +kernel
theorem dX4_puts_44 : decode cX4_puts 44 = .ok (.iastore, 1) := by decide +kernel
theorem dX4_puts_45 : decode cX4_puts 45 = .ok (.iload_n 1, 1) := by decide +kernel
theorem dX4_puts_46 : decode cX4_puts 46 = .ok (.iconst 1, 1) := by decide +kernel
theorem dX4_puts_47 : decode cX4_puts 47 = .ok (.iadd, 1) := by decide +kernel
theorem dX4_puts_48 : decode cX4_puts 48 = .ok (.ireturn, 1) := by decide +kernel
set_option maxRecDepth 20000 in
theorem ggX4_stepOf_X4_puts : GoodIn wsX4_stepOf wsX4_puts := goodIn_r _ [10, 4, 11, 12, 13, 14, 15, 16, 17, 18, 19, 20, 21, 22, 23, 24, 25, 26, 27, 28, 29, 30, 31, 32] (by decide +kernel) (by decide +kernel)
set_option maxRecDepth 20000 in
theorem gX4_stepOf_X4_puts : GoodIn wsX4_stepOf (wsV RX4 177 RX4 yX4_puts wsX4_puts) := goodIn_app (goodIn_of _ (by decide +kernel)) ggX4_stepOf_X4_puts
theorem dX4_stepOf_0 : decode cX4_stepOf 0 = .ok (.bipush 8, 2) := by decide +kernel
theorem dX4_stepOf_2 : decode cX4_stepOf 2 = .ok (.iload_n 2, 1) := by decide +kernel
theorem dX4_stepOf_3 : decode cX4_stepOf 3 = .ok (.imul, 1) := by decide +kernel
theorem dX4_stepOf_4 : decode cX4_stepOf 4 = .ok (.iload_n 1, 1) := by decide +kernel
theorem dX4_stepOf_5 : decode cX4_stepOf 5 = .ok (.iadd, 1) := by decide +kernel
theorem dX4_stepOf_6 : decode cX4_stepOf 6 = .ok (.istore_n 3, 1) := by decide +kernel
theorem dX4_stepOf_7 : decode cX4_stepOf 7 = .ok (.iconst 0, 1) := by decide +kernel
theorem dX4_stepOf_8 : decode cX4_stepOf 8 = .ok (.istore 4, 2) := by decide +kernel
theorem dX4_stepOf_10 : decode cX4_stepOf 10 = .ok (.iload_n 1, 1) := by decide +kernel
theorem dX4_stepOf_11 : decode cX4_stepOf 11 = .ok (.ifCond .le 20, 3) := by decide +kernel
theorem dX4_stepOf_14 : decode cX4_stepOf 14 = .ok (.aload_n 0, 1) := by decide +kernel
theorem dX4_stepOf_15 : decode cX4_stepOf 15 = .ok (.iload 4, 2) := by decide +kernel
theorem dX4_stepOf_17 : decode cX4_stepOf 17 = .ok (.aload_n 0, 1) := by decide +kernel
theorem dX4_stepOf_18 : decode cX4_stepOf 18 = .ok (.getfield 54, 3) := by decide +kernel
theorem dX4_stepOf_21 : decode cX4_stepOf 21 = .ok (.iload_n 3, 1) := by decide +kernel
theorem dX4_stepOf_22 : decode cX4_stepOf 22 = .ok (.iconst 1, 1) := by decide +kernel
theorem dX4_stepOf_23 : decode cX4_stepOf 23 = .ok (.isub, 1) := by decide +kernel
theorem dX4_stepOf_24 : decode cX4_stepOf 24 = .ok (.iaload, 1) := by decide +kernel
theorem dX4_stepOf_25 : decode cX4_stepOf 25 = .ok (.invokevirtual 177, 3) := by decide +kernel
theorem dX4_stepOf_28 : decode cX4_stepOf 28 = .ok (.goto 5, 3) := by decide +kernel
theorem dX4_stepOf_31 : decode cX4_stepOf 31 = .ok (.iload 4, 2) := by decide +kernel
theorem dX4_stepOf_33 : decode cX4_stepOf 33 = .ok (.istore 4, 2) := by decide +kernel
theorem dX4_stepOf_35 : decode cX4_stepOf 35 = .ok (.iload_n 1, 1) := by decide +kernel
theorem dX4_stepOf_36 : decode cX4_stepOf 36 = .ok (.iconst 1, 1) := by decide +kernel
theorem dX4_stepOf_37 : decode cX4_stepOf 37 = .ok (.iadd, 1) := by decide +kernel
theorem dX4_stepOf_38 : decode cX4_stepOf 38 = .ok (.aload_n 0, 1) := by decide +kernel
theorem dX4_stepOf_39 : decode cX4_stepOf 39 = .ok (.getfield 47, 3) := by decide +kernel
theorem dX4_stepOf_42 : decode cX4_stepOf 42 = .ok (.if_icmp .ge 20, 3) := by decide +kernel
theorem dX4_stepOf_45 : decode cX4_stepOf 45 = .ok (.aload_n 0, 1) := by decide +kernel
theorem dX4_stepOf_46 : decode cX4_stepOf 46 = .ok (.iload 4, 2) := by decide +kernel
theorem dX4_stepOf_48 : decode cX4_stepOf 48 = .ok (.aload_n 0, 1) := by decide +kernel
theorem dX4_stepOf_49 : decode cX4_stepOf 49 = .ok (.getfield 54, 3) := by decide +kernel
theorem dX4_stepOf_52 : decode cX4_stepOf 52 = .ok (.iload_n 3, 1) := by decide +kernel
theorem dX4_stepOf_53 : decode cX4_stepOf 53 = .ok (.iconst 1, 1) := by decide +kernel
theorem dX4_stepOf_54 : decode cX4_stepOf 54 = .ok (.iadd, 1) := by decide +kernel
theorem dX4_stepOf_55 : decode cX4_stepOf 55 = .ok (.iaload, 1) := by decide +kernel
theorem dX4_stepOf_56 : decode cX4_stepOf 56 = .ok (.invokevirtual 177, 3) := by decide +kernel
theorem dX4_stepOf_59 : decode cX4_stepOf 59 = .ok (.goto 5, 3) := by decide +kernel
theorem dX4_stepOf_62 : decode cX4_stepOf 62 = .ok (.iload 4, 2) := by decide +kernel
theorem dX4_stepOf_64 : decode cX4_stepOf 64 = .ok (.istore 4, 2) := by decide +kernel
theorem dX4_stepOf_66 : decode cX4_stepOf 66 = .ok (.iload_n 2, 1) := by decide +kernel
theorem dX4_stepOf_67 : decode cX4_stepOf 67 = .ok (.ifCond .le 21, 3) := by decide +kernel
theorem dX4_stepOf_70 : decode cX4_stepOf 70 = .ok (.aload_n 0, 1) := by decide +kernel
theorem dX4_stepOf_71 : decode cX4_stepOf 71 = .ok (.iload 4, 2) := by decide +kernel
theorem dX4_stepOf_73 : decode cX4_stepOf 73 = .ok (.aload_n 0, 1) := by decide +kernel
theorem dX4_stepOf_74 : decode cX4_stepOf 74 = .ok (.getfield 54, 3) := by decide +kernel
theorem dX4_stepOf_77 : decode cX4_stepOf 77 = .ok (.iload_n 3, 1) := by decide +kernel
theorem dX4_stepOf_78 : decode cX4_stepOf 78 = .ok (.bipush 8, 2) := by decide +kernel
theorem dX4_stepOf_80 : decode cX4_stepOf 80 = .ok (.isub, 1) := by decide +kernel
theorem dX4_stepOf_81 : decode cX4_stepOf 81 = .ok (.iaload, 1) := by decide +kernel
theorem dX4_stepOf_82 : decode cX4_stepOf 82 = .ok (.invokevirtual 177, 3) := by decide +kernel
theorem dX4_stepOf_85 : decode cX4_stepOf 85 = .ok (.goto 5, 3) := by decide +kernel
theorem dX4_stepOf_88 : decode cX4_stepOf 88 = .ok (.iload 4, 2) := by decide +kernel
theorem dX4_stepOf_90 : decode cX4_stepOf 90 = .ok (.istore 4, 2) := by decide +kernel
theorem dX4_stepOf_92 : decode cX4_stepOf 92 = .ok (.iload_n 2, 1) := by decide +kernel
theorem dX4_stepOf_93 : decode cX4_stepOf 93 = .ok (.iconst 1, 1) := by decide +kernel
theorem dX4_stepOf_94 : decode cX4_stepOf 94 = .ok (.iadd, 1) := by decide +kernel
theorem dX4_stepOf_95 : decode cX4_stepOf 95 = .ok (.aload_n 0, 1) := by decide +kernel
theorem dX4_stepOf_96 : decode cX4_stepOf 96 = .ok (.getfield 51, 3) := by decide +kernel
theorem dX4_stepOf_99 : decode cX4_stepOf 99 = .ok (.if_icmp .ge 21, 3) := by decide +kernel
theorem dX4_stepOf_102 : decode cX4_stepOf 102 = .ok (.aload_n 0, 1) := by decide +kernel
theorem dX4_stepOf_103 : decode cX4_stepOf 103 = .ok (.iload 4, 2) := by decide +kernel
theorem dX4_stepOf_105 : decode cX4_stepOf 105 = .ok (.aload_n 0, 1) := by decide +kernel
theorem dX4_stepOf_106 : decode cX4_stepOf 106 = .ok (.getfield 54, 3) := by decide +kernel
theorem dX4_stepOf_109 : decode cX4_stepOf 109 = .ok (.iload_n 3, 1) := by decide +kernel
theorem dX4_stepOf_110 : decode cX4_stepOf 110 = .ok (.bipush 8, 2) := by decide +kernel
theorem dX4_stepOf_112 : decode cX4_stepOf 112 = .ok (.iadd, 1) := by decide +kernel
theorem dX4_stepOf_113 : decode cX4_stepOf 113 = .ok (.iaload, 1) := by decide +kernel
theorem dX4_stepOf_114 : decode cX4_stepOf 114 = .ok (.invokevirtual 177, 3) := by decide +kernel
theorem dX4_stepOf_117 : decode cX4_stepOf 117 = .ok (.goto 5, 3) := by decide +kernel
theorem dX4_stepOf_120 : decode cX4_stepOf 120 = .ok (.iload 4, 2) := by decide +kernel
theorem dX4_stepOf_122 : decode cX4_stepOf 122 = .ok (.istore 4, 2) := by decide +kernel
theorem dX4_stepOf_124 : decode cX4_stepOf 124 = .ok (.aload_n 0, 1) := by decide +kernel
theorem dX4_stepOf_125 : decode cX4_stepOf 125 = .ok (.getfield 61, 3) := by decide +kernel
theorem dX4_stepOf_128 : decode cX4_stepOf 128 = .ok (.iload 4, 2) := by decide +kernel
theorem dX4_stepOf_130 : decode cX4_stepOf 130 = .ok (.iconst 1, 1) := by decide +kernel
theorem dX4_stepOf_131 : decode cX4_stepOf 131 = .ok (.isub, 1) := by decide +kernel
theorem dX4_stepOf_132 : decode cX4_stepOf 132 = .ok (.iconst 2, 1) := by decide +kernel
theorem dX4_stepOf_133 : decode cX4_stepOf 133 = .ok (.idiv, 1) := by decide +kernel
theorem dX4_stepOf_134 : decode cX4_stepOf 134 = .ok (.iaload, 1) := by decide +kernel
theorem dX4_stepOf_135 : decode cX4_stepOf 135 = .ok (.istore 5, 2) := by decide +kernel
theorem dX4_stepOf_137 : decode cX4_stepOf 137 = .ok (.aload_n 0, 1) := by decide +kernel
theorem dX4_stepOf_138 : decode cX4_stepOf 138 = .ok (.getfield 61, 3) := by decide +kernel
theorem dX4_stepOf_141 : decode cX4_stepOf 141 = .ok (.iload 4, 2) := by decide +kernel
theorem dX4_stepOf_143 : decode cX4_stepOf 143 = .ok (.iconst 2, 1) := by decide +kernel
theorem dX4_stepOf_144 : decode cX4_stepOf 144 = .ok (.idiv, 1) := by decide +kernel
theorem dX4_stepOf_145 : decode cX4_stepOf 145 = .ok (.iaload, 1) := by decide +kernel
theorem dX4_stepOf_146 : decode cX4_stepOf 146 = .ok (.istore 6, 2) := by decide +kernel
theorem dX4_stepOf_148 : decode cX4_stepOf 148 = .ok (.aload_n 0, 1) := by decide +kernel
theorem dX4_stepOf_149 : decode cX4_stepOf 149 = .ok (.getfield 57, 3) := by decide +kernel
theorem dX4_stepOf_152 : decode cX4_stepOf 152 = .ok (.iload_n 3, 1) := by decide +kernel
theorem dX4_stepOf_153 : decode cX4_stepOf 153 = .ok (.baload, 1) := by decide +kernel
theorem dX4_stepOf_154 : decode cX4_stepOf 154 = .ok (.ifCond .eq 12, 3) := by decide +kernel
theorem dX4_stepOf_157 : decode cX4_stepOf 157 = .ok (.aload_n 0, 1) := by decide +kernel
theorem dX4_stepOf_158 : decode cX4_stepOf 158 = .ok (.getfield 54, 3) := by decide +kernel
theorem dX4_stepOf_161 : decode cX4_stepOf 161 = .ok (.iload_n 3, 1) := by decide +kernel
theorem dX4_stepOf_162 : decode cX4_stepOf 162 = .ok (.iaload, 1) := by decide +kernel
theorem dX4_stepOf_163 : decode cX4_stepOf 163 = .ok (.goto 41, 3) := by decide +kernel
theorem dX4_stepOf_166 : decode cX4_stepOf 166 = .ok (.aload_n 0, 1) := by decide +kernel
theorem dX4_stepOf_167 : decode cX4_stepOf 167 = .ok (.getfield 54, 3) := by decide +kernel
theorem dX4_stepOf_170 : decode cX4_stepOf 170 = .ok (.iload_n 3, 1) := by decide +kernel
theorem dX4_stepOf_171 : decode cX4_stepOf 171 = .ok (.iaload, 1) := by decide +kernel
theorem dX4_stepOf_172 : decode cX4_stepOf 172 = .ok (.iload 5, 2) := by decide +kernel
theorem dX4_stepOf_174 : decode cX4_stepOf 174 = .ok (.if_icmp .ge 8, 3) := by decide +kernel
theorem dX4_stepOf_177 : decode cX4_stepOf 177 = .ok (.iload 5, 2) := by decide +kernel
theorem dX4_stepOf_179 : decode cX4_stepOf 179 = .ok (.goto 25, 3) := by decide +kernel
theorem dX4_stepOf_182 : decode cX4_stepOf 182 = .ok (.aload_n 0, 1) := by decide +kernel
theorem dX4_stepOf_183 : decode cX4_stepOf 183 = .ok (.getfield 54, 3) := by decide +kernel
theorem dX4_stepOf_186 : decode cX4_stepOf 186 = .ok (.iload_n 3, 1) := by decide +kernel
theorem dX4_stepOf_187 : decode cX4_stepOf 187 = .ok (.iaload, 1) := by decide +kernel
theorem dX4_stepOf_188 : decode cX4_stepOf 188 = .ok (.iload 6, 2) := by decide +kernel
theorem dX4_stepOf_190 : decode cX4_stepOf 190 = .ok (.if_icmp .le 8, 3) := by decide +kernel
theorem dX4_stepOf_193 : decode cX4_stepOf 193 = .ok (.iload 6, 2) := by decide +kernel
theorem dX4_stepOf_195 : decode cX4_stepOf 195 = .ok (.goto 9, 3) := by decide +kernel
theorem dX4_stepOf_198 : decode cX4_stepOf 198 = .ok (.aload_n 0, 1) := by decide +kernel
theorem dX4_stepOf_199 : decode cX4_stepOf 199 = .ok (.getfield 54, 3) := by decide +kernel
theorem dX4_stepOf_202 : decode cX4_stepOf 202 = .ok (.iload_n 3, 1) := by decide +kernel
theorem dX4_stepOf_203 : decode cX4_stepOf 203 = .ok (.iaload, 1) := by decide +kernel
theorem dX4_stepOf_204 : decode cX4_stepOf 204 = .ok (.ireturn, 1) := by decide +kernel
set_option maxRecDepth 20000 in
theorem ggX4_slackOf_X4_stepOf : GoodIn wsX4_slackOf wsX4_stepOf := goodIn_r _ [8, 3, 2, 1, 9, 10, 11, 12, 13, 7, 14, 18, 19, 20, 21, 22, 23, 24, 25, 26, 27, 28, 29, 30, 31, 32, 33, 34, 35, 36, 37, 38, 39] (by decide +kernel) (by decide +kernel)
set_option maxRecDepth 20000 in
theorem gX4_slackOf_X4_stepOf : GoodIn wsX4_slackOf (wsV RX4 180 RX4 yX4_stepOf wsX4_stepOf) := goodIn_app (goodIn_of _ (by decide +kernel)) ggX4_slackOf_X4_stepOf
set_option maxRecDepth 20000 in
theorem ggX4_slackOf_X4_size : GoodIn wsX4_slackOf wsX4_size := goodIn_r _ [17] (by decide +kernel) (by decide +kernel)
set_option maxRecDepth 20000 in
theorem gX4_slackOf_X4_size : GoodIn wsX4_slackOf (va_wsS RX4 174 yX4_size wsX4_size) := goodIn_app (goodIn_of _ (by decide +kernel)) ggX4_slackOf_X4_size
theorem dX4_slackOf_0 : decode cX4_slackOf 0 = .ok (.iconst 0, 1) := by decide +kernel
theorem dX4_slackOf_1 : decode cX4_slackOf 1 = .ok (.istore_n 1, 1) := by decide +kernel
theorem dX4_slackOf_2 : decode cX4_slackOf 2 = .ok (.iconst 0, 1) := by decide +kernel
theorem dX4_slackOf_3 : decode cX4_slackOf 3 = .ok (.istore_n 2, 1) := by decide +kernel
theorem dX4_slackOf_4 : decode cX4_slackOf 4 = .ok (.iload_n 2, 1) := by decide +kernel
theorem dX4_slackOf_5 : decode cX4_slackOf 5 = .ok (.aload_n 0, 1) := by decide +kernel
theorem dX4_slackOf_6 : decode cX4_slackOf 6 = .ok (.getfield 51, 3) := by decide +kernel
theorem dX4_slackOf_9 : decode cX4_slackOf 9 = .ok (.if_icmp .ge 49, 3) := by decide +kernel
theorem dX4_slackOf_12 : decode cX4_slackOf 12 = .ok (.iconst 0, 1) := by decide +kernel
theorem dX4_slackOf_13 : decode cX4_slackOf 13 = .ok (.istore_n 3, 1) := by decide +kernel
theorem dX4_slackOf_14 : decode cX4_slackOf 14 = .ok (.iload_n 3, 1) := by decide +kernel
theorem dX4_slackOf_15 : decode cX4_slackOf 15 = .ok (.aload_n 0, 1) := by decide +kernel
theorem dX4_slackOf_16 : decode cX4_slackOf 16 = .ok (.getfield 47, 3) := by decide +kernel
theorem dX4_slackOf_19 : decode cX4_slackOf 19 = .ok (.if_icmp .ge 33, 3) := by decide +kernel
theorem dX4_slackOf_22 : decode cX4_slackOf 22 = .ok (.iload_n 1, 1) := by decide +kernel
theorem dX4_slackOf_23 : decode cX4_slackOf 23 = .ok (.aload_n 0, 1) := by decide +kernel
theorem dX4_slackOf_24 : decode cX4_slackOf 24 = .ok (.iload_n 3, 1) := by decide +kernel
theorem dX4_slackOf_25 : decode cX4_slackOf 25 = .ok (.iload_n 2, 1) := by decide +kernel
theorem dX4_slackOf_26 : decode cX4_slackOf 26 = .ok (.invokevirtual 180, 3) := by decide +kernel
theorem dX4_slackOf_29 : decode cX4_slackOf 29 = .ok (.aload_n 0, 1) := by decide +kernel
theorem dX4_slackOf_30 : decode cX4_slackOf 30 = .ok (.getfield 54, 3) := by decide +kernel
theorem dX4_slackOf_33 : decode cX4_slackOf 33 = .ok (.bipush 8, 2) := by decide +kernel
theorem dX4_slackOf_35 : decode cX4_slackOf 35 = .ok (.iload_n 2, 1) := by decide +kernel
theorem dX4_slackOf_36 : decode cX4_slackOf 36 = .ok (.imul, 1) := by decide +kernel
theorem dX4_slackOf_37 : decode cX4_slackOf 37 = .ok (.iload_n 3, 1) := by decide +kernel
theorem dX4_slackOf_38 : decode cX4_slackOf 38 = .ok (.iadd, 1) := by decide +kernel
theorem dX4_slackOf_39 : decode cX4_slackOf 39 = .ok (.iaload, 1) := by decide +kernel
theorem dX4_slackOf_40 : decode cX4_slackOf 40 = .ok (.isub, 1) := by decide +kernel
theorem dX4_slackOf_41 : decode cX4_slackOf 41 = .ok (.invokestatic 174, 3) := by decide +kernel
theorem dX4_slackOf_44 : decode cX4_slackOf 44 = .ok (.iadd, 1) := by decide +kernel
theorem dX4_slackOf_45 : decode cX4_slackOf 45 = .ok (.istore_n 1, 1) := by decide +kernel
theorem dX4_slackOf_46 : decode cX4_slackOf 46 = .ok (.iinc 3 1, 3) := by decide +kernel
theorem dX4_slackOf_49 : decode cX4_slackOf 49 = .ok (.goto (-35), 3) := by decide +kernel
theorem dX4_slackOf_52 : decode cX4_slackOf 52 = .ok (.iinc 2 1, 3) := by decide +kernel
theorem dX4_slackOf_55 : decode cX4_slackOf 55 = .ok (.goto (-51), 3) := by decide +kernel
theorem dX4_slackOf_58 : decode cX4_slackOf 58 = .ok (.iload_n 1, 1) := by decide +kernel
theorem dX4_slackOf_59 : decode cX4_slackOf 59 = .ok (.ireturn, 1) := by decide +kernel
set_option maxRecDepth 20000 in
theorem ggX4_slack_X4_slackOf : GoodIn wsX4_slack wsX4_slackOf := goodIn_r _ [6, 7, 8, 9, 10, 11, 12, 5, 13, 14, 15, 16, 17, 18, 19, 20, 21, 22, 23, 24, 25, 26, 27, 28, 29, 30, 31, 32, 33, 34, 35, 36, 37, 38, 39, 40, 41, 42, 43, 44] (by decide +kernel) (by decide +kernel)
set_option maxRecDepth 20000 in
theorem gX4_slack_X4_slackOf : GoodIn wsX4_slack (wsV RX4 183 RX4 yX4_slackOf wsX4_slackOf) := goodIn_app (goodIn_of _ (by decide +kernel)) ggX4_slack_X4_slackOf
theorem dX4_slack_0 : decode cX4_slack 0 = .ok (.aload_n 0, 1) := by decide +kernel
theorem dX4_slack_1 : decode cX4_slack 1 = .ok (.iconst 0, 1) := by decide +kernel
theorem dX4_slack_2 : decode cX4_slack 2 = .ok (.putfield 67, 3) := by decide +kernel
theorem dX4_slack_5 : decode cX4_slack 5 = .ok (.aload_n 0, 1) := by decide +kernel
theorem dX4_slack_6 : decode cX4_slack 6 = .ok (.invokevirtual 183, 3) := by decide +kernel
theorem dX4_slack_9 : decode cX4_slack 9 = .ok (.ireturn, 1) := by decide +kernel
set_option maxRecDepth 20000 in
theorem ggX4_rounds_X4_in : GoodIn wsX4_rounds wsX4_in := goodIn_r _ [9] (by decide +kernel) (by decide +kernel)
set_option maxRecDepth 20000 in
theorem gX4_rounds_X4_in : GoodIn wsX4_rounds (va_wsS RX4 74 yX4_in wsX4_in) := goodIn_app (goodIn_of _ (by decide +kernel)) ggX4_rounds_X4_in
set_option maxRecDepth 20000 in
theorem ggX4_rounds_X4_slackOf : GoodIn wsX4_rounds wsX4_slackOf := goodIn_r _ [13, 3, 4, 5, 14, 15, 16, 8, 17, 18, 19, 20, 21, 22, 23, 24, 25, 26, 27, 28, 29, 30, 31, 32, 33, 34, 35, 36, 37, 38, 39, 40, 41, 42, 43, 44, 45, 46, 47, 48] (by decide +kernel) (by decide +kernel)
set_option maxRecDepth 20000 in
theorem gX4_rounds_X4_slackOf : GoodIn wsX4_rounds (wsV RX4 183 RX4 yX4_slackOf wsX4_slackOf) := goodIn_app (goodIn_of _ (by decide +kernel)) ggX4_rounds_X4_slackOf
set_option maxRecDepth 20000 in
theorem ggX4_rounds_X4_stepOf : GoodIn wsX4_rounds wsX4_stepOf := goodIn_r _ [17, 5, 4, 3, 18, 19, 20, 21, 22, 8, 23, 27, 28, 29, 30, 31, 32, 33, 34, 35, 36, 37, 38, 39, 40, 41, 42, 43, 44, 45, 46, 47, 48] (by decide +kernel) (by decide +kernel)
set_option maxRecDepth 20000 in
theorem gX4_rounds_X4_stepOf : GoodIn wsX4_rounds (wsV RX4 180 RX4 yX4_stepOf wsX4_stepOf) := goodIn_app (goodIn_of _ (by decide +kernel)) ggX4_rounds_X4_stepOf
theorem dX4_rounds_0 : decode cX4_rounds 0 = .ok (.aload_n 0, 1) := by decide +kernel
theorem dX4_rounds_1 : decode cX4_rounds 1 = .ok (.iconst 0, 1) := by decide +kernel
theorem dX4_rounds_2 : decode cX4_rounds 2 = .ok (.putfield 67, 3) := by decide +kernel
theorem dX4_rounds_5 : decode cX4_rounds 5 = .ok (.iload_n 1, 1) := by decide +kernel
theorem dX4_rounds_6 : decode cX4_rounds 6 = .ok (.i2l, 1) := by decide +kernel
theorem dX4_rounds_7 : decode cX4_rounds 7 = .ok (.lconst 1, 1) := by decide +kernel
theorem dX4_rounds_8 : decode cX4_rounds 8 = .ok (.ldc2_w 186, 3) := by decide +kernel
theorem dX4_rounds_11 : decode cX4_rounds 11 = .ok (.invokestatic 74, 3) := by decide +kernel
theorem dX4_rounds_14 : decode cX4_rounds 14 = .ok (.ifCond .ne 5, 3) := by decide +kernel
theorem dX4_rounds_17 : decode cX4_rounds 17 = .ok (.iconst (-1), 1) := by decide +kernel
theorem dX4_rounds_18 : decode cX4_rounds 18 = .ok (.ireturn, 1) := by decide +kernel
theorem dX4_rounds_19 : decode cX4_rounds 19 = .ok (.iconst 0, 1) := by decide +kernel
theorem dX4_rounds_20 : decode cX4_rounds 20 = .ok (.istore_n 2, 1) := by decide +kernel
theorem dX4_rounds_21 : decode cX4_rounds 21 = .ok (.iload_n 2, 1) := by decide +kernel
theorem dX4_rounds_22 : decode cX4_rounds 22 = .ok (.iload_n 1, 1) := by decide +kernel
theorem dX4_rounds_23 : decode cX4_rounds 23 = .ok (.if_icmp .ge 69, 3) := by decide +kernel
theorem dX4_rounds_26 : decode cX4_rounds 26 = .ok (.aload_n 0, 1) := by decide +kernel
theorem dX4_rounds_27 : decode cX4_rounds 27 = .ok (.invokevirtual 183, 3) := by decide +kernel
theorem dX4_rounds_30 : decode cX4_rounds 30 = .ok (.ifCond .le 62, 3) := by decide +kernel
theorem dX4_rounds_33 : decode cX4_rounds 33 = .ok (.iconst 0, 1) := by decide +kernel
theorem dX4_rounds_34 : decode cX4_rounds 34 = .ok (.istore_n 3, 1) := by decide +kernel
theorem dX4_rounds_35 : decode cX4_rounds 35 = .ok (.iload_n 3, 1) := by decide +kernel
theorem dX4_rounds_36 : decode cX4_rounds 36 = .ok (.aload_n 0, 1) := by decide +kernel
theorem dX4_rounds_37 : decode cX4_rounds 37 = .ok (.getfield 51, 3) := by decide +kernel
theorem dX4_rounds_40 : decode cX4_rounds 40 = .ok (.if_icmp .ge 46, 3) := by decide +kernel
theorem dX4_rounds_43 : decode cX4_rounds 43 = .ok (.iconst 0, 1) := by decide +kernel
theorem dX4_rounds_44 : decode cX4_rounds 44 = .ok (.istore 4, 2) := by decide +kernel
theorem dX4_rounds_46 : decode cX4_rounds 46 = .ok (.iload 4, 2) := by decide +kernel
theorem dX4_rounds_48 : decode cX4_rounds 48 = .ok (.aload_n 0, 1) := by decide +kernel
theorem dX4_rounds_49 : decode cX4_rounds 49 = .ok (.getfield 47, 3) := by decide +kernel
theorem dX4_rounds_52 : decode cX4_rounds 52 = .ok (.if_icmp .ge 28, 3) := by decide +kernel
theorem dX4_rounds_55 : decode cX4_rounds 55 = .ok (.aload_n 0, 1) := by decide +kernel
theorem dX4_rounds_56 : decode cX4_rounds 56 = .ok (.getfield 54, 3) := by decide +kernel
theorem dX4_rounds_59 : decode cX4_rounds 59 = .ok (.bipush 8, 2) := by decide +kernel
theorem dX4_rounds_61 : decode cX4_rounds 61 = .ok (.iload_n 3, 1) := by decide +kernel
theorem dX4_rounds_62 : decode cX4_rounds 62 = .ok (.imul, 1) := by decide +kernel
theorem dX4_rounds_63 : decode cX4_rounds 63 = .ok (.iload 4, 2) := by decide +kernel
theorem dX4_rounds_65 : decode cX4_rounds 65 = .ok (.iadd, 1) := by decide +kernel
theorem dX4_rounds_66 : decode cX4_rounds 66 = .ok (.aload_n 0, 1) := by decide +kernel
theorem dX4_rounds_67 : decode cX4_rounds 67 = .ok (.iload 4, 2) := by decide +kernel
theorem dX4_rounds_69 : decode cX4_rounds 69 = .ok (.iload_n 3, 1) := by decide +kernel
theorem dX4_rounds_70 : decode cX4_rounds 70 = .ok (.invokevirtual 180, 3) := by decide +kernel
theorem dX4_rounds_73 : decode cX4_rounds 73 = .ok (.iastore, 1) := by decide +kernel
theorem dX4_rounds_74 : decode cX4_rounds 74 = .ok (.iinc 4 1, 3) := by decide +kernel
theorem dX4_rounds_77 : decode cX4_rounds 77 = .ok (.goto (-31), 3) := by decide +kernel
theorem dX4_rounds_80 : decode cX4_rounds 80 = .ok (.iinc 3 1, 3) := by decide +kernel
theorem dX4_rounds_83 : decode cX4_rounds 83 = .ok (.goto (-48), 3) := by decide +kernel
theorem dX4_rounds_86 : decode cX4_rounds 86 = .ok (.iinc 2 1, 3) := by decide +kernel
theorem dX4_rounds_89 : decode cX4_rounds 89 = .ok (.goto (-68), 3) := by decide +kernel
theorem dX4_rounds_92 : decode cX4_rounds 92 = .ok (.iload_n 2, 1) := by decide +kernel
theorem dX4_rounds_93 : decode cX4_rounds 93 = .ok (.ireturn, 1) := by decide +kernel
set_option maxRecDepth 20000 in
theorem ggX4_count_X4_free : GoodIn wsX4_count wsX4_free := goodIn_r _ [10, 11, 12, 13, 14, 9, 15, 5, 33, 34, 35, 36, 37, 38, 39, 40, 41, 42, 43, 44, 45, 46, 47, 48, 49, 50, 51, 52, 53, 54] (by decide +kernel) (by decide +kernel)
set_option maxRecDepth 20000 in
theorem gX4_count_X4_free : GoodIn wsX4_count (wsV RX4 161 RX4 yX4_free wsX4_free) := goodIn_app (goodIn_of _ (by decide +kernel)) ggX4_count_X4_free
set_option maxRecDepth 20000 in
theorem ggX4_count_X4_slackOf : GoodIn wsX4_count wsX4_slackOf := goodIn_r _ [19, 2, 3, 20, 21, 22, 23, 9, 24, 25, 4, 26, 27, 28, 29, 30, 31, 32, 33, 34, 35, 36, 37, 38, 39, 40, 41, 42, 43, 44, 45, 46, 47, 48, 49, 50, 51, 52, 53, 54] (by decide +kernel) (by decide +kernel)
set_option maxRecDepth 20000 in
theorem gX4_count_X4_slackOf : GoodIn wsX4_count (wsV RX4 183 RX4 yX4_slackOf wsX4_slackOf) := goodIn_app (goodIn_of _ (by decide +kernel)) ggX4_count_X4_slackOf
theorem dX4_count_0 : decode cX4_count 0 = .ok (.aload_n 0, 1) := by decide +kernel
theorem dX4_count_1 : decode cX4_count 1 = .ok (.iconst 0, 1) := by decide +kernel
theorem dX4_count_2 : decode cX4_count 2 = .ok (.putfield 67, 3) := by decide +kernel
theorem dX4_count_5 : decode cX4_count 5 = .ok (.iconst 0, 1) := by decide +kernel
theorem dX4_count_6 : decode cX4_count 6 = .ok (.istore_n 2, 1) := by decide +kernel
theorem dX4_count_7 : decode cX4_count 7 = .ok (.iconst 0, 1) := by decide +kernel
theorem dX4_count_8 : decode cX4_count 8 = .ok (.istore_n 3, 1) := by decide +kernel
theorem dX4_count_9 : decode cX4_count 9 = .ok (.iload_n 3, 1) := by decide +kernel
theorem dX4_count_10 : decode cX4_count 10 = .ok (.aload_n 0, 1) := by decide +kernel
theorem dX4_count_11 : decode cX4_count 11 = .ok (.getfield 51, 3) := by decide +kernel
theorem dX4_count_14 : decode cX4_count 14 = .ok (.if_icmp .ge 50, 3) := by decide +kernel
theorem dX4_count_17 : decode cX4_count 17 = .ok (.iconst 0, 1) := by decide +kernel
theorem dX4_count_18 : decode cX4_count 18 = .ok (.istore 4, 2) := by decide +kernel
theorem dX4_count_20 : decode cX4_count 20 = .ok (.iload 4, 2) := by decide +kernel
theorem dX4_count_22 : decode cX4_count 22 = .ok (.aload_n 0, 1) := by decide +kernel
theorem dX4_count_23 : decode cX4_count 23 = .ok (.getfield 47, 3) := by decide +kernel
theorem dX4_count_26 : decode cX4_count 26 = .ok (.if_icmp .ge 32, 3) := by decide +kernel
theorem dX4_count_29 : decode cX4_count 29 = .ok (.iload_n 2, 1) := by decide +kernel
theorem dX4_count_30 : decode cX4_count 30 = .ok (.aload_n 0, 1) := by decide +kernel
theorem dX4_count_31 : decode cX4_count 31 = .ok (.getfield 57, 3) := by decide +kernel
theorem dX4_count_34 : decode cX4_count 34 = .ok (.bipush 8, 2) := by decide +kernel
theorem dX4_count_36 : decode cX4_count 36 = .ok (.iload_n 3, 1) := by decide +kernel
theorem dX4_count_37 : decode cX4_count 37 = .ok (.imul, 1) := by decide +kernel
theorem dX4_count_38 : decode cX4_count 38 = .ok (.iload 4, 2) := by decide +kernel
theorem dX4_count_40 : decode cX4_count 40 = .ok (.iadd, 1) := by decide +kernel
theorem dX4_count_41 : decode cX4_count 41 = .ok (.baload, 1) := by decide +kernel
theorem dX4_count_42 : decode cX4_count 42 = .ok (.ifCond .eq 7, 3) := by decide +kernel
theorem dX4_count_45 : decode cX4_count 45 = .ok (.iconst 1, 1) := by decide +kernel
theorem dX4_count_46 : decode cX4_count 46 = .ok (.goto 4, 3) := by decide +kernel
theorem dX4_count_49 : decode cX4_count 49 = .ok (.iconst 0, 1) := by decide +kernel
theorem dX4_count_50 : decode cX4_count 50 = .ok (.iadd, 1) := by decide +kernel
theorem dX4_count_51 : decode cX4_count 51 = .ok (.istore_n 2, 1) := by decide +kernel
theorem dX4_count_52 : decode cX4_count 52 = .ok (.iinc 4 1, 3) := by decide +kernel
theorem dX4_count_55 : decode cX4_count 55 = .ok (.goto (-35), 3) := by decide +kernel
theorem dX4_count_58 : decode cX4_count 58 = .ok (.iinc 3 1, 3) := by decide +kernel
theorem dX4_count_61 : decode cX4_count 61 = .ok (.goto (-52), 3) := by decide +kernel
theorem dX4_count_64 : decode cX4_count 64 = .ok (.iload_n 1, 1) := by decide +kernel
theorem dX4_count_65 : decode cX4_count 65 = .ok (.tableswitch 98 0 7 #[47, 54, 61, 68, 73, 78, 83, 85], 47) := by decide +kernel
theorem dX4_count_112 : decode cX4_count 112 = .ok (.aload_n 0, 1) := by decide +kernel
theorem dX4_count_113 : decode cX4_count 113 = .ok (.getfield 7, 3) := by decide +kernel
theorem dX4_count_116 : decode cX4_count 116 = .ok (.iconst 0, 1) := by decide +kernel
theorem dX4_count_117 : decode cX4_count 117 = .ok (.iaload, 1) := by decide +kernel
theorem dX4_count_118 : decode cX4_count 118 = .ok (.ireturn, 1) := by decide +kernel
theorem dX4_count_119 : decode cX4_count 119 = .ok (.aload_n 0, 1) := by decide +kernel
theorem dX4_count_120 : decode cX4_count 120 = .ok (.getfield 7, 3) := by decide +kernel
theorem dX4_count_123 : decode cX4_count 123 = .ok (.iconst 1, 1) := by decide +kernel
theorem dX4_count_124 : decode cX4_count 124 = .ok (.iaload, 1) := by decide +kernel
theorem dX4_count_125 : decode cX4_count 125 = .ok (.ireturn, 1) := by decide +kernel
theorem dX4_count_126 : decode cX4_count 126 = .ok (.aload_n 0, 1) := by decide +kernel
theorem dX4_count_127 : decode cX4_count 127 = .ok (.getfield 7, 3) := by decide +kernel
theorem dX4_count_130 : decode cX4_count 130 = .ok (.iconst 2, 1) := by decide +kernel
theorem dX4_count_131 : decode cX4_count 131 = .ok (.iaload, 1) := by decide +kernel
theorem dX4_count_132 : decode cX4_count 132 = .ok (.ireturn, 1) := by decide +kernel
theorem dX4_count_133 : decode cX4_count 133 = .ok (.aload_n 0, 1) := by decide +kernel
theorem dX4_count_134 : decode cX4_count 134 = .ok (.invokevirtual 161, 3) := by decide +kernel
theorem dX4_count_137 : decode cX4_count 137 = .ok (.ireturn, 1) := by decide +kernel
theorem dX4_count_138 : decode cX4_count 138 = .ok (.aload_n 0, 1) := by decide +kernel
theorem dX4_count_139 : decode cX4_count 139 = .ok (.getfield 47, 3) := by decide +kernel
theorem dX4_count_142 : decode cX4_count 142 = .ok (.ireturn, 1) := by decide +kernel
theorem dX4_count_143 : decode cX4_count 143 = .ok (.aload_n 0, 1) := by decide +kernel
theorem dX4_count_144 : decode cX4_count 144 = .ok (.getfield 51, 3) := by decide +kernel
theorem dX4_count_147 : decode cX4_count 147 = .ok (.ireturn, 1) := by decide +kernel
theorem dX4_count_148 : decode cX4_count 148 = .ok (.iload_n 2, 1) := by decide +kernel
theorem dX4_count_149 : decode cX4_count 149 = .ok (.ireturn, 1) := by decide +kernel
theorem dX4_count_150 : decode cX4_count 150 = .ok (.aload_n 0, 1) := by decide +kernel
theorem dX4_count_151 : decode cX4_count 151 = .ok (.invokevirtual 183, 3) := by decide +kernel
theorem dX4_count_154 : decode cX4_count 154 = .ok (.ifCond .ne 7, 3) := by decide +kernel
theorem dX4_count_157 : decode cX4_count 157 = .ok (.iconst 1, 1) := by decide +kernel
theorem dX4_count_158 : decode cX4_count 158 = .ok (.goto 4, 3) := by decide +kernel
theorem dX4_count_161 : decode cX4_count 161 = .ok (.iconst 0, 1) := by decide +kernel
theorem dX4_count_162 : decode cX4_count 162 = .ok (.ireturn, 1) := by decide +kernel
theorem dX4_count_163 : decode cX4_count 163 = .ok (.iconst (-1), 1) := by decide +kernel
theorem dX4_count_164 : decode cX4_count 164 = .ok (.ireturn, 1) := by decide +kernel
theorem dX4_trace_0 : decode cX4_trace 0 = .ok (.aload_n 0, 1) := by decide +kernel
theorem dX4_trace_1 : decode cX4_trace 1 = .ok (.iconst 0, 1) := by decide +kernel
theorem dX4_trace_2 : decode cX4_trace 2 = .ok (.putfield 67, 3) := by decide +kernel
theorem dX4_trace_5 : decode cX4_trace 5 = .ok (.aload_n 0, 1) := by decide +kernel
theorem dX4_trace_6 : decode cX4_trace 6 = .ok (.getfield 103, 3) := by decide +kernel
theorem dX4_trace_9 : decode cX4_trace 9 = .ok (.lreturn, 1) := by decide +kernel
