theorem dX5_init_0 : decode cX5_init 0 = .ok (.aload_n 0, 1) := by decide +kernel
theorem dX5_init_1 : decode cX5_init 1 = .ok (.invokespecial 1, 3) := by decide +kernel
theorem dX5_init_4 : decode cX5_init 4 = .ok (.aload_n 0, 1) := by decide +kernel
theorem dX5_init_5 : decode cX5_init 5 = .ok (.bipush 40, 2) := by decide +kernel
theorem dX5_init_7 : decode cX5_init 7 = .ok (.newarray .int, 2) := by decide +kernel
theorem dX5_init_9 : decode cX5_init 9 = .ok (.putfield 7, 3) := by decide +kernel
theorem dX5_init_12 : decode cX5_init 12 = .ok (.aload_n 0, 1) := by decide +kernel
theorem dX5_init_13 : decode cX5_init 13 = .ok (.bipush 40, 2) := by decide +kernel
theorem dX5_init_15 : decode cX5_init 15 = .ok (.newarray .int, 2) := by decide +kernel
theorem dX5_init_17 : decode cX5_init 17 = .ok (.putfield 13, 3) := by decide +kernel
theorem dX5_init_20 : decode cX5_init 20 = .ok (.aload_n 0, 1) := by decide +kernel
theorem dX5_init_21 : decode cX5_init 21 = .ok (.bipush 40, 2) := by decide +kernel
theorem dX5_init_23 : decode cX5_init 23 = .ok (.newarray .int, 2) := by decide +kernel
theorem dX5_init_25 : decode cX5_init 25 = .ok (.putfield 16, 3) := by decide +kernel
theorem dX5_init_28 : decode cX5_init 28 = .ok (.aload_n 0, 1) := by decide +kernel
theorem dX5_init_29 : decode cX5_init 29 = .ok (.bipush 40, 2) := by decide +kernel
theorem dX5_init_31 : decode cX5_init 31 = .ok (.newarray .int, 2) := by decide +kernel
theorem dX5_init_33 : decode cX5_init 33 = .ok (.putfield 19, 3) := by decide +kernel
theorem dX5_init_36 : decode cX5_init 36 = .ok (.aload_n 0, 1) := by decide +kernel
theorem dX5_init_37 : decode cX5_init 37 = .ok (.bipush 40, 2) := by decide +kernel
theorem dX5_init_39 : decode cX5_init 39 = .ok (.newarray .int, 2) := by decide +kernel
theorem dX5_init_41 : decode cX5_init 41 = .ok (.putfield 22, 3) := by decide +kernel
theorem dX5_init_44 : decode cX5_init 44 = .ok (.aload_n 0, 1) := by decide +kernel
theorem dX5_init_45 : decode cX5_init 45 = .ok (.bipush 40, 2) := by decide +kernel
theorem dX5_init_47 : decode cX5_init 47 = .ok (.newarray .int, 2) := by decide +kernel
theorem dX5_init_49 : decode cX5_init 49 = .ok (.putfield 25, 3) := by decide +kernel
theorem dX5_init_52 : decode cX5_init 52 = .ok (.aload_n 0, 1) := by decide +kernel
theorem dX5_init_53 : decode cX5_init 53 = .ok (.bipush 40, 2) := by decide +kernel
theorem dX5_init_55 : decode cX5_init 55 = .ok (.newarray .boolean, 2) := by decide +kernel
theorem dX5_init_57 : decode cX5_init 57 = .ok (.putfield 28, 3) := by decide +kernel
theorem dX5_init_60 : decode cX5_init 60 = .ok (.aload_n 0, 1) := by decide +kernel
theorem dX5_init_61 : decode cX5_init 61 = .ok (.bipush 40, 2) := by decide +kernel
theorem dX5_init_63 : decode cX5_init 63 = .ok (.newarray .int, 2) := by decide +kernel
theorem dX5_init_65 : decode cX5_init 65 = .ok (.putfield 32, 3) := by decide +kernel
theorem dX5_init_68 : decode cX5_init 68 = .ok (.aload_n 0, 1) := by decide +kernel
theorem dX5_init_69 : decode cX5_init 69 = .ok (.bipush 40, 2) := by decide +kernel
theorem dX5_init_71 : decode cX5_init 71 = .ok (.newarray .int, 2) := by decide +kernel
theorem dX5_init_73 : decode cX5_init 73 = .ok (.putfield 35, 3) := by decide +kernel
theorem dX5_init_76 : decode cX5_init 76 = .ok (.aload_n 0, 1) := by decide +kernel
theorem dX5_init_77 : decode cX5_init 77 = .ok (.bipush 40, 2) := by decide +kernel
theorem dX5_init_79 : decode cX5_init 79 = .ok (.newarray .int, 2) := by decide +kernel
theorem dX5_init_81 : decode cX5_init 81 = .ok (.putfield 38, 3) := by decide +kernel
theorem dX5_init_84 : decode cX5_init 84 = .ok (.aload_n 0, 1) := by decide +kernel
theorem dX5_init_85 : decode cX5_init 85 = .ok (.sipush 1600, 3) := by decide +kernel
theorem dX5_init_88 : decode cX5_init 88 = .ok (.newarray .int, 2) := by decide +kernel
theorem dX5_init_90 : decode cX5_init 90 = .ok (.putfield 41, 3) := by decide +kernel
theorem dX5_init_93 : decode cX5_init 93 = .ok (.aload_n 0, 1) := by decide +kernel
theorem dX5_init_94 : decode cX5_init 94 = .ok (.bipush 16, 2) := by decide +kernel
theorem dX5_init_96 : decode cX5_init 96 = .ok (.newarray .int, 2) := by decide +kernel
theorem dX5_init_98 : decode cX5_init 98 = .ok (.putfield 44, 3) := by decide +kernel
theorem dX5_init_101 : decode cX5_init 101 = .ok (.aload_n 0, 1) := by decide +kernel
theorem dX5_init_102 : decode cX5_init 102 = .ok (.bipush 16, 2) := by decide +kernel
theorem dX5_init_104 : decode cX5_init 104 = .ok (.newarray .int, 2) := by decide +kernel
theorem dX5_init_106 : decode cX5_init 106 = .ok (.putfield 47, 3) := by decide +kernel
theorem dX5_init_109 : decode cX5_init 109 = .ok (.aload_n 0, 1) := by decide +kernel
theorem dX5_init_110 : decode cX5_init 110 = .ok (.bipush 16, 2) := by decide +kernel
theorem dX5_init_112 : decode cX5_init 112 = .ok (.newarray .int, 2) := by decide +kernel
theorem dX5_init_114 : decode cX5_init 114 = .ok (.putfield 50, 3) := by decide +kernel
theorem dX5_init_117 : decode cX5_init 117 = .ok (.aload_n 0, 1) := by decide +kernel
theorem dX5_init_118 : decode cX5_init 118 = .ok (.bipush 16, 2) := by decide +kernel
theorem dX5_init_120 : decode cX5_init 120 = .ok (.newarray .int, 2) := by decide +kernel
theorem dX5_init_122 : decode cX5_init 122 = .ok (.putfield 53, 3) := by decide +kernel
theorem dX5_init_125 : decode cX5_init 125 = .ok (.aload_n 0, 1) := by decide +kernel
theorem dX5_init_126 : decode cX5_init 126 = .ok (.bipush 16, 2) := by decide +kernel
theorem dX5_init_128 : decode cX5_init 128 = .ok (.newarray .int, 2) := by decide +kernel
theorem dX5_init_130 : decode cX5_init 130 = .ok (.putfield 56, 3) := by decide +kernel
theorem dX5_init_133 : decode cX5_init 133 = .ok (.aload_n 0, 1) := by decide +kernel
theorem dX5_init_134 : decode cX5_init 134 = .ok (.bipush 16, 2) := by decide +kernel
theorem dX5_init_136 : decode cX5_init 136 = .ok (.newarray .int, 2) := by decide +kernel
theorem dX5_init_138 : decode cX5_init 138 = .ok (.putfield 59, 3) := by decide +kernel
theorem dX5_init_141 : decode cX5_init 141 = .ok (.aload_n 0, 1) := by decide +kernel
theorem dX5_init_142 : decode cX5_init 142 = .ok (.bipush 16, 2) := by decide +kernel
theorem dX5_init_144 : decode cX5_init 144 = .ok (.newarray .boolean, 2) := by decide +kernel
theorem dX5_init_146 : decode cX5_init 146 = .ok (.putfield 62, 3) := by decide +kernel
theorem dX5_init_149 : decode cX5_init 149 = .ok (.aload_n 0, 1) := by decide +kernel
theorem dX5_init_150 : decode cX5_init 150 = .ok (.bipush 36, 2) := by decide +kernel
theorem dX5_init_152 : decode cX5_init 152 = .ok (.newarray .int, 2) := by decide +kernel
theorem dX5_init_154 : decode cX5_init 154 = .ok (.putfield 65, 3) := by decide +kernel
theorem dX5_init_157 : decode cX5_init 157 = .ok (.aload_n 0, 1) := by decide +kernel
theorem dX5_init_158 : decode cX5_init 158 = .ok (.bipush 36, 2) := by decide +kernel
theorem dX5_init_160 : decode cX5_init 160 = .ok (.newarray .int, 2) := by decide +kernel
theorem dX5_init_162 : decode cX5_init 162 = .ok (.putfield 68, 3) := by decide +kernel
theorem dX5_init_165 : decode cX5_init 165 = .ok (.aload_n 0, 1) := by decide +kernel
theorem dX5_init_166 : decode cX5_init 166 = .ok (.bipush 8, 2) := by decide +kernel
theorem dX5_init_168 : decode cX5_init 168 = .ok (.newarray .long, 2) := by decide +kernel
theorem dX5_init_170 : decode cX5_init 170 = .ok (.putfield 71, 3) := by decide +kernel
theorem dX5_init_173 : decode cX5_init 173 = .ok (.iconst 0, 1) := by decide +kernel
theorem dX5_init_174 : decode cX5_init 174 = .ok (.istore_n 1, 1) := by decide +kernel
theorem dX5_init_175 : decode cX5_init 175 = .ok (.iload_n 1, 1) := by decide +kernel
theorem dX5_init_176 : decode cX5_init 176 = .ok (.sipush 1600, 3) := by decide +kernel
theorem dX5_init_179 : decode cX5_init 179 = .ok (.if_icmp .ge 16, 3) := by decide +kernel
theorem dX5_init_182 : decode cX5_init 182 = .ok (.aload_n 0, 1) := by decide +kernel
theorem dX5_init_183 : decode cX5_init 183 = .ok (.getfield 41, 3) := by decide +kernel
theorem dX5_init_186 : decode cX5_init 186 = .ok (.iload_n 1, 1) := by decide +kernel
theorem dX5_init_187 : decode cX5_init 187 = .ok (.iconst (-1), 1) := by decide +kernel
theorem dX5_init_188 : decode cX5_init 188 = .ok (.iastore, 1) := by decide +kernel
theorem dX5_init_189 : decode cX5_init 189 = .ok (.iinc 1 1, 3) := by decide +kernel
theorem dX5_init_192 : decode cX5_init 192 = .ok (.goto (-17), 3) := by decide +kernel
theorem dX5_init_195 : decode cX5_init 195 = .ok (.return_, 1) := by decide +kernel
theorem dX5_thrown_0 : decode cX5_thrown 0 = .ok (.aload_n 0, 1) := by decide +kernel
theorem dX5_thrown_1 : decode cX5_thrown 1 = .ok (.getfield 75, 3) := by decide +kernel
theorem dX5_thrown_4 : decode cX5_thrown 4 = .ok (.ireturn, 1) := by decide +kernel
theorem dX5_in_0 : decode cX5_in 0 = .ok (.iload_n 0, 1) := by decide +kernel
theorem dX5_in_1 : decode cX5_in 1 = .ok (.iload_n 1, 1) := by decide +kernel
theorem dX5_in_2 : decode cX5_in 2 = .ok (.if_icmp .lt 12, 3) := by decide +kernel
theorem dX5_in_5 : decode cX5_in 5 = .ok (.iload_n 0, 1) := by decide +kernel
theorem dX5_in_6 : decode cX5_in 6 = .ok (.iload_n 2, 1) := by decide +kernel
theorem dX5_in_7 : decode cX5_in 7 = .ok (.if_icmp .gt 7, 3) := by decide +kernel
theorem dX5_in_10 : decode cX5_in 10 = .ok (.iconst 1, 1) := by decide +kernel
theorem dX5_in_11 : decode cX5_in 11 = .ok (.goto 4, 3) := by decide +kernel
theorem dX5_in_14 : decode cX5_in 14 = .ok (.iconst 0, 1) := by decide +kernel
theorem dX5_in_15 : decode cX5_in 15 = .ok (.ireturn, 1) := by decide +kernel
theorem dX5_refused_0 : decode cX5_refused 0 = .ok (.aload_n 0, 1) := by decide +kernel
theorem dX5_refused_1 : decode cX5_refused 1 = .ok (.iload_n 1, 1) := by decide +kernel
theorem dX5_refused_2 : decode cX5_refused 2 = .ok (.putfield 75, 3) := by decide +kernel
theorem dX5_refused_5 : decode cX5_refused 5 = .ok (.iload_n 1, 1) := by decide +kernel
theorem dX5_refused_6 : decode cX5_refused 6 = .ok (.ifCond .eq 7, 3) := by decide +kernel
theorem dX5_refused_9 : decode cX5_refused 9 = .ok (.iconst 1, 1) := by decide +kernel
theorem dX5_refused_10 : decode cX5_refused 10 = .ok (.goto 4, 3) := by decide +kernel
theorem dX5_refused_13 : decode cX5_refused 13 = .ok (.iconst 0, 1) := by decide +kernel
theorem dX5_refused_14 : decode cX5_refused 14 = .ok (.ireturn, 1) := by decide +kernel
set_option maxRecDepth 20000 in
theorem ggX5_isFiling_X5_in : GoodIn wsX5_isFiling wsX5_in := goodIn_r _ [5] (by decide +kernel) (by decide +kernel)
set_option maxRecDepth 20000 in
theorem gX5_isFiling_X5_in : GoodIn wsX5_isFiling (va_wsS RX5 82 yX5_in wsX5_in) := goodIn_app (goodIn_of _ (by decide +kernel)) ggX5_isFiling_X5_in
theorem dX5_isFiling_0 : decode cX5_isFiling 0 = .ok (.iload_n 1, 1) := by decide +kernel
theorem dX5_isFiling_1 : decode cX5_isFiling 1 = .ok (.iconst 0, 1) := by decide +kernel
theorem dX5_isFiling_2 : decode cX5_isFiling 2 = .ok (.aload_n 0, 1) := by decide +kernel
theorem dX5_isFiling_3 : decode cX5_isFiling 3 = .ok (.getfield 79, 3) := by decide +kernel
theorem dX5_isFiling_6 : decode cX5_isFiling 6 = .ok (.iconst 1, 1) := by decide +kernel
theorem dX5_isFiling_7 : decode cX5_isFiling 7 = .ok (.isub, 1) := by decide +kernel
theorem dX5_isFiling_8 : decode cX5_isFiling 8 = .ok (.invokestatic 82, 3) := by decide +kernel
theorem dX5_isFiling_11 : decode cX5_isFiling 11 = .ok (.ireturn, 1) := by decide +kernel
set_option maxRecDepth 20000 in
theorem ggX5_isSatellite_X5_in : GoodIn wsX5_isSatellite wsX5_in := goodIn_r _ [5] (by decide +kernel) (by decide +kernel)
set_option maxRecDepth 20000 in
theorem gX5_isSatellite_X5_in : GoodIn wsX5_isSatellite (va_wsS RX5 82 yX5_in wsX5_in) := goodIn_app (goodIn_of _ (by decide +kernel)) ggX5_isSatellite_X5_in
theorem dX5_isSatellite_0 : decode cX5_isSatellite 0 = .ok (.iload_n 1, 1) := by decide +kernel
theorem dX5_isSatellite_1 : decode cX5_isSatellite 1 = .ok (.iconst 0, 1) := by decide +kernel
theorem dX5_isSatellite_2 : decode cX5_isSatellite 2 = .ok (.aload_n 0, 1) := by decide +kernel
theorem dX5_isSatellite_3 : decode cX5_isSatellite 3 = .ok (.getfield 86, 3) := by decide +kernel
theorem dX5_isSatellite_6 : decode cX5_isSatellite 6 = .ok (.iconst 1, 1) := by decide +kernel
theorem dX5_isSatellite_7 : decode cX5_isSatellite 7 = .ok (.isub, 1) := by decide +kernel
theorem dX5_isSatellite_8 : decode cX5_isSatellite 8 = .ok (.invokestatic 82, 3) := by decide +kernel
theorem dX5_isSatellite_11 : decode cX5_isSatellite 11 = .ok (.ireturn, 1) := by decide +kernel
set_option maxRecDepth 20000 in
theorem ggX5_isSlot_X5_in : GoodIn wsX5_isSlot wsX5_in := goodIn_r _ [4] (by decide +kernel) (by decide +kernel)
set_option maxRecDepth 20000 in
theorem gX5_isSlot_X5_in : GoodIn wsX5_isSlot (va_wsS RX5 82 yX5_in wsX5_in) := goodIn_app (goodIn_of _ (by decide +kernel)) ggX5_isSlot_X5_in
theorem dX5_isSlot_0 : decode cX5_isSlot 0 = .ok (.iload_n 0, 1) := by decide +kernel
theorem dX5_isSlot_1 : decode cX5_isSlot 1 = .ok (.iconst 0, 1) := by decide +kernel
theorem dX5_isSlot_2 : decode cX5_isSlot 2 = .ok (.sipush 359, 3) := by decide +kernel
theorem dX5_isSlot_5 : decode cX5_isSlot 5 = .ok (.invokestatic 82, 3) := by decide +kernel
theorem dX5_isSlot_8 : decode cX5_isSlot 8 = .ok (.ireturn, 1) := by decide +kernel
theorem dX5_apart_0 : decode cX5_apart 0 = .ok (.iload_n 0, 1) := by decide +kernel
theorem dX5_apart_1 : decode cX5_apart 1 = .ok (.iload_n 1, 1) := by decide +kernel
theorem dX5_apart_2 : decode cX5_apart 2 = .ok (.if_icmp .ge 9, 3) := by decide +kernel
theorem dX5_apart_5 : decode cX5_apart 5 = .ok (.iload_n 1, 1) := by decide +kernel
theorem dX5_apart_6 : decode cX5_apart 6 = .ok (.iload_n 0, 1) := by decide +kernel
theorem dX5_apart_7 : decode cX5_apart 7 = .ok (.isub, 1) := by decide +kernel
theorem dX5_apart_8 : decode cX5_apart 8 = .ok (.goto 6, 3) := by decide +kernel
theorem dX5_apart_11 : decode cX5_apart 11 = .ok (.iload_n 0, 1) := by decide +kernel
theorem dX5_apart_12 : decode cX5_apart 12 = .ok (.iload_n 1, 1) := by decide +kernel
theorem dX5_apart_13 : decode cX5_apart 13 = .ok (.isub, 1) := by decide +kernel
theorem dX5_apart_14 : decode cX5_apart 14 = .ok (.istore_n 2, 1) := by decide +kernel
theorem dX5_apart_15 : decode cX5_apart 15 = .ok (.iload_n 2, 1) := by decide +kernel
theorem dX5_apart_16 : decode cX5_apart 16 = .ok (.sipush 180, 3) := by decide +kernel
theorem dX5_apart_19 : decode cX5_apart 19 = .ok (.if_icmp .le 11, 3) := by decide +kernel
theorem dX5_apart_22 : decode cX5_apart 22 = .ok (.sipush 360, 3) := by decide +kernel
theorem dX5_apart_25 : decode cX5_apart 25 = .ok (.iload_n 2, 1) := by decide +kernel
theorem dX5_apart_26 : decode cX5_apart 26 = .ok (.isub, 1) := by decide +kernel
theorem dX5_apart_27 : decode cX5_apart 27 = .ok (.goto 4, 3) := by decide +kernel
theorem dX5_apart_30 : decode cX5_apart 30 = .ok (.iload_n 2, 1) := by decide +kernel
theorem dX5_apart_31 : decode cX5_apart 31 = .ok (.ireturn, 1) := by decide +kernel
set_option maxRecDepth 20000 in
theorem ggX5_harmBy_X5_apart : GoodIn wsX5_harmBy wsX5_apart := goodIn_r _ [7] (by decide +kernel) (by decide +kernel)
set_option maxRecDepth 20000 in
theorem gX5_harmBy_X5_apart : GoodIn wsX5_harmBy (va_wsS RX5 89 yX5_apart wsX5_apart) := goodIn_app (goodIn_of _ (by decide +kernel)) ggX5_harmBy_X5_apart
theorem dX5_harmBy_0 : decode cX5_harmBy 0 = .ok (.iload_n 1, 1) := by decide +kernel
theorem dX5_harmBy_1 : decode cX5_harmBy 1 = .ok (.iload 4, 2) := by decide +kernel
theorem dX5_harmBy_3 : decode cX5_harmBy 3 = .ok (.if_icmp .eq 44, 3) := by decide +kernel
theorem dX5_harmBy_6 : decode cX5_harmBy 6 = .ok (.aload_n 0, 1) := by decide +kernel
theorem dX5_harmBy_7 : decode cX5_harmBy 7 = .ok (.getfield 16, 3) := by decide +kernel
theorem dX5_harmBy_10 : decode cX5_harmBy 10 = .ok (.iload_n 1, 1) := by decide +kernel
theorem dX5_harmBy_11 : decode cX5_harmBy 11 = .ok (.iaload, 1) := by decide +kernel
theorem dX5_harmBy_12 : decode cX5_harmBy 12 = .ok (.aload_n 0, 1) := by decide +kernel
theorem dX5_harmBy_13 : decode cX5_harmBy 13 = .ok (.getfield 16, 3) := by decide +kernel
theorem dX5_harmBy_16 : decode cX5_harmBy 16 = .ok (.iload 4, 2) := by decide +kernel
theorem dX5_harmBy_18 : decode cX5_harmBy 18 = .ok (.iaload, 1) := by decide +kernel
theorem dX5_harmBy_19 : decode cX5_harmBy 19 = .ok (.if_icmp .ne 28, 3) := by decide +kernel
theorem dX5_harmBy_22 : decode cX5_harmBy 22 = .ok (.aload_n 0, 1) := by decide +kernel
theorem dX5_harmBy_23 : decode cX5_harmBy 23 = .ok (.getfield 25, 3) := by decide +kernel
theorem dX5_harmBy_26 : decode cX5_harmBy 26 = .ok (.iload_n 1, 1) := by decide +kernel
theorem dX5_harmBy_27 : decode cX5_harmBy 27 = .ok (.iaload, 1) := by decide +kernel
theorem dX5_harmBy_28 : decode cX5_harmBy 28 = .ok (.iconst 4, 1) := by decide +kernel
theorem dX5_harmBy_29 : decode cX5_harmBy 29 = .ok (.if_icmp .eq 18, 3) := by decide +kernel
theorem dX5_harmBy_32 : decode cX5_harmBy 32 = .ok (.aload_n 0, 1) := by decide +kernel
theorem dX5_harmBy_33 : decode cX5_harmBy 33 = .ok (.getfield 25, 3) := by decide +kernel
theorem dX5_harmBy_36 : decode cX5_harmBy 36 = .ok (.iload 4, 2) := by decide +kernel
theorem dX5_harmBy_38 : decode cX5_harmBy 38 = .ok (.iaload, 1) := by decide +kernel
theorem dX5_harmBy_39 : decode cX5_harmBy 39 = .ok (.iconst 4, 1) := by decide +kernel
theorem dX5_harmBy_40 : decode cX5_harmBy 40 = .ok (.if_icmp .eq 7, 3) := by decide +kernel
theorem dX5_harmBy_43 : decode cX5_harmBy 43 = .ok (.iconst 1, 1) := by decide +kernel
theorem dX5_harmBy_44 : decode cX5_harmBy 44 = .ok (.goto 4, 3) := by decide +kernel
theorem dX5_harmBy_47 : decode cX5_harmBy 47 = .ok (.iconst 0, 1) := by decide +kernel
theorem dX5_harmBy_48 : decode cX5_harmBy 48 = .ok (.istore 5, 2) := by decide +kernel
theorem dX5_harmBy_50 : decode cX5_harmBy 50 = .ok (.bipush 12, 2) := by decide +kernel
theorem dX5_harmBy_52 : decode cX5_harmBy 52 = .ok (.iload_n 2, 1) := by decide +kernel
theorem dX5_harmBy_53 : decode cX5_harmBy 53 = .ok (.aload_n 0, 1) := by decide +kernel
theorem dX5_harmBy_54 : decode cX5_harmBy 54 = .ok (.getfield 13, 3) := by decide +kernel
theorem dX5_harmBy_57 : decode cX5_harmBy 57 = .ok (.iload 4, 2) := by decide +kernel
theorem dX5_harmBy_59 : decode cX5_harmBy 59 = .ok (.iaload, 1) := by decide +kernel
theorem dX5_harmBy_60 : decode cX5_harmBy 60 = .ok (.invokestatic 89, 3) := by decide +kernel
theorem dX5_harmBy_63 : decode cX5_harmBy 63 = .ok (.isub, 1) := by decide +kernel
theorem dX5_harmBy_64 : decode cX5_harmBy 64 = .ok (.istore 6, 2) := by decide +kernel
theorem dX5_harmBy_66 : decode cX5_harmBy 66 = .ok (.iload 5, 2) := by decide +kernel
theorem dX5_harmBy_68 : decode cX5_harmBy 68 = .ok (.ifCond .eq 15, 3) := by decide +kernel
theorem dX5_harmBy_71 : decode cX5_harmBy 71 = .ok (.iload 6, 2) := by decide +kernel
theorem dX5_harmBy_73 : decode cX5_harmBy 73 = .ok (.ifCond .le 10, 3) := by decide +kernel
theorem dX5_harmBy_76 : decode cX5_harmBy 76 = .ok (.iload_n 3, 1) := by decide +kernel
theorem dX5_harmBy_77 : decode cX5_harmBy 77 = .ok (.iload 6, 2) := by decide +kernel
theorem dX5_harmBy_79 : decode cX5_harmBy 79 = .ok (.imul, 1) := by decide +kernel
theorem dX5_harmBy_80 : decode cX5_harmBy 80 = .ok (.goto 4, 3) := by decide +kernel
theorem dX5_harmBy_83 : decode cX5_harmBy 83 = .ok (.iconst 0, 1) := by decide +kernel
theorem dX5_harmBy_84 : decode cX5_harmBy 84 = .ok (.ireturn, 1) := by decide +kernel
set_option maxRecDepth 20000 in
theorem ggX5_harmOf_X5_harmBy : GoodIn wsX5_harmOf wsX5_harmBy := goodIn_r _ [7, 8, 9, 1, 10, 11, 6, 12, 13, 14, 15, 16, 17, 18, 19, 20, 21, 22, 23, 24, 25, 26, 27, 28, 29, 30, 31, 32, 33, 34, 35, 36, 37, 38] (by decide +kernel) (by decide +kernel)
set_option maxRecDepth 20000 in
theorem gX5_harmOf_X5_harmBy : GoodIn wsX5_harmOf (wsV RX5 93 RX5 yX5_harmBy wsX5_harmBy) := goodIn_app (goodIn_of _ (by decide +kernel)) ggX5_harmOf_X5_harmBy
theorem dX5_harmOf_0 : decode cX5_harmOf 0 = .ok (.aload_n 0, 1) := by decide +kernel
theorem dX5_harmOf_1 : decode cX5_harmOf 1 = .ok (.iload_n 1, 1) := by decide +kernel
theorem dX5_harmOf_2 : decode cX5_harmOf 2 = .ok (.aload_n 0, 1) := by decide +kernel
theorem dX5_harmOf_3 : decode cX5_harmOf 3 = .ok (.getfield 13, 3) := by decide +kernel
theorem dX5_harmOf_6 : decode cX5_harmOf 6 = .ok (.iload_n 1, 1) := by decide +kernel
theorem dX5_harmOf_7 : decode cX5_harmOf 7 = .ok (.iaload, 1) := by decide +kernel
theorem dX5_harmOf_8 : decode cX5_harmOf 8 = .ok (.aload_n 0, 1) := by decide +kernel
theorem dX5_harmOf_9 : decode cX5_harmOf 9 = .ok (.getfield 19, 3) := by decide +kernel
theorem dX5_harmOf_12 : decode cX5_harmOf 12 = .ok (.iload_n 1, 1) := by decide +kernel
theorem dX5_harmOf_13 : decode cX5_harmOf 13 = .ok (.iaload, 1) := by decide +kernel
theorem dX5_harmOf_14 : decode cX5_harmOf 14 = .ok (.iload_n 2, 1) := by decide +kernel
theorem dX5_harmOf_15 : decode cX5_harmOf 15 = .ok (.invokevirtual 93, 3) := by decide +kernel
theorem dX5_harmOf_18 : decode cX5_harmOf 18 = .ok (.ireturn, 1) := by decide +kernel
theorem dX5_freely_0 : decode cX5_freely 0 = .ok (.aload_n 0, 1) := by decide +kernel
theorem dX5_freely_1 : decode cX5_freely 1 = .ok (.getfield 41, 3) := by decide +kernel
theorem dX5_freely_4 : decode cX5_freely 4 = .ok (.bipush 40, 2) := by decide +kernel
theorem dX5_freely_6 : decode cX5_freely 6 = .ok (.iload_n 1, 1) := by decide +kernel
theorem dX5_freely_7 : decode cX5_freely 7 = .ok (.imul, 1) := by decide +kernel
theorem dX5_freely_8 : decode cX5_freely 8 = .ok (.iload_n 2, 1) := by decide +kernel
theorem dX5_freely_9 : decode cX5_freely 9 = .ok (.iadd, 1) := by decide +kernel
theorem dX5_freely_10 : decode cX5_freely 10 = .ok (.iaload, 1) := by decide +kernel
theorem dX5_freely_11 : decode cX5_freely 11 = .ok (.istore_n 3, 1) := by decide +kernel
theorem dX5_freely_12 : decode cX5_freely 12 = .ok (.iload_n 3, 1) := by decide +kernel
theorem dX5_freely_13 : decode cX5_freely 13 = .ok (.iconst (-1), 1) := by decide +kernel
theorem dX5_freely_14 : decode cX5_freely 14 = .ok (.if_icmp .ne 8, 3) := by decide +kernel
theorem dX5_freely_17 : decode cX5_freely 17 = .ok (.bipush 20, 2) := by decide +kernel
theorem dX5_freely_19 : decode cX5_freely 19 = .ok (.goto 4, 3) := by decide +kernel
theorem dX5_freely_22 : decode cX5_freely 22 = .ok (.iload_n 3, 1) := by decide +kernel
theorem dX5_freely_23 : decode cX5_freely 23 = .ok (.ireturn, 1) := by decide +kernel
theorem dX5_isAhead_0 : decode cX5_isAhead 0 = .ok (.aload_n 0, 1) := by decide +kernel
theorem dX5_isAhead_1 : decode cX5_isAhead 1 = .ok (.getfield 22, 3) := by decide +kernel
theorem dX5_isAhead_4 : decode cX5_isAhead 4 = .ok (.iload_n 1, 1) := by decide +kernel
theorem dX5_isAhead_5 : decode cX5_isAhead 5 = .ok (.iaload, 1) := by decide +kernel
theorem dX5_isAhead_6 : decode cX5_isAhead 6 = .ok (.aload_n 0, 1) := by decide +kernel
theorem dX5_isAhead_7 : decode cX5_isAhead 7 = .ok (.getfield 22, 3) := by decide +kernel
theorem dX5_isAhead_10 : decode cX5_isAhead 10 = .ok (.iload_n 2, 1) := by decide +kernel
theorem dX5_isAhead_11 : decode cX5_isAhead 11 = .ok (.iaload, 1) := by decide +kernel
theorem dX5_isAhead_12 : decode cX5_isAhead 12 = .ok (.if_icmp .ge 27, 3) := by decide +kernel
theorem dX5_isAhead_15 : decode cX5_isAhead 15 = .ok (.aload_n 0, 1) := by decide +kernel
theorem dX5_isAhead_16 : decode cX5_isAhead 16 = .ok (.getfield 25, 3) := by decide +kernel
theorem dX5_isAhead_19 : decode cX5_isAhead 19 = .ok (.iload_n 1, 1) := by decide +kernel
theorem dX5_isAhead_20 : decode cX5_isAhead 20 = .ok (.iaload, 1) := by decide +kernel
theorem dX5_isAhead_21 : decode cX5_isAhead 21 = .ok (.iconst 4, 1) := by decide +kernel
theorem dX5_isAhead_22 : decode cX5_isAhead 22 = .ok (.if_icmp .eq 17, 3) := by decide +kernel
theorem dX5_isAhead_25 : decode cX5_isAhead 25 = .ok (.aload_n 0, 1) := by decide +kernel
theorem dX5_isAhead_26 : decode cX5_isAhead 26 = .ok (.getfield 25, 3) := by decide +kernel
theorem dX5_isAhead_29 : decode cX5_isAhead 29 = .ok (.iload_n 2, 1) := by decide +kernel
theorem dX5_isAhead_30 : decode cX5_isAhead 30 = .ok (.iaload, 1) := by decide +kernel
theorem dX5_isAhead_31 : decode cX5_isAhead 31 = .ok (.iconst 4, 1) := by decide +kernel
theorem dX5_isAhead_32 : decode cX5_isAhead 32 = .ok (.if_icmp .eq 7, 3) := by decide +kernel
theorem dX5_isAhead_35 : decode cX5_isAhead 35 = .ok (.iconst 1, 1) := by decide +kernel
theorem dX5_isAhead_36 : decode cX5_isAhead 36 = .ok (.goto 4, 3) := by decide +kernel
theorem dX5_isAhead_39 : decode cX5_isAhead 39 = .ok (.iconst 0, 1) := by decide +kernel
theorem dX5_isAhead_40 : decode cX5_isAhead 40 = .ok (.ireturn, 1) := by decide +kernel
set_option maxRecDepth 20000 in
theorem ggX5_needsOf_X5_isAhead : GoodIn wsX5_needsOf wsX5_isAhead := goodIn_r _ [6, 7, 8, 28, 29, 30, 31, 32, 33, 34, 35, 36, 37, 38, 39, 40, 41, 42, 43, 44, 45, 46, 47, 48, 49, 50, 51, 52, 53] (by decide +kernel) (by decide +kernel)
set_option maxRecDepth 20000 in
theorem gX5_needsOf_X5_isAhead : GoodIn wsX5_needsOf (wsV RX5 97 RX5 yX5_isAhead wsX5_isAhead) := goodIn_app (goodIn_of _ (by decide +kernel)) ggX5_needsOf_X5_isAhead
set_option maxRecDepth 20000 in
theorem ggX5_needsOf_X5_harmOf : GoodIn wsX5_needsOf wsX5_harmOf := goodIn_r _ [12, 13, 14, 15, 16, 17, 5, 18, 19, 8, 20, 21, 22, 28, 29, 30, 31, 32, 33, 34, 35, 36, 37, 38, 39, 40, 41, 42, 43, 44, 45, 46, 47, 48, 49, 50, 51, 52, 53] (by decide +kernel) (by decide +kernel)
set_option maxRecDepth 20000 in
theorem gX5_needsOf_X5_harmOf : GoodIn wsX5_needsOf (wsV RX5 101 RX5 yX5_harmOf wsX5_harmOf) := goodIn_app (goodIn_of _ (by decide +kernel)) ggX5_needsOf_X5_harmOf
set_option maxRecDepth 20000 in
theorem ggX5_needsOf_X5_freely : GoodIn wsX5_needsOf wsX5_freely := goodIn_r _ [26, 27, 28, 29, 30, 31, 32, 33, 34, 35, 36, 37, 38, 39, 40, 41, 42, 43, 44, 45, 46, 47, 48, 49, 50, 51, 52, 53] (by decide +kernel) (by decide +kernel)
set_option maxRecDepth 20000 in
theorem gX5_needsOf_X5_freely : GoodIn wsX5_needsOf (wsV RX5 104 RX5 yX5_freely wsX5_freely) := goodIn_app (goodIn_of _ (by decide +kernel)) ggX5_needsOf_X5_freely
theorem dX5_needsOf_0 : decode cX5_needsOf 0 = .ok (.iconst 0, 1) := by decide +kernel
theorem dX5_needsOf_1 : decode cX5_needsOf 1 = .ok (.istore_n 2, 1) := by decide +kernel
theorem dX5_needsOf_2 : decode cX5_needsOf 2 = .ok (.iconst 0, 1) := by decide +kernel
theorem dX5_needsOf_3 : decode cX5_needsOf 3 = .ok (.istore_n 3, 1) := by decide +kernel
theorem dX5_needsOf_4 : decode cX5_needsOf 4 = .ok (.iload_n 3, 1) := by decide +kernel
theorem dX5_needsOf_5 : decode cX5_needsOf 5 = .ok (.aload_n 0, 1) := by decide +kernel
theorem dX5_needsOf_6 : decode cX5_needsOf 6 = .ok (.getfield 79, 3) := by decide +kernel
theorem dX5_needsOf_9 : decode cX5_needsOf 9 = .ok (.if_icmp .ge 41, 3) := by decide +kernel
theorem dX5_needsOf_12 : decode cX5_needsOf 12 = .ok (.iload_n 2, 1) := by decide +kernel
theorem dX5_needsOf_13 : decode cX5_needsOf 13 = .ok (.aload_n 0, 1) := by decide +kernel
theorem dX5_needsOf_14 : decode cX5_needsOf 14 = .ok (.iload_n 3, 1) := by decide +kernel
theorem dX5_needsOf_15 : decode cX5_needsOf 15 = .ok (.iload_n 1, 1) := by decide +kernel
theorem dX5_needsOf_16 : decode cX5_needsOf 16 = .ok (.invokevirtual 97, 3) := by decide +kernel
theorem dX5_needsOf_19 : decode cX5_needsOf 19 = .ok (.ifCond .eq 22, 3) := by decide +kernel
theorem dX5_needsOf_22 : decode cX5_needsOf 22 = .ok (.aload_n 0, 1) := by decide +kernel
theorem dX5_needsOf_23 : decode cX5_needsOf 23 = .ok (.iload_n 1, 1) := by decide +kernel
theorem dX5_needsOf_24 : decode cX5_needsOf 24 = .ok (.iload_n 3, 1) := by decide +kernel
theorem dX5_needsOf_25 : decode cX5_needsOf 25 = .ok (.invokevirtual 101, 3) := by decide +kernel
theorem dX5_needsOf_28 : decode cX5_needsOf 28 = .ok (.aload_n 0, 1) := by decide +kernel
theorem dX5_needsOf_29 : decode cX5_needsOf 29 = .ok (.iload_n 1, 1) := by decide +kernel
theorem dX5_needsOf_30 : decode cX5_needsOf 30 = .ok (.iload_n 3, 1) := by decide +kernel
theorem dX5_needsOf_31 : decode cX5_needsOf 31 = .ok (.invokevirtual 104, 3) := by decide +kernel
theorem dX5_needsOf_34 : decode cX5_needsOf 34 = .ok (.if_icmp .le 7, 3) := by decide +kernel
theorem dX5_needsOf_37 : decode cX5_needsOf 37 = .ok (.iconst 1, 1) := by decide +kernel
theorem dX5_needsOf_38 : decode cX5_needsOf 38 = .ok (.goto 4, 3) := by decide +kernel
theorem dX5_needsOf_41 : decode cX5_needsOf 41 = .ok (.iconst 0, 1) := by decide +kernel
theorem dX5_needsOf_42 : decode cX5_needsOf 42 = .ok (.iadd, 1) := by decide +kernel
theorem dX5_needsOf_43 : decode cX5_needsOf 43 = .ok (.istore_n 2, 1) := by decide +kernel
theorem dX5_needsOf_44 : decode cX5_needsOf 44 = .ok (.iinc 3 1, 3) := by decide +kernel
theorem dX5_needsOf_47 : decode cX5_needsOf 47 = .ok (.goto (-43), 3) := by decide +kernel
theorem dX5_needsOf_50 : decode cX5_needsOf 50 = .ok (.iload_n 2, 1) := by decide +kernel
theorem dX5_needsOf_51 : decode cX5_needsOf 51 = .ok (.ireturn, 1) := by decide +kernel
set_option maxRecDepth 20000 in
theorem ggX5_bearsOf_X5_isAhead : GoodIn wsX5_bearsOf wsX5_isAhead := goodIn_r _ [7, 8, 2, 23, 24, 25, 26, 27, 28, 29, 30, 31, 32, 33, 34, 35, 36, 37, 38, 39, 40, 41, 42, 43, 44, 45, 46, 47, 48] (by decide +kernel) (by decide +kernel)
set_option maxRecDepth 20000 in
theorem gX5_bearsOf_X5_isAhead : GoodIn wsX5_bearsOf (wsV RX5 97 RX5 yX5_isAhead wsX5_isAhead) := goodIn_app (goodIn_of _ (by decide +kernel)) ggX5_bearsOf_X5_isAhead
set_option maxRecDepth 20000 in
theorem ggX5_bearsOf_X5_harmOf : GoodIn wsX5_bearsOf wsX5_harmOf := goodIn_r _ [12, 13, 14, 15, 16, 17, 6, 18, 19, 2, 20, 21, 22, 23, 24, 25, 26, 27, 28, 29, 30, 31, 32, 33, 34, 35, 36, 37, 38, 39, 40, 41, 42, 43, 44, 45, 46, 47, 48] (by decide +kernel) (by decide +kernel)
set_option maxRecDepth 20000 in
theorem gX5_bearsOf_X5_harmOf : GoodIn wsX5_bearsOf (wsV RX5 101 RX5 yX5_harmOf wsX5_harmOf) := goodIn_app (goodIn_of _ (by decide +kernel)) ggX5_bearsOf_X5_harmOf
theorem dX5_bearsOf_0 : decode cX5_bearsOf 0 = .ok (.iconst 0, 1) := by decide +kernel
theorem dX5_bearsOf_1 : decode cX5_bearsOf 1 = .ok (.istore_n 2, 1) := by decide +kernel
theorem dX5_bearsOf_2 : decode cX5_bearsOf 2 = .ok (.iconst 0, 1) := by decide +kernel
theorem dX5_bearsOf_3 : decode cX5_bearsOf 3 = .ok (.istore_n 3, 1) := by decide +kernel
theorem dX5_bearsOf_4 : decode cX5_bearsOf 4 = .ok (.iload_n 3, 1) := by decide +kernel
theorem dX5_bearsOf_5 : decode cX5_bearsOf 5 = .ok (.aload_n 0, 1) := by decide +kernel
theorem dX5_bearsOf_6 : decode cX5_bearsOf 6 = .ok (.getfield 79, 3) := by decide +kernel
theorem dX5_bearsOf_9 : decode cX5_bearsOf 9 = .ok (.if_icmp .ge 41, 3) := by decide +kernel
theorem dX5_bearsOf_12 : decode cX5_bearsOf 12 = .ok (.iload_n 2, 1) := by decide +kernel
theorem dX5_bearsOf_13 : decode cX5_bearsOf 13 = .ok (.aload_n 0, 1) := by decide +kernel
theorem dX5_bearsOf_14 : decode cX5_bearsOf 14 = .ok (.iload_n 1, 1) := by decide +kernel
theorem dX5_bearsOf_15 : decode cX5_bearsOf 15 = .ok (.iload_n 3, 1) := by decide +kernel
theorem dX5_bearsOf_16 : decode cX5_bearsOf 16 = .ok (.invokevirtual 97, 3) := by decide +kernel
theorem dX5_bearsOf_19 : decode cX5_bearsOf 19 = .ok (.ifCond .eq 22, 3) := by decide +kernel
theorem dX5_bearsOf_22 : decode cX5_bearsOf 22 = .ok (.aload_n 0, 1) := by decide +kernel
theorem dX5_bearsOf_23 : decode cX5_bearsOf 23 = .ok (.getfield 25, 3) := by decide +kernel
theorem dX5_bearsOf_26 : decode cX5_bearsOf 26 = .ok (.iload_n 3, 1) := by decide +kernel
theorem dX5_bearsOf_27 : decode cX5_bearsOf 27 = .ok (.iaload, 1) := by decide +kernel
theorem dX5_bearsOf_28 : decode cX5_bearsOf 28 = .ok (.iconst 2, 1) := by decide +kernel
theorem dX5_bearsOf_29 : decode cX5_bearsOf 29 = .ok (.if_icmp .ne 12, 3) := by decide +kernel
theorem dX5_bearsOf_32 : decode cX5_bearsOf 32 = .ok (.aload_n 0, 1) := by decide +kernel
theorem dX5_bearsOf_33 : decode cX5_bearsOf 33 = .ok (.iload_n 3, 1) := by decide +kernel
theorem dX5_bearsOf_34 : decode cX5_bearsOf 34 = .ok (.iload_n 1, 1) := by decide +kernel
theorem dX5_bearsOf_35 : decode cX5_bearsOf 35 = .ok (.invokevirtual 101, 3) := by decide +kernel
theorem dX5_bearsOf_38 : decode cX5_bearsOf 38 = .ok (.goto 4, 3) := by decide +kernel
theorem dX5_bearsOf_41 : decode cX5_bearsOf 41 = .ok (.iconst 0, 1) := by decide +kernel
theorem dX5_bearsOf_42 : decode cX5_bearsOf 42 = .ok (.iadd, 1) := by decide +kernel
theorem dX5_bearsOf_43 : decode cX5_bearsOf 43 = .ok (.istore_n 2, 1) := by decide +kernel
theorem dX5_bearsOf_44 : decode cX5_bearsOf 44 = .ok (.iinc 3 1, 3) := by decide +kernel
theorem dX5_bearsOf_47 : decode cX5_bearsOf 47 = .ok (.goto (-43), 3) := by decide +kernel
theorem dX5_bearsOf_50 : decode cX5_bearsOf 50 = .ok (.iload_n 2, 1) := by decide +kernel
theorem dX5_bearsOf_51 : decode cX5_bearsOf 51 = .ok (.ireturn, 1) := by decide +kernel
set_option maxRecDepth 20000 in
theorem ggX5_file_X5_in : GoodIn wsX5_file wsX5_in := goodIn_r _ [14] (by decide +kernel) (by decide +kernel)
set_option maxRecDepth 20000 in
theorem gX5_file_X5_in : GoodIn wsX5_file (va_wsS RX5 82 yX5_in wsX5_in) := goodIn_app (goodIn_of _ (by decide +kernel)) ggX5_file_X5_in
set_option maxRecDepth 20000 in
theorem ggX5_file_X5_isSlot : GoodIn wsX5_file wsX5_isSlot := goodIn_r _ [17, 11, 12, 13, 14] (by decide +kernel) (by decide +kernel)
set_option maxRecDepth 20000 in
theorem gX5_file_X5_isSlot : GoodIn wsX5_file (va_wsS RX5 107 yX5_isSlot wsX5_isSlot) := goodIn_app (goodIn_of _ (by decide +kernel)) ggX5_file_X5_isSlot
set_option maxRecDepth 20000 in
theorem ggX5_file_X5_refused : GoodIn wsX5_file wsX5_refused := goodIn_r _ [21, 22, 23, 24, 25, 26, 27, 28, 29, 30, 31, 32, 33, 34, 35, 36, 37, 38, 39, 40, 41, 42, 43, 44, 45, 46, 47, 48] (by decide +kernel) (by decide +kernel)
set_option maxRecDepth 20000 in
theorem gX5_file_X5_refused : GoodIn wsX5_file (wsV RX5 111 RX5 yX5_refused wsX5_refused) := goodIn_app (goodIn_of _ (by decide +kernel)) ggX5_file_X5_refused
theorem dX5_file_0 : decode cX5_file 0 = .ok (.iload_n 1, 1) := by decide +kernel
theorem dX5_file_1 : decode cX5_file 1 = .ok (.iconst 0, 1) := by decide +kernel
theorem dX5_file_2 : decode cX5_file 2 = .ok (.bipush 7, 2) := by decide +kernel
theorem dX5_file_4 : decode cX5_file 4 = .ok (.invokestatic 82, 3) := by decide +kernel
theorem dX5_file_7 : decode cX5_file 7 = .ok (.ifCond .eq 23, 3) := by decide +kernel
theorem dX5_file_10 : decode cX5_file 10 = .ok (.iload_n 2, 1) := by decide +kernel
theorem dX5_file_11 : decode cX5_file 11 = .ok (.invokestatic 107, 3) := by decide +kernel
theorem dX5_file_14 : decode cX5_file 14 = .ok (.ifCond .eq 16, 3) := by decide +kernel
theorem dX5_file_17 : decode cX5_file 17 = .ok (.iload_n 3, 1) := by decide +kernel
theorem dX5_file_18 : decode cX5_file 18 = .ok (.iconst 0, 1) := by decide +kernel
theorem dX5_file_19 : decode cX5_file 19 = .ok (.iconst 4, 1) := by decide +kernel
theorem dX5_file_20 : decode cX5_file 20 = .ok (.invokestatic 82, 3) := by decide +kernel
theorem dX5_file_23 : decode cX5_file 23 = .ok (.ifCond .eq 7, 3) := by decide +kernel
theorem dX5_file_26 : decode cX5_file 26 = .ok (.iconst 1, 1) := by decide +kernel
theorem dX5_file_27 : decode cX5_file 27 = .ok (.goto 4, 3) := by decide +kernel
theorem dX5_file_30 : decode cX5_file 30 = .ok (.iconst 0, 1) := by decide +kernel
theorem dX5_file_31 : decode cX5_file 31 = .ok (.istore 5, 2) := by decide +kernel
theorem dX5_file_33 : decode cX5_file 33 = .ok (.aload_n 0, 1) := by decide +kernel
theorem dX5_file_34 : decode cX5_file 34 = .ok (.iload 5, 2) := by decide +kernel
theorem dX5_file_36 : decode cX5_file 36 = .ok (.ifCond .ne 7, 3) := by decide +kernel
theorem dX5_file_39 : decode cX5_file 39 = .ok (.iconst 1, 1) := by decide +kernel
theorem dX5_file_40 : decode cX5_file 40 = .ok (.goto 32, 3) := by decide +kernel
theorem dX5_file_43 : decode cX5_file 43 = .ok (.iload 4, 2) := by decide +kernel
theorem dX5_file_45 : decode cX5_file 45 = .ok (.iconst 1, 1) := by decide +kernel
theorem dX5_file_46 : decode cX5_file 46 = .ok (.bipush 50, 2) := by decide +kernel
theorem dX5_file_48 : decode cX5_file 48 = .ok (.invokestatic 82, 3) := by decide +kernel
theorem dX5_file_51 : decode cX5_file 51 = .ok (.ifCond .ne 7, 3) := by decide +kernel
theorem dX5_file_54 : decode cX5_file 54 = .ok (.iconst 2, 1) := by decide +kernel
theorem dX5_file_55 : decode cX5_file 55 = .ok (.goto 17, 3) := by decide +kernel
theorem dX5_file_58 : decode cX5_file 58 = .ok (.aload_n 0, 1) := by decide +kernel
theorem dX5_file_59 : decode cX5_file 59 = .ok (.getfield 79, 3) := by decide +kernel
theorem dX5_file_62 : decode cX5_file 62 = .ok (.bipush 40, 2) := by decide +kernel
theorem dX5_file_64 : decode cX5_file 64 = .ok (.if_icmp .ne 7, 3) := by decide +kernel
theorem dX5_file_67 : decode cX5_file 67 = .ok (.iconst 3, 1) := by decide +kernel
theorem dX5_file_68 : decode cX5_file 68 = .ok (.goto 4, 3) := by decide +kernel
theorem dX5_file_71 : decode cX5_file 71 = .ok (.iconst 0, 1) := by decide +kernel
theorem dX5_file_72 : decode cX5_file 72 = .ok (.invokevirtual 111, 3) := by decide +kernel
theorem dX5_file_75 : decode cX5_file 75 = .ok (.ifCond .eq 5, 3) := by decide +kernel
theorem dX5_file_78 : decode cX5_file 78 = .ok (.iconst 0, 1) := by decide +kernel
theorem dX5_file_79 : decode cX5_file 79 = .ok (.ireturn, 1) := by decide +kernel
theorem dX5_file_80 : decode cX5_file 80 = .ok (.aload_n 0, 1) := by decide +kernel
theorem dX5_file_81 : decode cX5_file 81 = .ok (.getfield 7, 3) := by decide +kernel
theorem dX5_file_84 : decode cX5_file 84 = .ok (.aload_n 0, 1) := by decide +kernel
theorem dX5_file_85 : decode cX5_file 85 = .ok (.getfield 79, 3) := by decide +kernel
theorem dX5_file_88 : decode cX5_file 88 = .ok (.iload_n 1, 1) := by decide +kernel
theorem dX5_file_89 : decode cX5_file 89 = .ok (.iastore, 1) := by decide +kernel
theorem dX5_file_90 : decode cX5_file 90 = .ok (.aload_n 0, 1) := by decide +kernel
theorem dX5_file_91 : decode cX5_file 91 = .ok (.getfield 13, 3) := by decide +kernel
theorem dX5_file_94 : decode cX5_file 94 = .ok (.aload_n 0, 1) := by decide +kernel
theorem dX5_file_95 : decode cX5_file 95 = .ok (.getfield 79, 3) := by decide +kernel
theorem dX5_file_98 : decode cX5_file 98 = .ok (.iload_n 2, 1) := by decide +kernel
theorem dX5_file_99 : decode cX5_file 99 = .ok (.iastore, 1) := by decide +kernel
theorem dX5_file_100 : decode cX5_file 100 = .ok (.aload_n 0, 1) := by decide +kernel
theorem dX5_file_101 : decode cX5_file 101 = .ok (.getfield 16, 3) := by decide +kernel
theorem dX5_file_104 : decode cX5_file 104 = .ok (.aload_n 0, 1) := by decide +kernel
theorem dX5_file_105 : decode cX5_file 105 = .ok (.getfield 79, 3) := by decide +kernel
theorem dX5_file_108 : decode cX5_file 108 = .ok (.iload_n 3, 1) := by decide +kernel
theorem dX5_file_109 : decode cX5_file 109 = .ok (.iastore, 1) := by decide +kernel
theorem dX5_file_110 : decode cX5_file 110 = .ok (.aload_n 0, 1) := by decide +kernel
theorem dX5_file_111 : decode cX5_file 111 = .ok (.getfield 19, 3) := by decide +kernel
theorem dX5_file_114 : decode cX5_file 114 = .ok (.aload_n 0, 1) := by decide +kernel
theorem dX5_file_115 : decode cX5_file 115 = .ok (.getfield 79, 3) := by decide +kernel
theorem dX5_file_118 : decode cX5_file 118 = .ok (.iload 4, 2) := by decide +kernel
theorem dX5_file_120 : decode cX5_file 120 = .ok (.iastore, 1) := by decide +kernel
theorem dX5_file_121 : decode cX5_file 121 = .ok (.aload_n 0, 1) := by decide +kernel
theorem dX5_file_122 : decode cX5_file 122 = .ok (.getfield 22, 3) := by decide +kernel
theorem dX5_file_125 : decode cX5_file 125 = .ok (.aload_n 0, 1) := by decide +kernel
theorem dX5_file_126 : decode cX5_file 126 = .ok (.getfield 79, 3) := by decide +kernel
theorem dX5_file_129 : decode cX5_file 129 = .ok (.aload_n 0, 1) := by decide +kernel
theorem dX5_file_130 : decode cX5_file 130 = .ok (.getfield 114, 3) := by decide +kernel
theorem dX5_file_133 : decode cX5_file 133 = .ok (.iastore, 1) := by decide +kernel
theorem dX5_file_134 : decode cX5_file 134 = .ok (.aload_n 0, 1) := by decide +kernel
theorem dX5_file_135 : decode cX5_file 135 = .ok (.getfield 32, 3) := by decide +kernel
theorem dX5_file_138 : decode cX5_file 138 = .ok (.aload_n 0, 1) := by decide +kernel
theorem dX5_file_139 : decode cX5_file 139 = .ok (.getfield 79, 3) := by decide +kernel
theorem dX5_file_142 : decode cX5_file 142 = .ok (.iconst (-1), 1) := by decide +kernel
theorem dX5_file_143 : decode cX5_file 143 = .ok (.iastore, 1) := by decide +kernel
theorem dX5_file_144 : decode cX5_file 144 = .ok (.aload_n 0, 1) := by decide +kernel
theorem dX5_file_145 : decode cX5_file 145 = .ok (.getfield 35, 3) := by decide +kernel
theorem dX5_file_148 : decode cX5_file 148 = .ok (.aload_n 0, 1) := by decide +kernel
theorem dX5_file_149 : decode cX5_file 149 = .ok (.getfield 79, 3) := by decide +kernel
theorem dX5_file_152 : decode cX5_file 152 = .ok (.aload_n 0, 1) := by decide +kernel
theorem dX5_file_153 : decode cX5_file 153 = .ok (.getfield 117, 3) := by decide +kernel
theorem dX5_file_156 : decode cX5_file 156 = .ok (.iastore, 1) := by decide +kernel
theorem dX5_file_157 : decode cX5_file 157 = .ok (.aload_n 0, 1) := by decide +kernel
theorem dX5_file_158 : decode cX5_file 158 = .ok (.dup, 1) := by decide +kernel
theorem dX5_file_159 : decode cX5_file 159 = .ok (.getfield 114, 3) := by decide +kernel
theorem dX5_file_162 : decode cX5_file 162 = .ok (.iconst 1, 1) := by decide +kernel
theorem dX5_file_163 : decode cX5_file 163 = .ok (.iadd, 1) := by decide +kernel
theorem dX5_file_164 : decode cX5_file 164 = .ok (.putfield 114, 3) := by decide +kernel
theorem dX5_file_167 : decode cX5_file 167 = .ok (.aload_n 0, 1) := by decide +kernel
theorem dX5_file_168 : decode cX5_file 168 = .ok (.dup, 1) := by decide +kernel
theorem dX5_file_169 : decode cX5_file 169 = .ok (.getfield 79, 3) := by decide +kernel
theorem dX5_file_172 : decode cX5_file 172 = .ok (.iconst 1, 1) := by decide +kernel
theorem dX5_file_173 : decode cX5_file 173 = .ok (.iadd, 1) := by decide +kernel
theorem dX5_file_174 : decode cX5_file 174 = .ok (.putfield 79, 3) := by decide +kernel
theorem dX5_file_177 : decode cX5_file 177 = .ok (.aload_n 0, 1) := by decide +kernel
theorem dX5_file_178 : decode cX5_file 178 = .ok (.getfield 79, 3) := by decide +kernel
theorem dX5_file_181 : decode cX5_file 181 = .ok (.iconst 1, 1) := by decide +kernel
theorem dX5_file_182 : decode cX5_file 182 = .ok (.isub, 1) := by decide +kernel
theorem dX5_file_183 : decode cX5_file 183 = .ok (.ireturn, 1) := by decide +kernel
set_option maxRecDepth 20000 in
theorem ggX5_agree_X5_isFiling : GoodIn wsX5_agree wsX5_isFiling := goodIn_r _ [8, 9, 10, 11, 7, 12, 22, 23, 24, 25, 26, 27, 28, 29, 30, 31, 32, 33, 34, 35, 36, 37, 38, 39, 40, 41, 42, 43, 44, 45, 46, 47] (by decide +kernel) (by decide +kernel)
set_option maxRecDepth 20000 in
theorem gX5_agree_X5_isFiling : GoodIn wsX5_agree (wsV RX5 120 RX5 yX5_isFiling wsX5_isFiling) := goodIn_app (goodIn_of _ (by decide +kernel)) ggX5_agree_X5_isFiling
set_option maxRecDepth 20000 in
theorem ggX5_agree_X5_in : GoodIn wsX5_agree wsX5_in := goodIn_r _ [12] (by decide +kernel) (by decide +kernel)
set_option maxRecDepth 20000 in
theorem gX5_agree_X5_in : GoodIn wsX5_agree (va_wsS RX5 82 yX5_in wsX5_in) := goodIn_app (goodIn_of _ (by decide +kernel)) ggX5_agree_X5_in
set_option maxRecDepth 20000 in
theorem ggX5_agree_X5_refused : GoodIn wsX5_agree wsX5_refused := goodIn_r _ [16, 17, 22, 23, 24, 25, 26, 27, 28, 29, 30, 31, 32, 33, 34, 35, 36, 37, 38, 39, 40, 41, 42, 43, 44, 45, 46, 47] (by decide +kernel) (by decide +kernel)
set_option maxRecDepth 20000 in
theorem gX5_agree_X5_refused : GoodIn wsX5_agree (wsV RX5 111 RX5 yX5_refused wsX5_refused) := goodIn_app (goodIn_of _ (by decide +kernel)) ggX5_agree_X5_refused
set_option maxRecDepth 20000 in
theorem ggX5_agree_X5_freely : GoodIn wsX5_agree wsX5_freely := goodIn_r _ [21, 3, 22, 23, 24, 25, 26, 27, 28, 29, 30, 31, 32, 33, 34, 35, 36, 37, 38, 39, 40, 41, 42, 43, 44, 45, 46, 47] (by decide +kernel) (by decide +kernel)
set_option maxRecDepth 20000 in
theorem gX5_agree_X5_freely : GoodIn wsX5_agree (wsV RX5 104 RX5 yX5_freely wsX5_freely) := goodIn_app (goodIn_of _ (by decide +kernel)) ggX5_agree_X5_freely
theorem dX5_agree_0 : decode cX5_agree 0 = .ok (.aload_n 0, 1) := by decide +kernel
theorem dX5_agree_1 : decode cX5_agree 1 = .ok (.iload_n 1, 1) := by decide +kernel
theorem dX5_agree_2 : decode cX5_agree 2 = .ok (.invokevirtual 120, 3) := by decide +kernel
theorem dX5_agree_5 : decode cX5_agree 5 = .ok (.ifCond .eq 15, 3) := by decide +kernel
theorem dX5_agree_8 : decode cX5_agree 8 = .ok (.aload_n 0, 1) := by decide +kernel
theorem dX5_agree_9 : decode cX5_agree 9 = .ok (.iload_n 2, 1) := by decide +kernel
theorem dX5_agree_10 : decode cX5_agree 10 = .ok (.invokevirtual 120, 3) := by decide +kernel
theorem dX5_agree_13 : decode cX5_agree 13 = .ok (.ifCond .eq 7, 3) := by decide +kernel
theorem dX5_agree_16 : decode cX5_agree 16 = .ok (.iconst 1, 1) := by decide +kernel
theorem dX5_agree_17 : decode cX5_agree 17 = .ok (.goto 4, 3) := by decide +kernel
theorem dX5_agree_20 : decode cX5_agree 20 = .ok (.iconst 0, 1) := by decide +kernel
theorem dX5_agree_21 : decode cX5_agree 21 = .ok (.istore 4, 2) := by decide +kernel
theorem dX5_agree_23 : decode cX5_agree 23 = .ok (.iload_n 1, 1) := by decide +kernel
theorem dX5_agree_24 : decode cX5_agree 24 = .ok (.iload_n 2, 1) := by decide +kernel
theorem dX5_agree_25 : decode cX5_agree 25 = .ok (.if_icmp .eq 18, 3) := by decide +kernel
theorem dX5_agree_28 : decode cX5_agree 28 = .ok (.iload_n 3, 1) := by decide +kernel
theorem dX5_agree_29 : decode cX5_agree 29 = .ok (.iconst 0, 1) := by decide +kernel
theorem dX5_agree_30 : decode cX5_agree 30 = .ok (.sipush 600, 3) := by decide +kernel
theorem dX5_agree_33 : decode cX5_agree 33 = .ok (.invokestatic 82, 3) := by decide +kernel
theorem dX5_agree_36 : decode cX5_agree 36 = .ok (.ifCond .eq 7, 3) := by decide +kernel
theorem dX5_agree_39 : decode cX5_agree 39 = .ok (.iconst 1, 1) := by decide +kernel
theorem dX5_agree_40 : decode cX5_agree 40 = .ok (.goto 4, 3) := by decide +kernel
theorem dX5_agree_43 : decode cX5_agree 43 = .ok (.iconst 0, 1) := by decide +kernel
theorem dX5_agree_44 : decode cX5_agree 44 = .ok (.istore 5, 2) := by decide +kernel
theorem dX5_agree_46 : decode cX5_agree 46 = .ok (.aload_n 0, 1) := by decide +kernel
theorem dX5_agree_47 : decode cX5_agree 47 = .ok (.iload 4, 2) := by decide +kernel
theorem dX5_agree_49 : decode cX5_agree 49 = .ok (.ifCond .ne 7, 3) := by decide +kernel
theorem dX5_agree_52 : decode cX5_agree 52 = .ok (.iconst 1, 1) := by decide +kernel
theorem dX5_agree_53 : decode cX5_agree 53 = .ok (.goto 52, 3) := by decide +kernel
theorem dX5_agree_56 : decode cX5_agree 56 = .ok (.iload 5, 2) := by decide +kernel
theorem dX5_agree_58 : decode cX5_agree 58 = .ok (.ifCond .ne 7, 3) := by decide +kernel
theorem dX5_agree_61 : decode cX5_agree 61 = .ok (.iconst 2, 1) := by decide +kernel
theorem dX5_agree_62 : decode cX5_agree 62 = .ok (.goto 43, 3) := by decide +kernel
theorem dX5_agree_65 : decode cX5_agree 65 = .ok (.aload_n 0, 1) := by decide +kernel
theorem dX5_agree_66 : decode cX5_agree 66 = .ok (.getfield 25, 3) := by decide +kernel
theorem dX5_agree_69 : decode cX5_agree 69 = .ok (.iload_n 1, 1) := by decide +kernel
theorem dX5_agree_70 : decode cX5_agree 70 = .ok (.iaload, 1) := by decide +kernel
theorem dX5_agree_71 : decode cX5_agree 71 = .ok (.iconst 4, 1) := by decide +kernel
theorem dX5_agree_72 : decode cX5_agree 72 = .ok (.if_icmp .eq 28, 3) := by decide +kernel
theorem dX5_agree_75 : decode cX5_agree 75 = .ok (.aload_n 0, 1) := by decide +kernel
theorem dX5_agree_76 : decode cX5_agree 76 = .ok (.getfield 25, 3) := by decide +kernel
theorem dX5_agree_79 : decode cX5_agree 79 = .ok (.iload_n 2, 1) := by decide +kernel
theorem dX5_agree_80 : decode cX5_agree 80 = .ok (.iaload, 1) := by decide +kernel
theorem dX5_agree_81 : decode cX5_agree 81 = .ok (.iconst 4, 1) := by decide +kernel
theorem dX5_agree_82 : decode cX5_agree 82 = .ok (.if_icmp .eq 18, 3) := by decide +kernel
theorem dX5_agree_85 : decode cX5_agree 85 = .ok (.aload_n 0, 1) := by decide +kernel
theorem dX5_agree_86 : decode cX5_agree 86 = .ok (.getfield 16, 3) := by decide +kernel
theorem dX5_agree_89 : decode cX5_agree 89 = .ok (.iload_n 1, 1) := by decide +kernel
theorem dX5_agree_90 : decode cX5_agree 90 = .ok (.iaload, 1) := by decide +kernel
theorem dX5_agree_91 : decode cX5_agree 91 = .ok (.aload_n 0, 1) := by decide +kernel
theorem dX5_agree_92 : decode cX5_agree 92 = .ok (.getfield 16, 3) := by decide +kernel
theorem dX5_agree_95 : decode cX5_agree 95 = .ok (.iload_n 2, 1) := by decide +kernel
theorem dX5_agree_96 : decode cX5_agree 96 = .ok (.iaload, 1) := by decide +kernel
theorem dX5_agree_97 : decode cX5_agree 97 = .ok (.if_icmp .eq 7, 3) := by decide +kernel
theorem dX5_agree_100 : decode cX5_agree 100 = .ok (.iconst 3, 1) := by decide +kernel
theorem dX5_agree_101 : decode cX5_agree 101 = .ok (.goto 4, 3) := by decide +kernel
theorem dX5_agree_104 : decode cX5_agree 104 = .ok (.iconst 0, 1) := by decide +kernel
theorem dX5_agree_105 : decode cX5_agree 105 = .ok (.invokevirtual 111, 3) := by decide +kernel
theorem dX5_agree_108 : decode cX5_agree 108 = .ok (.ifCond .eq 5, 3) := by decide +kernel
theorem dX5_agree_111 : decode cX5_agree 111 = .ok (.iconst 0, 1) := by decide +kernel
theorem dX5_agree_112 : decode cX5_agree 112 = .ok (.ireturn, 1) := by decide +kernel
theorem dX5_agree_113 : decode cX5_agree 113 = .ok (.aload_n 0, 1) := by decide +kernel
theorem dX5_agree_114 : decode cX5_agree 114 = .ok (.iload_n 1, 1) := by decide +kernel
theorem dX5_agree_115 : decode cX5_agree 115 = .ok (.iload_n 2, 1) := by decide +kernel
theorem dX5_agree_116 : decode cX5_agree 116 = .ok (.invokevirtual 104, 3) := by decide +kernel
theorem dX5_agree_119 : decode cX5_agree 119 = .ok (.istore 6, 2) := by decide +kernel
theorem dX5_agree_121 : decode cX5_agree 121 = .ok (.aload_n 0, 1) := by decide +kernel
theorem dX5_agree_122 : decode cX5_agree 122 = .ok (.getfield 41, 3) := by decide +kernel
theorem dX5_agree_125 : decode cX5_agree 125 = .ok (.bipush 40, 2) := by decide +kernel
theorem dX5_agree_127 : decode cX5_agree 127 = .ok (.iload_n 1, 1) := by decide +kernel
theorem dX5_agree_128 : decode cX5_agree 128 = .ok (.imul, 1) := by decide +kernel
theorem dX5_agree_129 : decode cX5_agree 129 = .ok (.iload_n 2, 1) := by decide +kernel
theorem dX5_agree_130 : decode cX5_agree 130 = .ok (.iadd, 1) := by decide +kernel
theorem dX5_agree_131 : decode cX5_agree 131 = .ok (.iload_n 3, 1) := by decide +kernel
theorem dX5_agree_132 : decode cX5_agree 132 = .ok (.iastore, 1) := by decide +kernel
theorem dX5_agree_133 : decode cX5_agree 133 = .ok (.aload_n 0, 1) := by decide +kernel
theorem dX5_agree_134 : decode cX5_agree 134 = .ok (.getfield 41, 3) := by decide +kernel
theorem dX5_agree_137 : decode cX5_agree 137 = .ok (.bipush 40, 2) := by decide +kernel
theorem dX5_agree_139 : decode cX5_agree 139 = .ok (.iload_n 2, 1) := by decide +kernel
theorem dX5_agree_140 : decode cX5_agree 140 = .ok (.imul, 1) := by decide +kernel
theorem dX5_agree_141 : decode cX5_agree 141 = .ok (.iload_n 1, 1) := by decide +kernel
theorem dX5_agree_142 : decode cX5_agree 142 = .ok (.iadd, 1) := by decide +kernel
theorem dX5_agree_143 : decode cX5_agree 143 = .ok (.iload_n 3, 1) := by decide +kernel
theorem dX5_agree_144 : decode cX5_agree 144 = .ok (.iastore, 1) := by decide +kernel
theorem dX5_agree_145 : decode cX5_agree 145 = .ok (.iload 6, 2) := by decide +kernel
theorem dX5_agree_147 : decode cX5_agree 147 = .ok (.ireturn, 1) := by decide +kernel
set_option maxRecDepth 20000 in
theorem ggX5_inform_X5_isFiling : GoodIn wsX5_inform wsX5_isFiling := goodIn_r _ [7, 8, 9, 10, 6, 11, 45, 46, 47, 48, 49, 50, 51, 52, 53, 54, 55, 56, 57, 58, 59, 60, 61, 62, 63, 64, 65, 66, 67, 68, 69, 70] (by decide +kernel) (by decide +kernel)
set_option maxRecDepth 20000 in
theorem gX5_inform_X5_isFiling : GoodIn wsX5_inform (wsV RX5 120 RX5 yX5_isFiling wsX5_isFiling) := goodIn_app (goodIn_of _ (by decide +kernel)) ggX5_inform_X5_isFiling
set_option maxRecDepth 20000 in
theorem ggX5_inform_X5_needsOf : GoodIn wsX5_inform wsX5_needsOf := goodIn_r _ [15, 8, 16, 17, 18, 6, 19, 20, 1, 21, 22, 23, 24, 25, 26, 27, 28, 29, 30, 31, 32, 33, 34, 35, 36, 37, 38, 39, 45, 46, 47, 48, 49, 50, 51, 52, 53, 54, 55, 56, 57, 58, 59, 60, 61, 62, 63, 64, 65, 66, 67, 68, 69, 70] (by decide +kernel) (by decide +kernel)
set_option maxRecDepth 20000 in
theorem gX5_inform_X5_needsOf : GoodIn wsX5_inform (wsV RX5 123 RX5 yX5_needsOf wsX5_needsOf) := goodIn_app (goodIn_of _ (by decide +kernel)) ggX5_inform_X5_needsOf
set_option maxRecDepth 20000 in
theorem ggX5_inform_X5_refused : GoodIn wsX5_inform wsX5_refused := goodIn_r _ [43, 44, 45, 46, 47, 48, 49, 50, 51, 52, 53, 54, 55, 56, 57, 58, 59, 60, 61, 62, 63, 64, 65, 66, 67, 68, 69, 70] (by decide +kernel) (by decide +kernel)
set_option maxRecDepth 20000 in
theorem gX5_inform_X5_refused : GoodIn wsX5_inform (wsV RX5 111 RX5 yX5_refused wsX5_refused) := goodIn_app (goodIn_of _ (by decide +kernel)) ggX5_inform_X5_refused
theorem dX5_inform_0 : decode cX5_inform 0 = .ok (.aload_n 0, 1) := by decide +kernel
theorem dX5_inform_1 : decode cX5_inform 1 = .ok (.iload_n 1, 1) := by decide +kernel
theorem dX5_inform_2 : decode cX5_inform 2 = .ok (.invokevirtual 120, 3) := by decide +kernel
theorem dX5_inform_5 : decode cX5_inform 5 = .ok (.istore_n 3, 1) := by decide +kernel
theorem dX5_inform_6 : decode cX5_inform 6 = .ok (.iload_n 3, 1) := by decide +kernel
theorem dX5_inform_7 : decode cX5_inform 7 = .ok (.ifCond .eq 15, 3) := by decide +kernel
theorem dX5_inform_10 : decode cX5_inform 10 = .ok (.aload_n 0, 1) := by decide +kernel
theorem dX5_inform_11 : decode cX5_inform 11 = .ok (.iload_n 1, 1) := by decide +kernel
theorem dX5_inform_12 : decode cX5_inform 12 = .ok (.invokevirtual 123, 3) := by decide +kernel
theorem dX5_inform_15 : decode cX5_inform 15 = .ok (.ifCond .ne 7, 3) := by decide +kernel
theorem dX5_inform_18 : decode cX5_inform 18 = .ok (.iconst 1, 1) := by decide +kernel
theorem dX5_inform_19 : decode cX5_inform 19 = .ok (.goto 4, 3) := by decide +kernel
theorem dX5_inform_22 : decode cX5_inform 22 = .ok (.iconst 0, 1) := by decide +kernel
theorem dX5_inform_23 : decode cX5_inform 23 = .ok (.istore 4, 2) := by decide +kernel
theorem dX5_inform_25 : decode cX5_inform 25 = .ok (.aload_n 0, 1) := by decide +kernel
theorem dX5_inform_26 : decode cX5_inform 26 = .ok (.iload_n 3, 1) := by decide +kernel
theorem dX5_inform_27 : decode cX5_inform 27 = .ok (.ifCond .ne 7, 3) := by decide +kernel
theorem dX5_inform_30 : decode cX5_inform 30 = .ok (.iconst 1, 1) := by decide +kernel
theorem dX5_inform_31 : decode cX5_inform 31 = .ok (.goto 26, 3) := by decide +kernel
theorem dX5_inform_34 : decode cX5_inform 34 = .ok (.aload_n 0, 1) := by decide +kernel
theorem dX5_inform_35 : decode cX5_inform 35 = .ok (.getfield 25, 3) := by decide +kernel
theorem dX5_inform_38 : decode cX5_inform 38 = .ok (.iload_n 1, 1) := by decide +kernel
theorem dX5_inform_39 : decode cX5_inform 39 = .ok (.iaload, 1) := by decide +kernel
theorem dX5_inform_40 : decode cX5_inform 40 = .ok (.ifCond .ne 12, 3) := by decide +kernel
theorem dX5_inform_43 : decode cX5_inform 43 = .ok (.iload 4, 2) := by decide +kernel
theorem dX5_inform_45 : decode cX5_inform 45 = .ok (.ifCond .ne 11, 3) := by decide +kernel
theorem dX5_inform_48 : decode cX5_inform 48 = .ok (.iload_n 2, 1) := by decide +kernel
theorem dX5_inform_49 : decode cX5_inform 49 = .ok (.ifCond .ne 7, 3) := by decide +kernel
theorem dX5_inform_52 : decode cX5_inform 52 = .ok (.iconst 2, 1) := by decide +kernel
theorem dX5_inform_53 : decode cX5_inform 53 = .ok (.goto 4, 3) := by decide +kernel
theorem dX5_inform_56 : decode cX5_inform 56 = .ok (.iconst 0, 1) := by decide +kernel
theorem dX5_inform_57 : decode cX5_inform 57 = .ok (.invokevirtual 111, 3) := by decide +kernel
theorem dX5_inform_60 : decode cX5_inform 60 = .ok (.ifCond .eq 5, 3) := by decide +kernel
theorem dX5_inform_63 : decode cX5_inform 63 = .ok (.iconst 0, 1) := by decide +kernel
theorem dX5_inform_64 : decode cX5_inform 64 = .ok (.ireturn, 1) := by decide +kernel
theorem dX5_inform_65 : decode cX5_inform 65 = .ok (.aload_n 0, 1) := by decide +kernel
theorem dX5_inform_66 : decode cX5_inform 66 = .ok (.getfield 25, 3) := by decide +kernel
theorem dX5_inform_69 : decode cX5_inform 69 = .ok (.iload_n 1, 1) := by decide +kernel
theorem dX5_inform_70 : decode cX5_inform 70 = .ok (.iconst 1, 1) := by decide +kernel
theorem dX5_inform_71 : decode cX5_inform 71 = .ok (.iastore, 1) := by decide +kernel
theorem dX5_inform_72 : decode cX5_inform 72 = .ok (.aload_n 0, 1) := by decide +kernel
theorem dX5_inform_73 : decode cX5_inform 73 = .ok (.getfield 28, 3) := by decide +kernel
theorem dX5_inform_76 : decode cX5_inform 76 = .ok (.iload_n 1, 1) := by decide +kernel
theorem dX5_inform_77 : decode cX5_inform 77 = .ok (.iload 4, 2) := by decide +kernel
theorem dX5_inform_79 : decode cX5_inform 79 = .ok (.ifCond .ne 7, 3) := by decide +kernel
theorem dX5_inform_82 : decode cX5_inform 82 = .ok (.iconst 1, 1) := by decide +kernel
theorem dX5_inform_83 : decode cX5_inform 83 = .ok (.goto 4, 3) := by decide +kernel
theorem dX5_inform_86 : decode cX5_inform 86 = .ok (.iconst 0, 1) := by decide +kernel
theorem dX5_inform_87 : decode cX5_inform 87 = .ok (.bastore, 1) := by decide +kernel
theorem dX5_inform_88 : decode cX5_inform 88 = .ok (.iload 4, 2) := by decide +kernel
theorem dX5_inform_90 : decode cX5_inform 90 = .ok (.ireturn, 1) := by decide +kernel
theorem dX5_suspend_0 : decode cX5_suspend 0 = .ok (.aload_n 0, 1) := by decide +kernel
theorem dX5_suspend_1 : decode cX5_suspend 1 = .ok (.getfield 25, 3) := by decide +kernel
theorem dX5_suspend_4 : decode cX5_suspend 4 = .ok (.iload_n 1, 1) := by decide +kernel
theorem dX5_suspend_5 : decode cX5_suspend 5 = .ok (.iconst 3, 1) := by decide +kernel
theorem dX5_suspend_6 : decode cX5_suspend 6 = .ok (.iastore, 1) := by decide +kernel
theorem dX5_suspend_7 : decode cX5_suspend 7 = .ok (.aload_n 0, 1) := by decide +kernel
theorem dX5_suspend_8 : decode cX5_suspend 8 = .ok (.getfield 32, 3) := by decide +kernel
theorem dX5_suspend_11 : decode cX5_suspend 11 = .ok (.iload_n 1, 1) := by decide +kernel
theorem dX5_suspend_12 : decode cX5_suspend 12 = .ok (.iconst (-1), 1) := by decide +kernel
theorem dX5_suspend_13 : decode cX5_suspend 13 = .ok (.iastore, 1) := by decide +kernel
theorem dX5_suspend_14 : decode cX5_suspend 14 = .ok (.aload_n 0, 1) := by decide +kernel
theorem dX5_suspend_15 : decode cX5_suspend 15 = .ok (.getfield 38, 3) := by decide +kernel
theorem dX5_suspend_18 : decode cX5_suspend 18 = .ok (.iload_n 1, 1) := by decide +kernel
theorem dX5_suspend_19 : decode cX5_suspend 19 = .ok (.aload_n 0, 1) := by decide +kernel
theorem dX5_suspend_20 : decode cX5_suspend 20 = .ok (.getfield 117, 3) := by decide +kernel
theorem dX5_suspend_23 : decode cX5_suspend 23 = .ok (.iastore, 1) := by decide +kernel
theorem dX5_suspend_24 : decode cX5_suspend 24 = .ok (.return_, 1) := by decide +kernel
theorem dX5_lapse_0 : decode cX5_lapse 0 = .ok (.aload_n 0, 1) := by decide +kernel
theorem dX5_lapse_1 : decode cX5_lapse 1 = .ok (.getfield 25, 3) := by decide +kernel
theorem dX5_lapse_4 : decode cX5_lapse 4 = .ok (.iload_n 1, 1) := by decide +kernel
theorem dX5_lapse_5 : decode cX5_lapse 5 = .ok (.iconst 4, 1) := by decide +kernel
theorem dX5_lapse_6 : decode cX5_lapse 6 = .ok (.iastore, 1) := by decide +kernel
theorem dX5_lapse_7 : decode cX5_lapse 7 = .ok (.aload_n 0, 1) := by decide +kernel
theorem dX5_lapse_8 : decode cX5_lapse 8 = .ok (.getfield 32, 3) := by decide +kernel
theorem dX5_lapse_11 : decode cX5_lapse 11 = .ok (.iload_n 1, 1) := by decide +kernel
theorem dX5_lapse_12 : decode cX5_lapse 12 = .ok (.iconst (-1), 1) := by decide +kernel
theorem dX5_lapse_13 : decode cX5_lapse 13 = .ok (.iastore, 1) := by decide +kernel
theorem dX5_lapse_14 : decode cX5_lapse 14 = .ok (.iconst 0, 1) := by decide +kernel
theorem dX5_lapse_15 : decode cX5_lapse 15 = .ok (.istore_n 2, 1) := by decide +kernel
theorem dX5_lapse_16 : decode cX5_lapse 16 = .ok (.iload_n 2, 1) := by decide +kernel
theorem dX5_lapse_17 : decode cX5_lapse 17 = .ok (.bipush 40, 2) := by decide +kernel
theorem dX5_lapse_19 : decode cX5_lapse 19 = .ok (.if_icmp .ge 33, 3) := by decide +kernel
theorem dX5_lapse_22 : decode cX5_lapse 22 = .ok (.aload_n 0, 1) := by decide +kernel
theorem dX5_lapse_23 : decode cX5_lapse 23 = .ok (.getfield 41, 3) := by decide +kernel
theorem dX5_lapse_26 : decode cX5_lapse 26 = .ok (.bipush 40, 2) := by decide +kernel
theorem dX5_lapse_28 : decode cX5_lapse 28 = .ok (.iload_n 1, 1) := by decide +kernel
theorem dX5_lapse_29 : decode cX5_lapse 29 = .ok (.imul, 1) := by decide +kernel
theorem dX5_lapse_30 : decode cX5_lapse 30 = .ok (.iload_n 2, 1) := by decide +kernel
theorem dX5_lapse_31 : decode cX5_lapse 31 = .ok (.iadd, 1) := by decide +kernel
theorem dX5_lapse_32 : decode cX5_lapse 32 = .ok (.iconst (-1), 1) := by decide +kernel
theorem dX5_lapse_33 : decode cX5_lapse 33 = .ok (.iastore, 1) := by decide +kernel
theorem dX5_lapse_34 : decode cX5_lapse 34 = .ok (.aload_n 0, 1) := by decide +kernel
theorem dX5_lapse_35 : decode cX5_lapse 35 = .ok (.getfield 41, 3) := by decide +kernel
theorem dX5_lapse_38 : decode cX5_lapse 38 = .ok (.bipush 40, 2) := by decide +kernel
theorem dX5_lapse_40 : decode cX5_lapse 40 = .ok (.iload_n 2, 1) := by decide +kernel
theorem dX5_lapse_41 : decode cX5_lapse 41 = .ok (.imul, 1) := by decide +kernel
theorem dX5_lapse_42 : decode cX5_lapse 42 = .ok (.iload_n 1, 1) := by decide +kernel
theorem dX5_lapse_43 : decode cX5_lapse 43 = .ok (.iadd, 1) := by decide +kernel
theorem dX5_lapse_44 : decode cX5_lapse 44 = .ok (.iconst (-1), 1) := by decide +kernel
theorem dX5_lapse_45 : decode cX5_lapse 45 = .ok (.iastore, 1) := by decide +kernel
theorem dX5_lapse_46 : decode cX5_lapse 46 = .ok (.iinc 2 1, 3) := by decide +kernel
theorem dX5_lapse_49 : decode cX5_lapse 49 = .ok (.goto (-33), 3) := by decide +kernel
theorem dX5_lapse_52 : decode cX5_lapse 52 = .ok (.return_, 1) := by decide +kernel
set_option maxRecDepth 20000 in
theorem ggX5_change_X5_isFiling : GoodIn wsX5_change wsX5_isFiling := goodIn_r _ [11, 2, 12, 13, 10, 14, 42, 43, 44, 45, 46, 47, 48, 49, 50, 51, 52, 53, 54, 55, 56, 57, 58, 59, 60, 61, 62, 63, 64, 65, 66, 67] (by decide +kernel) (by decide +kernel)
set_option maxRecDepth 20000 in
theorem gX5_change_X5_isFiling : GoodIn wsX5_change (wsV RX5 120 RX5 yX5_isFiling wsX5_isFiling) := goodIn_app (goodIn_of _ (by decide +kernel)) ggX5_change_X5_isFiling
set_option maxRecDepth 20000 in
theorem ggX5_change_X5_isSlot : GoodIn wsX5_change wsX5_isSlot := goodIn_r _ [17, 12, 13, 10, 14] (by decide +kernel) (by decide +kernel)
set_option maxRecDepth 20000 in
theorem gX5_change_X5_isSlot : GoodIn wsX5_change (va_wsS RX5 107 yX5_isSlot wsX5_isSlot) := goodIn_app (goodIn_of _ (by decide +kernel)) ggX5_change_X5_isSlot
set_option maxRecDepth 20000 in
theorem ggX5_change_X5_in : GoodIn wsX5_change wsX5_in := goodIn_r _ [14] (by decide +kernel) (by decide +kernel)
set_option maxRecDepth 20000 in
theorem gX5_change_X5_in : GoodIn wsX5_change (va_wsS RX5 82 yX5_in wsX5_in) := goodIn_app (goodIn_of _ (by decide +kernel)) ggX5_change_X5_in
set_option maxRecDepth 20000 in
theorem ggX5_change_X5_refused : GoodIn wsX5_change wsX5_refused := goodIn_r _ [21, 22, 42, 43, 44, 45, 46, 47, 48, 49, 50, 51, 52, 53, 54, 55, 56, 57, 58, 59, 60, 61, 62, 63, 64, 65, 66, 67] (by decide +kernel) (by decide +kernel)
set_option maxRecDepth 20000 in
theorem gX5_change_X5_refused : GoodIn wsX5_change (wsV RX5 111 RX5 yX5_refused wsX5_refused) := goodIn_app (goodIn_of _ (by decide +kernel)) ggX5_change_X5_refused
set_option maxRecDepth 20000 in
theorem ggX5_change_X5_harmBy : GoodIn wsX5_change wsX5_harmBy := goodIn_r _ [26, 27, 1, 5, 28, 29, 10, 30, 42, 43, 44, 45, 46, 47, 48, 49, 50, 51, 52, 53, 54, 55, 56, 57, 58, 59, 60, 61, 62, 63, 64, 65, 66, 67] (by decide +kernel) (by decide +kernel)
set_option maxRecDepth 20000 in
theorem gX5_change_X5_harmBy : GoodIn wsX5_change (wsV RX5 93 RX5 yX5_harmBy wsX5_harmBy) := goodIn_app (goodIn_of _ (by decide +kernel)) ggX5_change_X5_harmBy
set_option maxRecDepth 20000 in
theorem ggX5_change_X5_harmOf : GoodIn wsX5_change wsX5_harmOf := goodIn_r _ [34, 5, 6, 23, 24, 25, 10, 26, 27, 1, 28, 29, 30, 42, 43, 44, 45, 46, 47, 48, 49, 50, 51, 52, 53, 54, 55, 56, 57, 58, 59, 60, 61, 62, 63, 64, 65, 66, 67] (by decide +kernel) (by decide +kernel)
set_option maxRecDepth 20000 in
theorem gX5_change_X5_harmOf : GoodIn wsX5_change (wsV RX5 101 RX5 yX5_harmOf wsX5_harmOf) := goodIn_app (goodIn_of _ (by decide +kernel)) ggX5_change_X5_harmOf
set_option maxRecDepth 20000 in
theorem ggX5_change_X5_suspend : GoodIn wsX5_change wsX5_suspend := goodIn_r _ [38, 1, 39, 40, 41, 42, 43, 44, 45, 46, 47, 48, 49, 50, 51, 52, 53, 54, 55, 56, 57, 58, 59, 60, 61, 62, 63, 64, 65, 66, 67] (by decide +kernel) (by decide +kernel)
set_option maxRecDepth 20000 in
theorem gX5_change_X5_suspend : GoodIn wsX5_change (wsV RX5 127 RX5 yX5_suspend wsX5_suspend) := goodIn_app (goodIn_of _ (by decide +kernel)) ggX5_change_X5_suspend
theorem dX5_change_0 : decode cX5_change 0 = .ok (.aload_n 0, 1) := by decide +kernel
theorem dX5_change_1 : decode cX5_change 1 = .ok (.iload_n 1, 1) := by decide +kernel
theorem dX5_change_2 : decode cX5_change 2 = .ok (.invokevirtual 120, 3) := by decide +kernel
theorem dX5_change_5 : decode cX5_change 5 = .ok (.ifCond .eq 14, 3) := by decide +kernel
theorem dX5_change_8 : decode cX5_change 8 = .ok (.iload_n 2, 1) := by decide +kernel
theorem dX5_change_9 : decode cX5_change 9 = .ok (.invokestatic 107, 3) := by decide +kernel
theorem dX5_change_12 : decode cX5_change 12 = .ok (.ifCond .eq 7, 3) := by decide +kernel
theorem dX5_change_15 : decode cX5_change 15 = .ok (.iconst 1, 1) := by decide +kernel
theorem dX5_change_16 : decode cX5_change 16 = .ok (.goto 4, 3) := by decide +kernel
theorem dX5_change_19 : decode cX5_change 19 = .ok (.iconst 0, 1) := by decide +kernel
theorem dX5_change_20 : decode cX5_change 20 = .ok (.istore 4, 2) := by decide +kernel
theorem dX5_change_22 : decode cX5_change 22 = .ok (.aload_n 0, 1) := by decide +kernel
theorem dX5_change_23 : decode cX5_change 23 = .ok (.iload 4, 2) := by decide +kernel
theorem dX5_change_25 : decode cX5_change 25 = .ok (.ifCond .ne 7, 3) := by decide +kernel
theorem dX5_change_28 : decode cX5_change 28 = .ok (.iconst 1, 1) := by decide +kernel
theorem dX5_change_29 : decode cX5_change 29 = .ok (.goto 32, 3) := by decide +kernel
theorem dX5_change_32 : decode cX5_change 32 = .ok (.iload_n 3, 1) := by decide +kernel
theorem dX5_change_33 : decode cX5_change 33 = .ok (.iconst 1, 1) := by decide +kernel
theorem dX5_change_34 : decode cX5_change 34 = .ok (.bipush 50, 2) := by decide +kernel
theorem dX5_change_36 : decode cX5_change 36 = .ok (.invokestatic 82, 3) := by decide +kernel
theorem dX5_change_39 : decode cX5_change 39 = .ok (.ifCond .ne 7, 3) := by decide +kernel
theorem dX5_change_42 : decode cX5_change 42 = .ok (.iconst 2, 1) := by decide +kernel
theorem dX5_change_43 : decode cX5_change 43 = .ok (.goto 18, 3) := by decide +kernel
theorem dX5_change_46 : decode cX5_change 46 = .ok (.aload_n 0, 1) := by decide +kernel
theorem dX5_change_47 : decode cX5_change 47 = .ok (.getfield 25, 3) := by decide +kernel
theorem dX5_change_50 : decode cX5_change 50 = .ok (.iload_n 1, 1) := by decide +kernel
theorem dX5_change_51 : decode cX5_change 51 = .ok (.iaload, 1) := by decide +kernel
theorem dX5_change_52 : decode cX5_change 52 = .ok (.iconst 4, 1) := by decide +kernel
theorem dX5_change_53 : decode cX5_change 53 = .ok (.if_icmp .ne 7, 3) := by decide +kernel
theorem dX5_change_56 : decode cX5_change 56 = .ok (.iconst 3, 1) := by decide +kernel
theorem dX5_change_57 : decode cX5_change 57 = .ok (.goto 4, 3) := by decide +kernel
theorem dX5_change_60 : decode cX5_change 60 = .ok (.iconst 0, 1) := by decide +kernel
theorem dX5_change_61 : decode cX5_change 61 = .ok (.invokevirtual 111, 3) := by decide +kernel
theorem dX5_change_64 : decode cX5_change 64 = .ok (.ifCond .eq 5, 3) := by decide +kernel
theorem dX5_change_67 : decode cX5_change 67 = .ok (.iconst 0, 1) := by decide +kernel
theorem dX5_change_68 : decode cX5_change 68 = .ok (.ireturn, 1) := by decide +kernel
theorem dX5_change_69 : decode cX5_change 69 = .ok (.iconst 1, 1) := by decide +kernel
theorem dX5_change_70 : decode cX5_change 70 = .ok (.istore 5, 2) := by decide +kernel
theorem dX5_change_72 : decode cX5_change 72 = .ok (.iconst 0, 1) := by decide +kernel
theorem dX5_change_73 : decode cX5_change 73 = .ok (.istore 6, 2) := by decide +kernel
theorem dX5_change_75 : decode cX5_change 75 = .ok (.iload 6, 2) := by decide +kernel
theorem dX5_change_77 : decode cX5_change 77 = .ok (.aload_n 0, 1) := by decide +kernel
theorem dX5_change_78 : decode cX5_change 78 = .ok (.getfield 79, 3) := by decide +kernel
theorem dX5_change_81 : decode cX5_change 81 = .ok (.if_icmp .ge 40, 3) := by decide +kernel
theorem dX5_change_84 : decode cX5_change 84 = .ok (.iload 5, 2) := by decide +kernel
theorem dX5_change_86 : decode cX5_change 86 = .ok (.ifCond .eq 26, 3) := by decide +kernel
theorem dX5_change_89 : decode cX5_change 89 = .ok (.aload_n 0, 1) := by decide +kernel
theorem dX5_change_90 : decode cX5_change 90 = .ok (.iload_n 1, 1) := by decide +kernel
theorem dX5_change_91 : decode cX5_change 91 = .ok (.iload_n 2, 1) := by decide +kernel
theorem dX5_change_92 : decode cX5_change 92 = .ok (.iload_n 3, 1) := by decide +kernel
theorem dX5_change_93 : decode cX5_change 93 = .ok (.iload 6, 2) := by decide +kernel
theorem dX5_change_95 : decode cX5_change 95 = .ok (.invokevirtual 93, 3) := by decide +kernel
theorem dX5_change_98 : decode cX5_change 98 = .ok (.aload_n 0, 1) := by decide +kernel
theorem dX5_change_99 : decode cX5_change 99 = .ok (.iload_n 1, 1) := by decide +kernel
theorem dX5_change_100 : decode cX5_change 100 = .ok (.iload 6, 2) := by decide +kernel
theorem dX5_change_102 : decode cX5_change 102 = .ok (.invokevirtual 101, 3) := by decide +kernel
theorem dX5_change_105 : decode cX5_change 105 = .ok (.if_icmp .gt 7, 3) := by decide +kernel
theorem dX5_change_108 : decode cX5_change 108 = .ok (.iconst 1, 1) := by decide +kernel
theorem dX5_change_109 : decode cX5_change 109 = .ok (.goto 4, 3) := by decide +kernel
theorem dX5_change_112 : decode cX5_change 112 = .ok (.iconst 0, 1) := by decide +kernel
theorem dX5_change_113 : decode cX5_change 113 = .ok (.istore 5, 2) := by decide +kernel
theorem dX5_change_115 : decode cX5_change 115 = .ok (.iinc 6 1, 3) := by decide +kernel
theorem dX5_change_118 : decode cX5_change 118 = .ok (.goto (-43), 3) := by decide +kernel
theorem dX5_change_121 : decode cX5_change 121 = .ok (.iload 5, 2) := by decide +kernel
theorem dX5_change_123 : decode cX5_change 123 = .ok (.ifCond .ne 23, 3) := by decide +kernel
theorem dX5_change_126 : decode cX5_change 126 = .ok (.aload_n 0, 1) := by decide +kernel
theorem dX5_change_127 : decode cX5_change 127 = .ok (.getfield 22, 3) := by decide +kernel
theorem dX5_change_130 : decode cX5_change 130 = .ok (.iload_n 1, 1) := by decide +kernel
theorem dX5_change_131 : decode cX5_change 131 = .ok (.aload_n 0, 1) := by decide +kernel
theorem dX5_change_132 : decode cX5_change 132 = .ok (.getfield 114, 3) := by decide +kernel
theorem dX5_change_135 : decode cX5_change 135 = .ok (.iastore, 1) := by decide +kernel
theorem dX5_change_136 : decode cX5_change 136 = .ok (.aload_n 0, 1) := by decide +kernel
theorem dX5_change_137 : decode cX5_change 137 = .ok (.dup, 1) := by decide +kernel
theorem dX5_change_138 : decode cX5_change 138 = .ok (.getfield 114, 3) := by decide +kernel
theorem dX5_change_141 : decode cX5_change 141 = .ok (.iconst 1, 1) := by decide +kernel
theorem dX5_change_142 : decode cX5_change 142 = .ok (.iadd, 1) := by decide +kernel
theorem dX5_change_143 : decode cX5_change 143 = .ok (.putfield 114, 3) := by decide +kernel
theorem dX5_change_146 : decode cX5_change 146 = .ok (.aload_n 0, 1) := by decide +kernel
theorem dX5_change_147 : decode cX5_change 147 = .ok (.getfield 25, 3) := by decide +kernel
theorem dX5_change_150 : decode cX5_change 150 = .ok (.iload_n 1, 1) := by decide +kernel
theorem dX5_change_151 : decode cX5_change 151 = .ok (.iaload, 1) := by decide +kernel
theorem dX5_change_152 : decode cX5_change 152 = .ok (.iconst 2, 1) := by decide +kernel
theorem dX5_change_153 : decode cX5_change 153 = .ok (.if_icmp .ne 18, 3) := by decide +kernel
theorem dX5_change_156 : decode cX5_change 156 = .ok (.aload_n 0, 1) := by decide +kernel
theorem dX5_change_157 : decode cX5_change 157 = .ok (.getfield 13, 3) := by decide +kernel
theorem dX5_change_160 : decode cX5_change 160 = .ok (.iload_n 1, 1) := by decide +kernel
theorem dX5_change_161 : decode cX5_change 161 = .ok (.iaload, 1) := by decide +kernel
theorem dX5_change_162 : decode cX5_change 162 = .ok (.iload_n 2, 1) := by decide +kernel
theorem dX5_change_163 : decode cX5_change 163 = .ok (.if_icmp .eq 8, 3) := by decide +kernel
theorem dX5_change_166 : decode cX5_change 166 = .ok (.aload_n 0, 1) := by decide +kernel
theorem dX5_change_167 : decode cX5_change 167 = .ok (.iload_n 1, 1) := by decide +kernel
theorem dX5_change_168 : decode cX5_change 168 = .ok (.invokevirtual 127, 3) := by decide +kernel
theorem dX5_change_171 : decode cX5_change 171 = .ok (.aload_n 0, 1) := by decide +kernel
theorem dX5_change_172 : decode cX5_change 172 = .ok (.getfield 13, 3) := by decide +kernel
theorem dX5_change_175 : decode cX5_change 175 = .ok (.iload_n 1, 1) := by decide +kernel
theorem dX5_change_176 : decode cX5_change 176 = .ok (.iload_n 2, 1) := by decide +kernel
theorem dX5_change_177 : decode cX5_change 177 = .ok (.iastore, 1) := by decide +kernel
theorem dX5_change_178 : decode cX5_change 178 = .ok (.aload_n 0, 1) := by decide +kernel
theorem dX5_change_179 : decode cX5_change 179 = .ok (.getfield 19, 3) := by decide +kernel
theorem dX5_change_182 : decode cX5_change 182 = .ok (.iload_n 1, 1) := by decide +kernel
theorem dX5_change_183 : decode cX5_change 183 = .ok (.iload_n 3, 1) := by decide +kernel
theorem dX5_change_184 : decode cX5_change 184 = .ok (.iastore, 1) := by decide +kernel
theorem dX5_change_185 : decode cX5_change 185 = .ok (.iload 5, 2) := by decide +kernel
theorem dX5_change_187 : decode cX5_change 187 = .ok (.ireturn, 1) := by decide +kernel
set_option maxRecDepth 20000 in
theorem ggX5_withdraw_X5_isFiling : GoodIn wsX5_withdraw wsX5_isFiling := goodIn_r _ [6, 7, 8, 9, 5, 10, 22, 23, 24, 25, 26, 27, 28, 29, 30, 31, 32, 33, 34, 35, 36, 37, 38, 39, 40, 41, 42, 43, 44, 45, 46, 47] (by decide +kernel) (by decide +kernel)
set_option maxRecDepth 20000 in
theorem gX5_withdraw_X5_isFiling : GoodIn wsX5_withdraw (wsV RX5 120 RX5 yX5_isFiling wsX5_isFiling) := goodIn_app (goodIn_of _ (by decide +kernel)) ggX5_withdraw_X5_isFiling
set_option maxRecDepth 20000 in
theorem ggX5_withdraw_X5_refused : GoodIn wsX5_withdraw wsX5_refused := goodIn_r _ [14, 15, 22, 23, 24, 25, 26, 27, 28, 29, 30, 31, 32, 33, 34, 35, 36, 37, 38, 39, 40, 41, 42, 43, 44, 45, 46, 47] (by decide +kernel) (by decide +kernel)
set_option maxRecDepth 20000 in
theorem gX5_withdraw_X5_refused : GoodIn wsX5_withdraw (wsV RX5 111 RX5 yX5_refused wsX5_refused) := goodIn_app (goodIn_of _ (by decide +kernel)) ggX5_withdraw_X5_refused
set_option maxRecDepth 20000 in
theorem ggX5_withdraw_X5_lapse : GoodIn wsX5_withdraw wsX5_lapse := goodIn_r _ [19, 1, 20, 21, 22, 23, 24, 25, 26, 27, 28, 29, 30, 31, 32, 33, 34, 35, 36, 37, 38, 39, 40, 41, 42, 43, 44, 45, 46, 47] (by decide +kernel) (by decide +kernel)
set_option maxRecDepth 20000 in
theorem gX5_withdraw_X5_lapse : GoodIn wsX5_withdraw (wsV RX5 131 RX5 yX5_lapse wsX5_lapse) := goodIn_app (goodIn_of _ (by decide +kernel)) ggX5_withdraw_X5_lapse
theorem dX5_withdraw_0 : decode cX5_withdraw 0 = .ok (.aload_n 0, 1) := by decide +kernel
theorem dX5_withdraw_1 : decode cX5_withdraw 1 = .ok (.iload_n 1, 1) := by decide +kernel
theorem dX5_withdraw_2 : decode cX5_withdraw 2 = .ok (.invokevirtual 120, 3) := by decide +kernel
theorem dX5_withdraw_5 : decode cX5_withdraw 5 = .ok (.istore_n 2, 1) := by decide +kernel
theorem dX5_withdraw_6 : decode cX5_withdraw 6 = .ok (.aload_n 0, 1) := by decide +kernel
theorem dX5_withdraw_7 : decode cX5_withdraw 7 = .ok (.iload_n 2, 1) := by decide +kernel
theorem dX5_withdraw_8 : decode cX5_withdraw 8 = .ok (.ifCond .ne 7, 3) := by decide +kernel
theorem dX5_withdraw_11 : decode cX5_withdraw 11 = .ok (.iconst 1, 1) := by decide +kernel
theorem dX5_withdraw_12 : decode cX5_withdraw 12 = .ok (.goto 18, 3) := by decide +kernel
theorem dX5_withdraw_15 : decode cX5_withdraw 15 = .ok (.aload_n 0, 1) := by decide +kernel
theorem dX5_withdraw_16 : decode cX5_withdraw 16 = .ok (.getfield 25, 3) := by decide +kernel
theorem dX5_withdraw_19 : decode cX5_withdraw 19 = .ok (.iload_n 1, 1) := by decide +kernel
theorem dX5_withdraw_20 : decode cX5_withdraw 20 = .ok (.iaload, 1) := by decide +kernel
theorem dX5_withdraw_21 : decode cX5_withdraw 21 = .ok (.iconst 4, 1) := by decide +kernel
theorem dX5_withdraw_22 : decode cX5_withdraw 22 = .ok (.if_icmp .ne 7, 3) := by decide +kernel
theorem dX5_withdraw_25 : decode cX5_withdraw 25 = .ok (.iconst 2, 1) := by decide +kernel
theorem dX5_withdraw_26 : decode cX5_withdraw 26 = .ok (.goto 4, 3) := by decide +kernel
theorem dX5_withdraw_29 : decode cX5_withdraw 29 = .ok (.iconst 0, 1) := by decide +kernel
theorem dX5_withdraw_30 : decode cX5_withdraw 30 = .ok (.invokevirtual 111, 3) := by decide +kernel
theorem dX5_withdraw_33 : decode cX5_withdraw 33 = .ok (.ifCond .eq 5, 3) := by decide +kernel
theorem dX5_withdraw_36 : decode cX5_withdraw 36 = .ok (.iconst 0, 1) := by decide +kernel
theorem dX5_withdraw_37 : decode cX5_withdraw 37 = .ok (.ireturn, 1) := by decide +kernel
theorem dX5_withdraw_38 : decode cX5_withdraw 38 = .ok (.aload_n 0, 1) := by decide +kernel
theorem dX5_withdraw_39 : decode cX5_withdraw 39 = .ok (.getfield 25, 3) := by decide +kernel
theorem dX5_withdraw_42 : decode cX5_withdraw 42 = .ok (.iload_n 1, 1) := by decide +kernel
theorem dX5_withdraw_43 : decode cX5_withdraw 43 = .ok (.iaload, 1) := by decide +kernel
theorem dX5_withdraw_44 : decode cX5_withdraw 44 = .ok (.istore_n 3, 1) := by decide +kernel
theorem dX5_withdraw_45 : decode cX5_withdraw 45 = .ok (.aload_n 0, 1) := by decide +kernel
theorem dX5_withdraw_46 : decode cX5_withdraw 46 = .ok (.iload_n 1, 1) := by decide +kernel
theorem dX5_withdraw_47 : decode cX5_withdraw 47 = .ok (.invokevirtual 131, 3) := by decide +kernel
theorem dX5_withdraw_50 : decode cX5_withdraw 50 = .ok (.iload_n 3, 1) := by decide +kernel
theorem dX5_withdraw_51 : decode cX5_withdraw 51 = .ok (.ireturn, 1) := by decide +kernel
set_option maxRecDepth 20000 in
theorem ggX5_use_X5_isFiling : GoodIn wsX5_use wsX5_isFiling := goodIn_r _ [12, 13, 14, 15, 11, 16, 49, 50, 51, 52, 53, 54, 55, 56, 57, 58, 59, 60, 61, 62, 63, 64, 65, 66, 67, 68, 69, 70, 71, 72, 73, 74] (by decide +kernel) (by decide +kernel)
set_option maxRecDepth 20000 in
theorem gX5_use_X5_isFiling : GoodIn wsX5_use (wsV RX5 120 RX5 yX5_isFiling wsX5_isFiling) := goodIn_app (goodIn_of _ (by decide +kernel)) ggX5_use_X5_isFiling
set_option maxRecDepth 20000 in
theorem ggX5_use_X5_isSatellite : GoodIn wsX5_use wsX5_isSatellite := goodIn_r _ [20, 21, 14, 15, 11, 16, 49, 50, 51, 52, 53, 54, 55, 56, 57, 58, 59, 60, 61, 62, 63, 64, 65, 66, 67, 68, 69, 70, 71, 72, 73, 74] (by decide +kernel) (by decide +kernel)
set_option maxRecDepth 20000 in
theorem gX5_use_X5_isSatellite : GoodIn wsX5_use (wsV RX5 134 RX5 yX5_isSatellite wsX5_isSatellite) := goodIn_app (goodIn_of _ (by decide +kernel)) ggX5_use_X5_isSatellite
set_option maxRecDepth 20000 in
theorem ggX5_use_X5_refused : GoodIn wsX5_use wsX5_refused := goodIn_r _ [25, 26, 49, 50, 51, 52, 53, 54, 55, 56, 57, 58, 59, 60, 61, 62, 63, 64, 65, 66, 67, 68, 69, 70, 71, 72, 73, 74] (by decide +kernel) (by decide +kernel)
set_option maxRecDepth 20000 in
theorem gX5_use_X5_refused : GoodIn wsX5_use (wsV RX5 111 RX5 yX5_refused wsX5_refused) := goodIn_app (goodIn_of _ (by decide +kernel)) ggX5_use_X5_refused
set_option maxRecDepth 20000 in
theorem ggX5_use_X5_bearsOf : GoodIn wsX5_use wsX5_bearsOf := goodIn_r _ [30, 13, 4, 31, 32, 33, 11, 34, 35, 36, 37, 38, 39, 3, 40, 41, 42, 43, 44, 45, 46, 47, 48, 49, 50, 51, 52, 53, 54, 55, 56, 57, 58, 59, 60, 61, 62, 63, 64, 65, 66, 67, 68, 69, 70, 71, 72, 73, 74] (by decide +kernel) (by decide +kernel)
set_option maxRecDepth 20000 in
theorem gX5_use_X5_bearsOf : GoodIn wsX5_use (wsV RX5 137 RX5 yX5_bearsOf wsX5_bearsOf) := goodIn_app (goodIn_of _ (by decide +kernel)) ggX5_use_X5_bearsOf
theorem dX5_use_0 : decode cX5_use 0 = .ok (.aload_n 0, 1) := by decide +kernel
theorem dX5_use_1 : decode cX5_use 1 = .ok (.iload_n 1, 1) := by decide +kernel
theorem dX5_use_2 : decode cX5_use 2 = .ok (.invokevirtual 120, 3) := by decide +kernel
theorem dX5_use_5 : decode cX5_use 5 = .ok (.ifCond .eq 15, 3) := by decide +kernel
theorem dX5_use_8 : decode cX5_use 8 = .ok (.aload_n 0, 1) := by decide +kernel
theorem dX5_use_9 : decode cX5_use 9 = .ok (.iload_n 2, 1) := by decide +kernel
theorem dX5_use_10 : decode cX5_use 10 = .ok (.invokevirtual 134, 3) := by decide +kernel
theorem dX5_use_13 : decode cX5_use 13 = .ok (.ifCond .eq 7, 3) := by decide +kernel
theorem dX5_use_16 : decode cX5_use 16 = .ok (.iconst 1, 1) := by decide +kernel
theorem dX5_use_17 : decode cX5_use 17 = .ok (.goto 4, 3) := by decide +kernel
theorem dX5_use_20 : decode cX5_use 20 = .ok (.iconst 0, 1) := by decide +kernel
theorem dX5_use_21 : decode cX5_use 21 = .ok (.istore_n 3, 1) := by decide +kernel
theorem dX5_use_22 : decode cX5_use 22 = .ok (.iload_n 3, 1) := by decide +kernel
theorem dX5_use_23 : decode cX5_use 23 = .ok (.ifCond .eq 31, 3) := by decide +kernel
theorem dX5_use_26 : decode cX5_use 26 = .ok (.aload_n 0, 1) := by decide +kernel
theorem dX5_use_27 : decode cX5_use 27 = .ok (.getfield 50, 3) := by decide +kernel
theorem dX5_use_30 : decode cX5_use 30 = .ok (.iload_n 2, 1) := by decide +kernel
theorem dX5_use_31 : decode cX5_use 31 = .ok (.iaload, 1) := by decide +kernel
theorem dX5_use_32 : decode cX5_use 32 = .ok (.ifCond .ne 22, 3) := by decide +kernel
theorem dX5_use_35 : decode cX5_use 35 = .ok (.aload_n 0, 1) := by decide +kernel
theorem dX5_use_36 : decode cX5_use 36 = .ok (.getfield 53, 3) := by decide +kernel
theorem dX5_use_39 : decode cX5_use 39 = .ok (.iload_n 2, 1) := by decide +kernel
theorem dX5_use_40 : decode cX5_use 40 = .ok (.iaload, 1) := by decide +kernel
theorem dX5_use_41 : decode cX5_use 41 = .ok (.aload_n 0, 1) := by decide +kernel
theorem dX5_use_42 : decode cX5_use 42 = .ok (.getfield 13, 3) := by decide +kernel
theorem dX5_use_45 : decode cX5_use 45 = .ok (.iload_n 1, 1) := by decide +kernel
theorem dX5_use_46 : decode cX5_use 46 = .ok (.iaload, 1) := by decide +kernel
theorem dX5_use_47 : decode cX5_use 47 = .ok (.if_icmp .ne 7, 3) := by decide +kernel
theorem dX5_use_50 : decode cX5_use 50 = .ok (.iconst 1, 1) := by decide +kernel
theorem dX5_use_51 : decode cX5_use 51 = .ok (.goto 4, 3) := by decide +kernel
theorem dX5_use_54 : decode cX5_use 54 = .ok (.iconst 0, 1) := by decide +kernel
theorem dX5_use_55 : decode cX5_use 55 = .ok (.istore 4, 2) := by decide +kernel
theorem dX5_use_57 : decode cX5_use 57 = .ok (.iload 4, 2) := by decide +kernel
theorem dX5_use_59 : decode cX5_use 59 = .ok (.ifCond .eq 43, 3) := by decide +kernel
theorem dX5_use_62 : decode cX5_use 62 = .ok (.aload_n 0, 1) := by decide +kernel
theorem dX5_use_63 : decode cX5_use 63 = .ok (.getfield 25, 3) := by decide +kernel
theorem dX5_use_66 : decode cX5_use 66 = .ok (.iload_n 1, 1) := by decide +kernel
theorem dX5_use_67 : decode cX5_use 67 = .ok (.iaload, 1) := by decide +kernel
theorem dX5_use_68 : decode cX5_use 68 = .ok (.iconst 3, 1) := by decide +kernel
theorem dX5_use_69 : decode cX5_use 69 = .ok (.if_icmp .eq 29, 3) := by decide +kernel
theorem dX5_use_72 : decode cX5_use 72 = .ok (.aload_n 0, 1) := by decide +kernel
theorem dX5_use_73 : decode cX5_use 73 = .ok (.getfield 25, 3) := by decide +kernel
theorem dX5_use_76 : decode cX5_use 76 = .ok (.iload_n 1, 1) := by decide +kernel
theorem dX5_use_77 : decode cX5_use 77 = .ok (.iaload, 1) := by decide +kernel
theorem dX5_use_78 : decode cX5_use 78 = .ok (.iconst 1, 1) := by decide +kernel
theorem dX5_use_79 : decode cX5_use 79 = .ok (.if_icmp .ne 23, 3) := by decide +kernel
theorem dX5_use_82 : decode cX5_use 82 = .ok (.aload_n 0, 1) := by decide +kernel
theorem dX5_use_83 : decode cX5_use 83 = .ok (.getfield 117, 3) := by decide +kernel
theorem dX5_use_86 : decode cX5_use 86 = .ok (.aload_n 0, 1) := by decide +kernel
theorem dX5_use_87 : decode cX5_use 87 = .ok (.getfield 59, 3) := by decide +kernel
theorem dX5_use_90 : decode cX5_use 90 = .ok (.iload_n 2, 1) := by decide +kernel
theorem dX5_use_91 : decode cX5_use 91 = .ok (.iaload, 1) := by decide +kernel
theorem dX5_use_92 : decode cX5_use 92 = .ok (.isub, 1) := by decide +kernel
theorem dX5_use_93 : decode cX5_use 93 = .ok (.bipush 90, 2) := by decide +kernel
theorem dX5_use_95 : decode cX5_use 95 = .ok (.if_icmp .lt 7, 3) := by decide +kernel
theorem dX5_use_98 : decode cX5_use 98 = .ok (.iconst 1, 1) := by decide +kernel
theorem dX5_use_99 : decode cX5_use 99 = .ok (.goto 4, 3) := by decide +kernel
theorem dX5_use_102 : decode cX5_use 102 = .ok (.iconst 0, 1) := by decide +kernel
theorem dX5_use_103 : decode cX5_use 103 = .ok (.istore 5, 2) := by decide +kernel
theorem dX5_use_105 : decode cX5_use 105 = .ok (.aload_n 0, 1) := by decide +kernel
theorem dX5_use_106 : decode cX5_use 106 = .ok (.iload_n 3, 1) := by decide +kernel
theorem dX5_use_107 : decode cX5_use 107 = .ok (.ifCond .ne 7, 3) := by decide +kernel
theorem dX5_use_110 : decode cX5_use 110 = .ok (.iconst 1, 1) := by decide +kernel
theorem dX5_use_111 : decode cX5_use 111 = .ok (.goto 13, 3) := by decide +kernel
theorem dX5_use_114 : decode cX5_use 114 = .ok (.iload 5, 2) := by decide +kernel
theorem dX5_use_116 : decode cX5_use 116 = .ok (.ifCond .eq 7, 3) := by decide +kernel
theorem dX5_use_119 : decode cX5_use 119 = .ok (.iconst 0, 1) := by decide +kernel
theorem dX5_use_120 : decode cX5_use 120 = .ok (.goto 4, 3) := by decide +kernel
theorem dX5_use_123 : decode cX5_use 123 = .ok (.iconst 2, 1) := by decide +kernel
theorem dX5_use_124 : decode cX5_use 124 = .ok (.invokevirtual 111, 3) := by decide +kernel
theorem dX5_use_127 : decode cX5_use 127 = .ok (.ifCond .eq 5, 3) := by decide +kernel
theorem dX5_use_130 : decode cX5_use 130 = .ok (.iconst 0, 1) := by decide +kernel
theorem dX5_use_131 : decode cX5_use 131 = .ok (.ireturn, 1) := by decide +kernel
theorem dX5_use_132 : decode cX5_use 132 = .ok (.aload_n 0, 1) := by decide +kernel
theorem dX5_use_133 : decode cX5_use 133 = .ok (.getfield 25, 3) := by decide +kernel
theorem dX5_use_136 : decode cX5_use 136 = .ok (.iload_n 1, 1) := by decide +kernel
theorem dX5_use_137 : decode cX5_use 137 = .ok (.iconst 2, 1) := by decide +kernel
theorem dX5_use_138 : decode cX5_use 138 = .ok (.iastore, 1) := by decide +kernel
theorem dX5_use_139 : decode cX5_use 139 = .ok (.aload_n 0, 1) := by decide +kernel
theorem dX5_use_140 : decode cX5_use 140 = .ok (.getfield 32, 3) := by decide +kernel
theorem dX5_use_143 : decode cX5_use 143 = .ok (.iload_n 1, 1) := by decide +kernel
theorem dX5_use_144 : decode cX5_use 144 = .ok (.iload_n 2, 1) := by decide +kernel
theorem dX5_use_145 : decode cX5_use 145 = .ok (.iastore, 1) := by decide +kernel
theorem dX5_use_146 : decode cX5_use 146 = .ok (.aload_n 0, 1) := by decide +kernel
theorem dX5_use_147 : decode cX5_use 147 = .ok (.iload_n 1, 1) := by decide +kernel
theorem dX5_use_148 : decode cX5_use 148 = .ok (.invokevirtual 137, 3) := by decide +kernel
theorem dX5_use_151 : decode cX5_use 151 = .ok (.ireturn, 1) := by decide +kernel
set_option maxRecDepth 20000 in
theorem ggX5_complain_X5_isFiling : GoodIn wsX5_complain wsX5_isFiling := goodIn_r _ [7, 8, 9, 10, 6, 11, 48, 49, 50, 51, 52, 53, 54, 55, 56, 57, 58, 59, 60, 61, 62, 63, 64, 65, 66, 67, 68, 69, 70, 71, 72, 73] (by decide +kernel) (by decide +kernel)
set_option maxRecDepth 20000 in
theorem gX5_complain_X5_isFiling : GoodIn wsX5_complain (wsV RX5 120 RX5 yX5_isFiling wsX5_isFiling) := goodIn_app (goodIn_of _ (by decide +kernel)) ggX5_complain_X5_isFiling
set_option maxRecDepth 20000 in
theorem ggX5_complain_X5_refused : GoodIn wsX5_complain wsX5_refused := goodIn_r _ [15, 16, 48, 49, 50, 51, 52, 53, 54, 55, 56, 57, 58, 59, 60, 61, 62, 63, 64, 65, 66, 67, 68, 69, 70, 71, 72, 73] (by decide +kernel) (by decide +kernel)
set_option maxRecDepth 20000 in
theorem gX5_complain_X5_refused : GoodIn wsX5_complain (wsV RX5 111 RX5 yX5_refused wsX5_refused) := goodIn_app (goodIn_of _ (by decide +kernel)) ggX5_complain_X5_refused
set_option maxRecDepth 20000 in
theorem ggX5_complain_X5_isAhead : GoodIn wsX5_complain wsX5_isAhead := goodIn_r _ [20, 21, 1, 48, 49, 50, 51, 52, 53, 54, 55, 56, 57, 58, 59, 60, 61, 62, 63, 64, 65, 66, 67, 68, 69, 70, 71, 72, 73] (by decide +kernel) (by decide +kernel)
set_option maxRecDepth 20000 in
theorem gX5_complain_X5_isAhead : GoodIn wsX5_complain (wsV RX5 97 RX5 yX5_isAhead wsX5_isAhead) := goodIn_app (goodIn_of _ (by decide +kernel)) ggX5_complain_X5_isAhead
set_option maxRecDepth 20000 in
theorem ggX5_complain_X5_harmOf : GoodIn wsX5_complain wsX5_harmOf := goodIn_r _ [25, 26, 27, 28, 29, 30, 6, 31, 32, 1, 33, 34, 35, 48, 49, 50, 51, 52, 53, 54, 55, 56, 57, 58, 59, 60, 61, 62, 63, 64, 65, 66, 67, 68, 69, 70, 71, 72, 73] (by decide +kernel) (by decide +kernel)
set_option maxRecDepth 20000 in
theorem gX5_complain_X5_harmOf : GoodIn wsX5_complain (wsV RX5 101 RX5 yX5_harmOf wsX5_harmOf) := goodIn_app (goodIn_of _ (by decide +kernel)) ggX5_complain_X5_harmOf
set_option maxRecDepth 20000 in
theorem ggX5_complain_X5_freely : GoodIn wsX5_complain wsX5_freely := goodIn_r _ [39, 40, 48, 49, 50, 51, 52, 53, 54, 55, 56, 57, 58, 59, 60, 61, 62, 63, 64, 65, 66, 67, 68, 69, 70, 71, 72, 73] (by decide +kernel) (by decide +kernel)
set_option maxRecDepth 20000 in
theorem gX5_complain_X5_freely : GoodIn wsX5_complain (wsV RX5 104 RX5 yX5_freely wsX5_freely) := goodIn_app (goodIn_of _ (by decide +kernel)) ggX5_complain_X5_freely
set_option maxRecDepth 20000 in
theorem ggX5_complain_X5_suspend : GoodIn wsX5_complain wsX5_suspend := goodIn_r _ [44, 1, 45, 46, 47, 48, 49, 50, 51, 52, 53, 54, 55, 56, 57, 58, 59, 60, 61, 62, 63, 64, 65, 66, 67, 68, 69, 70, 71, 72, 73] (by decide +kernel) (by decide +kernel)
set_option maxRecDepth 20000 in
theorem gX5_complain_X5_suspend : GoodIn wsX5_complain (wsV RX5 127 RX5 yX5_suspend wsX5_suspend) := goodIn_app (goodIn_of _ (by decide +kernel)) ggX5_complain_X5_suspend
theorem dX5_complain_0 : decode cX5_complain 0 = .ok (.aload_n 0, 1) := by decide +kernel
theorem dX5_complain_1 : decode cX5_complain 1 = .ok (.iload_n 1, 1) := by decide +kernel
theorem dX5_complain_2 : decode cX5_complain 2 = .ok (.invokevirtual 120, 3) := by decide +kernel
theorem dX5_complain_5 : decode cX5_complain 5 = .ok (.ifCond .eq 15, 3) := by decide +kernel
theorem dX5_complain_8 : decode cX5_complain 8 = .ok (.aload_n 0, 1) := by decide +kernel
theorem dX5_complain_9 : decode cX5_complain 9 = .ok (.iload_n 2, 1) := by decide +kernel
theorem dX5_complain_10 : decode cX5_complain 10 = .ok (.invokevirtual 120, 3) := by decide +kernel
theorem dX5_complain_13 : decode cX5_complain 13 = .ok (.ifCond .eq 7, 3) := by decide +kernel
theorem dX5_complain_16 : decode cX5_complain 16 = .ok (.iconst 1, 1) := by decide +kernel
theorem dX5_complain_17 : decode cX5_complain 17 = .ok (.goto 4, 3) := by decide +kernel
theorem dX5_complain_20 : decode cX5_complain 20 = .ok (.iconst 0, 1) := by decide +kernel
theorem dX5_complain_21 : decode cX5_complain 21 = .ok (.istore_n 3, 1) := by decide +kernel
theorem dX5_complain_22 : decode cX5_complain 22 = .ok (.aload_n 0, 1) := by decide +kernel
theorem dX5_complain_23 : decode cX5_complain 23 = .ok (.iload_n 3, 1) := by decide +kernel
theorem dX5_complain_24 : decode cX5_complain 24 = .ok (.ifCond .ne 7, 3) := by decide +kernel
theorem dX5_complain_27 : decode cX5_complain 27 = .ok (.iconst 1, 1) := by decide +kernel
theorem dX5_complain_28 : decode cX5_complain 28 = .ok (.goto 28, 3) := by decide +kernel
theorem dX5_complain_31 : decode cX5_complain 31 = .ok (.aload_n 0, 1) := by decide +kernel
theorem dX5_complain_32 : decode cX5_complain 32 = .ok (.getfield 25, 3) := by decide +kernel
theorem dX5_complain_35 : decode cX5_complain 35 = .ok (.iload_n 1, 1) := by decide +kernel
theorem dX5_complain_36 : decode cX5_complain 36 = .ok (.iaload, 1) := by decide +kernel
theorem dX5_complain_37 : decode cX5_complain 37 = .ok (.iconst 2, 1) := by decide +kernel
theorem dX5_complain_38 : decode cX5_complain 38 = .ok (.if_icmp .ne 13, 3) := by decide +kernel
theorem dX5_complain_41 : decode cX5_complain 41 = .ok (.aload_n 0, 1) := by decide +kernel
theorem dX5_complain_42 : decode cX5_complain 42 = .ok (.getfield 25, 3) := by decide +kernel
theorem dX5_complain_45 : decode cX5_complain 45 = .ok (.iload_n 2, 1) := by decide +kernel
theorem dX5_complain_46 : decode cX5_complain 46 = .ok (.iaload, 1) := by decide +kernel
theorem dX5_complain_47 : decode cX5_complain 47 = .ok (.iconst 2, 1) := by decide +kernel
theorem dX5_complain_48 : decode cX5_complain 48 = .ok (.if_icmp .eq 7, 3) := by decide +kernel
theorem dX5_complain_51 : decode cX5_complain 51 = .ok (.iconst 2, 1) := by decide +kernel
theorem dX5_complain_52 : decode cX5_complain 52 = .ok (.goto 4, 3) := by decide +kernel
theorem dX5_complain_55 : decode cX5_complain 55 = .ok (.iconst 0, 1) := by decide +kernel
theorem dX5_complain_56 : decode cX5_complain 56 = .ok (.invokevirtual 111, 3) := by decide +kernel
theorem dX5_complain_59 : decode cX5_complain 59 = .ok (.ifCond .eq 5, 3) := by decide +kernel
theorem dX5_complain_62 : decode cX5_complain 62 = .ok (.iconst 0, 1) := by decide +kernel
theorem dX5_complain_63 : decode cX5_complain 63 = .ok (.ireturn, 1) := by decide +kernel
theorem dX5_complain_64 : decode cX5_complain 64 = .ok (.aload_n 0, 1) := by decide +kernel
theorem dX5_complain_65 : decode cX5_complain 65 = .ok (.getfield 28, 3) := by decide +kernel
theorem dX5_complain_68 : decode cX5_complain 68 = .ok (.iload_n 2, 1) := by decide +kernel
theorem dX5_complain_69 : decode cX5_complain 69 = .ok (.baload, 1) := by decide +kernel
theorem dX5_complain_70 : decode cX5_complain 70 = .ok (.ifCond .eq 31, 3) := by decide +kernel
theorem dX5_complain_73 : decode cX5_complain 73 = .ok (.aload_n 0, 1) := by decide +kernel
theorem dX5_complain_74 : decode cX5_complain 74 = .ok (.iload_n 1, 1) := by decide +kernel
theorem dX5_complain_75 : decode cX5_complain 75 = .ok (.iload_n 2, 1) := by decide +kernel
theorem dX5_complain_76 : decode cX5_complain 76 = .ok (.invokevirtual 97, 3) := by decide +kernel
theorem dX5_complain_79 : decode cX5_complain 79 = .ok (.ifCond .eq 22, 3) := by decide +kernel
theorem dX5_complain_82 : decode cX5_complain 82 = .ok (.aload_n 0, 1) := by decide +kernel
theorem dX5_complain_83 : decode cX5_complain 83 = .ok (.iload_n 2, 1) := by decide +kernel
theorem dX5_complain_84 : decode cX5_complain 84 = .ok (.iload_n 1, 1) := by decide +kernel
theorem dX5_complain_85 : decode cX5_complain 85 = .ok (.invokevirtual 101, 3) := by decide +kernel
theorem dX5_complain_88 : decode cX5_complain 88 = .ok (.aload_n 0, 1) := by decide +kernel
theorem dX5_complain_89 : decode cX5_complain 89 = .ok (.iload_n 2, 1) := by decide +kernel
theorem dX5_complain_90 : decode cX5_complain 90 = .ok (.iload_n 1, 1) := by decide +kernel
theorem dX5_complain_91 : decode cX5_complain 91 = .ok (.invokevirtual 104, 3) := by decide +kernel
theorem dX5_complain_94 : decode cX5_complain 94 = .ok (.if_icmp .le 7, 3) := by decide +kernel
theorem dX5_complain_97 : decode cX5_complain 97 = .ok (.iconst 1, 1) := by decide +kernel
theorem dX5_complain_98 : decode cX5_complain 98 = .ok (.goto 4, 3) := by decide +kernel
theorem dX5_complain_101 : decode cX5_complain 101 = .ok (.iconst 0, 1) := by decide +kernel
theorem dX5_complain_102 : decode cX5_complain 102 = .ok (.istore 4, 2) := by decide +kernel
theorem dX5_complain_104 : decode cX5_complain 104 = .ok (.iload 4, 2) := by decide +kernel
theorem dX5_complain_106 : decode cX5_complain 106 = .ok (.ifCond .eq 8, 3) := by decide +kernel
theorem dX5_complain_109 : decode cX5_complain 109 = .ok (.aload_n 0, 1) := by decide +kernel
theorem dX5_complain_110 : decode cX5_complain 110 = .ok (.iload_n 2, 1) := by decide +kernel
theorem dX5_complain_111 : decode cX5_complain 111 = .ok (.invokevirtual 127, 3) := by decide +kernel
theorem dX5_complain_114 : decode cX5_complain 114 = .ok (.iload 4, 2) := by decide +kernel
theorem dX5_complain_116 : decode cX5_complain 116 = .ok (.ireturn, 1) := by decide +kernel
set_option maxRecDepth 20000 in
theorem ggX5_launch_X5_in : GoodIn wsX5_launch wsX5_in := goodIn_r _ [12] (by decide +kernel) (by decide +kernel)
set_option maxRecDepth 20000 in
theorem gX5_launch_X5_in : GoodIn wsX5_launch (va_wsS RX5 82 yX5_in wsX5_in) := goodIn_app (goodIn_of _ (by decide +kernel)) ggX5_launch_X5_in
set_option maxRecDepth 20000 in
theorem ggX5_launch_X5_isSlot : GoodIn wsX5_launch wsX5_isSlot := goodIn_r _ [15, 9, 10, 11, 12] (by decide +kernel) (by decide +kernel)
set_option maxRecDepth 20000 in
theorem gX5_launch_X5_isSlot : GoodIn wsX5_launch (va_wsS RX5 107 yX5_isSlot wsX5_isSlot) := goodIn_app (goodIn_of _ (by decide +kernel)) ggX5_launch_X5_isSlot
set_option maxRecDepth 20000 in
theorem ggX5_launch_X5_refused : GoodIn wsX5_launch wsX5_refused := goodIn_r _ [19, 20, 21, 22, 23, 24, 25, 26, 27, 28, 29, 30, 31, 32, 33, 34, 35, 36, 37, 38, 39, 40, 41, 42, 43, 44, 45, 46] (by decide +kernel) (by decide +kernel)
set_option maxRecDepth 20000 in
theorem gX5_launch_X5_refused : GoodIn wsX5_launch (wsV RX5 111 RX5 yX5_refused wsX5_refused) := goodIn_app (goodIn_of _ (by decide +kernel)) ggX5_launch_X5_refused
theorem dX5_launch_0 : decode cX5_launch 0 = .ok (.iload_n 1, 1) := by decide +kernel
theorem dX5_launch_1 : decode cX5_launch 1 = .ok (.iconst 1, 1) := by decide +kernel
theorem dX5_launch_2 : decode cX5_launch 2 = .ok (.sipush 255, 3) := by decide +kernel
theorem dX5_launch_5 : decode cX5_launch 5 = .ok (.invokestatic 82, 3) := by decide +kernel
theorem dX5_launch_8 : decode cX5_launch 8 = .ok (.ifCond .eq 17, 3) := by decide +kernel
theorem dX5_launch_11 : decode cX5_launch 11 = .ok (.iload_n 3, 1) := by decide +kernel
theorem dX5_launch_12 : decode cX5_launch 12 = .ok (.iconst 0, 1) := by decide +kernel
theorem dX5_launch_13 : decode cX5_launch 13 = .ok (.bipush 20, 2) := by decide +kernel
theorem dX5_launch_15 : decode cX5_launch 15 = .ok (.invokestatic 82, 3) := by decide +kernel
theorem dX5_launch_18 : decode cX5_launch 18 = .ok (.ifCond .eq 7, 3) := by decide +kernel
theorem dX5_launch_21 : decode cX5_launch 21 = .ok (.iconst 1, 1) := by decide +kernel
theorem dX5_launch_22 : decode cX5_launch 22 = .ok (.goto 4, 3) := by decide +kernel
theorem dX5_launch_25 : decode cX5_launch 25 = .ok (.iconst 0, 1) := by decide +kernel
theorem dX5_launch_26 : decode cX5_launch 26 = .ok (.istore 5, 2) := by decide +kernel
theorem dX5_launch_28 : decode cX5_launch 28 = .ok (.aload_n 0, 1) := by decide +kernel
theorem dX5_launch_29 : decode cX5_launch 29 = .ok (.iload_n 2, 1) := by decide +kernel
theorem dX5_launch_30 : decode cX5_launch 30 = .ok (.invokestatic 107, 3) := by decide +kernel
theorem dX5_launch_33 : decode cX5_launch 33 = .ok (.ifCond .ne 7, 3) := by decide +kernel
theorem dX5_launch_36 : decode cX5_launch 36 = .ok (.iconst 1, 1) := by decide +kernel
theorem dX5_launch_37 : decode cX5_launch 37 = .ok (.goto 26, 3) := by decide +kernel
theorem dX5_launch_40 : decode cX5_launch 40 = .ok (.iload 5, 2) := by decide +kernel
theorem dX5_launch_42 : decode cX5_launch 42 = .ok (.ifCond .ne 7, 3) := by decide +kernel
theorem dX5_launch_45 : decode cX5_launch 45 = .ok (.iconst 2, 1) := by decide +kernel
theorem dX5_launch_46 : decode cX5_launch 46 = .ok (.goto 17, 3) := by decide +kernel
theorem dX5_launch_49 : decode cX5_launch 49 = .ok (.aload_n 0, 1) := by decide +kernel
theorem dX5_launch_50 : decode cX5_launch 50 = .ok (.getfield 86, 3) := by decide +kernel
theorem dX5_launch_53 : decode cX5_launch 53 = .ok (.bipush 16, 2) := by decide +kernel
theorem dX5_launch_55 : decode cX5_launch 55 = .ok (.if_icmp .ne 7, 3) := by decide +kernel
theorem dX5_launch_58 : decode cX5_launch 58 = .ok (.iconst 3, 1) := by decide +kernel
theorem dX5_launch_59 : decode cX5_launch 59 = .ok (.goto 4, 3) := by decide +kernel
theorem dX5_launch_62 : decode cX5_launch 62 = .ok (.iconst 0, 1) := by decide +kernel
theorem dX5_launch_63 : decode cX5_launch 63 = .ok (.invokevirtual 111, 3) := by decide +kernel
theorem dX5_launch_66 : decode cX5_launch 66 = .ok (.ifCond .eq 5, 3) := by decide +kernel
theorem dX5_launch_69 : decode cX5_launch 69 = .ok (.iconst 0, 1) := by decide +kernel
theorem dX5_launch_70 : decode cX5_launch 70 = .ok (.ireturn, 1) := by decide +kernel
theorem dX5_launch_71 : decode cX5_launch 71 = .ok (.iconst 0, 1) := by decide +kernel
theorem dX5_launch_72 : decode cX5_launch 72 = .ok (.istore 6, 2) := by decide +kernel
theorem dX5_launch_74 : decode cX5_launch 74 = .ok (.iload_n 1, 1) := by decide +kernel
theorem dX5_launch_75 : decode cX5_launch 75 = .ok (.iload 6, 2) := by decide +kernel
theorem dX5_launch_77 : decode cX5_launch 77 = .ok (.ishr, 1) := by decide +kernel
theorem dX5_launch_78 : decode cX5_launch 78 = .ok (.iconst 1, 1) := by decide +kernel
theorem dX5_launch_79 : decode cX5_launch 79 = .ok (.iand, 1) := by decide +kernel
theorem dX5_launch_80 : decode cX5_launch 80 = .ok (.ifCond .ne 9, 3) := by decide +kernel
theorem dX5_launch_83 : decode cX5_launch 83 = .ok (.iinc 6 1, 3) := by decide +kernel
theorem dX5_launch_86 : decode cX5_launch 86 = .ok (.goto (-12), 3) := by decide +kernel
theorem dX5_launch_89 : decode cX5_launch 89 = .ok (.aload_n 0, 1) := by decide +kernel
theorem dX5_launch_90 : decode cX5_launch 90 = .ok (.getfield 44, 3) := by decide +kernel
theorem dX5_launch_93 : decode cX5_launch 93 = .ok (.aload_n 0, 1) := by decide +kernel
theorem dX5_launch_94 : decode cX5_launch 94 = .ok (.getfield 86, 3) := by decide +kernel
theorem dX5_launch_97 : decode cX5_launch 97 = .ok (.iload_n 1, 1) := by decide +kernel
theorem dX5_launch_98 : decode cX5_launch 98 = .ok (.iastore, 1) := by decide +kernel
theorem dX5_launch_99 : decode cX5_launch 99 = .ok (.aload_n 0, 1) := by decide +kernel
theorem dX5_launch_100 : decode cX5_launch 100 = .ok (.getfield 47, 3) := by decide +kernel
theorem dX5_launch_103 : decode cX5_launch 103 = .ok (.aload_n 0, 1) := by decide +kernel
theorem dX5_launch_104 : decode cX5_launch 104 = .ok (.getfield 86, 3) := by decide +kernel
theorem dX5_launch_107 : decode cX5_launch 107 = .ok (.iload 6, 2) := by decide +kernel
theorem dX5_launch_109 : decode cX5_launch 109 = .ok (.iastore, 1) := by decide +kernel
theorem dX5_launch_110 : decode cX5_launch 110 = .ok (.aload_n 0, 1) := by decide +kernel
theorem dX5_launch_111 : decode cX5_launch 111 = .ok (.getfield 53, 3) := by decide +kernel
theorem dX5_launch_114 : decode cX5_launch 114 = .ok (.aload_n 0, 1) := by decide +kernel
theorem dX5_launch_115 : decode cX5_launch 115 = .ok (.getfield 86, 3) := by decide +kernel
theorem dX5_launch_118 : decode cX5_launch 118 = .ok (.iload_n 2, 1) := by decide +kernel
theorem dX5_launch_119 : decode cX5_launch 119 = .ok (.iastore, 1) := by decide +kernel
theorem dX5_launch_120 : decode cX5_launch 120 = .ok (.aload_n 0, 1) := by decide +kernel
theorem dX5_launch_121 : decode cX5_launch 121 = .ok (.getfield 56, 3) := by decide +kernel
theorem dX5_launch_124 : decode cX5_launch 124 = .ok (.aload_n 0, 1) := by decide +kernel
theorem dX5_launch_125 : decode cX5_launch 125 = .ok (.getfield 86, 3) := by decide +kernel
theorem dX5_launch_128 : decode cX5_launch 128 = .ok (.iload_n 3, 1) := by decide +kernel
theorem dX5_launch_129 : decode cX5_launch 129 = .ok (.iastore, 1) := by decide +kernel
theorem dX5_launch_130 : decode cX5_launch 130 = .ok (.aload_n 0, 1) := by decide +kernel
theorem dX5_launch_131 : decode cX5_launch 131 = .ok (.getfield 59, 3) := by decide +kernel
theorem dX5_launch_134 : decode cX5_launch 134 = .ok (.aload_n 0, 1) := by decide +kernel
theorem dX5_launch_135 : decode cX5_launch 135 = .ok (.getfield 86, 3) := by decide +kernel
theorem dX5_launch_138 : decode cX5_launch 138 = .ok (.aload_n 0, 1) := by decide +kernel
theorem dX5_launch_139 : decode cX5_launch 139 = .ok (.getfield 117, 3) := by decide +kernel
theorem dX5_launch_142 : decode cX5_launch 142 = .ok (.iastore, 1) := by decide +kernel
theorem dX5_launch_143 : decode cX5_launch 143 = .ok (.aload_n 0, 1) := by decide +kernel
theorem dX5_launch_144 : decode cX5_launch 144 = .ok (.getfield 62, 3) := by decide +kernel
theorem dX5_launch_147 : decode cX5_launch 147 = .ok (.aload_n 0, 1) := by decide +kernel
theorem dX5_launch_148 : decode cX5_launch 148 = .ok (.getfield 86, 3) := by decide +kernel
theorem dX5_launch_151 : decode cX5_launch 151 = .ok (.iload 4, 2) := by decide +kernel
theorem dX5_launch_153 : decode cX5_launch 153 = .ok (.bastore, 1) := by decide +kernel
theorem dX5_launch_154 : decode cX5_launch 154 = .ok (.aload_n 0, 1) := by decide +kernel
theorem dX5_launch_155 : decode cX5_launch 155 = .ok (.dup, 1) := by decide +kernel
theorem dX5_launch_156 : decode cX5_launch 156 = .ok (.getfield 86, 3) := by decide +kernel
theorem dX5_launch_159 : decode cX5_launch 159 = .ok (.iconst 1, 1) := by decide +kernel
theorem dX5_launch_160 : decode cX5_launch 160 = .ok (.iadd, 1) := by decide +kernel
theorem dX5_launch_161 : decode cX5_launch 161 = .ok (.putfield 86, 3) := by decide +kernel
theorem dX5_launch_164 : decode cX5_launch 164 = .ok (.aload_n 0, 1) := by decide +kernel
theorem dX5_launch_165 : decode cX5_launch 165 = .ok (.getfield 86, 3) := by decide +kernel
theorem dX5_launch_168 : decode cX5_launch 168 = .ok (.iconst 1, 1) := by decide +kernel
theorem dX5_launch_169 : decode cX5_launch 169 = .ok (.isub, 1) := by decide +kernel
theorem dX5_launch_170 : decode cX5_launch 170 = .ok (.ireturn, 1) := by decide +kernel
set_option maxRecDepth 20000 in
theorem ggX5_register_X5_isSatellite : GoodIn wsX5_register wsX5_isSatellite := goodIn_r _ [7, 8, 9, 10, 6, 11, 17, 18, 19, 20, 21, 22, 23, 24, 25, 26, 27, 28, 29, 30, 31, 32, 33, 34, 35, 36, 37, 38, 39, 40, 41, 42] (by decide +kernel) (by decide +kernel)
set_option maxRecDepth 20000 in
theorem gX5_register_X5_isSatellite : GoodIn wsX5_register (wsV RX5 134 RX5 yX5_isSatellite wsX5_isSatellite) := goodIn_app (goodIn_of _ (by decide +kernel)) ggX5_register_X5_isSatellite
set_option maxRecDepth 20000 in
theorem ggX5_register_X5_in : GoodIn wsX5_register wsX5_in := goodIn_r _ [11] (by decide +kernel) (by decide +kernel)
set_option maxRecDepth 20000 in
theorem gX5_register_X5_in : GoodIn wsX5_register (va_wsS RX5 82 yX5_in wsX5_in) := goodIn_app (goodIn_of _ (by decide +kernel)) ggX5_register_X5_in
set_option maxRecDepth 20000 in
theorem ggX5_register_X5_refused : GoodIn wsX5_register wsX5_refused := goodIn_r _ [15, 16, 17, 18, 19, 20, 21, 22, 23, 24, 25, 26, 27, 28, 29, 30, 31, 32, 33, 34, 35, 36, 37, 38, 39, 40, 41, 42] (by decide +kernel) (by decide +kernel)
set_option maxRecDepth 20000 in
theorem gX5_register_X5_refused : GoodIn wsX5_register (wsV RX5 111 RX5 yX5_refused wsX5_refused) := goodIn_app (goodIn_of _ (by decide +kernel)) ggX5_register_X5_refused
theorem dX5_register_0 : decode cX5_register 0 = .ok (.aload_n 0, 1) := by decide +kernel
theorem dX5_register_1 : decode cX5_register 1 = .ok (.iload_n 1, 1) := by decide +kernel
theorem dX5_register_2 : decode cX5_register 2 = .ok (.invokevirtual 134, 3) := by decide +kernel
theorem dX5_register_5 : decode cX5_register 5 = .ok (.ifCond .eq 17, 3) := by decide +kernel
theorem dX5_register_8 : decode cX5_register 8 = .ok (.iload_n 2, 1) := by decide +kernel
theorem dX5_register_9 : decode cX5_register 9 = .ok (.iconst 0, 1) := by decide +kernel
theorem dX5_register_10 : decode cX5_register 10 = .ok (.bipush 7, 2) := by decide +kernel
theorem dX5_register_12 : decode cX5_register 12 = .ok (.invokestatic 82, 3) := by decide +kernel
theorem dX5_register_15 : decode cX5_register 15 = .ok (.ifCond .eq 7, 3) := by decide +kernel
theorem dX5_register_18 : decode cX5_register 18 = .ok (.iconst 1, 1) := by decide +kernel
theorem dX5_register_19 : decode cX5_register 19 = .ok (.goto 4, 3) := by decide +kernel
theorem dX5_register_22 : decode cX5_register 22 = .ok (.iconst 0, 1) := by decide +kernel
theorem dX5_register_23 : decode cX5_register 23 = .ok (.istore_n 3, 1) := by decide +kernel
theorem dX5_register_24 : decode cX5_register 24 = .ok (.aload_n 0, 1) := by decide +kernel
theorem dX5_register_25 : decode cX5_register 25 = .ok (.iload_n 3, 1) := by decide +kernel
theorem dX5_register_26 : decode cX5_register 26 = .ok (.ifCond .ne 7, 3) := by decide +kernel
theorem dX5_register_29 : decode cX5_register 29 = .ok (.iconst 1, 1) := by decide +kernel
theorem dX5_register_30 : decode cX5_register 30 = .ok (.goto 21, 3) := by decide +kernel
theorem dX5_register_33 : decode cX5_register 33 = .ok (.aload_n 0, 1) := by decide +kernel
theorem dX5_register_34 : decode cX5_register 34 = .ok (.getfield 44, 3) := by decide +kernel
theorem dX5_register_37 : decode cX5_register 37 = .ok (.iload_n 1, 1) := by decide +kernel
theorem dX5_register_38 : decode cX5_register 38 = .ok (.iaload, 1) := by decide +kernel
theorem dX5_register_39 : decode cX5_register 39 = .ok (.iload_n 2, 1) := by decide +kernel
theorem dX5_register_40 : decode cX5_register 40 = .ok (.ishr, 1) := by decide +kernel
theorem dX5_register_41 : decode cX5_register 41 = .ok (.iconst 1, 1) := by decide +kernel
theorem dX5_register_42 : decode cX5_register 42 = .ok (.iand, 1) := by decide +kernel
theorem dX5_register_43 : decode cX5_register 43 = .ok (.ifCond .ne 7, 3) := by decide +kernel
theorem dX5_register_46 : decode cX5_register 46 = .ok (.iconst 2, 1) := by decide +kernel
theorem dX5_register_47 : decode cX5_register 47 = .ok (.goto 4, 3) := by decide +kernel
theorem dX5_register_50 : decode cX5_register 50 = .ok (.iconst 0, 1) := by decide +kernel
theorem dX5_register_51 : decode cX5_register 51 = .ok (.invokevirtual 111, 3) := by decide +kernel
theorem dX5_register_54 : decode cX5_register 54 = .ok (.ifCond .eq 5, 3) := by decide +kernel
theorem dX5_register_57 : decode cX5_register 57 = .ok (.iconst 0, 1) := by decide +kernel
theorem dX5_register_58 : decode cX5_register 58 = .ok (.ireturn, 1) := by decide +kernel
theorem dX5_register_59 : decode cX5_register 59 = .ok (.aload_n 0, 1) := by decide +kernel
theorem dX5_register_60 : decode cX5_register 60 = .ok (.getfield 47, 3) := by decide +kernel
theorem dX5_register_63 : decode cX5_register 63 = .ok (.iload_n 1, 1) := by decide +kernel
theorem dX5_register_64 : decode cX5_register 64 = .ok (.iaload, 1) := by decide +kernel
theorem dX5_register_65 : decode cX5_register 65 = .ok (.istore 4, 2) := by decide +kernel
theorem dX5_register_67 : decode cX5_register 67 = .ok (.aload_n 0, 1) := by decide +kernel
theorem dX5_register_68 : decode cX5_register 68 = .ok (.getfield 47, 3) := by decide +kernel
theorem dX5_register_71 : decode cX5_register 71 = .ok (.iload_n 1, 1) := by decide +kernel
theorem dX5_register_72 : decode cX5_register 72 = .ok (.iload_n 2, 1) := by decide +kernel
theorem dX5_register_73 : decode cX5_register 73 = .ok (.iastore, 1) := by decide +kernel
theorem dX5_register_74 : decode cX5_register 74 = .ok (.iload 4, 2) := by decide +kernel
theorem dX5_register_76 : decode cX5_register 76 = .ok (.ireturn, 1) := by decide +kernel
theorem dX5_served_0 : decode cX5_served 0 = .ok (.iconst 0, 1) := by decide +kernel
theorem dX5_served_1 : decode cX5_served 1 = .ok (.istore_n 2, 1) := by decide +kernel
theorem dX5_served_2 : decode cX5_served 2 = .ok (.iconst 0, 1) := by decide +kernel
theorem dX5_served_3 : decode cX5_served 3 = .ok (.istore_n 3, 1) := by decide +kernel
theorem dX5_served_4 : decode cX5_served 4 = .ok (.iload_n 3, 1) := by decide +kernel
theorem dX5_served_5 : decode cX5_served 5 = .ok (.aload_n 0, 1) := by decide +kernel
theorem dX5_served_6 : decode cX5_served 6 = .ok (.getfield 79, 3) := by decide +kernel
theorem dX5_served_9 : decode cX5_served 9 = .ok (.if_icmp .ge 27, 3) := by decide +kernel
theorem dX5_served_12 : decode cX5_served 12 = .ok (.iload_n 2, 1) := by decide +kernel
theorem dX5_served_13 : decode cX5_served 13 = .ok (.aload_n 0, 1) := by decide +kernel
theorem dX5_served_14 : decode cX5_served 14 = .ok (.getfield 32, 3) := by decide +kernel
theorem dX5_served_17 : decode cX5_served 17 = .ok (.iload_n 3, 1) := by decide +kernel
theorem dX5_served_18 : decode cX5_served 18 = .ok (.iaload, 1) := by decide +kernel
theorem dX5_served_19 : decode cX5_served 19 = .ok (.iload_n 1, 1) := by decide +kernel
theorem dX5_served_20 : decode cX5_served 20 = .ok (.if_icmp .ne 7, 3) := by decide +kernel
theorem dX5_served_23 : decode cX5_served 23 = .ok (.iconst 1, 1) := by decide +kernel
theorem dX5_served_24 : decode cX5_served 24 = .ok (.goto 4, 3) := by decide +kernel
theorem dX5_served_27 : decode cX5_served 27 = .ok (.iconst 0, 1) := by decide +kernel
theorem dX5_served_28 : decode cX5_served 28 = .ok (.iadd, 1) := by decide +kernel
theorem dX5_served_29 : decode cX5_served 29 = .ok (.istore_n 2, 1) := by decide +kernel
theorem dX5_served_30 : decode cX5_served 30 = .ok (.iinc 3 1, 3) := by decide +kernel
theorem dX5_served_33 : decode cX5_served 33 = .ok (.goto (-29), 3) := by decide +kernel
theorem dX5_served_36 : decode cX5_served 36 = .ok (.iload_n 2, 1) := by decide +kernel
theorem dX5_served_37 : decode cX5_served 37 = .ok (.ireturn, 1) := by decide +kernel
set_option maxRecDepth 20000 in
theorem ggX5_leaves_X5_served : GoodIn wsX5_leaves wsX5_served := goodIn_r _ [7, 1, 2, 15, 16, 17, 18, 19, 20, 21, 22, 23, 24, 25, 26, 27, 28, 29, 30, 31, 32, 33, 34, 35, 36, 37, 38, 39, 40] (by decide +kernel) (by decide +kernel)
set_option maxRecDepth 20000 in
theorem gX5_leaves_X5_served : GoodIn wsX5_leaves (wsV RX5 140 RX5 yX5_served wsX5_served) := goodIn_app (goodIn_of _ (by decide +kernel)) ggX5_leaves_X5_served
set_option maxRecDepth 20000 in
theorem ggX5_leaves_X5_suspend : GoodIn wsX5_leaves wsX5_suspend := goodIn_r _ [11, 12, 2, 13, 14, 15, 16, 17, 18, 19, 20, 21, 22, 23, 24, 25, 26, 27, 28, 29, 30, 31, 32, 33, 34, 35, 36, 37, 38, 39, 40] (by decide +kernel) (by decide +kernel)
set_option maxRecDepth 20000 in
theorem gX5_leaves_X5_suspend : GoodIn wsX5_leaves (wsV RX5 127 RX5 yX5_suspend wsX5_suspend) := goodIn_app (goodIn_of _ (by decide +kernel)) ggX5_leaves_X5_suspend
theorem dX5_leaves_0 : decode cX5_leaves 0 = .ok (.aload_n 0, 1) := by decide +kernel
theorem dX5_leaves_1 : decode cX5_leaves 1 = .ok (.iload_n 1, 1) := by decide +kernel
theorem dX5_leaves_2 : decode cX5_leaves 2 = .ok (.invokevirtual 140, 3) := by decide +kernel
theorem dX5_leaves_5 : decode cX5_leaves 5 = .ok (.istore_n 2, 1) := by decide +kernel
theorem dX5_leaves_6 : decode cX5_leaves 6 = .ok (.iconst 0, 1) := by decide +kernel
theorem dX5_leaves_7 : decode cX5_leaves 7 = .ok (.istore_n 3, 1) := by decide +kernel
theorem dX5_leaves_8 : decode cX5_leaves 8 = .ok (.iload_n 3, 1) := by decide +kernel
theorem dX5_leaves_9 : decode cX5_leaves 9 = .ok (.aload_n 0, 1) := by decide +kernel
theorem dX5_leaves_10 : decode cX5_leaves 10 = .ok (.getfield 79, 3) := by decide +kernel
theorem dX5_leaves_13 : decode cX5_leaves 13 = .ok (.if_icmp .ge 24, 3) := by decide +kernel
theorem dX5_leaves_16 : decode cX5_leaves 16 = .ok (.aload_n 0, 1) := by decide +kernel
theorem dX5_leaves_17 : decode cX5_leaves 17 = .ok (.getfield 32, 3) := by decide +kernel
theorem dX5_leaves_20 : decode cX5_leaves 20 = .ok (.iload_n 3, 1) := by decide +kernel
theorem dX5_leaves_21 : decode cX5_leaves 21 = .ok (.iaload, 1) := by decide +kernel
theorem dX5_leaves_22 : decode cX5_leaves 22 = .ok (.iload_n 1, 1) := by decide +kernel
theorem dX5_leaves_23 : decode cX5_leaves 23 = .ok (.if_icmp .ne 8, 3) := by decide +kernel
theorem dX5_leaves_26 : decode cX5_leaves 26 = .ok (.aload_n 0, 1) := by decide +kernel
theorem dX5_leaves_27 : decode cX5_leaves 27 = .ok (.iload_n 3, 1) := by decide +kernel
theorem dX5_leaves_28 : decode cX5_leaves 28 = .ok (.invokevirtual 127, 3) := by decide +kernel
theorem dX5_leaves_31 : decode cX5_leaves 31 = .ok (.iinc 3 1, 3) := by decide +kernel
theorem dX5_leaves_34 : decode cX5_leaves 34 = .ok (.goto (-26), 3) := by decide +kernel
theorem dX5_leaves_37 : decode cX5_leaves 37 = .ok (.iload_n 2, 1) := by decide +kernel
theorem dX5_leaves_38 : decode cX5_leaves 38 = .ok (.ireturn, 1) := by decide +kernel
set_option maxRecDepth 20000 in
theorem ggX5_move_X5_isSatellite : GoodIn wsX5_move wsX5_isSatellite := goodIn_r _ [10, 11, 12, 13, 9, 14, 39, 40, 41, 42, 43, 44, 45, 46, 47, 48, 49, 50, 51, 52, 53, 54, 55, 56, 57, 58, 59, 60, 61, 62, 63, 64] (by decide +kernel) (by decide +kernel)
set_option maxRecDepth 20000 in
theorem gX5_move_X5_isSatellite : GoodIn wsX5_move (wsV RX5 134 RX5 yX5_isSatellite wsX5_isSatellite) := goodIn_app (goodIn_of _ (by decide +kernel)) ggX5_move_X5_isSatellite
set_option maxRecDepth 20000 in
theorem ggX5_move_X5_isSlot : GoodIn wsX5_move wsX5_isSlot := goodIn_r _ [17, 12, 13, 9, 14] (by decide +kernel) (by decide +kernel)
set_option maxRecDepth 20000 in
theorem gX5_move_X5_isSlot : GoodIn wsX5_move (va_wsS RX5 107 yX5_isSlot wsX5_isSlot) := goodIn_app (goodIn_of _ (by decide +kernel)) ggX5_move_X5_isSlot
set_option maxRecDepth 20000 in
theorem ggX5_move_X5_refused : GoodIn wsX5_move wsX5_refused := goodIn_r _ [21, 22, 39, 40, 41, 42, 43, 44, 45, 46, 47, 48, 49, 50, 51, 52, 53, 54, 55, 56, 57, 58, 59, 60, 61, 62, 63, 64] (by decide +kernel) (by decide +kernel)
set_option maxRecDepth 20000 in
theorem gX5_move_X5_refused : GoodIn wsX5_move (wsV RX5 111 RX5 yX5_refused wsX5_refused) := goodIn_app (goodIn_of _ (by decide +kernel)) ggX5_move_X5_refused
set_option maxRecDepth 20000 in
theorem ggX5_move_X5_leaves : GoodIn wsX5_move wsX5_leaves := goodIn_r _ [26, 27, 28, 29, 30, 31, 9, 32, 33, 34, 35, 36, 37, 38, 5, 39, 40, 41, 42, 43, 44, 45, 46, 47, 48, 49, 50, 51, 52, 53, 54, 55, 56, 57, 58, 59, 60, 61, 62, 63, 64] (by decide +kernel) (by decide +kernel)
set_option maxRecDepth 20000 in
theorem gX5_move_X5_leaves : GoodIn wsX5_move (wsV RX5 143 RX5 yX5_leaves wsX5_leaves) := goodIn_app (goodIn_of _ (by decide +kernel)) ggX5_move_X5_leaves
theorem dX5_move_0 : decode cX5_move 0 = .ok (.aload_n 0, 1) := by decide +kernel
theorem dX5_move_1 : decode cX5_move 1 = .ok (.iload_n 1, 1) := by decide +kernel
theorem dX5_move_2 : decode cX5_move 2 = .ok (.invokevirtual 134, 3) := by decide +kernel
theorem dX5_move_5 : decode cX5_move 5 = .ok (.ifCond .eq 14, 3) := by decide +kernel
theorem dX5_move_8 : decode cX5_move 8 = .ok (.iload_n 2, 1) := by decide +kernel
theorem dX5_move_9 : decode cX5_move 9 = .ok (.invokestatic 107, 3) := by decide +kernel
theorem dX5_move_12 : decode cX5_move 12 = .ok (.ifCond .eq 7, 3) := by decide +kernel
theorem dX5_move_15 : decode cX5_move 15 = .ok (.iconst 1, 1) := by decide +kernel
theorem dX5_move_16 : decode cX5_move 16 = .ok (.goto 4, 3) := by decide +kernel
theorem dX5_move_19 : decode cX5_move 19 = .ok (.iconst 0, 1) := by decide +kernel
theorem dX5_move_20 : decode cX5_move 20 = .ok (.istore_n 3, 1) := by decide +kernel
theorem dX5_move_21 : decode cX5_move 21 = .ok (.iload_n 3, 1) := by decide +kernel
theorem dX5_move_22 : decode cX5_move 22 = .ok (.ifCond .eq 35, 3) := by decide +kernel
theorem dX5_move_25 : decode cX5_move 25 = .ok (.aload_n 0, 1) := by decide +kernel
theorem dX5_move_26 : decode cX5_move 26 = .ok (.getfield 50, 3) := by decide +kernel
theorem dX5_move_29 : decode cX5_move 29 = .ok (.iload_n 1, 1) := by decide +kernel
theorem dX5_move_30 : decode cX5_move 30 = .ok (.iaload, 1) := by decide +kernel
theorem dX5_move_31 : decode cX5_move 31 = .ok (.ifCond .ne 26, 3) := by decide +kernel
theorem dX5_move_34 : decode cX5_move 34 = .ok (.aload_n 0, 1) := by decide +kernel
theorem dX5_move_35 : decode cX5_move 35 = .ok (.getfield 56, 3) := by decide +kernel
theorem dX5_move_38 : decode cX5_move 38 = .ok (.iload_n 1, 1) := by decide +kernel
theorem dX5_move_39 : decode cX5_move 39 = .ok (.iaload, 1) := by decide +kernel
theorem dX5_move_40 : decode cX5_move 40 = .ok (.ifCond .le 17, 3) := by decide +kernel
theorem dX5_move_43 : decode cX5_move 43 = .ok (.aload_n 0, 1) := by decide +kernel
theorem dX5_move_44 : decode cX5_move 44 = .ok (.getfield 53, 3) := by decide +kernel
theorem dX5_move_47 : decode cX5_move 47 = .ok (.iload_n 1, 1) := by decide +kernel
theorem dX5_move_48 : decode cX5_move 48 = .ok (.iaload, 1) := by decide +kernel
theorem dX5_move_49 : decode cX5_move 49 = .ok (.iload_n 2, 1) := by decide +kernel
theorem dX5_move_50 : decode cX5_move 50 = .ok (.if_icmp .eq 7, 3) := by decide +kernel
theorem dX5_move_53 : decode cX5_move 53 = .ok (.iconst 1, 1) := by decide +kernel
theorem dX5_move_54 : decode cX5_move 54 = .ok (.goto 4, 3) := by decide +kernel
theorem dX5_move_57 : decode cX5_move 57 = .ok (.iconst 0, 1) := by decide +kernel
theorem dX5_move_58 : decode cX5_move 58 = .ok (.istore 4, 2) := by decide +kernel
theorem dX5_move_60 : decode cX5_move 60 = .ok (.aload_n 0, 1) := by decide +kernel
theorem dX5_move_61 : decode cX5_move 61 = .ok (.iload_n 3, 1) := by decide +kernel
theorem dX5_move_62 : decode cX5_move 62 = .ok (.ifCond .ne 7, 3) := by decide +kernel
theorem dX5_move_65 : decode cX5_move 65 = .ok (.iconst 1, 1) := by decide +kernel
theorem dX5_move_66 : decode cX5_move 66 = .ok (.goto 13, 3) := by decide +kernel
theorem dX5_move_69 : decode cX5_move 69 = .ok (.iload 4, 2) := by decide +kernel
theorem dX5_move_71 : decode cX5_move 71 = .ok (.ifCond .eq 7, 3) := by decide +kernel
theorem dX5_move_74 : decode cX5_move 74 = .ok (.iconst 0, 1) := by decide +kernel
theorem dX5_move_75 : decode cX5_move 75 = .ok (.goto 4, 3) := by decide +kernel
theorem dX5_move_78 : decode cX5_move 78 = .ok (.iconst 2, 1) := by decide +kernel
theorem dX5_move_79 : decode cX5_move 79 = .ok (.invokevirtual 111, 3) := by decide +kernel
theorem dX5_move_82 : decode cX5_move 82 = .ok (.ifCond .eq 5, 3) := by decide +kernel
theorem dX5_move_85 : decode cX5_move 85 = .ok (.iconst 0, 1) := by decide +kernel
theorem dX5_move_86 : decode cX5_move 86 = .ok (.ireturn, 1) := by decide +kernel
theorem dX5_move_87 : decode cX5_move 87 = .ok (.aload_n 0, 1) := by decide +kernel
theorem dX5_move_88 : decode cX5_move 88 = .ok (.getfield 56, 3) := by decide +kernel
theorem dX5_move_91 : decode cX5_move 91 = .ok (.iload_n 1, 1) := by decide +kernel
theorem dX5_move_92 : decode cX5_move 92 = .ok (.dup2, 1) := by decide +kernel
theorem dX5_move_93 : decode cX5_move 93 = .ok (.iaload, 1) := by decide +kernel
theorem dX5_move_94 : decode cX5_move 94 = .ok (.iconst 1, 1) := by decide +kernel
theorem dX5_move_95 : decode cX5_move 95 = .ok (.isub, 1) := by decide +kernel
theorem dX5_move_96 : decode cX5_move 96 = .ok (.iastore, 1) := by decide +kernel
theorem dX5_move_97 : decode cX5_move 97 = .ok (.aload_n 0, 1) := by decide +kernel
theorem dX5_move_98 : decode cX5_move 98 = .ok (.getfield 53, 3) := by decide +kernel
theorem dX5_move_101 : decode cX5_move 101 = .ok (.iload_n 1, 1) := by decide +kernel
theorem dX5_move_102 : decode cX5_move 102 = .ok (.iload_n 2, 1) := by decide +kernel
theorem dX5_move_103 : decode cX5_move 103 = .ok (.iastore, 1) := by decide +kernel
theorem dX5_move_104 : decode cX5_move 104 = .ok (.aload_n 0, 1) := by decide +kernel
theorem dX5_move_105 : decode cX5_move 105 = .ok (.getfield 59, 3) := by decide +kernel
theorem dX5_move_108 : decode cX5_move 108 = .ok (.iload_n 1, 1) := by decide +kernel
theorem dX5_move_109 : decode cX5_move 109 = .ok (.aload_n 0, 1) := by decide +kernel
theorem dX5_move_110 : decode cX5_move 110 = .ok (.getfield 117, 3) := by decide +kernel
theorem dX5_move_113 : decode cX5_move 113 = .ok (.iastore, 1) := by decide +kernel
theorem dX5_move_114 : decode cX5_move 114 = .ok (.aload_n 0, 1) := by decide +kernel
theorem dX5_move_115 : decode cX5_move 115 = .ok (.iload_n 1, 1) := by decide +kernel
theorem dX5_move_116 : decode cX5_move 116 = .ok (.invokevirtual 143, 3) := by decide +kernel
theorem dX5_move_119 : decode cX5_move 119 = .ok (.ireturn, 1) := by decide +kernel
set_option maxRecDepth 20000 in
theorem ggX5_bury_X5_isSatellite : GoodIn wsX5_bury wsX5_isSatellite := goodIn_r _ [8, 9, 10, 11, 7, 12, 35, 36, 37, 38, 39, 40, 41, 42, 43, 44, 45, 46, 47, 48, 49, 50, 51, 52, 53, 54, 55, 56, 57, 58, 59, 60] (by decide +kernel) (by decide +kernel)
set_option maxRecDepth 20000 in
theorem gX5_bury_X5_isSatellite : GoodIn wsX5_bury (wsV RX5 134 RX5 yX5_isSatellite wsX5_isSatellite) := goodIn_app (goodIn_of _ (by decide +kernel)) ggX5_bury_X5_isSatellite
set_option maxRecDepth 20000 in
theorem ggX5_bury_X5_refused : GoodIn wsX5_bury wsX5_refused := goodIn_r _ [16, 17, 35, 36, 37, 38, 39, 40, 41, 42, 43, 44, 45, 46, 47, 48, 49, 50, 51, 52, 53, 54, 55, 56, 57, 58, 59, 60] (by decide +kernel) (by decide +kernel)
set_option maxRecDepth 20000 in
theorem gX5_bury_X5_refused : GoodIn wsX5_bury (wsV RX5 111 RX5 yX5_refused wsX5_refused) := goodIn_app (goodIn_of _ (by decide +kernel)) ggX5_bury_X5_refused
set_option maxRecDepth 20000 in
theorem ggX5_bury_X5_leaves : GoodIn wsX5_bury wsX5_leaves := goodIn_r _ [21, 22, 23, 24, 25, 26, 7, 27, 28, 29, 30, 31, 32, 33, 34, 35, 36, 37, 38, 39, 40, 41, 42, 43, 44, 45, 46, 47, 48, 49, 50, 51, 52, 53, 54, 55, 56, 57, 58, 59, 60] (by decide +kernel) (by decide +kernel)
set_option maxRecDepth 20000 in
theorem gX5_bury_X5_leaves : GoodIn wsX5_bury (wsV RX5 143 RX5 yX5_leaves wsX5_leaves) := goodIn_app (goodIn_of _ (by decide +kernel)) ggX5_bury_X5_leaves
theorem dX5_bury_0 : decode cX5_bury 0 = .ok (.aload_n 0, 1) := by decide +kernel
theorem dX5_bury_1 : decode cX5_bury 1 = .ok (.iload_n 1, 1) := by decide +kernel
theorem dX5_bury_2 : decode cX5_bury 2 = .ok (.invokevirtual 134, 3) := by decide +kernel
theorem dX5_bury_5 : decode cX5_bury 5 = .ok (.istore_n 2, 1) := by decide +kernel
theorem dX5_bury_6 : decode cX5_bury 6 = .ok (.aload_n 0, 1) := by decide +kernel
theorem dX5_bury_7 : decode cX5_bury 7 = .ok (.iload_n 2, 1) := by decide +kernel
theorem dX5_bury_8 : decode cX5_bury 8 = .ok (.ifCond .ne 7, 3) := by decide +kernel
theorem dX5_bury_11 : decode cX5_bury 11 = .ok (.iconst 1, 1) := by decide +kernel
theorem dX5_bury_12 : decode cX5_bury 12 = .ok (.goto 27, 3) := by decide +kernel
theorem dX5_bury_15 : decode cX5_bury 15 = .ok (.aload_n 0, 1) := by decide +kernel
theorem dX5_bury_16 : decode cX5_bury 16 = .ok (.getfield 50, 3) := by decide +kernel
theorem dX5_bury_19 : decode cX5_bury 19 = .ok (.iload_n 1, 1) := by decide +kernel
theorem dX5_bury_20 : decode cX5_bury 20 = .ok (.iaload, 1) := by decide +kernel
theorem dX5_bury_21 : decode cX5_bury 21 = .ok (.ifCond .ne 13, 3) := by decide +kernel
theorem dX5_bury_24 : decode cX5_bury 24 = .ok (.aload_n 0, 1) := by decide +kernel
theorem dX5_bury_25 : decode cX5_bury 25 = .ok (.getfield 56, 3) := by decide +kernel
theorem dX5_bury_28 : decode cX5_bury 28 = .ok (.iload_n 1, 1) := by decide +kernel
theorem dX5_bury_29 : decode cX5_bury 29 = .ok (.iaload, 1) := by decide +kernel
theorem dX5_bury_30 : decode cX5_bury 30 = .ok (.iconst 2, 1) := by decide +kernel
theorem dX5_bury_31 : decode cX5_bury 31 = .ok (.if_icmp .ge 7, 3) := by decide +kernel
theorem dX5_bury_34 : decode cX5_bury 34 = .ok (.iconst 2, 1) := by decide +kernel
theorem dX5_bury_35 : decode cX5_bury 35 = .ok (.goto 4, 3) := by decide +kernel
theorem dX5_bury_38 : decode cX5_bury 38 = .ok (.iconst 0, 1) := by decide +kernel
theorem dX5_bury_39 : decode cX5_bury 39 = .ok (.invokevirtual 111, 3) := by decide +kernel
theorem dX5_bury_42 : decode cX5_bury 42 = .ok (.ifCond .eq 5, 3) := by decide +kernel
theorem dX5_bury_45 : decode cX5_bury 45 = .ok (.iconst 0, 1) := by decide +kernel
theorem dX5_bury_46 : decode cX5_bury 46 = .ok (.ireturn, 1) := by decide +kernel
theorem dX5_bury_47 : decode cX5_bury 47 = .ok (.aload_n 0, 1) := by decide +kernel
theorem dX5_bury_48 : decode cX5_bury 48 = .ok (.getfield 56, 3) := by decide +kernel
theorem dX5_bury_51 : decode cX5_bury 51 = .ok (.iload_n 1, 1) := by decide +kernel
theorem dX5_bury_52 : decode cX5_bury 52 = .ok (.dup2, 1) := by decide +kernel
theorem dX5_bury_53 : decode cX5_bury 53 = .ok (.iaload, 1) := by decide +kernel
theorem dX5_bury_54 : decode cX5_bury 54 = .ok (.iconst 2, 1) := by decide +kernel
theorem dX5_bury_55 : decode cX5_bury 55 = .ok (.isub, 1) := by decide +kernel
theorem dX5_bury_56 : decode cX5_bury 56 = .ok (.iastore, 1) := by decide +kernel
theorem dX5_bury_57 : decode cX5_bury 57 = .ok (.aload_n 0, 1) := by decide +kernel
theorem dX5_bury_58 : decode cX5_bury 58 = .ok (.getfield 50, 3) := by decide +kernel
theorem dX5_bury_61 : decode cX5_bury 61 = .ok (.iload_n 1, 1) := by decide +kernel
theorem dX5_bury_62 : decode cX5_bury 62 = .ok (.iconst 1, 1) := by decide +kernel
theorem dX5_bury_63 : decode cX5_bury 63 = .ok (.iastore, 1) := by decide +kernel
theorem dX5_bury_64 : decode cX5_bury 64 = .ok (.aload_n 0, 1) := by decide +kernel
theorem dX5_bury_65 : decode cX5_bury 65 = .ok (.getfield 53, 3) := by decide +kernel
theorem dX5_bury_68 : decode cX5_bury 68 = .ok (.iload_n 1, 1) := by decide +kernel
theorem dX5_bury_69 : decode cX5_bury 69 = .ok (.iconst (-1), 1) := by decide +kernel
theorem dX5_bury_70 : decode cX5_bury 70 = .ok (.iastore, 1) := by decide +kernel
theorem dX5_bury_71 : decode cX5_bury 71 = .ok (.aload_n 0, 1) := by decide +kernel
theorem dX5_bury_72 : decode cX5_bury 72 = .ok (.iload_n 1, 1) := by decide +kernel
theorem dX5_bury_73 : decode cX5_bury 73 = .ok (.invokevirtual 143, 3) := by decide +kernel
theorem dX5_bury_76 : decode cX5_bury 76 = .ok (.ireturn, 1) := by decide +kernel
set_option maxRecDepth 20000 in
theorem ggX5_die_X5_isSatellite : GoodIn wsX5_die wsX5_isSatellite := goodIn_r _ [6, 7, 8, 9, 5, 10, 33, 34, 35, 36, 37, 38, 39, 40, 41, 42, 43, 44, 45, 46, 47, 48, 49, 50, 51, 52, 53, 54, 55, 56, 57, 58] (by decide +kernel) (by decide +kernel)
set_option maxRecDepth 20000 in
theorem gX5_die_X5_isSatellite : GoodIn wsX5_die (wsV RX5 134 RX5 yX5_isSatellite wsX5_isSatellite) := goodIn_app (goodIn_of _ (by decide +kernel)) ggX5_die_X5_isSatellite
set_option maxRecDepth 20000 in
theorem ggX5_die_X5_refused : GoodIn wsX5_die wsX5_refused := goodIn_r _ [14, 15, 33, 34, 35, 36, 37, 38, 39, 40, 41, 42, 43, 44, 45, 46, 47, 48, 49, 50, 51, 52, 53, 54, 55, 56, 57, 58] (by decide +kernel) (by decide +kernel)
set_option maxRecDepth 20000 in
theorem gX5_die_X5_refused : GoodIn wsX5_die (wsV RX5 111 RX5 yX5_refused wsX5_refused) := goodIn_app (goodIn_of _ (by decide +kernel)) ggX5_die_X5_refused
set_option maxRecDepth 20000 in
theorem ggX5_die_X5_leaves : GoodIn wsX5_die wsX5_leaves := goodIn_r _ [19, 20, 21, 22, 23, 24, 5, 25, 26, 27, 28, 29, 30, 31, 32, 33, 34, 35, 36, 37, 38, 39, 40, 41, 42, 43, 44, 45, 46, 47, 48, 49, 50, 51, 52, 53, 54, 55, 56, 57, 58] (by decide +kernel) (by decide +kernel)
set_option maxRecDepth 20000 in
theorem gX5_die_X5_leaves : GoodIn wsX5_die (wsV RX5 143 RX5 yX5_leaves wsX5_leaves) := goodIn_app (goodIn_of _ (by decide +kernel)) ggX5_die_X5_leaves
theorem dX5_die_0 : decode cX5_die 0 = .ok (.aload_n 0, 1) := by decide +kernel
theorem dX5_die_1 : decode cX5_die 1 = .ok (.iload_n 1, 1) := by decide +kernel
theorem dX5_die_2 : decode cX5_die 2 = .ok (.invokevirtual 134, 3) := by decide +kernel
theorem dX5_die_5 : decode cX5_die 5 = .ok (.istore_n 2, 1) := by decide +kernel
theorem dX5_die_6 : decode cX5_die 6 = .ok (.aload_n 0, 1) := by decide +kernel
theorem dX5_die_7 : decode cX5_die 7 = .ok (.iload_n 2, 1) := by decide +kernel
theorem dX5_die_8 : decode cX5_die 8 = .ok (.ifCond .ne 7, 3) := by decide +kernel
theorem dX5_die_11 : decode cX5_die 11 = .ok (.iconst 1, 1) := by decide +kernel
theorem dX5_die_12 : decode cX5_die 12 = .ok (.goto 17, 3) := by decide +kernel
theorem dX5_die_15 : decode cX5_die 15 = .ok (.aload_n 0, 1) := by decide +kernel
theorem dX5_die_16 : decode cX5_die 16 = .ok (.getfield 50, 3) := by decide +kernel
theorem dX5_die_19 : decode cX5_die 19 = .ok (.iload_n 1, 1) := by decide +kernel
theorem dX5_die_20 : decode cX5_die 20 = .ok (.iaload, 1) := by decide +kernel
theorem dX5_die_21 : decode cX5_die 21 = .ok (.ifCond .eq 7, 3) := by decide +kernel
theorem dX5_die_24 : decode cX5_die 24 = .ok (.iconst 2, 1) := by decide +kernel
theorem dX5_die_25 : decode cX5_die 25 = .ok (.goto 4, 3) := by decide +kernel
theorem dX5_die_28 : decode cX5_die 28 = .ok (.iconst 0, 1) := by decide +kernel
theorem dX5_die_29 : decode cX5_die 29 = .ok (.invokevirtual 111, 3) := by decide +kernel
theorem dX5_die_32 : decode cX5_die 32 = .ok (.ifCond .eq 5, 3) := by decide +kernel
theorem dX5_die_35 : decode cX5_die 35 = .ok (.iconst 0, 1) := by decide +kernel
theorem dX5_die_36 : decode cX5_die 36 = .ok (.ireturn, 1) := by decide +kernel
theorem dX5_die_37 : decode cX5_die 37 = .ok (.aload_n 0, 1) := by decide +kernel
theorem dX5_die_38 : decode cX5_die 38 = .ok (.getfield 50, 3) := by decide +kernel
theorem dX5_die_41 : decode cX5_die 41 = .ok (.iload_n 1, 1) := by decide +kernel
theorem dX5_die_42 : decode cX5_die 42 = .ok (.iconst 2, 1) := by decide +kernel
theorem dX5_die_43 : decode cX5_die 43 = .ok (.iastore, 1) := by decide +kernel
theorem dX5_die_44 : decode cX5_die 44 = .ok (.aload_n 0, 1) := by decide +kernel
theorem dX5_die_45 : decode cX5_die 45 = .ok (.iload_n 1, 1) := by decide +kernel
theorem dX5_die_46 : decode cX5_die 46 = .ok (.invokevirtual 143, 3) := by decide +kernel
theorem dX5_die_49 : decode cX5_die 49 = .ok (.ireturn, 1) := by decide +kernel
set_option maxRecDepth 20000 in
theorem ggX5_crash_X5_leaves : GoodIn wsX5_crash wsX5_leaves := goodIn_r _ [8, 9, 10, 11, 12, 13, 7, 14, 15, 16, 17, 18, 19, 20, 21, 22, 23, 24, 25, 26, 27, 28, 29, 30, 31, 32, 33, 34, 35, 36, 37, 38, 39, 40, 41, 42, 43, 44, 45, 46, 47] (by decide +kernel) (by decide +kernel)
set_option maxRecDepth 20000 in
theorem gX5_crash_X5_leaves : GoodIn wsX5_crash (wsV RX5 143 RX5 yX5_leaves wsX5_leaves) := goodIn_app (goodIn_of _ (by decide +kernel)) ggX5_crash_X5_leaves
theorem dX5_crash_0 : decode cX5_crash 0 = .ok (.aload_n 0, 1) := by decide +kernel
theorem dX5_crash_1 : decode cX5_crash 1 = .ok (.getfield 50, 3) := by decide +kernel
theorem dX5_crash_4 : decode cX5_crash 4 = .ok (.iload_n 1, 1) := by decide +kernel
theorem dX5_crash_5 : decode cX5_crash 5 = .ok (.iconst 2, 1) := by decide +kernel
theorem dX5_crash_6 : decode cX5_crash 6 = .ok (.iastore, 1) := by decide +kernel
theorem dX5_crash_7 : decode cX5_crash 7 = .ok (.aload_n 0, 1) := by decide +kernel
theorem dX5_crash_8 : decode cX5_crash 8 = .ok (.getfield 50, 3) := by decide +kernel
theorem dX5_crash_11 : decode cX5_crash 11 = .ok (.iload_n 2, 1) := by decide +kernel
theorem dX5_crash_12 : decode cX5_crash 12 = .ok (.iconst 2, 1) := by decide +kernel
theorem dX5_crash_13 : decode cX5_crash 13 = .ok (.iastore, 1) := by decide +kernel
theorem dX5_crash_14 : decode cX5_crash 14 = .ok (.aload_n 0, 1) := by decide +kernel
theorem dX5_crash_15 : decode cX5_crash 15 = .ok (.iload_n 1, 1) := by decide +kernel
theorem dX5_crash_16 : decode cX5_crash 16 = .ok (.invokevirtual 143, 3) := by decide +kernel
theorem dX5_crash_19 : decode cX5_crash 19 = .ok (.aload_n 0, 1) := by decide +kernel
theorem dX5_crash_20 : decode cX5_crash 20 = .ok (.iload_n 2, 1) := by decide +kernel
theorem dX5_crash_21 : decode cX5_crash 21 = .ok (.invokevirtual 143, 3) := by decide +kernel
theorem dX5_crash_24 : decode cX5_crash 24 = .ok (.iadd, 1) := by decide +kernel
theorem dX5_crash_25 : decode cX5_crash 25 = .ok (.istore 4, 2) := by decide +kernel
theorem dX5_crash_27 : decode cX5_crash 27 = .ok (.aload_n 0, 1) := by decide +kernel
theorem dX5_crash_28 : decode cX5_crash 28 = .ok (.getfield 65, 3) := by decide +kernel
theorem dX5_crash_31 : decode cX5_crash 31 = .ok (.aload_n 0, 1) := by decide +kernel
theorem dX5_crash_32 : decode cX5_crash 32 = .ok (.getfield 53, 3) := by decide +kernel
theorem dX5_crash_35 : decode cX5_crash 35 = .ok (.iload_n 1, 1) := by decide +kernel
theorem dX5_crash_36 : decode cX5_crash 36 = .ok (.iaload, 1) := by decide +kernel
theorem dX5_crash_37 : decode cX5_crash 37 = .ok (.bipush 10, 2) := by decide +kernel
theorem dX5_crash_39 : decode cX5_crash 39 = .ok (.idiv, 1) := by decide +kernel
theorem dX5_crash_40 : decode cX5_crash 40 = .ok (.dup2, 1) := by decide +kernel
theorem dX5_crash_41 : decode cX5_crash 41 = .ok (.iaload, 1) := by decide +kernel
theorem dX5_crash_42 : decode cX5_crash 42 = .ok (.bipush 100, 2) := by decide +kernel
theorem dX5_crash_44 : decode cX5_crash 44 = .ok (.iadd, 1) := by decide +kernel
theorem dX5_crash_45 : decode cX5_crash 45 = .ok (.iastore, 1) := by decide +kernel
theorem dX5_crash_46 : decode cX5_crash 46 = .ok (.iload 4, 2) := by decide +kernel
theorem dX5_crash_48 : decode cX5_crash 48 = .ok (.ifCond .ge 7, 3) := by decide +kernel
theorem dX5_crash_51 : decode cX5_crash 51 = .ok (.iconst (-1), 1) := by decide +kernel
theorem dX5_crash_52 : decode cX5_crash 52 = .ok (.goto 4, 3) := by decide +kernel
theorem dX5_crash_55 : decode cX5_crash 55 = .ok (.iload_n 3, 1) := by decide +kernel
theorem dX5_crash_56 : decode cX5_crash 56 = .ok (.ireturn, 1) := by decide +kernel
theorem dX5_canDodge_0 : decode cX5_canDodge 0 = .ok (.aload_n 0, 1) := by decide +kernel
theorem dX5_canDodge_1 : decode cX5_canDodge 1 = .ok (.getfield 50, 3) := by decide +kernel
theorem dX5_canDodge_4 : decode cX5_canDodge 4 = .ok (.iload_n 1, 1) := by decide +kernel
theorem dX5_canDodge_5 : decode cX5_canDodge 5 = .ok (.iaload, 1) := by decide +kernel
theorem dX5_canDodge_6 : decode cX5_canDodge 6 = .ok (.ifCond .ne 16, 3) := by decide +kernel
theorem dX5_canDodge_9 : decode cX5_canDodge 9 = .ok (.aload_n 0, 1) := by decide +kernel
theorem dX5_canDodge_10 : decode cX5_canDodge 10 = .ok (.getfield 56, 3) := by decide +kernel
theorem dX5_canDodge_13 : decode cX5_canDodge 13 = .ok (.iload_n 1, 1) := by decide +kernel
theorem dX5_canDodge_14 : decode cX5_canDodge 14 = .ok (.iaload, 1) := by decide +kernel
theorem dX5_canDodge_15 : decode cX5_canDodge 15 = .ok (.ifCond .le 7, 3) := by decide +kernel
theorem dX5_canDodge_18 : decode cX5_canDodge 18 = .ok (.iconst 1, 1) := by decide +kernel
theorem dX5_canDodge_19 : decode cX5_canDodge 19 = .ok (.goto 4, 3) := by decide +kernel
theorem dX5_canDodge_22 : decode cX5_canDodge 22 = .ok (.iconst 0, 1) := by decide +kernel
theorem dX5_canDodge_23 : decode cX5_canDodge 23 = .ok (.ireturn, 1) := by decide +kernel
set_option maxRecDepth 20000 in
theorem ggX5_near_X5_isSatellite : GoodIn wsX5_near wsX5_isSatellite := goodIn_r _ [9, 10, 11, 12, 8, 13, 45, 46, 47, 48, 49, 50, 51, 52, 53, 54, 55, 56, 57, 58, 59, 60, 61, 62, 63, 64, 65, 66, 67, 68, 69, 70] (by decide +kernel) (by decide +kernel)
set_option maxRecDepth 20000 in
theorem gX5_near_X5_isSatellite : GoodIn wsX5_near (wsV RX5 134 RX5 yX5_isSatellite wsX5_isSatellite) := goodIn_app (goodIn_of _ (by decide +kernel)) ggX5_near_X5_isSatellite
set_option maxRecDepth 20000 in
theorem ggX5_near_X5_refused : GoodIn wsX5_near wsX5_refused := goodIn_r _ [17, 18, 45, 46, 47, 48, 49, 50, 51, 52, 53, 54, 55, 56, 57, 58, 59, 60, 61, 62, 63, 64, 65, 66, 67, 68, 69, 70] (by decide +kernel) (by decide +kernel)
set_option maxRecDepth 20000 in
theorem gX5_near_X5_refused : GoodIn wsX5_near (wsV RX5 111 RX5 yX5_refused wsX5_refused) := goodIn_app (goodIn_of _ (by decide +kernel)) ggX5_near_X5_refused
set_option maxRecDepth 20000 in
theorem ggX5_near_X5_canDodge : GoodIn wsX5_near wsX5_canDodge := goodIn_r _ [22, 1, 4, 45, 46, 47, 48, 49, 50, 51, 52, 53, 54, 55, 56, 57, 58, 59, 60, 61, 62, 63, 64, 65, 66, 67, 68, 69, 70] (by decide +kernel) (by decide +kernel)
set_option maxRecDepth 20000 in
theorem gX5_near_X5_canDodge : GoodIn wsX5_near (wsV RX5 146 RX5 yX5_canDodge wsX5_canDodge) := goodIn_app (goodIn_of _ (by decide +kernel)) ggX5_near_X5_canDodge
set_option maxRecDepth 20000 in
theorem ggX5_near_X5_crash : GoodIn wsX5_near wsX5_crash := goodIn_r _ [26, 1, 27, 2, 28, 29, 30, 8, 31, 32, 33, 34, 35, 36, 37, 38, 39, 40, 41, 42, 43, 44, 45, 46, 47, 48, 49, 50, 51, 52, 53, 54, 55, 56, 57, 58, 59, 60, 61, 62, 63, 64, 65, 66, 67, 68, 69, 70] (by decide +kernel) (by decide +kernel)
set_option maxRecDepth 20000 in
theorem gX5_near_X5_crash : GoodIn wsX5_near (wsV RX5 149 RX5 yX5_crash wsX5_crash) := goodIn_app (goodIn_of _ (by decide +kernel)) ggX5_near_X5_crash
theorem dX5_near_0 : decode cX5_near 0 = .ok (.aload_n 0, 1) := by decide +kernel
theorem dX5_near_1 : decode cX5_near 1 = .ok (.iload_n 1, 1) := by decide +kernel
theorem dX5_near_2 : decode cX5_near 2 = .ok (.invokevirtual 134, 3) := by decide +kernel
theorem dX5_near_5 : decode cX5_near 5 = .ok (.ifCond .eq 15, 3) := by decide +kernel
theorem dX5_near_8 : decode cX5_near 8 = .ok (.aload_n 0, 1) := by decide +kernel
theorem dX5_near_9 : decode cX5_near 9 = .ok (.iload_n 2, 1) := by decide +kernel
theorem dX5_near_10 : decode cX5_near 10 = .ok (.invokevirtual 134, 3) := by decide +kernel
theorem dX5_near_13 : decode cX5_near 13 = .ok (.ifCond .eq 7, 3) := by decide +kernel
theorem dX5_near_16 : decode cX5_near 16 = .ok (.iconst 1, 1) := by decide +kernel
theorem dX5_near_17 : decode cX5_near 17 = .ok (.goto 4, 3) := by decide +kernel
theorem dX5_near_20 : decode cX5_near 20 = .ok (.iconst 0, 1) := by decide +kernel
theorem dX5_near_21 : decode cX5_near 21 = .ok (.istore_n 3, 1) := by decide +kernel
theorem dX5_near_22 : decode cX5_near 22 = .ok (.iload_n 3, 1) := by decide +kernel
theorem dX5_near_23 : decode cX5_near 23 = .ok (.ifCond .eq 42, 3) := by decide +kernel
theorem dX5_near_26 : decode cX5_near 26 = .ok (.aload_n 0, 1) := by decide +kernel
theorem dX5_near_27 : decode cX5_near 27 = .ok (.getfield 50, 3) := by decide +kernel
theorem dX5_near_30 : decode cX5_near 30 = .ok (.iload_n 1, 1) := by decide +kernel
theorem dX5_near_31 : decode cX5_near 31 = .ok (.iaload, 1) := by decide +kernel
theorem dX5_near_32 : decode cX5_near 32 = .ok (.iconst 1, 1) := by decide +kernel
theorem dX5_near_33 : decode cX5_near 33 = .ok (.if_icmp .eq 32, 3) := by decide +kernel
theorem dX5_near_36 : decode cX5_near 36 = .ok (.aload_n 0, 1) := by decide +kernel
theorem dX5_near_37 : decode cX5_near 37 = .ok (.getfield 50, 3) := by decide +kernel
theorem dX5_near_40 : decode cX5_near 40 = .ok (.iload_n 2, 1) := by decide +kernel
theorem dX5_near_41 : decode cX5_near 41 = .ok (.iaload, 1) := by decide +kernel
theorem dX5_near_42 : decode cX5_near 42 = .ok (.iconst 1, 1) := by decide +kernel
theorem dX5_near_43 : decode cX5_near 43 = .ok (.if_icmp .eq 22, 3) := by decide +kernel
theorem dX5_near_46 : decode cX5_near 46 = .ok (.aload_n 0, 1) := by decide +kernel
theorem dX5_near_47 : decode cX5_near 47 = .ok (.getfield 53, 3) := by decide +kernel
theorem dX5_near_50 : decode cX5_near 50 = .ok (.iload_n 1, 1) := by decide +kernel
theorem dX5_near_51 : decode cX5_near 51 = .ok (.iaload, 1) := by decide +kernel
theorem dX5_near_52 : decode cX5_near 52 = .ok (.aload_n 0, 1) := by decide +kernel
theorem dX5_near_53 : decode cX5_near 53 = .ok (.getfield 53, 3) := by decide +kernel
theorem dX5_near_56 : decode cX5_near 56 = .ok (.iload_n 2, 1) := by decide +kernel
theorem dX5_near_57 : decode cX5_near 57 = .ok (.iaload, 1) := by decide +kernel
theorem dX5_near_58 : decode cX5_near 58 = .ok (.if_icmp .ne 7, 3) := by decide +kernel
theorem dX5_near_61 : decode cX5_near 61 = .ok (.iconst 1, 1) := by decide +kernel
theorem dX5_near_62 : decode cX5_near 62 = .ok (.goto 4, 3) := by decide +kernel
theorem dX5_near_65 : decode cX5_near 65 = .ok (.iconst 0, 1) := by decide +kernel
theorem dX5_near_66 : decode cX5_near 66 = .ok (.istore 4, 2) := by decide +kernel
theorem dX5_near_68 : decode cX5_near 68 = .ok (.aload_n 0, 1) := by decide +kernel
theorem dX5_near_69 : decode cX5_near 69 = .ok (.iload_n 3, 1) := by decide +kernel
theorem dX5_near_70 : decode cX5_near 70 = .ok (.ifCond .ne 7, 3) := by decide +kernel
theorem dX5_near_73 : decode cX5_near 73 = .ok (.iconst 1, 1) := by decide +kernel
theorem dX5_near_74 : decode cX5_near 74 = .ok (.goto 22, 3) := by decide +kernel
theorem dX5_near_77 : decode cX5_near 77 = .ok (.iload_n 1, 1) := by decide +kernel
theorem dX5_near_78 : decode cX5_near 78 = .ok (.iload_n 2, 1) := by decide +kernel
theorem dX5_near_79 : decode cX5_near 79 = .ok (.if_icmp .ne 7, 3) := by decide +kernel
theorem dX5_near_82 : decode cX5_near 82 = .ok (.iconst 2, 1) := by decide +kernel
theorem dX5_near_83 : decode cX5_near 83 = .ok (.goto 13, 3) := by decide +kernel
theorem dX5_near_86 : decode cX5_near 86 = .ok (.iload 4, 2) := by decide +kernel
theorem dX5_near_88 : decode cX5_near 88 = .ok (.ifCond .eq 7, 3) := by decide +kernel
theorem dX5_near_91 : decode cX5_near 91 = .ok (.iconst 0, 1) := by decide +kernel
theorem dX5_near_92 : decode cX5_near 92 = .ok (.goto 4, 3) := by decide +kernel
theorem dX5_near_95 : decode cX5_near 95 = .ok (.iconst 3, 1) := by decide +kernel
theorem dX5_near_96 : decode cX5_near 96 = .ok (.invokevirtual 111, 3) := by decide +kernel
theorem dX5_near_99 : decode cX5_near 99 = .ok (.ifCond .eq 5, 3) := by decide +kernel
theorem dX5_near_102 : decode cX5_near 102 = .ok (.iconst 0, 1) := by decide +kernel
theorem dX5_near_103 : decode cX5_near 103 = .ok (.ireturn, 1) := by decide +kernel
theorem dX5_near_104 : decode cX5_near 104 = .ok (.aload_n 0, 1) := by decide +kernel
theorem dX5_near_105 : decode cX5_near 105 = .ok (.iload_n 1, 1) := by decide +kernel
theorem dX5_near_106 : decode cX5_near 106 = .ok (.invokevirtual 146, 3) := by decide +kernel
theorem dX5_near_109 : decode cX5_near 109 = .ok (.istore 5, 2) := by decide +kernel
theorem dX5_near_111 : decode cX5_near 111 = .ok (.aload_n 0, 1) := by decide +kernel
theorem dX5_near_112 : decode cX5_near 112 = .ok (.iload_n 2, 1) := by decide +kernel
theorem dX5_near_113 : decode cX5_near 113 = .ok (.invokevirtual 146, 3) := by decide +kernel
theorem dX5_near_116 : decode cX5_near 116 = .ok (.istore 6, 2) := by decide +kernel
theorem dX5_near_118 : decode cX5_near 118 = .ok (.iload 5, 2) := by decide +kernel
theorem dX5_near_120 : decode cX5_near 120 = .ok (.ifCond .ne 16, 3) := by decide +kernel
theorem dX5_near_123 : decode cX5_near 123 = .ok (.iload 6, 2) := by decide +kernel
theorem dX5_near_125 : decode cX5_near 125 = .ok (.ifCond .ne 11, 3) := by decide +kernel
theorem dX5_near_128 : decode cX5_near 128 = .ok (.aload_n 0, 1) := by decide +kernel
theorem dX5_near_129 : decode cX5_near 129 = .ok (.iload_n 1, 1) := by decide +kernel
theorem dX5_near_130 : decode cX5_near 130 = .ok (.iload_n 2, 1) := by decide +kernel
theorem dX5_near_131 : decode cX5_near 131 = .ok (.iconst 0, 1) := by decide +kernel
theorem dX5_near_132 : decode cX5_near 132 = .ok (.invokevirtual 149, 3) := by decide +kernel
theorem dX5_near_135 : decode cX5_near 135 = .ok (.ireturn, 1) := by decide +kernel
theorem dX5_near_136 : decode cX5_near 136 = .ok (.iload 5, 2) := by decide +kernel
theorem dX5_near_138 : decode cX5_near 138 = .ok (.ifCond .eq 67, 3) := by decide +kernel
theorem dX5_near_141 : decode cX5_near 141 = .ok (.iload 6, 2) := by decide +kernel
theorem dX5_near_143 : decode cX5_near 143 = .ok (.ifCond .eq 62, 3) := by decide +kernel
theorem dX5_near_146 : decode cX5_near 146 = .ok (.aload_n 0, 1) := by decide +kernel
theorem dX5_near_147 : decode cX5_near 147 = .ok (.getfield 62, 3) := by decide +kernel
theorem dX5_near_150 : decode cX5_near 150 = .ok (.iload_n 1, 1) := by decide +kernel
theorem dX5_near_151 : decode cX5_near 151 = .ok (.baload, 1) := by decide +kernel
theorem dX5_near_152 : decode cX5_near 152 = .ok (.ifCond .eq 53, 3) := by decide +kernel
theorem dX5_near_155 : decode cX5_near 155 = .ok (.aload_n 0, 1) := by decide +kernel
theorem dX5_near_156 : decode cX5_near 156 = .ok (.getfield 62, 3) := by decide +kernel
theorem dX5_near_159 : decode cX5_near 159 = .ok (.iload_n 2, 1) := by decide +kernel
theorem dX5_near_160 : decode cX5_near 160 = .ok (.baload, 1) := by decide +kernel
theorem dX5_near_161 : decode cX5_near 161 = .ok (.ifCond .eq 44, 3) := by decide +kernel
theorem dX5_near_164 : decode cX5_near 164 = .ok (.aload_n 0, 1) := by decide +kernel
theorem dX5_near_165 : decode cX5_near 165 = .ok (.getfield 56, 3) := by decide +kernel
theorem dX5_near_168 : decode cX5_near 168 = .ok (.iload_n 1, 1) := by decide +kernel
theorem dX5_near_169 : decode cX5_near 169 = .ok (.dup2, 1) := by decide +kernel
theorem dX5_near_170 : decode cX5_near 170 = .ok (.iaload, 1) := by decide +kernel
theorem dX5_near_171 : decode cX5_near 171 = .ok (.iconst 1, 1) := by decide +kernel
theorem dX5_near_172 : decode cX5_near 172 = .ok (.isub, 1) := by decide +kernel
theorem dX5_near_173 : decode cX5_near 173 = .ok (.iastore, 1) := by decide +kernel
theorem dX5_near_174 : decode cX5_near 174 = .ok (.aload_n 0, 1) := by decide +kernel
theorem dX5_near_175 : decode cX5_near 175 = .ok (.getfield 56, 3) := by decide +kernel
theorem dX5_near_178 : decode cX5_near 178 = .ok (.iload_n 2, 1) := by decide +kernel
theorem dX5_near_179 : decode cX5_near 179 = .ok (.dup2, 1) := by decide +kernel
theorem dX5_near_180 : decode cX5_near 180 = .ok (.iaload, 1) := by decide +kernel
theorem dX5_near_181 : decode cX5_near 181 = .ok (.iconst 1, 1) := by decide +kernel
theorem dX5_near_182 : decode cX5_near 182 = .ok (.isub, 1) := by decide +kernel
theorem dX5_near_183 : decode cX5_near 183 = .ok (.iastore, 1) := by decide +kernel
theorem dX5_near_184 : decode cX5_near 184 = .ok (.iload_n 1, 1) := by decide +kernel
theorem dX5_near_185 : decode cX5_near 185 = .ok (.iconst 2, 1) := by decide +kernel
theorem dX5_near_186 : decode cX5_near 186 = .ok (.irem, 1) := by decide +kernel
theorem dX5_near_187 : decode cX5_near 187 = .ok (.iload_n 2, 1) := by decide +kernel
theorem dX5_near_188 : decode cX5_near 188 = .ok (.iconst 2, 1) := by decide +kernel
theorem dX5_near_189 : decode cX5_near 189 = .ok (.irem, 1) := by decide +kernel
theorem dX5_near_190 : decode cX5_near 190 = .ok (.if_icmp .ne 13, 3) := by decide +kernel
theorem dX5_near_193 : decode cX5_near 193 = .ok (.aload_n 0, 1) := by decide +kernel
theorem dX5_near_194 : decode cX5_near 194 = .ok (.iload_n 1, 1) := by decide +kernel
theorem dX5_near_195 : decode cX5_near 195 = .ok (.iload_n 2, 1) := by decide +kernel
theorem dX5_near_196 : decode cX5_near 196 = .ok (.iconst 4, 1) := by decide +kernel
theorem dX5_near_197 : decode cX5_near 197 = .ok (.invokevirtual 149, 3) := by decide +kernel
theorem dX5_near_200 : decode cX5_near 200 = .ok (.goto 4, 3) := by decide +kernel
theorem dX5_near_203 : decode cX5_near 203 = .ok (.iconst 3, 1) := by decide +kernel
theorem dX5_near_204 : decode cX5_near 204 = .ok (.ireturn, 1) := by decide +kernel
theorem dX5_near_205 : decode cX5_near 205 = .ok (.iload 5, 2) := by decide +kernel
theorem dX5_near_207 : decode cX5_near 207 = .ok (.ifCond .eq 17, 3) := by decide +kernel
theorem dX5_near_210 : decode cX5_near 210 = .ok (.iload 6, 2) := by decide +kernel
theorem dX5_near_212 : decode cX5_near 212 = .ok (.ifCond .eq 8, 3) := by decide +kernel
theorem dX5_near_215 : decode cX5_near 215 = .ok (.iload_n 1, 1) := by decide +kernel
theorem dX5_near_216 : decode cX5_near 216 = .ok (.iload_n 2, 1) := by decide +kernel
theorem dX5_near_217 : decode cX5_near 217 = .ok (.if_icmp .le 7, 3) := by decide +kernel
theorem dX5_near_220 : decode cX5_near 220 = .ok (.iconst 1, 1) := by decide +kernel
theorem dX5_near_221 : decode cX5_near 221 = .ok (.goto 4, 3) := by decide +kernel
theorem dX5_near_224 : decode cX5_near 224 = .ok (.iconst 0, 1) := by decide +kernel
theorem dX5_near_225 : decode cX5_near 225 = .ok (.istore 7, 2) := by decide +kernel
theorem dX5_near_227 : decode cX5_near 227 = .ok (.aload_n 0, 1) := by decide +kernel
theorem dX5_near_228 : decode cX5_near 228 = .ok (.getfield 56, 3) := by decide +kernel
theorem dX5_near_231 : decode cX5_near 231 = .ok (.iload 7, 2) := by decide +kernel
theorem dX5_near_233 : decode cX5_near 233 = .ok (.ifCond .eq 7, 3) := by decide +kernel
theorem dX5_near_236 : decode cX5_near 236 = .ok (.iload_n 1, 1) := by decide +kernel
theorem dX5_near_237 : decode cX5_near 237 = .ok (.goto 4, 3) := by decide +kernel
theorem dX5_near_240 : decode cX5_near 240 = .ok (.iload_n 2, 1) := by decide +kernel
theorem dX5_near_241 : decode cX5_near 241 = .ok (.dup2, 1) := by decide +kernel
theorem dX5_near_242 : decode cX5_near 242 = .ok (.iaload, 1) := by decide +kernel
theorem dX5_near_243 : decode cX5_near 243 = .ok (.iconst 1, 1) := by decide +kernel
theorem dX5_near_244 : decode cX5_near 244 = .ok (.isub, 1) := by decide +kernel
theorem dX5_near_245 : decode cX5_near 245 = .ok (.iastore, 1) := by decide +kernel
theorem dX5_near_246 : decode cX5_near 246 = .ok (.iload 7, 2) := by decide +kernel
theorem dX5_near_248 : decode cX5_near 248 = .ok (.ifCond .eq 7, 3) := by decide +kernel
theorem dX5_near_251 : decode cX5_near 251 = .ok (.iconst 1, 1) := by decide +kernel
theorem dX5_near_252 : decode cX5_near 252 = .ok (.goto 4, 3) := by decide +kernel
theorem dX5_near_255 : decode cX5_near 255 = .ok (.iconst 2, 1) := by decide +kernel
theorem dX5_near_256 : decode cX5_near 256 = .ok (.ireturn, 1) := by decide +kernel
set_option maxRecDepth 20000 in
theorem ggX5_claim_X5_isSatellite : GoodIn wsX5_claim wsX5_isSatellite := goodIn_r _ [8, 9, 10, 11, 7, 12, 18, 19, 20, 21, 22, 23, 24, 25, 26, 27, 28, 29, 30, 31, 32, 33, 34, 35, 36, 37, 38, 39, 40, 41, 42, 43] (by decide +kernel) (by decide +kernel)
set_option maxRecDepth 20000 in
theorem gX5_claim_X5_isSatellite : GoodIn wsX5_claim (wsV RX5 134 RX5 yX5_isSatellite wsX5_isSatellite) := goodIn_app (goodIn_of _ (by decide +kernel)) ggX5_claim_X5_isSatellite
set_option maxRecDepth 20000 in
theorem ggX5_claim_X5_in : GoodIn wsX5_claim wsX5_in := goodIn_r _ [12] (by decide +kernel) (by decide +kernel)
set_option maxRecDepth 20000 in
theorem gX5_claim_X5_in : GoodIn wsX5_claim (va_wsS RX5 82 yX5_in wsX5_in) := goodIn_app (goodIn_of _ (by decide +kernel)) ggX5_claim_X5_in
set_option maxRecDepth 20000 in
theorem ggX5_claim_X5_refused : GoodIn wsX5_claim wsX5_refused := goodIn_r _ [16, 17, 18, 19, 20, 21, 22, 23, 24, 25, 26, 27, 28, 29, 30, 31, 32, 33, 34, 35, 36, 37, 38, 39, 40, 41, 42, 43] (by decide +kernel) (by decide +kernel)
set_option maxRecDepth 20000 in
theorem gX5_claim_X5_refused : GoodIn wsX5_claim (wsV RX5 111 RX5 yX5_refused wsX5_refused) := goodIn_app (goodIn_of _ (by decide +kernel)) ggX5_claim_X5_refused
theorem dX5_claim_0 : decode cX5_claim 0 = .ok (.aload_n 0, 1) := by decide +kernel
theorem dX5_claim_1 : decode cX5_claim 1 = .ok (.aload_n 0, 1) := by decide +kernel
theorem dX5_claim_2 : decode cX5_claim 2 = .ok (.iload_n 1, 1) := by decide +kernel
theorem dX5_claim_3 : decode cX5_claim 3 = .ok (.invokevirtual 134, 3) := by decide +kernel
theorem dX5_claim_6 : decode cX5_claim 6 = .ok (.ifCond .ne 7, 3) := by decide +kernel
theorem dX5_claim_9 : decode cX5_claim 9 = .ok (.iconst 1, 1) := by decide +kernel
theorem dX5_claim_10 : decode cX5_claim 10 = .ok (.goto 18, 3) := by decide +kernel
theorem dX5_claim_13 : decode cX5_claim 13 = .ok (.iload_n 2, 1) := by decide +kernel
theorem dX5_claim_14 : decode cX5_claim 14 = .ok (.iconst 1, 1) := by decide +kernel
theorem dX5_claim_15 : decode cX5_claim 15 = .ok (.ldc 153, 2) := by decide +kernel
theorem dX5_claim_17 : decode cX5_claim 17 = .ok (.invokestatic 82, 3) := by decide +kernel
theorem dX5_claim_20 : decode cX5_claim 20 = .ok (.ifCond .ne 7, 3) := by decide +kernel
theorem dX5_claim_23 : decode cX5_claim 23 = .ok (.iconst 2, 1) := by decide +kernel
theorem dX5_claim_24 : decode cX5_claim 24 = .ok (.goto 4, 3) := by decide +kernel
theorem dX5_claim_27 : decode cX5_claim 27 = .ok (.iconst 0, 1) := by decide +kernel
theorem dX5_claim_28 : decode cX5_claim 28 = .ok (.invokevirtual 111, 3) := by decide +kernel
theorem dX5_claim_31 : decode cX5_claim 31 = .ok (.ifCond .eq 5, 3) := by decide +kernel
theorem dX5_claim_34 : decode cX5_claim 34 = .ok (.iconst 0, 1) := by decide +kernel
theorem dX5_claim_35 : decode cX5_claim 35 = .ok (.ireturn, 1) := by decide +kernel
theorem dX5_claim_36 : decode cX5_claim 36 = .ok (.iload_n 3, 1) := by decide +kernel
theorem dX5_claim_37 : decode cX5_claim 37 = .ok (.ifCond .ne 10, 3) := by decide +kernel
theorem dX5_claim_40 : decode cX5_claim 40 = .ok (.iload 4, 2) := by decide +kernel
theorem dX5_claim_42 : decode cX5_claim 42 = .ok (.ifCond .ne 5, 3) := by decide +kernel
theorem dX5_claim_45 : decode cX5_claim 45 = .ok (.iconst 0, 1) := by decide +kernel
theorem dX5_claim_46 : decode cX5_claim 46 = .ok (.ireturn, 1) := by decide +kernel
theorem dX5_claim_47 : decode cX5_claim 47 = .ok (.iconst 0, 1) := by decide +kernel
theorem dX5_claim_48 : decode cX5_claim 48 = .ok (.istore 5, 2) := by decide +kernel
theorem dX5_claim_50 : decode cX5_claim 50 = .ok (.iconst 0, 1) := by decide +kernel
theorem dX5_claim_51 : decode cX5_claim 51 = .ok (.istore 6, 2) := by decide +kernel
theorem dX5_claim_53 : decode cX5_claim 53 = .ok (.iload 6, 2) := by decide +kernel
theorem dX5_claim_55 : decode cX5_claim 55 = .ok (.bipush 8, 2) := by decide +kernel
theorem dX5_claim_57 : decode cX5_claim 57 = .ok (.if_icmp .ge 25, 3) := by decide +kernel
theorem dX5_claim_60 : decode cX5_claim 60 = .ok (.iload 5, 2) := by decide +kernel
theorem dX5_claim_62 : decode cX5_claim 62 = .ok (.aload_n 0, 1) := by decide +kernel
theorem dX5_claim_63 : decode cX5_claim 63 = .ok (.getfield 44, 3) := by decide +kernel
theorem dX5_claim_66 : decode cX5_claim 66 = .ok (.iload_n 1, 1) := by decide +kernel
theorem dX5_claim_67 : decode cX5_claim 67 = .ok (.iaload, 1) := by decide +kernel
theorem dX5_claim_68 : decode cX5_claim 68 = .ok (.iload 6, 2) := by decide +kernel
theorem dX5_claim_70 : decode cX5_claim 70 = .ok (.ishr, 1) := by decide +kernel
theorem dX5_claim_71 : decode cX5_claim 71 = .ok (.iconst 1, 1) := by decide +kernel
theorem dX5_claim_72 : decode cX5_claim 72 = .ok (.iand, 1) := by decide +kernel
theorem dX5_claim_73 : decode cX5_claim 73 = .ok (.iadd, 1) := by decide +kernel
theorem dX5_claim_74 : decode cX5_claim 74 = .ok (.istore 5, 2) := by decide +kernel
theorem dX5_claim_76 : decode cX5_claim 76 = .ok (.iinc 6 1, 3) := by decide +kernel
theorem dX5_claim_79 : decode cX5_claim 79 = .ok (.goto (-26), 3) := by decide +kernel
theorem dX5_claim_82 : decode cX5_claim 82 = .ok (.iload_n 2, 1) := by decide +kernel
theorem dX5_claim_83 : decode cX5_claim 83 = .ok (.iload 5, 2) := by decide +kernel
theorem dX5_claim_85 : decode cX5_claim 85 = .ok (.iadd, 1) := by decide +kernel
theorem dX5_claim_86 : decode cX5_claim 86 = .ok (.iconst 1, 1) := by decide +kernel
theorem dX5_claim_87 : decode cX5_claim 87 = .ok (.isub, 1) := by decide +kernel
theorem dX5_claim_88 : decode cX5_claim 88 = .ok (.iload 5, 2) := by decide +kernel
theorem dX5_claim_90 : decode cX5_claim 90 = .ok (.idiv, 1) := by decide +kernel
theorem dX5_claim_91 : decode cX5_claim 91 = .ok (.istore 6, 2) := by decide +kernel
theorem dX5_claim_93 : decode cX5_claim 93 = .ok (.iconst 0, 1) := by decide +kernel
theorem dX5_claim_94 : decode cX5_claim 94 = .ok (.istore 7, 2) := by decide +kernel
theorem dX5_claim_96 : decode cX5_claim 96 = .ok (.iload 7, 2) := by decide +kernel
theorem dX5_claim_98 : decode cX5_claim 98 = .ok (.bipush 8, 2) := by decide +kernel
theorem dX5_claim_100 : decode cX5_claim 100 = .ok (.if_icmp .ge 41, 3) := by decide +kernel
theorem dX5_claim_103 : decode cX5_claim 103 = .ok (.aload_n 0, 1) := by decide +kernel
theorem dX5_claim_104 : decode cX5_claim 104 = .ok (.getfield 71, 3) := by decide +kernel
theorem dX5_claim_107 : decode cX5_claim 107 = .ok (.iload 7, 2) := by decide +kernel
theorem dX5_claim_109 : decode cX5_claim 109 = .ok (.dup2, 1) := by decide +kernel
theorem dX5_claim_110 : decode cX5_claim 110 = .ok (.laload, 1) := by decide +kernel
theorem dX5_claim_111 : decode cX5_claim 111 = .ok (.aload_n 0, 1) := by decide +kernel
theorem dX5_claim_112 : decode cX5_claim 112 = .ok (.getfield 44, 3) := by decide +kernel
theorem dX5_claim_115 : decode cX5_claim 115 = .ok (.iload_n 1, 1) := by decide +kernel
theorem dX5_claim_116 : decode cX5_claim 116 = .ok (.iaload, 1) := by decide +kernel
theorem dX5_claim_117 : decode cX5_claim 117 = .ok (.iload 7, 2) := by decide +kernel
theorem dX5_claim_119 : decode cX5_claim 119 = .ok (.ishr, 1) := by decide +kernel
theorem dX5_claim_120 : decode cX5_claim 120 = .ok (.iconst 1, 1) := by decide +kernel
theorem dX5_claim_121 : decode cX5_claim 121 = .ok (.iand, 1) := by decide +kernel
theorem dX5_claim_122 : decode cX5_claim 122 = .ok (.iconst 1, 1) := by decide +kernel
theorem dX5_claim_123 : decode cX5_claim 123 = .ok (.if_icmp .ne 9, 3) := by decide +kernel
theorem dX5_claim_126 : decode cX5_claim 126 = .ok (.iload 6, 2) := by decide +kernel
theorem dX5_claim_128 : decode cX5_claim 128 = .ok (.i2l, 1) := by decide +kernel
theorem dX5_claim_129 : decode cX5_claim 129 = .ok (.goto 4, 3) := by decide +kernel
theorem dX5_claim_132 : decode cX5_claim 132 = .ok (.lconst 0, 1) := by decide +kernel
theorem dX5_claim_133 : decode cX5_claim 133 = .ok (.ladd, 1) := by decide +kernel
theorem dX5_claim_134 : decode cX5_claim 134 = .ok (.lastore, 1) := by decide +kernel
theorem dX5_claim_135 : decode cX5_claim 135 = .ok (.iinc 7 1, 3) := by decide +kernel
theorem dX5_claim_138 : decode cX5_claim 138 = .ok (.goto (-42), 3) := by decide +kernel
theorem dX5_claim_141 : decode cX5_claim 141 = .ok (.iload 5, 2) := by decide +kernel
theorem dX5_claim_143 : decode cX5_claim 143 = .ok (.iload 6, 2) := by decide +kernel
theorem dX5_claim_145 : decode cX5_claim 145 = .ok (.imul, 1) := by decide +kernel
theorem dX5_claim_146 : decode cX5_claim 146 = .ok (.ireturn, 1) := by decide +kernel
set_option maxRecDepth 20000 in
theorem ggX5_passes_X5_in : GoodIn wsX5_passes wsX5_in := goodIn_r _ [11] (by decide +kernel) (by decide +kernel)
set_option maxRecDepth 20000 in
theorem gX5_passes_X5_in : GoodIn wsX5_passes (va_wsS RX5 82 yX5_in wsX5_in) := goodIn_app (goodIn_of _ (by decide +kernel)) ggX5_passes_X5_in
set_option maxRecDepth 20000 in
theorem ggX5_passes_X5_lapse : GoodIn wsX5_passes wsX5_lapse := goodIn_r _ [15, 3, 16, 17, 18, 19, 20, 21, 22, 23, 24, 25, 26, 27, 28, 29, 30, 31, 32, 33, 34, 35, 36, 37, 38, 39, 40, 41, 42, 43] (by decide +kernel) (by decide +kernel)
set_option maxRecDepth 20000 in
theorem gX5_passes_X5_lapse : GoodIn wsX5_passes (wsV RX5 131 RX5 yX5_lapse wsX5_lapse) := goodIn_app (goodIn_of _ (by decide +kernel)) ggX5_passes_X5_lapse
theorem dX5_passes_0 : decode cX5_passes 0 = .ok (.aload_n 0, 1) := by decide +kernel
theorem dX5_passes_1 : decode cX5_passes 1 = .ok (.dup, 1) := by decide +kernel
theorem dX5_passes_2 : decode cX5_passes 2 = .ok (.getfield 117, 3) := by decide +kernel
theorem dX5_passes_5 : decode cX5_passes 5 = .ok (.iconst 1, 1) := by decide +kernel
theorem dX5_passes_6 : decode cX5_passes 6 = .ok (.iadd, 1) := by decide +kernel
theorem dX5_passes_7 : decode cX5_passes 7 = .ok (.putfield 117, 3) := by decide +kernel
theorem dX5_passes_10 : decode cX5_passes 10 = .ok (.iconst 0, 1) := by decide +kernel
theorem dX5_passes_11 : decode cX5_passes 11 = .ok (.istore_n 1, 1) := by decide +kernel
theorem dX5_passes_12 : decode cX5_passes 12 = .ok (.iload_n 1, 1) := by decide +kernel
theorem dX5_passes_13 : decode cX5_passes 13 = .ok (.aload_n 0, 1) := by decide +kernel
theorem dX5_passes_14 : decode cX5_passes 14 = .ok (.getfield 79, 3) := by decide +kernel
theorem dX5_passes_17 : decode cX5_passes 17 = .ok (.if_icmp .ge 82, 3) := by decide +kernel
theorem dX5_passes_20 : decode cX5_passes 20 = .ok (.aload_n 0, 1) := by decide +kernel
theorem dX5_passes_21 : decode cX5_passes 21 = .ok (.getfield 25, 3) := by decide +kernel
theorem dX5_passes_24 : decode cX5_passes 24 = .ok (.iload_n 1, 1) := by decide +kernel
theorem dX5_passes_25 : decode cX5_passes 25 = .ok (.iaload, 1) := by decide +kernel
theorem dX5_passes_26 : decode cX5_passes 26 = .ok (.iconst 0, 1) := by decide +kernel
theorem dX5_passes_27 : decode cX5_passes 27 = .ok (.iconst 1, 1) := by decide +kernel
theorem dX5_passes_28 : decode cX5_passes 28 = .ok (.invokestatic 82, 3) := by decide +kernel
theorem dX5_passes_31 : decode cX5_passes 31 = .ok (.ifCond .eq 24, 3) := by decide +kernel
theorem dX5_passes_34 : decode cX5_passes 34 = .ok (.aload_n 0, 1) := by decide +kernel
theorem dX5_passes_35 : decode cX5_passes 35 = .ok (.getfield 117, 3) := by decide +kernel
theorem dX5_passes_38 : decode cX5_passes 38 = .ok (.aload_n 0, 1) := by decide +kernel
theorem dX5_passes_39 : decode cX5_passes 39 = .ok (.getfield 35, 3) := by decide +kernel
theorem dX5_passes_42 : decode cX5_passes 42 = .ok (.iload_n 1, 1) := by decide +kernel
theorem dX5_passes_43 : decode cX5_passes 43 = .ok (.iaload, 1) := by decide +kernel
theorem dX5_passes_44 : decode cX5_passes 44 = .ok (.sipush 700, 3) := by decide +kernel
theorem dX5_passes_47 : decode cX5_passes 47 = .ok (.iadd, 1) := by decide +kernel
theorem dX5_passes_48 : decode cX5_passes 48 = .ok (.if_icmp .lt 7, 3) := by decide +kernel
theorem dX5_passes_51 : decode cX5_passes 51 = .ok (.iconst 1, 1) := by decide +kernel
theorem dX5_passes_52 : decode cX5_passes 52 = .ok (.goto 4, 3) := by decide +kernel
theorem dX5_passes_55 : decode cX5_passes 55 = .ok (.iconst 0, 1) := by decide +kernel
theorem dX5_passes_56 : decode cX5_passes 56 = .ok (.istore_n 2, 1) := by decide +kernel
theorem dX5_passes_57 : decode cX5_passes 57 = .ok (.iload_n 2, 1) := by decide +kernel
theorem dX5_passes_58 : decode cX5_passes 58 = .ok (.ifCond .ne 30, 3) := by decide +kernel
theorem dX5_passes_61 : decode cX5_passes 61 = .ok (.aload_n 0, 1) := by decide +kernel
theorem dX5_passes_62 : decode cX5_passes 62 = .ok (.getfield 25, 3) := by decide +kernel
theorem dX5_passes_65 : decode cX5_passes 65 = .ok (.iload_n 1, 1) := by decide +kernel
theorem dX5_passes_66 : decode cX5_passes 66 = .ok (.iaload, 1) := by decide +kernel
theorem dX5_passes_67 : decode cX5_passes 67 = .ok (.iconst 3, 1) := by decide +kernel
theorem dX5_passes_68 : decode cX5_passes 68 = .ok (.if_icmp .ne 25, 3) := by decide +kernel
theorem dX5_passes_71 : decode cX5_passes 71 = .ok (.aload_n 0, 1) := by decide +kernel
theorem dX5_passes_72 : decode cX5_passes 72 = .ok (.getfield 117, 3) := by decide +kernel
theorem dX5_passes_75 : decode cX5_passes 75 = .ok (.aload_n 0, 1) := by decide +kernel
theorem dX5_passes_76 : decode cX5_passes 76 = .ok (.getfield 38, 3) := by decide +kernel
theorem dX5_passes_79 : decode cX5_passes 79 = .ok (.iload_n 1, 1) := by decide +kernel
theorem dX5_passes_80 : decode cX5_passes 80 = .ok (.iaload, 1) := by decide +kernel
theorem dX5_passes_81 : decode cX5_passes 81 = .ok (.sipush 300, 3) := by decide +kernel
theorem dX5_passes_84 : decode cX5_passes 84 = .ok (.iadd, 1) := by decide +kernel
theorem dX5_passes_85 : decode cX5_passes 85 = .ok (.if_icmp .lt 8, 3) := by decide +kernel
theorem dX5_passes_88 : decode cX5_passes 88 = .ok (.aload_n 0, 1) := by decide +kernel
theorem dX5_passes_89 : decode cX5_passes 89 = .ok (.iload_n 1, 1) := by decide +kernel
theorem dX5_passes_90 : decode cX5_passes 90 = .ok (.invokevirtual 131, 3) := by decide +kernel
theorem dX5_passes_93 : decode cX5_passes 93 = .ok (.iinc 1 1, 3) := by decide +kernel
theorem dX5_passes_96 : decode cX5_passes 96 = .ok (.goto (-84), 3) := by decide +kernel
theorem dX5_passes_99 : decode cX5_passes 99 = .ok (.aload_n 0, 1) := by decide +kernel
theorem dX5_passes_100 : decode cX5_passes 100 = .ok (.getfield 117, 3) := by decide +kernel
theorem dX5_passes_103 : decode cX5_passes 103 = .ok (.bipush 50, 2) := by decide +kernel
theorem dX5_passes_105 : decode cX5_passes 105 = .ok (.irem, 1) := by decide +kernel
theorem dX5_passes_106 : decode cX5_passes 106 = .ok (.ifCond .ne 81, 3) := by decide +kernel
theorem dX5_passes_109 : decode cX5_passes 109 = .ok (.iconst 0, 1) := by decide +kernel
theorem dX5_passes_110 : decode cX5_passes 110 = .ok (.istore_n 1, 1) := by decide +kernel
theorem dX5_passes_111 : decode cX5_passes 111 = .ok (.iload_n 1, 1) := by decide +kernel
theorem dX5_passes_112 : decode cX5_passes 112 = .ok (.bipush 36, 2) := by decide +kernel
theorem dX5_passes_114 : decode cX5_passes 114 = .ok (.if_icmp .ge 24, 3) := by decide +kernel
theorem dX5_passes_117 : decode cX5_passes 117 = .ok (.aload_n 0, 1) := by decide +kernel
theorem dX5_passes_118 : decode cX5_passes 118 = .ok (.getfield 68, 3) := by decide +kernel
theorem dX5_passes_121 : decode cX5_passes 121 = .ok (.iload_n 1, 1) := by decide +kernel
theorem dX5_passes_122 : decode cX5_passes 122 = .ok (.aload_n 0, 1) := by decide +kernel
theorem dX5_passes_123 : decode cX5_passes 123 = .ok (.getfield 65, 3) := by decide +kernel
theorem dX5_passes_126 : decode cX5_passes 126 = .ok (.iload_n 1, 1) := by decide +kernel
theorem dX5_passes_127 : decode cX5_passes 127 = .ok (.iaload, 1) := by decide +kernel
theorem dX5_passes_128 : decode cX5_passes 128 = .ok (.bipush 10, 2) := by decide +kernel
theorem dX5_passes_130 : decode cX5_passes 130 = .ok (.idiv, 1) := by decide +kernel
theorem dX5_passes_131 : decode cX5_passes 131 = .ok (.iastore, 1) := by decide +kernel
theorem dX5_passes_132 : decode cX5_passes 132 = .ok (.iinc 1 1, 3) := by decide +kernel
theorem dX5_passes_135 : decode cX5_passes 135 = .ok (.goto (-24), 3) := by decide +kernel
theorem dX5_passes_138 : decode cX5_passes 138 = .ok (.iconst 0, 1) := by decide +kernel
theorem dX5_passes_139 : decode cX5_passes 139 = .ok (.istore_n 1, 1) := by decide +kernel
theorem dX5_passes_140 : decode cX5_passes 140 = .ok (.iload_n 1, 1) := by decide +kernel
theorem dX5_passes_141 : decode cX5_passes 141 = .ok (.bipush 36, 2) := by decide +kernel
theorem dX5_passes_143 : decode cX5_passes 143 = .ok (.if_icmp .ge 44, 3) := by decide +kernel
theorem dX5_passes_146 : decode cX5_passes 146 = .ok (.aload_n 0, 1) := by decide +kernel
theorem dX5_passes_147 : decode cX5_passes 147 = .ok (.getfield 65, 3) := by decide +kernel
theorem dX5_passes_150 : decode cX5_passes 150 = .ok (.iload_n 1, 1) := by decide +kernel
theorem dX5_passes_151 : decode cX5_passes 151 = .ok (.dup2, 1) := by decide +kernel
theorem dX5_passes_152 : decode cX5_passes 152 = .ok (.iaload, 1) := by decide +kernel
theorem dX5_passes_153 : decode cX5_passes 153 = .ok (.aload_n 0, 1) := by decide +kernel
theorem dX5_passes_154 : decode cX5_passes 154 = .ok (.getfield 68, 3) := by decide +kernel
theorem dX5_passes_157 : decode cX5_passes 157 = .ok (.iload_n 1, 1) := by decide +kernel
theorem dX5_passes_158 : decode cX5_passes 158 = .ok (.iaload, 1) := by decide +kernel
theorem dX5_passes_159 : decode cX5_passes 159 = .ok (.isub, 1) := by decide +kernel
theorem dX5_passes_160 : decode cX5_passes 160 = .ok (.iastore, 1) := by decide +kernel
theorem dX5_passes_161 : decode cX5_passes 161 = .ok (.aload_n 0, 1) := by decide +kernel
theorem dX5_passes_162 : decode cX5_passes 162 = .ok (.getfield 65, 3) := by decide +kernel
theorem dX5_passes_165 : decode cX5_passes 165 = .ok (.iload_n 1, 1) := by decide +kernel
theorem dX5_passes_166 : decode cX5_passes 166 = .ok (.iconst 1, 1) := by decide +kernel
theorem dX5_passes_167 : decode cX5_passes 167 = .ok (.iadd, 1) := by decide +kernel
theorem dX5_passes_168 : decode cX5_passes 168 = .ok (.bipush 36, 2) := by decide +kernel
theorem dX5_passes_170 : decode cX5_passes 170 = .ok (.irem, 1) := by decide +kernel
theorem dX5_passes_171 : decode cX5_passes 171 = .ok (.dup2, 1) := by decide +kernel
theorem dX5_passes_172 : decode cX5_passes 172 = .ok (.iaload, 1) := by decide +kernel
theorem dX5_passes_173 : decode cX5_passes 173 = .ok (.aload_n 0, 1) := by decide +kernel
theorem dX5_passes_174 : decode cX5_passes 174 = .ok (.getfield 68, 3) := by decide +kernel
theorem dX5_passes_177 : decode cX5_passes 177 = .ok (.iload_n 1, 1) := by decide +kernel
theorem dX5_passes_178 : decode cX5_passes 178 = .ok (.iaload, 1) := by decide +kernel
theorem dX5_passes_179 : decode cX5_passes 179 = .ok (.iadd, 1) := by decide +kernel
theorem dX5_passes_180 : decode cX5_passes 180 = .ok (.iastore, 1) := by decide +kernel
theorem dX5_passes_181 : decode cX5_passes 181 = .ok (.iinc 1 1, 3) := by decide +kernel
theorem dX5_passes_184 : decode cX5_passes 184 = .ok (.goto (-44), 3) := by decide +kernel
theorem dX5_passes_187 : decode cX5_passes 187 = .ok (.return_, 1) := by decide +kernel
set_option maxRecDepth 20000 in
theorem ggX5_pass_X5_in : GoodIn wsX5_pass wsX5_in := goodIn_r _ [5] (by decide +kernel) (by decide +kernel)
set_option maxRecDepth 20000 in
theorem gX5_pass_X5_in : GoodIn wsX5_pass (va_wsS RX5 82 yX5_in wsX5_in) := goodIn_app (goodIn_of _ (by decide +kernel)) ggX5_pass_X5_in
set_option maxRecDepth 20000 in
theorem ggX5_pass_X5_refused : GoodIn wsX5_pass wsX5_refused := goodIn_r _ [9, 10, 27, 28, 29, 30, 31, 32, 33, 34, 35, 36, 37, 38, 39, 40, 41, 42, 43, 44, 45, 46, 47, 48, 49, 50, 51, 52] (by decide +kernel) (by decide +kernel)
set_option maxRecDepth 20000 in
theorem gX5_pass_X5_refused : GoodIn wsX5_pass (wsV RX5 111 RX5 yX5_refused wsX5_refused) := goodIn_app (goodIn_of _ (by decide +kernel)) ggX5_pass_X5_refused
set_option maxRecDepth 20000 in
theorem ggX5_pass_X5_passes : GoodIn wsX5_pass wsX5_passes := goodIn_r _ [14, 1, 15, 16, 17, 18, 19, 20, 2, 3, 4, 5, 21, 22, 23, 24, 25, 26, 27, 28, 29, 30, 31, 32, 33, 34, 35, 36, 37, 38, 39, 40, 41, 42, 43, 44, 45, 46, 47, 48, 49, 50, 51, 52] (by decide +kernel) (by decide +kernel)
set_option maxRecDepth 20000 in
theorem gX5_pass_X5_passes : GoodIn wsX5_pass (wsV RX5 154 RX5 yX5_passes wsX5_passes) := goodIn_app (goodIn_of _ (by decide +kernel)) ggX5_pass_X5_passes
theorem dX5_pass_0 : decode cX5_pass 0 = .ok (.aload_n 0, 1) := by decide +kernel
theorem dX5_pass_1 : decode cX5_pass 1 = .ok (.iload_n 1, 1) := by decide +kernel
theorem dX5_pass_2 : decode cX5_pass 2 = .ok (.iconst 1, 1) := by decide +kernel
theorem dX5_pass_3 : decode cX5_pass 3 = .ok (.sipush 400, 3) := by decide +kernel
theorem dX5_pass_6 : decode cX5_pass 6 = .ok (.invokestatic 82, 3) := by decide +kernel
theorem dX5_pass_9 : decode cX5_pass 9 = .ok (.ifCond .ne 7, 3) := by decide +kernel
theorem dX5_pass_12 : decode cX5_pass 12 = .ok (.iconst 1, 1) := by decide +kernel
theorem dX5_pass_13 : decode cX5_pass 13 = .ok (.goto 20, 3) := by decide +kernel
theorem dX5_pass_16 : decode cX5_pass 16 = .ok (.aload_n 0, 1) := by decide +kernel
theorem dX5_pass_17 : decode cX5_pass 17 = .ok (.getfield 117, 3) := by decide +kernel
theorem dX5_pass_20 : decode cX5_pass 20 = .ok (.iload_n 1, 1) := by decide +kernel
theorem dX5_pass_21 : decode cX5_pass 21 = .ok (.iadd, 1) := by decide +kernel
theorem dX5_pass_22 : decode cX5_pass 22 = .ok (.sipush 5000, 3) := by decide +kernel
theorem dX5_pass_25 : decode cX5_pass 25 = .ok (.if_icmp .le 7, 3) := by decide +kernel
theorem dX5_pass_28 : decode cX5_pass 28 = .ok (.iconst 2, 1) := by decide +kernel
theorem dX5_pass_29 : decode cX5_pass 29 = .ok (.goto 4, 3) := by decide +kernel
theorem dX5_pass_32 : decode cX5_pass 32 = .ok (.iconst 0, 1) := by decide +kernel
theorem dX5_pass_33 : decode cX5_pass 33 = .ok (.invokevirtual 111, 3) := by decide +kernel
theorem dX5_pass_36 : decode cX5_pass 36 = .ok (.ifCond .eq 5, 3) := by decide +kernel
theorem dX5_pass_39 : decode cX5_pass 39 = .ok (.iconst 0, 1) := by decide +kernel
theorem dX5_pass_40 : decode cX5_pass 40 = .ok (.ireturn, 1) := by decide +kernel
theorem dX5_pass_41 : decode cX5_pass 41 = .ok (.iconst 0, 1) := by decide +kernel
theorem dX5_pass_42 : decode cX5_pass 42 = .ok (.istore_n 2, 1) := by decide +kernel
theorem dX5_pass_43 : decode cX5_pass 43 = .ok (.iload_n 2, 1) := by decide +kernel
theorem dX5_pass_44 : decode cX5_pass 44 = .ok (.iload_n 1, 1) := by decide +kernel
theorem dX5_pass_45 : decode cX5_pass 45 = .ok (.if_icmp .ge 13, 3) := by decide +kernel
theorem dX5_pass_48 : decode cX5_pass 48 = .ok (.aload_n 0, 1) := by decide +kernel
theorem dX5_pass_49 : decode cX5_pass 49 = .ok (.invokevirtual 154, 3) := by decide +kernel
theorem dX5_pass_52 : decode cX5_pass 52 = .ok (.iinc 2 1, 3) := by decide +kernel
theorem dX5_pass_55 : decode cX5_pass 55 = .ok (.goto (-12), 3) := by decide +kernel
theorem dX5_pass_58 : decode cX5_pass 58 = .ok (.aload_n 0, 1) := by decide +kernel
theorem dX5_pass_59 : decode cX5_pass 59 = .ok (.getfield 117, 3) := by decide +kernel
theorem dX5_pass_62 : decode cX5_pass 62 = .ok (.ireturn, 1) := by decide +kernel
theorem dX5_day_0 : decode cX5_day 0 = .ok (.aload_n 0, 1) := by decide +kernel
theorem dX5_day_1 : decode cX5_day 1 = .ok (.iconst 0, 1) := by decide +kernel
theorem dX5_day_2 : decode cX5_day 2 = .ok (.putfield 75, 3) := by decide +kernel
theorem dX5_day_5 : decode cX5_day 5 = .ok (.aload_n 0, 1) := by decide +kernel
theorem dX5_day_6 : decode cX5_day 6 = .ok (.getfield 117, 3) := by decide +kernel
theorem dX5_day_9 : decode cX5_day 9 = .ok (.ireturn, 1) := by decide +kernel
set_option maxRecDepth 20000 in
theorem ggX5_endOf_X5_in : GoodIn wsX5_endOf wsX5_in := goodIn_r _ [7] (by decide +kernel) (by decide +kernel)
set_option maxRecDepth 20000 in
theorem gX5_endOf_X5_in : GoodIn wsX5_endOf (va_wsS RX5 82 yX5_in wsX5_in) := goodIn_app (goodIn_of _ (by decide +kernel)) ggX5_endOf_X5_in
theorem dX5_endOf_0 : decode cX5_endOf 0 = .ok (.aload_n 0, 1) := by decide +kernel
theorem dX5_endOf_1 : decode cX5_endOf 1 = .ok (.getfield 25, 3) := by decide +kernel
theorem dX5_endOf_4 : decode cX5_endOf 4 = .ok (.iload_n 1, 1) := by decide +kernel
theorem dX5_endOf_5 : decode cX5_endOf 5 = .ok (.iaload, 1) := by decide +kernel
theorem dX5_endOf_6 : decode cX5_endOf 6 = .ok (.iconst 0, 1) := by decide +kernel
theorem dX5_endOf_7 : decode cX5_endOf 7 = .ok (.iconst 1, 1) := by decide +kernel
theorem dX5_endOf_8 : decode cX5_endOf 8 = .ok (.invokestatic 82, 3) := by decide +kernel
theorem dX5_endOf_11 : decode cX5_endOf 11 = .ok (.ifCond .eq 14, 3) := by decide +kernel
theorem dX5_endOf_14 : decode cX5_endOf 14 = .ok (.aload_n 0, 1) := by decide +kernel
theorem dX5_endOf_15 : decode cX5_endOf 15 = .ok (.getfield 35, 3) := by decide +kernel
theorem dX5_endOf_18 : decode cX5_endOf 18 = .ok (.iload_n 1, 1) := by decide +kernel
theorem dX5_endOf_19 : decode cX5_endOf 19 = .ok (.iaload, 1) := by decide +kernel
theorem dX5_endOf_20 : decode cX5_endOf 20 = .ok (.sipush 700, 3) := by decide +kernel
theorem dX5_endOf_23 : decode cX5_endOf 23 = .ok (.iadd, 1) := by decide +kernel
theorem dX5_endOf_24 : decode cX5_endOf 24 = .ok (.ireturn, 1) := by decide +kernel
theorem dX5_endOf_25 : decode cX5_endOf 25 = .ok (.aload_n 0, 1) := by decide +kernel
theorem dX5_endOf_26 : decode cX5_endOf 26 = .ok (.getfield 25, 3) := by decide +kernel
theorem dX5_endOf_29 : decode cX5_endOf 29 = .ok (.iload_n 1, 1) := by decide +kernel
theorem dX5_endOf_30 : decode cX5_endOf 30 = .ok (.iaload, 1) := by decide +kernel
theorem dX5_endOf_31 : decode cX5_endOf 31 = .ok (.iconst 3, 1) := by decide +kernel
theorem dX5_endOf_32 : decode cX5_endOf 32 = .ok (.if_icmp .ne 16, 3) := by decide +kernel
theorem dX5_endOf_35 : decode cX5_endOf 35 = .ok (.aload_n 0, 1) := by decide +kernel
theorem dX5_endOf_36 : decode cX5_endOf 36 = .ok (.getfield 38, 3) := by decide +kernel
theorem dX5_endOf_39 : decode cX5_endOf 39 = .ok (.iload_n 1, 1) := by decide +kernel
theorem dX5_endOf_40 : decode cX5_endOf 40 = .ok (.iaload, 1) := by decide +kernel
theorem dX5_endOf_41 : decode cX5_endOf 41 = .ok (.sipush 300, 3) := by decide +kernel
theorem dX5_endOf_44 : decode cX5_endOf 44 = .ok (.iadd, 1) := by decide +kernel
theorem dX5_endOf_45 : decode cX5_endOf 45 = .ok (.goto 4, 3) := by decide +kernel
theorem dX5_endOf_48 : decode cX5_endOf 48 = .ok (.iconst (-1), 1) := by decide +kernel
theorem dX5_endOf_49 : decode cX5_endOf 49 = .ok (.ireturn, 1) := by decide +kernel
set_option maxRecDepth 20000 in
theorem ggX5_filingOf_X5_isFiling : GoodIn wsX5_filingOf wsX5_isFiling := goodIn_r _ [13, 14, 15, 16, 12, 17, 29, 30, 31, 32, 33, 34, 35, 36, 37, 38, 39, 40, 41, 42, 43, 44, 45, 46, 47, 48, 49, 50, 51, 52, 53, 54] (by decide +kernel) (by decide +kernel)
set_option maxRecDepth 20000 in
theorem gX5_filingOf_X5_isFiling : GoodIn wsX5_filingOf (wsV RX5 120 RX5 yX5_isFiling wsX5_isFiling) := goodIn_app (goodIn_of _ (by decide +kernel)) ggX5_filingOf_X5_isFiling
set_option maxRecDepth 20000 in
theorem ggX5_filingOf_X5_in : GoodIn wsX5_filingOf wsX5_in := goodIn_r _ [17] (by decide +kernel) (by decide +kernel)
set_option maxRecDepth 20000 in
theorem gX5_filingOf_X5_in : GoodIn wsX5_filingOf (va_wsS RX5 82 yX5_in wsX5_in) := goodIn_app (goodIn_of _ (by decide +kernel)) ggX5_filingOf_X5_in
set_option maxRecDepth 20000 in
theorem ggX5_filingOf_X5_refused : GoodIn wsX5_filingOf wsX5_refused := goodIn_r _ [21, 22, 29, 30, 31, 32, 33, 34, 35, 36, 37, 38, 39, 40, 41, 42, 43, 44, 45, 46, 47, 48, 49, 50, 51, 52, 53, 54] (by decide +kernel) (by decide +kernel)
set_option maxRecDepth 20000 in
theorem gX5_filingOf_X5_refused : GoodIn wsX5_filingOf (wsV RX5 111 RX5 yX5_refused wsX5_refused) := goodIn_app (goodIn_of _ (by decide +kernel)) ggX5_filingOf_X5_refused
set_option maxRecDepth 20000 in
theorem ggX5_filingOf_X5_endOf : GoodIn wsX5_filingOf wsX5_endOf := goodIn_r _ [26, 6, 27, 28, 15, 16, 12, 17, 29, 30, 31, 32, 33, 34, 35, 36, 37, 38, 39, 40, 41, 42, 43, 44, 45, 46, 47, 48, 49, 50, 51, 52, 53, 54] (by decide +kernel) (by decide +kernel)
set_option maxRecDepth 20000 in
theorem gX5_filingOf_X5_endOf : GoodIn wsX5_filingOf (wsV RX5 157 RX5 yX5_endOf wsX5_endOf) := goodIn_app (goodIn_of _ (by decide +kernel)) ggX5_filingOf_X5_endOf
theorem dX5_filingOf_0 : decode cX5_filingOf 0 = .ok (.aload_n 0, 1) := by decide +kernel
theorem dX5_filingOf_1 : decode cX5_filingOf 1 = .ok (.aload_n 0, 1) := by decide +kernel
theorem dX5_filingOf_2 : decode cX5_filingOf 2 = .ok (.iload_n 1, 1) := by decide +kernel
theorem dX5_filingOf_3 : decode cX5_filingOf 3 = .ok (.invokevirtual 120, 3) := by decide +kernel
theorem dX5_filingOf_6 : decode cX5_filingOf 6 = .ok (.ifCond .ne 7, 3) := by decide +kernel
theorem dX5_filingOf_9 : decode cX5_filingOf 9 = .ok (.iconst 1, 1) := by decide +kernel
theorem dX5_filingOf_10 : decode cX5_filingOf 10 = .ok (.goto 18, 3) := by decide +kernel
theorem dX5_filingOf_13 : decode cX5_filingOf 13 = .ok (.iload_n 2, 1) := by decide +kernel
theorem dX5_filingOf_14 : decode cX5_filingOf 14 = .ok (.iconst 0, 1) := by decide +kernel
theorem dX5_filingOf_15 : decode cX5_filingOf 15 = .ok (.bipush 8, 2) := by decide +kernel
theorem dX5_filingOf_17 : decode cX5_filingOf 17 = .ok (.invokestatic 82, 3) := by decide +kernel
theorem dX5_filingOf_20 : decode cX5_filingOf 20 = .ok (.ifCond .ne 7, 3) := by decide +kernel
theorem dX5_filingOf_23 : decode cX5_filingOf 23 = .ok (.iconst 2, 1) := by decide +kernel
theorem dX5_filingOf_24 : decode cX5_filingOf 24 = .ok (.goto 4, 3) := by decide +kernel
theorem dX5_filingOf_27 : decode cX5_filingOf 27 = .ok (.iconst 0, 1) := by decide +kernel
theorem dX5_filingOf_28 : decode cX5_filingOf 28 = .ok (.invokevirtual 111, 3) := by decide +kernel
theorem dX5_filingOf_31 : decode cX5_filingOf 31 = .ok (.ifCond .eq 5, 3) := by decide +kernel
theorem dX5_filingOf_34 : decode cX5_filingOf 34 = .ok (.iconst 0, 1) := by decide +kernel
theorem dX5_filingOf_35 : decode cX5_filingOf 35 = .ok (.ireturn, 1) := by decide +kernel
theorem dX5_filingOf_36 : decode cX5_filingOf 36 = .ok (.iload_n 2, 1) := by decide +kernel
theorem dX5_filingOf_37 : decode cX5_filingOf 37 = .ok (.tableswitch 111 0 7 #[47, 54, 61, 68, 75, 82, 89, 104], 47) := by decide +kernel
theorem dX5_filingOf_84 : decode cX5_filingOf 84 = .ok (.aload_n 0, 1) := by decide +kernel
theorem dX5_filingOf_85 : decode cX5_filingOf 85 = .ok (.getfield 7, 3) := by decide +kernel
theorem dX5_filingOf_88 : decode cX5_filingOf 88 = .ok (.iload_n 1, 1) := by decide +kernel
theorem dX5_filingOf_89 : decode cX5_filingOf 89 = .ok (.iaload, 1) := by decide +kernel
theorem dX5_filingOf_90 : decode cX5_filingOf 90 = .ok (.ireturn, 1) := by decide +kernel
theorem dX5_filingOf_91 : decode cX5_filingOf 91 = .ok (.aload_n 0, 1) := by decide +kernel
theorem dX5_filingOf_92 : decode cX5_filingOf 92 = .ok (.getfield 13, 3) := by decide +kernel
theorem dX5_filingOf_95 : decode cX5_filingOf 95 = .ok (.iload_n 1, 1) := by decide +kernel
theorem dX5_filingOf_96 : decode cX5_filingOf 96 = .ok (.iaload, 1) := by decide +kernel
theorem dX5_filingOf_97 : decode cX5_filingOf 97 = .ok (.ireturn, 1) := by decide +kernel
theorem dX5_filingOf_98 : decode cX5_filingOf 98 = .ok (.aload_n 0, 1) := by decide +kernel
theorem dX5_filingOf_99 : decode cX5_filingOf 99 = .ok (.getfield 16, 3) := by decide +kernel
theorem dX5_filingOf_102 : decode cX5_filingOf 102 = .ok (.iload_n 1, 1) := by decide +kernel
theorem dX5_filingOf_103 : decode cX5_filingOf 103 = .ok (.iaload, 1) := by decide +kernel
theorem dX5_filingOf_104 : decode cX5_filingOf 104 = .ok (.ireturn, 1) := by decide +kernel
theorem dX5_filingOf_105 : decode cX5_filingOf 105 = .ok (.aload_n 0, 1) := by decide +kernel
theorem dX5_filingOf_106 : decode cX5_filingOf 106 = .ok (.getfield 19, 3) := by decide +kernel
theorem dX5_filingOf_109 : decode cX5_filingOf 109 = .ok (.iload_n 1, 1) := by decide +kernel
theorem dX5_filingOf_110 : decode cX5_filingOf 110 = .ok (.iaload, 1) := by decide +kernel
theorem dX5_filingOf_111 : decode cX5_filingOf 111 = .ok (.ireturn, 1) := by decide +kernel
theorem dX5_filingOf_112 : decode cX5_filingOf 112 = .ok (.aload_n 0, 1) := by decide +kernel
theorem dX5_filingOf_113 : decode cX5_filingOf 113 = .ok (.getfield 22, 3) := by decide +kernel
theorem dX5_filingOf_116 : decode cX5_filingOf 116 = .ok (.iload_n 1, 1) := by decide +kernel
theorem dX5_filingOf_117 : decode cX5_filingOf 117 = .ok (.iaload, 1) := by decide +kernel
theorem dX5_filingOf_118 : decode cX5_filingOf 118 = .ok (.ireturn, 1) := by decide +kernel
theorem dX5_filingOf_119 : decode cX5_filingOf 119 = .ok (.aload_n 0, 1) := by decide +kernel
theorem dX5_filingOf_120 : decode cX5_filingOf 120 = .ok (.getfield 25, 3) := by decide +kernel
theorem dX5_filingOf_123 : decode cX5_filingOf 123 = .ok (.iload_n 1, 1) := by decide +kernel
theorem dX5_filingOf_124 : decode cX5_filingOf 124 = .ok (.iaload, 1) := by decide +kernel
theorem dX5_filingOf_125 : decode cX5_filingOf 125 = .ok (.ireturn, 1) := by decide +kernel
theorem dX5_filingOf_126 : decode cX5_filingOf 126 = .ok (.aload_n 0, 1) := by decide +kernel
theorem dX5_filingOf_127 : decode cX5_filingOf 127 = .ok (.getfield 28, 3) := by decide +kernel
theorem dX5_filingOf_130 : decode cX5_filingOf 130 = .ok (.iload_n 1, 1) := by decide +kernel
theorem dX5_filingOf_131 : decode cX5_filingOf 131 = .ok (.baload, 1) := by decide +kernel
theorem dX5_filingOf_132 : decode cX5_filingOf 132 = .ok (.ifCond .eq 7, 3) := by decide +kernel
theorem dX5_filingOf_135 : decode cX5_filingOf 135 = .ok (.iconst 1, 1) := by decide +kernel
theorem dX5_filingOf_136 : decode cX5_filingOf 136 = .ok (.goto 4, 3) := by decide +kernel
theorem dX5_filingOf_139 : decode cX5_filingOf 139 = .ok (.iconst 0, 1) := by decide +kernel
theorem dX5_filingOf_140 : decode cX5_filingOf 140 = .ok (.ireturn, 1) := by decide +kernel
theorem dX5_filingOf_141 : decode cX5_filingOf 141 = .ok (.aload_n 0, 1) := by decide +kernel
theorem dX5_filingOf_142 : decode cX5_filingOf 142 = .ok (.getfield 32, 3) := by decide +kernel
theorem dX5_filingOf_145 : decode cX5_filingOf 145 = .ok (.iload_n 1, 1) := by decide +kernel
theorem dX5_filingOf_146 : decode cX5_filingOf 146 = .ok (.iaload, 1) := by decide +kernel
theorem dX5_filingOf_147 : decode cX5_filingOf 147 = .ok (.ireturn, 1) := by decide +kernel
theorem dX5_filingOf_148 : decode cX5_filingOf 148 = .ok (.aload_n 0, 1) := by decide +kernel
theorem dX5_filingOf_149 : decode cX5_filingOf 149 = .ok (.iload_n 1, 1) := by decide +kernel
theorem dX5_filingOf_150 : decode cX5_filingOf 150 = .ok (.invokevirtual 157, 3) := by decide +kernel
theorem dX5_filingOf_153 : decode cX5_filingOf 153 = .ok (.ireturn, 1) := by decide +kernel
set_option maxRecDepth 20000 in
theorem ggX5_stateAnew_X5_isFiling : GoodIn wsX5_stateAnew wsX5_isFiling := goodIn_r _ [6, 7, 8, 9, 5, 10, 16, 17, 18, 19, 20, 21, 22, 23, 24, 25, 26, 27, 28, 29, 30, 31, 32, 33, 34, 35, 36, 37, 38, 39, 40, 41] (by decide +kernel) (by decide +kernel)
set_option maxRecDepth 20000 in
theorem gX5_stateAnew_X5_isFiling : GoodIn wsX5_stateAnew (wsV RX5 120 RX5 yX5_isFiling wsX5_isFiling) := goodIn_app (goodIn_of _ (by decide +kernel)) ggX5_stateAnew_X5_isFiling
set_option maxRecDepth 20000 in
theorem ggX5_stateAnew_X5_refused : GoodIn wsX5_stateAnew wsX5_refused := goodIn_r _ [14, 15, 16, 17, 18, 19, 20, 21, 22, 23, 24, 25, 26, 27, 28, 29, 30, 31, 32, 33, 34, 35, 36, 37, 38, 39, 40, 41] (by decide +kernel) (by decide +kernel)
set_option maxRecDepth 20000 in
theorem gX5_stateAnew_X5_refused : GoodIn wsX5_stateAnew (wsV RX5 111 RX5 yX5_refused wsX5_refused) := goodIn_app (goodIn_of _ (by decide +kernel)) ggX5_stateAnew_X5_refused
theorem dX5_stateAnew_0 : decode cX5_stateAnew 0 = .ok (.aload_n 0, 1) := by decide +kernel
theorem dX5_stateAnew_1 : decode cX5_stateAnew 1 = .ok (.aload_n 0, 1) := by decide +kernel
theorem dX5_stateAnew_2 : decode cX5_stateAnew 2 = .ok (.iload_n 1, 1) := by decide +kernel
theorem dX5_stateAnew_3 : decode cX5_stateAnew 3 = .ok (.invokevirtual 120, 3) := by decide +kernel
theorem dX5_stateAnew_6 : decode cX5_stateAnew 6 = .ok (.ifCond .eq 7, 3) := by decide +kernel
theorem dX5_stateAnew_9 : decode cX5_stateAnew 9 = .ok (.iconst 0, 1) := by decide +kernel
theorem dX5_stateAnew_10 : decode cX5_stateAnew 10 = .ok (.goto 4, 3) := by decide +kernel
theorem dX5_stateAnew_13 : decode cX5_stateAnew 13 = .ok (.iconst 1, 1) := by decide +kernel
theorem dX5_stateAnew_14 : decode cX5_stateAnew 14 = .ok (.invokevirtual 111, 3) := by decide +kernel
theorem dX5_stateAnew_17 : decode cX5_stateAnew 17 = .ok (.ifCond .eq 7, 3) := by decide +kernel
theorem dX5_stateAnew_20 : decode cX5_stateAnew 20 = .ok (.iconst 0, 1) := by decide +kernel
theorem dX5_stateAnew_21 : decode cX5_stateAnew 21 = .ok (.goto 9, 3) := by decide +kernel
theorem dX5_stateAnew_24 : decode cX5_stateAnew 24 = .ok (.aload_n 0, 1) := by decide +kernel
theorem dX5_stateAnew_25 : decode cX5_stateAnew 25 = .ok (.getfield 25, 3) := by decide +kernel
theorem dX5_stateAnew_28 : decode cX5_stateAnew 28 = .ok (.iload_n 1, 1) := by decide +kernel
theorem dX5_stateAnew_29 : decode cX5_stateAnew 29 = .ok (.iaload, 1) := by decide +kernel
theorem dX5_stateAnew_30 : decode cX5_stateAnew 30 = .ok (.ireturn, 1) := by decide +kernel
set_option maxRecDepth 20000 in
theorem ggX5_harm_X5_isFiling : GoodIn wsX5_harm wsX5_isFiling := goodIn_r _ [5, 6, 7, 8, 4, 9, 30, 31, 32, 33, 34, 35, 36, 37, 38, 39, 40, 41, 42, 43, 44, 45, 46, 47, 48, 49, 50, 51, 52, 53, 54, 55] (by decide +kernel) (by decide +kernel)
set_option maxRecDepth 20000 in
theorem gX5_harm_X5_isFiling : GoodIn wsX5_harm (wsV RX5 120 RX5 yX5_isFiling wsX5_isFiling) := goodIn_app (goodIn_of _ (by decide +kernel)) ggX5_harm_X5_isFiling
set_option maxRecDepth 20000 in
theorem ggX5_harm_X5_refused : GoodIn wsX5_harm wsX5_refused := goodIn_r _ [13, 14, 30, 31, 32, 33, 34, 35, 36, 37, 38, 39, 40, 41, 42, 43, 44, 45, 46, 47, 48, 49, 50, 51, 52, 53, 54, 55] (by decide +kernel) (by decide +kernel)
set_option maxRecDepth 20000 in
theorem gX5_harm_X5_refused : GoodIn wsX5_harm (wsV RX5 111 RX5 yX5_refused wsX5_refused) := goodIn_app (goodIn_of _ (by decide +kernel)) ggX5_harm_X5_refused
set_option maxRecDepth 20000 in
theorem ggX5_harm_X5_harmOf : GoodIn wsX5_harm wsX5_harmOf := goodIn_r _ [18, 19, 20, 21, 22, 23, 4, 24, 25, 26, 27, 28, 29, 30, 31, 32, 33, 34, 35, 36, 37, 38, 39, 40, 41, 42, 43, 44, 45, 46, 47, 48, 49, 50, 51, 52, 53, 54, 55] (by decide +kernel) (by decide +kernel)
set_option maxRecDepth 20000 in
theorem gX5_harm_X5_harmOf : GoodIn wsX5_harm (wsV RX5 101 RX5 yX5_harmOf wsX5_harmOf) := goodIn_app (goodIn_of _ (by decide +kernel)) ggX5_harm_X5_harmOf
theorem dX5_harm_0 : decode cX5_harm 0 = .ok (.aload_n 0, 1) := by decide +kernel
theorem dX5_harm_1 : decode cX5_harm 1 = .ok (.aload_n 0, 1) := by decide +kernel
theorem dX5_harm_2 : decode cX5_harm 2 = .ok (.iload_n 1, 1) := by decide +kernel
theorem dX5_harm_3 : decode cX5_harm 3 = .ok (.invokevirtual 120, 3) := by decide +kernel
theorem dX5_harm_6 : decode cX5_harm 6 = .ok (.ifCond .eq 15, 3) := by decide +kernel
theorem dX5_harm_9 : decode cX5_harm 9 = .ok (.aload_n 0, 1) := by decide +kernel
theorem dX5_harm_10 : decode cX5_harm 10 = .ok (.iload_n 2, 1) := by decide +kernel
theorem dX5_harm_11 : decode cX5_harm 11 = .ok (.invokevirtual 120, 3) := by decide +kernel
theorem dX5_harm_14 : decode cX5_harm 14 = .ok (.ifCond .eq 7, 3) := by decide +kernel
theorem dX5_harm_17 : decode cX5_harm 17 = .ok (.iconst 0, 1) := by decide +kernel
theorem dX5_harm_18 : decode cX5_harm 18 = .ok (.goto 4, 3) := by decide +kernel
theorem dX5_harm_21 : decode cX5_harm 21 = .ok (.iconst 1, 1) := by decide +kernel
theorem dX5_harm_22 : decode cX5_harm 22 = .ok (.invokevirtual 111, 3) := by decide +kernel
theorem dX5_harm_25 : decode cX5_harm 25 = .ok (.ifCond .eq 7, 3) := by decide +kernel
theorem dX5_harm_28 : decode cX5_harm 28 = .ok (.iconst 0, 1) := by decide +kernel
theorem dX5_harm_29 : decode cX5_harm 29 = .ok (.goto 9, 3) := by decide +kernel
theorem dX5_harm_32 : decode cX5_harm 32 = .ok (.aload_n 0, 1) := by decide +kernel
theorem dX5_harm_33 : decode cX5_harm 33 = .ok (.iload_n 1, 1) := by decide +kernel
theorem dX5_harm_34 : decode cX5_harm 34 = .ok (.iload_n 2, 1) := by decide +kernel
theorem dX5_harm_35 : decode cX5_harm 35 = .ok (.invokevirtual 101, 3) := by decide +kernel
theorem dX5_harm_38 : decode cX5_harm 38 = .ok (.ireturn, 1) := by decide +kernel
set_option maxRecDepth 20000 in
theorem ggX5_allowed_X5_isFiling : GoodIn wsX5_allowed wsX5_isFiling := goodIn_r _ [5, 6, 7, 8, 4, 9, 26, 27, 28, 29, 30, 31, 32, 33, 34, 35, 36, 37, 38, 39, 40, 41, 42, 43, 44, 45, 46, 47, 48, 49, 50, 51] (by decide +kernel) (by decide +kernel)
set_option maxRecDepth 20000 in
theorem gX5_allowed_X5_isFiling : GoodIn wsX5_allowed (wsV RX5 120 RX5 yX5_isFiling wsX5_isFiling) := goodIn_app (goodIn_of _ (by decide +kernel)) ggX5_allowed_X5_isFiling
set_option maxRecDepth 20000 in
theorem ggX5_allowed_X5_refused : GoodIn wsX5_allowed wsX5_refused := goodIn_r _ [13, 14, 26, 27, 28, 29, 30, 31, 32, 33, 34, 35, 36, 37, 38, 39, 40, 41, 42, 43, 44, 45, 46, 47, 48, 49, 50, 51] (by decide +kernel) (by decide +kernel)
set_option maxRecDepth 20000 in
theorem gX5_allowed_X5_refused : GoodIn wsX5_allowed (wsV RX5 111 RX5 yX5_refused wsX5_refused) := goodIn_app (goodIn_of _ (by decide +kernel)) ggX5_allowed_X5_refused
set_option maxRecDepth 20000 in
theorem ggX5_allowed_X5_isAhead : GoodIn wsX5_allowed wsX5_isAhead := goodIn_r _ [18, 19, 20, 26, 27, 28, 29, 30, 31, 32, 33, 34, 35, 36, 37, 38, 39, 40, 41, 42, 43, 44, 45, 46, 47, 48, 49, 50, 51] (by decide +kernel) (by decide +kernel)
set_option maxRecDepth 20000 in
theorem gX5_allowed_X5_isAhead : GoodIn wsX5_allowed (wsV RX5 97 RX5 yX5_isAhead wsX5_isAhead) := goodIn_app (goodIn_of _ (by decide +kernel)) ggX5_allowed_X5_isAhead
set_option maxRecDepth 20000 in
theorem ggX5_allowed_X5_freely : GoodIn wsX5_allowed wsX5_freely := goodIn_r _ [24, 25, 26, 27, 28, 29, 30, 31, 32, 33, 34, 35, 36, 37, 38, 39, 40, 41, 42, 43, 44, 45, 46, 47, 48, 49, 50, 51] (by decide +kernel) (by decide +kernel)
set_option maxRecDepth 20000 in
theorem gX5_allowed_X5_freely : GoodIn wsX5_allowed (wsV RX5 104 RX5 yX5_freely wsX5_freely) := goodIn_app (goodIn_of _ (by decide +kernel)) ggX5_allowed_X5_freely
theorem dX5_allowed_0 : decode cX5_allowed 0 = .ok (.aload_n 0, 1) := by decide +kernel
theorem dX5_allowed_1 : decode cX5_allowed 1 = .ok (.aload_n 0, 1) := by decide +kernel
theorem dX5_allowed_2 : decode cX5_allowed 2 = .ok (.iload_n 1, 1) := by decide +kernel
theorem dX5_allowed_3 : decode cX5_allowed 3 = .ok (.invokevirtual 120, 3) := by decide +kernel
theorem dX5_allowed_6 : decode cX5_allowed 6 = .ok (.ifCond .eq 15, 3) := by decide +kernel
theorem dX5_allowed_9 : decode cX5_allowed 9 = .ok (.aload_n 0, 1) := by decide +kernel
theorem dX5_allowed_10 : decode cX5_allowed 10 = .ok (.iload_n 2, 1) := by decide +kernel
theorem dX5_allowed_11 : decode cX5_allowed 11 = .ok (.invokevirtual 120, 3) := by decide +kernel
theorem dX5_allowed_14 : decode cX5_allowed 14 = .ok (.ifCond .eq 7, 3) := by decide +kernel
theorem dX5_allowed_17 : decode cX5_allowed 17 = .ok (.iconst 0, 1) := by decide +kernel
theorem dX5_allowed_18 : decode cX5_allowed 18 = .ok (.goto 4, 3) := by decide +kernel
theorem dX5_allowed_21 : decode cX5_allowed 21 = .ok (.iconst 1, 1) := by decide +kernel
theorem dX5_allowed_22 : decode cX5_allowed 22 = .ok (.invokevirtual 111, 3) := by decide +kernel
theorem dX5_allowed_25 : decode cX5_allowed 25 = .ok (.ifCond .eq 5, 3) := by decide +kernel
theorem dX5_allowed_28 : decode cX5_allowed 28 = .ok (.iconst 0, 1) := by decide +kernel
theorem dX5_allowed_29 : decode cX5_allowed 29 = .ok (.ireturn, 1) := by decide +kernel
theorem dX5_allowed_30 : decode cX5_allowed 30 = .ok (.aload_n 0, 1) := by decide +kernel
theorem dX5_allowed_31 : decode cX5_allowed 31 = .ok (.iload_n 2, 1) := by decide +kernel
theorem dX5_allowed_32 : decode cX5_allowed 32 = .ok (.iload_n 1, 1) := by decide +kernel
theorem dX5_allowed_33 : decode cX5_allowed 33 = .ok (.invokevirtual 97, 3) := by decide +kernel
theorem dX5_allowed_36 : decode cX5_allowed 36 = .ok (.ifCond .eq 12, 3) := by decide +kernel
theorem dX5_allowed_39 : decode cX5_allowed 39 = .ok (.aload_n 0, 1) := by decide +kernel
theorem dX5_allowed_40 : decode cX5_allowed 40 = .ok (.iload_n 1, 1) := by decide +kernel
theorem dX5_allowed_41 : decode cX5_allowed 41 = .ok (.iload_n 2, 1) := by decide +kernel
theorem dX5_allowed_42 : decode cX5_allowed 42 = .ok (.invokevirtual 104, 3) := by decide +kernel
theorem dX5_allowed_45 : decode cX5_allowed 45 = .ok (.goto 4, 3) := by decide +kernel
theorem dX5_allowed_48 : decode cX5_allowed 48 = .ok (.iconst (-1), 1) := by decide +kernel
theorem dX5_allowed_49 : decode cX5_allowed 49 = .ok (.ireturn, 1) := by decide +kernel
set_option maxRecDepth 20000 in
theorem ggX5_needs_X5_isFiling : GoodIn wsX5_needs wsX5_isFiling := goodIn_r _ [5, 6, 7, 8, 4, 9, 44, 45, 46, 47, 48, 49, 50, 51, 52, 53, 54, 55, 56, 57, 58, 59, 60, 61, 62, 63, 64, 65, 66, 67, 68, 69] (by decide +kernel) (by decide +kernel)
set_option maxRecDepth 20000 in
theorem gX5_needs_X5_isFiling : GoodIn wsX5_needs (wsV RX5 120 RX5 yX5_isFiling wsX5_isFiling) := goodIn_app (goodIn_of _ (by decide +kernel)) ggX5_needs_X5_isFiling
set_option maxRecDepth 20000 in
theorem ggX5_needs_X5_refused : GoodIn wsX5_needs wsX5_refused := goodIn_r _ [13, 14, 44, 45, 46, 47, 48, 49, 50, 51, 52, 53, 54, 55, 56, 57, 58, 59, 60, 61, 62, 63, 64, 65, 66, 67, 68, 69] (by decide +kernel) (by decide +kernel)
set_option maxRecDepth 20000 in
theorem gX5_needs_X5_refused : GoodIn wsX5_needs (wsV RX5 111 RX5 yX5_refused wsX5_refused) := goodIn_app (goodIn_of _ (by decide +kernel)) ggX5_needs_X5_refused
set_option maxRecDepth 20000 in
theorem ggX5_needs_X5_needsOf : GoodIn wsX5_needs wsX5_needsOf := goodIn_r _ [18, 6, 19, 20, 21, 4, 22, 23, 24, 25, 26, 27, 28, 29, 30, 31, 32, 33, 34, 35, 36, 37, 38, 39, 40, 41, 42, 43, 44, 45, 46, 47, 48, 49, 50, 51, 52, 53, 54, 55, 56, 57, 58, 59, 60, 61, 62, 63, 64, 65, 66, 67, 68, 69] (by decide +kernel) (by decide +kernel)
set_option maxRecDepth 20000 in
theorem gX5_needs_X5_needsOf : GoodIn wsX5_needs (wsV RX5 123 RX5 yX5_needsOf wsX5_needsOf) := goodIn_app (goodIn_of _ (by decide +kernel)) ggX5_needs_X5_needsOf
theorem dX5_needs_0 : decode cX5_needs 0 = .ok (.aload_n 0, 1) := by decide +kernel
theorem dX5_needs_1 : decode cX5_needs 1 = .ok (.aload_n 0, 1) := by decide +kernel
theorem dX5_needs_2 : decode cX5_needs 2 = .ok (.iload_n 1, 1) := by decide +kernel
theorem dX5_needs_3 : decode cX5_needs 3 = .ok (.invokevirtual 120, 3) := by decide +kernel
theorem dX5_needs_6 : decode cX5_needs 6 = .ok (.ifCond .eq 7, 3) := by decide +kernel
theorem dX5_needs_9 : decode cX5_needs 9 = .ok (.iconst 0, 1) := by decide +kernel
theorem dX5_needs_10 : decode cX5_needs 10 = .ok (.goto 4, 3) := by decide +kernel
theorem dX5_needs_13 : decode cX5_needs 13 = .ok (.iconst 1, 1) := by decide +kernel
theorem dX5_needs_14 : decode cX5_needs 14 = .ok (.invokevirtual 111, 3) := by decide +kernel
theorem dX5_needs_17 : decode cX5_needs 17 = .ok (.ifCond .eq 7, 3) := by decide +kernel
theorem dX5_needs_20 : decode cX5_needs 20 = .ok (.iconst 0, 1) := by decide +kernel
theorem dX5_needs_21 : decode cX5_needs 21 = .ok (.goto 8, 3) := by decide +kernel
theorem dX5_needs_24 : decode cX5_needs 24 = .ok (.aload_n 0, 1) := by decide +kernel
theorem dX5_needs_25 : decode cX5_needs 25 = .ok (.iload_n 1, 1) := by decide +kernel
theorem dX5_needs_26 : decode cX5_needs 26 = .ok (.invokevirtual 123, 3) := by decide +kernel
theorem dX5_needs_29 : decode cX5_needs 29 = .ok (.ireturn, 1) := by decide +kernel
set_option maxRecDepth 20000 in
theorem ggX5_bears_X5_isFiling : GoodIn wsX5_bears wsX5_isFiling := goodIn_r _ [5, 6, 7, 8, 4, 9, 39, 40, 41, 42, 43, 44, 45, 46, 47, 48, 49, 50, 51, 52, 53, 54, 55, 56, 57, 58, 59, 60, 61, 62, 63, 64] (by decide +kernel) (by decide +kernel)
set_option maxRecDepth 20000 in
theorem gX5_bears_X5_isFiling : GoodIn wsX5_bears (wsV RX5 120 RX5 yX5_isFiling wsX5_isFiling) := goodIn_app (goodIn_of _ (by decide +kernel)) ggX5_bears_X5_isFiling
set_option maxRecDepth 20000 in
theorem ggX5_bears_X5_refused : GoodIn wsX5_bears wsX5_refused := goodIn_r _ [13, 14, 39, 40, 41, 42, 43, 44, 45, 46, 47, 48, 49, 50, 51, 52, 53, 54, 55, 56, 57, 58, 59, 60, 61, 62, 63, 64] (by decide +kernel) (by decide +kernel)
set_option maxRecDepth 20000 in
theorem gX5_bears_X5_refused : GoodIn wsX5_bears (wsV RX5 111 RX5 yX5_refused wsX5_refused) := goodIn_app (goodIn_of _ (by decide +kernel)) ggX5_bears_X5_refused
set_option maxRecDepth 20000 in
theorem ggX5_bears_X5_bearsOf : GoodIn wsX5_bears wsX5_bearsOf := goodIn_r _ [18, 6, 19, 20, 21, 22, 4, 23, 24, 25, 26, 27, 28, 29, 30, 31, 32, 33, 34, 35, 36, 37, 38, 39, 40, 41, 42, 43, 44, 45, 46, 47, 48, 49, 50, 51, 52, 53, 54, 55, 56, 57, 58, 59, 60, 61, 62, 63, 64] (by decide +kernel) (by decide +kernel)
set_option maxRecDepth 20000 in
theorem gX5_bears_X5_bearsOf : GoodIn wsX5_bears (wsV RX5 137 RX5 yX5_bearsOf wsX5_bearsOf) := goodIn_app (goodIn_of _ (by decide +kernel)) ggX5_bears_X5_bearsOf
theorem dX5_bears_0 : decode cX5_bears 0 = .ok (.aload_n 0, 1) := by decide +kernel
theorem dX5_bears_1 : decode cX5_bears 1 = .ok (.aload_n 0, 1) := by decide +kernel
theorem dX5_bears_2 : decode cX5_bears 2 = .ok (.iload_n 1, 1) := by decide +kernel
theorem dX5_bears_3 : decode cX5_bears 3 = .ok (.invokevirtual 120, 3) := by decide +kernel
theorem dX5_bears_6 : decode cX5_bears 6 = .ok (.ifCond .eq 7, 3) := by decide +kernel
theorem dX5_bears_9 : decode cX5_bears 9 = .ok (.iconst 0, 1) := by decide +kernel
theorem dX5_bears_10 : decode cX5_bears 10 = .ok (.goto 4, 3) := by decide +kernel
theorem dX5_bears_13 : decode cX5_bears 13 = .ok (.iconst 1, 1) := by decide +kernel
theorem dX5_bears_14 : decode cX5_bears 14 = .ok (.invokevirtual 111, 3) := by decide +kernel
theorem dX5_bears_17 : decode cX5_bears 17 = .ok (.ifCond .eq 7, 3) := by decide +kernel
theorem dX5_bears_20 : decode cX5_bears 20 = .ok (.iconst 0, 1) := by decide +kernel
theorem dX5_bears_21 : decode cX5_bears 21 = .ok (.goto 8, 3) := by decide +kernel
theorem dX5_bears_24 : decode cX5_bears 24 = .ok (.aload_n 0, 1) := by decide +kernel
theorem dX5_bears_25 : decode cX5_bears 25 = .ok (.iload_n 1, 1) := by decide +kernel
theorem dX5_bears_26 : decode cX5_bears 26 = .ok (.invokevirtual 137, 3) := by decide +kernel
theorem dX5_bears_29 : decode cX5_bears 29 = .ok (.ireturn, 1) := by decide +kernel
set_option maxRecDepth 20000 in
theorem ggX5_first_X5_isSlot : GoodIn wsX5_first wsX5_isSlot := goodIn_r _ [9, 10, 11, 8, 12] (by decide +kernel) (by decide +kernel)
set_option maxRecDepth 20000 in
theorem gX5_first_X5_isSlot : GoodIn wsX5_first (va_wsS RX5 107 yX5_isSlot wsX5_isSlot) := goodIn_app (goodIn_of _ (by decide +kernel)) ggX5_first_X5_isSlot
set_option maxRecDepth 20000 in
theorem ggX5_first_X5_in : GoodIn wsX5_first wsX5_in := goodIn_r _ [12] (by decide +kernel) (by decide +kernel)
set_option maxRecDepth 20000 in
theorem gX5_first_X5_in : GoodIn wsX5_first (va_wsS RX5 82 yX5_in wsX5_in) := goodIn_app (goodIn_of _ (by decide +kernel)) ggX5_first_X5_in
set_option maxRecDepth 20000 in
theorem ggX5_first_X5_refused : GoodIn wsX5_first wsX5_refused := goodIn_r _ [16, 17, 18, 19, 20, 21, 22, 23, 24, 25, 26, 27, 28, 29, 30, 31, 32, 33, 34, 35, 36, 37, 38, 39, 40, 41, 42, 43] (by decide +kernel) (by decide +kernel)
set_option maxRecDepth 20000 in
theorem gX5_first_X5_refused : GoodIn wsX5_first (wsV RX5 111 RX5 yX5_refused wsX5_refused) := goodIn_app (goodIn_of _ (by decide +kernel)) ggX5_first_X5_refused
theorem dX5_first_0 : decode cX5_first 0 = .ok (.aload_n 0, 1) := by decide +kernel
theorem dX5_first_1 : decode cX5_first 1 = .ok (.iload_n 1, 1) := by decide +kernel
theorem dX5_first_2 : decode cX5_first 2 = .ok (.invokestatic 107, 3) := by decide +kernel
theorem dX5_first_5 : decode cX5_first 5 = .ok (.ifCond .eq 16, 3) := by decide +kernel
theorem dX5_first_8 : decode cX5_first 8 = .ok (.iload_n 2, 1) := by decide +kernel
theorem dX5_first_9 : decode cX5_first 9 = .ok (.iconst 0, 1) := by decide +kernel
theorem dX5_first_10 : decode cX5_first 10 = .ok (.iconst 4, 1) := by decide +kernel
theorem dX5_first_11 : decode cX5_first 11 = .ok (.invokestatic 82, 3) := by decide +kernel
theorem dX5_first_14 : decode cX5_first 14 = .ok (.ifCond .eq 7, 3) := by decide +kernel
theorem dX5_first_17 : decode cX5_first 17 = .ok (.iconst 0, 1) := by decide +kernel
theorem dX5_first_18 : decode cX5_first 18 = .ok (.goto 4, 3) := by decide +kernel
theorem dX5_first_21 : decode cX5_first 21 = .ok (.iconst 1, 1) := by decide +kernel
theorem dX5_first_22 : decode cX5_first 22 = .ok (.invokevirtual 111, 3) := by decide +kernel
theorem dX5_first_25 : decode cX5_first 25 = .ok (.ifCond .eq 5, 3) := by decide +kernel
theorem dX5_first_28 : decode cX5_first 28 = .ok (.iconst 0, 1) := by decide +kernel
theorem dX5_first_29 : decode cX5_first 29 = .ok (.ireturn, 1) := by decide +kernel
theorem dX5_first_30 : decode cX5_first 30 = .ok (.iconst (-1), 1) := by decide +kernel
theorem dX5_first_31 : decode cX5_first 31 = .ok (.istore_n 3, 1) := by decide +kernel
theorem dX5_first_32 : decode cX5_first 32 = .ok (.iconst 0, 1) := by decide +kernel
theorem dX5_first_33 : decode cX5_first 33 = .ok (.istore 4, 2) := by decide +kernel
theorem dX5_first_35 : decode cX5_first 35 = .ok (.iload 4, 2) := by decide +kernel
theorem dX5_first_37 : decode cX5_first 37 = .ok (.aload_n 0, 1) := by decide +kernel
theorem dX5_first_38 : decode cX5_first 38 = .ok (.getfield 79, 3) := by decide +kernel
theorem dX5_first_41 : decode cX5_first 41 = .ok (.if_icmp .ge 82, 3) := by decide +kernel
theorem dX5_first_44 : decode cX5_first 44 = .ok (.aload_n 0, 1) := by decide +kernel
theorem dX5_first_45 : decode cX5_first 45 = .ok (.getfield 13, 3) := by decide +kernel
theorem dX5_first_48 : decode cX5_first 48 = .ok (.iload 4, 2) := by decide +kernel
theorem dX5_first_50 : decode cX5_first 50 = .ok (.iaload, 1) := by decide +kernel
theorem dX5_first_51 : decode cX5_first 51 = .ok (.iload_n 1, 1) := by decide +kernel
theorem dX5_first_52 : decode cX5_first 52 = .ok (.if_icmp .ne 29, 3) := by decide +kernel
theorem dX5_first_55 : decode cX5_first 55 = .ok (.aload_n 0, 1) := by decide +kernel
theorem dX5_first_56 : decode cX5_first 56 = .ok (.getfield 16, 3) := by decide +kernel
theorem dX5_first_59 : decode cX5_first 59 = .ok (.iload 4, 2) := by decide +kernel
theorem dX5_first_61 : decode cX5_first 61 = .ok (.iaload, 1) := by decide +kernel
theorem dX5_first_62 : decode cX5_first 62 = .ok (.iload_n 2, 1) := by decide +kernel
theorem dX5_first_63 : decode cX5_first 63 = .ok (.if_icmp .ne 18, 3) := by decide +kernel
theorem dX5_first_66 : decode cX5_first 66 = .ok (.aload_n 0, 1) := by decide +kernel
theorem dX5_first_67 : decode cX5_first 67 = .ok (.getfield 25, 3) := by decide +kernel
theorem dX5_first_70 : decode cX5_first 70 = .ok (.iload 4, 2) := by decide +kernel
theorem dX5_first_72 : decode cX5_first 72 = .ok (.iaload, 1) := by decide +kernel
theorem dX5_first_73 : decode cX5_first 73 = .ok (.iconst 4, 1) := by decide +kernel
theorem dX5_first_74 : decode cX5_first 74 = .ok (.if_icmp .eq 7, 3) := by decide +kernel
theorem dX5_first_77 : decode cX5_first 77 = .ok (.iconst 1, 1) := by decide +kernel
theorem dX5_first_78 : decode cX5_first 78 = .ok (.goto 4, 3) := by decide +kernel
theorem dX5_first_81 : decode cX5_first 81 = .ok (.iconst 0, 1) := by decide +kernel
theorem dX5_first_82 : decode cX5_first 82 = .ok (.istore 5, 2) := by decide +kernel
theorem dX5_first_84 : decode cX5_first 84 = .ok (.iload 5, 2) := by decide +kernel
theorem dX5_first_86 : decode cX5_first 86 = .ok (.ifCond .eq 29, 3) := by decide +kernel
theorem dX5_first_89 : decode cX5_first 89 = .ok (.iload_n 3, 1) := by decide +kernel
theorem dX5_first_90 : decode cX5_first 90 = .ok (.iconst (-1), 1) := by decide +kernel
theorem dX5_first_91 : decode cX5_first 91 = .ok (.if_icmp .eq 19, 3) := by decide +kernel
theorem dX5_first_94 : decode cX5_first 94 = .ok (.aload_n 0, 1) := by decide +kernel
theorem dX5_first_95 : decode cX5_first 95 = .ok (.getfield 22, 3) := by decide +kernel
theorem dX5_first_98 : decode cX5_first 98 = .ok (.iload 4, 2) := by decide +kernel
theorem dX5_first_100 : decode cX5_first 100 = .ok (.iaload, 1) := by decide +kernel
theorem dX5_first_101 : decode cX5_first 101 = .ok (.aload_n 0, 1) := by decide +kernel
theorem dX5_first_102 : decode cX5_first 102 = .ok (.getfield 22, 3) := by decide +kernel
theorem dX5_first_105 : decode cX5_first 105 = .ok (.iload_n 3, 1) := by decide +kernel
theorem dX5_first_106 : decode cX5_first 106 = .ok (.iaload, 1) := by decide +kernel
theorem dX5_first_107 : decode cX5_first 107 = .ok (.if_icmp .ge 8, 3) := by decide +kernel
theorem dX5_first_110 : decode cX5_first 110 = .ok (.iload 4, 2) := by decide +kernel
theorem dX5_first_112 : decode cX5_first 112 = .ok (.goto 4, 3) := by decide +kernel
theorem dX5_first_115 : decode cX5_first 115 = .ok (.iload_n 3, 1) := by decide +kernel
theorem dX5_first_116 : decode cX5_first 116 = .ok (.istore_n 3, 1) := by decide +kernel
theorem dX5_first_117 : decode cX5_first 117 = .ok (.iinc 4 1, 3) := by decide +kernel
theorem dX5_first_120 : decode cX5_first 120 = .ok (.goto (-85), 3) := by decide +kernel
theorem dX5_first_123 : decode cX5_first 123 = .ok (.iload_n 3, 1) := by decide +kernel
theorem dX5_first_124 : decode cX5_first 124 = .ok (.ireturn, 1) := by decide +kernel
set_option maxRecDepth 20000 in
theorem ggX5_satelliteOf_X5_isSatellite : GoodIn wsX5_satelliteOf wsX5_isSatellite := goodIn_r _ [12, 13, 14, 15, 11, 16, 28, 29, 30, 31, 32, 33, 34, 35, 36, 37, 38, 39, 40, 41, 42, 43, 44, 45, 46, 47, 48, 49, 50, 51, 52, 53] (by decide +kernel) (by decide +kernel)
set_option maxRecDepth 20000 in
theorem gX5_satelliteOf_X5_isSatellite : GoodIn wsX5_satelliteOf (wsV RX5 134 RX5 yX5_isSatellite wsX5_isSatellite) := goodIn_app (goodIn_of _ (by decide +kernel)) ggX5_satelliteOf_X5_isSatellite
set_option maxRecDepth 20000 in
theorem ggX5_satelliteOf_X5_in : GoodIn wsX5_satelliteOf wsX5_in := goodIn_r _ [16] (by decide +kernel) (by decide +kernel)
set_option maxRecDepth 20000 in
theorem gX5_satelliteOf_X5_in : GoodIn wsX5_satelliteOf (va_wsS RX5 82 yX5_in wsX5_in) := goodIn_app (goodIn_of _ (by decide +kernel)) ggX5_satelliteOf_X5_in
set_option maxRecDepth 20000 in
theorem ggX5_satelliteOf_X5_refused : GoodIn wsX5_satelliteOf wsX5_refused := goodIn_r _ [20, 21, 28, 29, 30, 31, 32, 33, 34, 35, 36, 37, 38, 39, 40, 41, 42, 43, 44, 45, 46, 47, 48, 49, 50, 51, 52, 53] (by decide +kernel) (by decide +kernel)
set_option maxRecDepth 20000 in
theorem gX5_satelliteOf_X5_refused : GoodIn wsX5_satelliteOf (wsV RX5 111 RX5 yX5_refused wsX5_refused) := goodIn_app (goodIn_of _ (by decide +kernel)) ggX5_satelliteOf_X5_refused
set_option maxRecDepth 20000 in
theorem ggX5_satelliteOf_X5_served : GoodIn wsX5_satelliteOf wsX5_served := goodIn_r _ [25, 26, 27, 28, 29, 30, 31, 32, 33, 34, 35, 36, 37, 38, 39, 40, 41, 42, 43, 44, 45, 46, 47, 48, 49, 50, 51, 52, 53] (by decide +kernel) (by decide +kernel)
set_option maxRecDepth 20000 in
theorem gX5_satelliteOf_X5_served : GoodIn wsX5_satelliteOf (wsV RX5 140 RX5 yX5_served wsX5_served) := goodIn_app (goodIn_of _ (by decide +kernel)) ggX5_satelliteOf_X5_served
theorem dX5_satelliteOf_0 : decode cX5_satelliteOf 0 = .ok (.aload_n 0, 1) := by decide +kernel
theorem dX5_satelliteOf_1 : decode cX5_satelliteOf 1 = .ok (.aload_n 0, 1) := by decide +kernel
theorem dX5_satelliteOf_2 : decode cX5_satelliteOf 2 = .ok (.iload_n 1, 1) := by decide +kernel
theorem dX5_satelliteOf_3 : decode cX5_satelliteOf 3 = .ok (.invokevirtual 134, 3) := by decide +kernel
theorem dX5_satelliteOf_6 : decode cX5_satelliteOf 6 = .ok (.ifCond .ne 7, 3) := by decide +kernel
theorem dX5_satelliteOf_9 : decode cX5_satelliteOf 9 = .ok (.iconst 1, 1) := by decide +kernel
theorem dX5_satelliteOf_10 : decode cX5_satelliteOf 10 = .ok (.goto 18, 3) := by decide +kernel
theorem dX5_satelliteOf_13 : decode cX5_satelliteOf 13 = .ok (.iload_n 2, 1) := by decide +kernel
theorem dX5_satelliteOf_14 : decode cX5_satelliteOf 14 = .ok (.iconst 0, 1) := by decide +kernel
theorem dX5_satelliteOf_15 : decode cX5_satelliteOf 15 = .ok (.bipush 6, 2) := by decide +kernel
theorem dX5_satelliteOf_17 : decode cX5_satelliteOf 17 = .ok (.invokestatic 82, 3) := by decide +kernel
theorem dX5_satelliteOf_20 : decode cX5_satelliteOf 20 = .ok (.ifCond .ne 7, 3) := by decide +kernel
theorem dX5_satelliteOf_23 : decode cX5_satelliteOf 23 = .ok (.iconst 2, 1) := by decide +kernel
theorem dX5_satelliteOf_24 : decode cX5_satelliteOf 24 = .ok (.goto 4, 3) := by decide +kernel
theorem dX5_satelliteOf_27 : decode cX5_satelliteOf 27 = .ok (.iconst 0, 1) := by decide +kernel
theorem dX5_satelliteOf_28 : decode cX5_satelliteOf 28 = .ok (.invokevirtual 111, 3) := by decide +kernel
theorem dX5_satelliteOf_31 : decode cX5_satelliteOf 31 = .ok (.ifCond .eq 5, 3) := by decide +kernel
theorem dX5_satelliteOf_34 : decode cX5_satelliteOf 34 = .ok (.iconst 0, 1) := by decide +kernel
theorem dX5_satelliteOf_35 : decode cX5_satelliteOf 35 = .ok (.ireturn, 1) := by decide +kernel
theorem dX5_satelliteOf_36 : decode cX5_satelliteOf 36 = .ok (.iload_n 2, 1) := by decide +kernel
theorem dX5_satelliteOf_37 : decode cX5_satelliteOf 37 = .ok (.tableswitch 100 0 5 #[39, 46, 53, 60, 67, 74], 39) := by decide +kernel
theorem dX5_satelliteOf_76 : decode cX5_satelliteOf 76 = .ok (.aload_n 0, 1) := by decide +kernel
theorem dX5_satelliteOf_77 : decode cX5_satelliteOf 77 = .ok (.getfield 44, 3) := by decide +kernel
theorem dX5_satelliteOf_80 : decode cX5_satelliteOf 80 = .ok (.iload_n 1, 1) := by decide +kernel
theorem dX5_satelliteOf_81 : decode cX5_satelliteOf 81 = .ok (.iaload, 1) := by decide +kernel
theorem dX5_satelliteOf_82 : decode cX5_satelliteOf 82 = .ok (.ireturn, 1) := by decide +kernel
theorem dX5_satelliteOf_83 : decode cX5_satelliteOf 83 = .ok (.aload_n 0, 1) := by decide +kernel
theorem dX5_satelliteOf_84 : decode cX5_satelliteOf 84 = .ok (.getfield 47, 3) := by decide +kernel
theorem dX5_satelliteOf_87 : decode cX5_satelliteOf 87 = .ok (.iload_n 1, 1) := by decide +kernel
theorem dX5_satelliteOf_88 : decode cX5_satelliteOf 88 = .ok (.iaload, 1) := by decide +kernel
theorem dX5_satelliteOf_89 : decode cX5_satelliteOf 89 = .ok (.ireturn, 1) := by decide +kernel
theorem dX5_satelliteOf_90 : decode cX5_satelliteOf 90 = .ok (.aload_n 0, 1) := by decide +kernel
theorem dX5_satelliteOf_91 : decode cX5_satelliteOf 91 = .ok (.getfield 50, 3) := by decide +kernel
theorem dX5_satelliteOf_94 : decode cX5_satelliteOf 94 = .ok (.iload_n 1, 1) := by decide +kernel
theorem dX5_satelliteOf_95 : decode cX5_satelliteOf 95 = .ok (.iaload, 1) := by decide +kernel
theorem dX5_satelliteOf_96 : decode cX5_satelliteOf 96 = .ok (.ireturn, 1) := by decide +kernel
theorem dX5_satelliteOf_97 : decode cX5_satelliteOf 97 = .ok (.aload_n 0, 1) := by decide +kernel
theorem dX5_satelliteOf_98 : decode cX5_satelliteOf 98 = .ok (.getfield 53, 3) := by decide +kernel
theorem dX5_satelliteOf_101 : decode cX5_satelliteOf 101 = .ok (.iload_n 1, 1) := by decide +kernel
theorem dX5_satelliteOf_102 : decode cX5_satelliteOf 102 = .ok (.iaload, 1) := by decide +kernel
theorem dX5_satelliteOf_103 : decode cX5_satelliteOf 103 = .ok (.ireturn, 1) := by decide +kernel
theorem dX5_satelliteOf_104 : decode cX5_satelliteOf 104 = .ok (.aload_n 0, 1) := by decide +kernel
theorem dX5_satelliteOf_105 : decode cX5_satelliteOf 105 = .ok (.getfield 56, 3) := by decide +kernel
theorem dX5_satelliteOf_108 : decode cX5_satelliteOf 108 = .ok (.iload_n 1, 1) := by decide +kernel
theorem dX5_satelliteOf_109 : decode cX5_satelliteOf 109 = .ok (.iaload, 1) := by decide +kernel
theorem dX5_satelliteOf_110 : decode cX5_satelliteOf 110 = .ok (.ireturn, 1) := by decide +kernel
theorem dX5_satelliteOf_111 : decode cX5_satelliteOf 111 = .ok (.aload_n 0, 1) := by decide +kernel
theorem dX5_satelliteOf_112 : decode cX5_satelliteOf 112 = .ok (.getfield 50, 3) := by decide +kernel
theorem dX5_satelliteOf_115 : decode cX5_satelliteOf 115 = .ok (.iload_n 1, 1) := by decide +kernel
theorem dX5_satelliteOf_116 : decode cX5_satelliteOf 116 = .ok (.iaload, 1) := by decide +kernel
theorem dX5_satelliteOf_117 : decode cX5_satelliteOf 117 = .ok (.iconst 1, 1) := by decide +kernel
theorem dX5_satelliteOf_118 : decode cX5_satelliteOf 118 = .ok (.if_icmp .ne 7, 3) := by decide +kernel
theorem dX5_satelliteOf_121 : decode cX5_satelliteOf 121 = .ok (.iconst (-1), 1) := by decide +kernel
theorem dX5_satelliteOf_122 : decode cX5_satelliteOf 122 = .ok (.goto 14, 3) := by decide +kernel
theorem dX5_satelliteOf_125 : decode cX5_satelliteOf 125 = .ok (.aload_n 0, 1) := by decide +kernel
theorem dX5_satelliteOf_126 : decode cX5_satelliteOf 126 = .ok (.getfield 117, 3) := by decide +kernel
theorem dX5_satelliteOf_129 : decode cX5_satelliteOf 129 = .ok (.aload_n 0, 1) := by decide +kernel
theorem dX5_satelliteOf_130 : decode cX5_satelliteOf 130 = .ok (.getfield 59, 3) := by decide +kernel
theorem dX5_satelliteOf_133 : decode cX5_satelliteOf 133 = .ok (.iload_n 1, 1) := by decide +kernel
theorem dX5_satelliteOf_134 : decode cX5_satelliteOf 134 = .ok (.iaload, 1) := by decide +kernel
theorem dX5_satelliteOf_135 : decode cX5_satelliteOf 135 = .ok (.isub, 1) := by decide +kernel
theorem dX5_satelliteOf_136 : decode cX5_satelliteOf 136 = .ok (.ireturn, 1) := by decide +kernel
theorem dX5_satelliteOf_137 : decode cX5_satelliteOf 137 = .ok (.aload_n 0, 1) := by decide +kernel
theorem dX5_satelliteOf_138 : decode cX5_satelliteOf 138 = .ok (.iload_n 1, 1) := by decide +kernel
theorem dX5_satelliteOf_139 : decode cX5_satelliteOf 139 = .ok (.invokevirtual 140, 3) := by decide +kernel
theorem dX5_satelliteOf_142 : decode cX5_satelliteOf 142 = .ok (.ireturn, 1) := by decide +kernel
set_option maxRecDepth 20000 in
theorem ggX5_pieces_X5_in : GoodIn wsX5_pieces wsX5_in := goodIn_r _ [5] (by decide +kernel) (by decide +kernel)
set_option maxRecDepth 20000 in
theorem gX5_pieces_X5_in : GoodIn wsX5_pieces (va_wsS RX5 82 yX5_in wsX5_in) := goodIn_app (goodIn_of _ (by decide +kernel)) ggX5_pieces_X5_in
set_option maxRecDepth 20000 in
theorem ggX5_pieces_X5_refused : GoodIn wsX5_pieces wsX5_refused := goodIn_r _ [9, 10, 11, 12, 13, 14, 15, 16, 17, 18, 19, 20, 21, 22, 23, 24, 25, 26, 27, 28, 29, 30, 31, 32, 33, 34, 35, 36] (by decide +kernel) (by decide +kernel)
set_option maxRecDepth 20000 in
theorem gX5_pieces_X5_refused : GoodIn wsX5_pieces (wsV RX5 111 RX5 yX5_refused wsX5_refused) := goodIn_app (goodIn_of _ (by decide +kernel)) ggX5_pieces_X5_refused
theorem dX5_pieces_0 : decode cX5_pieces 0 = .ok (.aload_n 0, 1) := by decide +kernel
theorem dX5_pieces_1 : decode cX5_pieces 1 = .ok (.iload_n 1, 1) := by decide +kernel
theorem dX5_pieces_2 : decode cX5_pieces 2 = .ok (.iconst 0, 1) := by decide +kernel
theorem dX5_pieces_3 : decode cX5_pieces 3 = .ok (.bipush 35, 2) := by decide +kernel
theorem dX5_pieces_5 : decode cX5_pieces 5 = .ok (.invokestatic 82, 3) := by decide +kernel
theorem dX5_pieces_8 : decode cX5_pieces 8 = .ok (.ifCond .eq 7, 3) := by decide +kernel
theorem dX5_pieces_11 : decode cX5_pieces 11 = .ok (.iconst 0, 1) := by decide +kernel
theorem dX5_pieces_12 : decode cX5_pieces 12 = .ok (.goto 4, 3) := by decide +kernel
theorem dX5_pieces_15 : decode cX5_pieces 15 = .ok (.iconst 1, 1) := by decide +kernel
theorem dX5_pieces_16 : decode cX5_pieces 16 = .ok (.invokevirtual 111, 3) := by decide +kernel
theorem dX5_pieces_19 : decode cX5_pieces 19 = .ok (.ifCond .eq 7, 3) := by decide +kernel
theorem dX5_pieces_22 : decode cX5_pieces 22 = .ok (.iconst 0, 1) := by decide +kernel
theorem dX5_pieces_23 : decode cX5_pieces 23 = .ok (.goto 9, 3) := by decide +kernel
theorem dX5_pieces_26 : decode cX5_pieces 26 = .ok (.aload_n 0, 1) := by decide +kernel
theorem dX5_pieces_27 : decode cX5_pieces 27 = .ok (.getfield 65, 3) := by decide +kernel
theorem dX5_pieces_30 : decode cX5_pieces 30 = .ok (.iload_n 1, 1) := by decide +kernel
theorem dX5_pieces_31 : decode cX5_pieces 31 = .ok (.iaload, 1) := by decide +kernel
theorem dX5_pieces_32 : decode cX5_pieces 32 = .ok (.ireturn, 1) := by decide +kernel
set_option maxRecDepth 20000 in
theorem ggX5_paid_X5_in : GoodIn wsX5_paid wsX5_in := goodIn_r _ [5] (by decide +kernel) (by decide +kernel)
set_option maxRecDepth 20000 in
theorem gX5_paid_X5_in : GoodIn wsX5_paid (va_wsS RX5 82 yX5_in wsX5_in) := goodIn_app (goodIn_of _ (by decide +kernel)) ggX5_paid_X5_in
set_option maxRecDepth 20000 in
theorem ggX5_paid_X5_refused : GoodIn wsX5_paid wsX5_refused := goodIn_r _ [9, 10, 11, 12, 13, 14, 15, 16, 17, 18, 19, 20, 21, 22, 23, 24, 25, 26, 27, 28, 29, 30, 31, 32, 33, 34, 35, 36] (by decide +kernel) (by decide +kernel)
set_option maxRecDepth 20000 in
theorem gX5_paid_X5_refused : GoodIn wsX5_paid (wsV RX5 111 RX5 yX5_refused wsX5_refused) := goodIn_app (goodIn_of _ (by decide +kernel)) ggX5_paid_X5_refused
theorem dX5_paid_0 : decode cX5_paid 0 = .ok (.aload_n 0, 1) := by decide +kernel
theorem dX5_paid_1 : decode cX5_paid 1 = .ok (.iload_n 1, 1) := by decide +kernel
theorem dX5_paid_2 : decode cX5_paid 2 = .ok (.iconst 0, 1) := by decide +kernel
theorem dX5_paid_3 : decode cX5_paid 3 = .ok (.bipush 7, 2) := by decide +kernel
theorem dX5_paid_5 : decode cX5_paid 5 = .ok (.invokestatic 82, 3) := by decide +kernel
theorem dX5_paid_8 : decode cX5_paid 8 = .ok (.ifCond .eq 7, 3) := by decide +kernel
theorem dX5_paid_11 : decode cX5_paid 11 = .ok (.iconst 0, 1) := by decide +kernel
theorem dX5_paid_12 : decode cX5_paid 12 = .ok (.goto 4, 3) := by decide +kernel
theorem dX5_paid_15 : decode cX5_paid 15 = .ok (.iconst 1, 1) := by decide +kernel
theorem dX5_paid_16 : decode cX5_paid 16 = .ok (.invokevirtual 111, 3) := by decide +kernel
theorem dX5_paid_19 : decode cX5_paid 19 = .ok (.ifCond .eq 7, 3) := by decide +kernel
theorem dX5_paid_22 : decode cX5_paid 22 = .ok (.lconst 0, 1) := by decide +kernel
theorem dX5_paid_23 : decode cX5_paid 23 = .ok (.goto 9, 3) := by decide +kernel
theorem dX5_paid_26 : decode cX5_paid 26 = .ok (.aload_n 0, 1) := by decide +kernel
theorem dX5_paid_27 : decode cX5_paid 27 = .ok (.getfield 71, 3) := by decide +kernel
theorem dX5_paid_30 : decode cX5_paid 30 = .ok (.iload_n 1, 1) := by decide +kernel
theorem dX5_paid_31 : decode cX5_paid 31 = .ok (.laload, 1) := by decide +kernel
theorem dX5_paid_32 : decode cX5_paid 32 = .ok (.lreturn, 1) := by decide +kernel
theorem dJ6_bitCount_0f7a4_0 : decode cJ6_bitCount_0f7a4 0 = .ok (.iload_n 0, 1) := by decide +kernel
theorem dJ6_bitCount_0f7a4_1 : decode cJ6_bitCount_0f7a4 1 = .ok (.iload_n 0, 1) := by decide +kernel
theorem dJ6_bitCount_0f7a4_2 : decode cJ6_bitCount_0f7a4 2 = .ok (.iconst 1, 1) := by decide +kernel
theorem dJ6_bitCount_0f7a4_3 : decode cJ6_bitCount_0f7a4 3 = .ok (.iushr, 1) := by decide +kernel
theorem dJ6_bitCount_0f7a4_4 : decode cJ6_bitCount_0f7a4 4 = .ok (.ldc_w 265, 3) := by decide +kernel
theorem dJ6_bitCount_0f7a4_7 : decode cJ6_bitCount_0f7a4 7 = .ok (.iand, 1) := by decide +kernel
theorem dJ6_bitCount_0f7a4_8 : decode cJ6_bitCount_0f7a4 8 = .ok (.isub, 1) := by decide +kernel
theorem dJ6_bitCount_0f7a4_9 : decode cJ6_bitCount_0f7a4 9 = .ok (.istore_n 0, 1) := by decide +kernel
theorem dJ6_bitCount_0f7a4_10 : decode cJ6_bitCount_0f7a4 10 = .ok (.iload_n 0, 1) := by decide +kernel
theorem dJ6_bitCount_0f7a4_11 : decode cJ6_bitCount_0f7a4 11 = .ok (.ldc_w 266, 3) := by decide +kernel
theorem dJ6_bitCount_0f7a4_14 : decode cJ6_bitCount_0f7a4 14 = .ok (.iand, 1) := by decide +kernel
theorem dJ6_bitCount_0f7a4_15 : decode cJ6_bitCount_0f7a4 15 = .ok (.iload_n 0, 1) := by decide +kernel
theorem dJ6_bitCount_0f7a4_16 : decode cJ6_bitCount_0f7a4 16 = .ok (.iconst 2, 1) := by decide +kernel
theorem dJ6_bitCount_0f7a4_17 : decode cJ6_bitCount_0f7a4 17 = .ok (.iushr, 1) := by decide +kernel
theorem dJ6_bitCount_0f7a4_18 : decode cJ6_bitCount_0f7a4 18 = .ok (.ldc_w 266, 3) := by decide +kernel
theorem dJ6_bitCount_0f7a4_21 : decode cJ6_bitCount_0f7a4 21 = .ok (.iand, 1) := by decide +kernel
theorem dJ6_bitCount_0f7a4_22 : decode cJ6_bitCount_0f7a4 22 = .ok (.iadd, 1) := by decide +kernel
theorem dJ6_bitCount_0f7a4_23 : decode cJ6_bitCount_0f7a4 23 = .ok (.istore_n 0, 1) := by decide +kernel
theorem dJ6_bitCount_0f7a4_24 : decode cJ6_bitCount_0f7a4 24 = .ok (.iload_n 0, 1) := by decide +kernel
theorem dJ6_bitCount_0f7a4_25 : decode cJ6_bitCount_0f7a4 25 = .ok (.iload_n 0, 1) := by decide +kernel
theorem dJ6_bitCount_0f7a4_26 : decode cJ6_bitCount_0f7a4 26 = .ok (.iconst 4, 1) := by decide +kernel
theorem dJ6_bitCount_0f7a4_27 : decode cJ6_bitCount_0f7a4 27 = .ok (.iushr, 1) := by decide +kernel
theorem dJ6_bitCount_0f7a4_28 : decode cJ6_bitCount_0f7a4 28 = .ok (.iadd, 1) := by decide +kernel
theorem dJ6_bitCount_0f7a4_29 : decode cJ6_bitCount_0f7a4 29 = .ok (.ldc_w 267, 3) := by decide +kernel
theorem dJ6_bitCount_0f7a4_32 : decode cJ6_bitCount_0f7a4 32 = .ok (.iand, 1) := by decide +kernel
theorem dJ6_bitCount_0f7a4_33 : decode cJ6_bitCount_0f7a4 33 = .ok (.istore_n 0, 1) := by decide +kernel
theorem dJ6_bitCount_0f7a4_34 : decode cJ6_bitCount_0f7a4 34 = .ok (.iload_n 0, 1) := by decide +kernel
theorem dJ6_bitCount_0f7a4_35 : decode cJ6_bitCount_0f7a4 35 = .ok (.iload_n 0, 1) := by decide +kernel
theorem dJ6_bitCount_0f7a4_36 : decode cJ6_bitCount_0f7a4 36 = .ok (.bipush 8, 2) := by decide +kernel
theorem dJ6_bitCount_0f7a4_38 : decode cJ6_bitCount_0f7a4 38 = .ok (.iushr, 1) := by decide +kernel
theorem dJ6_bitCount_0f7a4_39 : decode cJ6_bitCount_0f7a4 39 = .ok (.iadd, 1) := by decide +kernel
theorem dJ6_bitCount_0f7a4_40 : decode cJ6_bitCount_0f7a4 40 = .ok (.istore_n 0, 1) := by decide +kernel
theorem dJ6_bitCount_0f7a4_41 : decode cJ6_bitCount_0f7a4 41 = .ok (.iload_n 0, 1) := by decide +kernel
theorem dJ6_bitCount_0f7a4_42 : decode cJ6_bitCount_0f7a4 42 = .ok (.iload_n 0, 1) := by decide +kernel
theorem dJ6_bitCount_0f7a4_43 : decode cJ6_bitCount_0f7a4 43 = .ok (.bipush 16, 2) := by decide +kernel
theorem dJ6_bitCount_0f7a4_45 : decode cJ6_bitCount_0f7a4 45 = .ok (.iushr, 1) := by decide +kernel
theorem dJ6_bitCount_0f7a4_46 : decode cJ6_bitCount_0f7a4 46 = .ok (.iadd, 1) := by decide +kernel
theorem dJ6_bitCount_0f7a4_47 : decode cJ6_bitCount_0f7a4 47 = .ok (.istore_n 0, 1) := by decide +kernel
theorem dJ6_bitCount_0f7a4_48 : decode cJ6_bitCount_0f7a4 48 = .ok (.iload_n 0, 1) := by decide +kernel
theorem dJ6_bitCount_0f7a4_49 : decode cJ6_bitCount_0f7a4 49 = .ok (.bipush 63, 2) := by decide +kernel
theorem dJ6_bitCount_0f7a4_51 : decode cJ6_bitCount_0f7a4 51 = .ok (.iand, 1) := by decide +kernel
theorem dJ6_bitCount_0f7a4_52 : decode cJ6_bitCount_0f7a4 52 = .ok (.ireturn, 1) := by decide +kernel
theorem dJ9_abs_0f7a4_0 : decode cJ9_abs_0f7a4 0 = .ok (.iload_n 0, 1) := by decide +kernel
theorem dJ9_abs_0f7a4_1 : decode cJ9_abs_0f7a4 1 = .ok (.ifCond .ge 8, 3) := by decide +kernel
theorem dJ9_abs_0f7a4_4 : decode cJ9_abs_0f7a4 4 = .ok (.iload_n 0, 1) := by decide +kernel
theorem dJ9_abs_0f7a4_5 : decode cJ9_abs_0f7a4 5 = .ok (.ineg, 1) := by decide +kernel
theorem dJ9_abs_0f7a4_6 : decode cJ9_abs_0f7a4 6 = .ok (.goto 4, 3) := by decide +kernel
theorem dJ9_abs_0f7a4_9 : decode cJ9_abs_0f7a4 9 = .ok (.iload_n 0, 1) := by decide +kernel
theorem dJ9_abs_0f7a4_10 : decode cJ9_abs_0f7a4 10 = .ok (.ireturn, 1) := by decide +kernel
theorem dJ9_max_7cf53_0 : decode cJ9_max_7cf53 0 = .ok (.iload_n 0, 1) := by decide +kernel
theorem dJ9_max_7cf53_1 : decode cJ9_max_7cf53 1 = .ok (.iload_n 1, 1) := by decide +kernel
theorem dJ9_max_7cf53_2 : decode cJ9_max_7cf53 2 = .ok (.if_icmp .lt 7, 3) := by decide +kernel
theorem dJ9_max_7cf53_5 : decode cJ9_max_7cf53 5 = .ok (.iload_n 0, 1) := by decide +kernel
theorem dJ9_max_7cf53_6 : decode cJ9_max_7cf53 6 = .ok (.goto 4, 3) := by decide +kernel
theorem dJ9_max_7cf53_9 : decode cJ9_max_7cf53 9 = .ok (.iload_n 1, 1) := by decide +kernel
theorem dJ9_max_7cf53_10 : decode cJ9_max_7cf53 10 = .ok (.ireturn, 1) := by decide +kernel
theorem dJ9_min_7cf53_0 : decode cJ9_min_7cf53 0 = .ok (.iload_n 0, 1) := by decide +kernel
theorem dJ9_min_7cf53_1 : decode cJ9_min_7cf53 1 = .ok (.iload_n 1, 1) := by decide +kernel
theorem dJ9_min_7cf53_2 : decode cJ9_min_7cf53 2 = .ok (.if_icmp .gt 7, 3) := by decide +kernel
theorem dJ9_min_7cf53_5 : decode cJ9_min_7cf53 5 = .ok (.iload_n 0, 1) := by decide +kernel
theorem dJ9_min_7cf53_6 : decode cJ9_min_7cf53 6 = .ok (.goto 4, 3) := by decide +kernel
theorem dJ9_min_7cf53_9 : decode cJ9_min_7cf53 9 = .ok (.iload_n 1, 1) := by decide +kernel
theorem dJ9_min_7cf53_10 : decode cJ9_min_7cf53 10 = .ok (.ireturn, 1) := by decide +kernel
