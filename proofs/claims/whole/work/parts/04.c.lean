theorem dX8_init_0 : decode cX8_init 0 = .ok (.aload_n 0, 1) := by decide +kernel
theorem dX8_init_1 : decode cX8_init 1 = .ok (.invokespecial 1, 3) := by decide +kernel
theorem dX8_init_4 : decode cX8_init 4 = .ok (.aload_n 0, 1) := by decide +kernel
theorem dX8_init_5 : decode cX8_init 5 = .ok (.bipush 9, 2) := by decide +kernel
theorem dX8_init_7 : decode cX8_init 7 = .ok (.newarray .int, 2) := by decide +kernel
theorem dX8_init_9 : decode cX8_init 9 = .ok (.putfield 7, 3) := by decide +kernel
theorem dX8_init_12 : decode cX8_init 12 = .ok (.aload_n 0, 1) := by decide +kernel
theorem dX8_init_13 : decode cX8_init 13 = .ok (.bipush 6, 2) := by decide +kernel
theorem dX8_init_15 : decode cX8_init 15 = .ok (.newarray .int, 2) := by decide +kernel
theorem dX8_init_17 : decode cX8_init 17 = .ok (.putfield 13, 3) := by decide +kernel
theorem dX8_init_20 : decode cX8_init 20 = .ok (.aload_n 0, 1) := by decide +kernel
theorem dX8_init_21 : decode cX8_init 21 = .ok (.bipush 30, 2) := by decide +kernel
theorem dX8_init_23 : decode cX8_init 23 = .ok (.newarray .int, 2) := by decide +kernel
theorem dX8_init_25 : decode cX8_init 25 = .ok (.putfield 16, 3) := by decide +kernel
theorem dX8_init_28 : decode cX8_init 28 = .ok (.aload_n 0, 1) := by decide +kernel
theorem dX8_init_29 : decode cX8_init 29 = .ok (.bipush 30, 2) := by decide +kernel
theorem dX8_init_31 : decode cX8_init 31 = .ok (.newarray .int, 2) := by decide +kernel
theorem dX8_init_33 : decode cX8_init 33 = .ok (.putfield 19, 3) := by decide +kernel
theorem dX8_init_36 : decode cX8_init 36 = .ok (.aload_n 0, 1) := by decide +kernel
theorem dX8_init_37 : decode cX8_init 37 = .ok (.bipush 60, 2) := by decide +kernel
theorem dX8_init_39 : decode cX8_init 39 = .ok (.newarray .int, 2) := by decide +kernel
theorem dX8_init_41 : decode cX8_init 41 = .ok (.putfield 22, 3) := by decide +kernel
theorem dX8_init_44 : decode cX8_init 44 = .ok (.aload_n 0, 1) := by decide +kernel
theorem dX8_init_45 : decode cX8_init 45 = .ok (.bipush 60, 2) := by decide +kernel
theorem dX8_init_47 : decode cX8_init 47 = .ok (.newarray .int, 2) := by decide +kernel
theorem dX8_init_49 : decode cX8_init 49 = .ok (.putfield 25, 3) := by decide +kernel
theorem dX8_init_52 : decode cX8_init 52 = .ok (.aload_n 0, 1) := by decide +kernel
theorem dX8_init_53 : decode cX8_init 53 = .ok (.bipush 60, 2) := by decide +kernel
theorem dX8_init_55 : decode cX8_init 55 = .ok (.newarray .int, 2) := by decide +kernel
theorem dX8_init_57 : decode cX8_init 57 = .ok (.putfield 28, 3) := by decide +kernel
theorem dX8_init_60 : decode cX8_init 60 = .ok (.aload_n 0, 1) := by decide +kernel
theorem dX8_init_61 : decode cX8_init 61 = .ok (.bipush 60, 2) := by decide +kernel
theorem dX8_init_63 : decode cX8_init 63 = .ok (.newarray .int, 2) := by decide +kernel
theorem dX8_init_65 : decode cX8_init 65 = .ok (.putfield 31, 3) := by decide +kernel
theorem dX8_init_68 : decode cX8_init 68 = .ok (.aload_n 0, 1) := by decide +kernel
theorem dX8_init_69 : decode cX8_init 69 = .ok (.bipush 20, 2) := by decide +kernel
theorem dX8_init_71 : decode cX8_init 71 = .ok (.newarray .int, 2) := by decide +kernel
theorem dX8_init_73 : decode cX8_init 73 = .ok (.putfield 34, 3) := by decide +kernel
theorem dX8_init_76 : decode cX8_init 76 = .ok (.aload_n 0, 1) := by decide +kernel
theorem dX8_init_77 : decode cX8_init 77 = .ok (.bipush 20, 2) := by decide +kernel
theorem dX8_init_79 : decode cX8_init 79 = .ok (.newarray .int, 2) := by decide +kernel
theorem dX8_init_81 : decode cX8_init 81 = .ok (.putfield 37, 3) := by decide +kernel
theorem dX8_init_84 : decode cX8_init 84 = .ok (.aload_n 0, 1) := by decide +kernel
theorem dX8_init_85 : decode cX8_init 85 = .ok (.bipush 20, 2) := by decide +kernel
theorem dX8_init_87 : decode cX8_init 87 = .ok (.newarray .int, 2) := by decide +kernel
theorem dX8_init_89 : decode cX8_init 89 = .ok (.putfield 40, 3) := by decide +kernel
theorem dX8_init_92 : decode cX8_init 92 = .ok (.aload_n 0, 1) := by decide +kernel
theorem dX8_init_93 : decode cX8_init 93 = .ok (.bipush 20, 2) := by decide +kernel
theorem dX8_init_95 : decode cX8_init 95 = .ok (.newarray .int, 2) := by decide +kernel
theorem dX8_init_97 : decode cX8_init 97 = .ok (.putfield 43, 3) := by decide +kernel
theorem dX8_init_100 : decode cX8_init 100 = .ok (.aload_n 0, 1) := by decide +kernel
theorem dX8_init_101 : decode cX8_init 101 = .ok (.bipush 20, 2) := by decide +kernel
theorem dX8_init_103 : decode cX8_init 103 = .ok (.newarray .int, 2) := by decide +kernel
theorem dX8_init_105 : decode cX8_init 105 = .ok (.putfield 46, 3) := by decide +kernel
theorem dX8_init_108 : decode cX8_init 108 = .ok (.aload_n 0, 1) := by decide +kernel
theorem dX8_init_109 : decode cX8_init 109 = .ok (.bipush 60, 2) := by decide +kernel
theorem dX8_init_111 : decode cX8_init 111 = .ok (.newarray .int, 2) := by decide +kernel
theorem dX8_init_113 : decode cX8_init 113 = .ok (.putfield 49, 3) := by decide +kernel
theorem dX8_init_116 : decode cX8_init 116 = .ok (.aload_n 0, 1) := by decide +kernel
theorem dX8_init_117 : decode cX8_init 117 = .ok (.sipush 7695, 3) := by decide +kernel
theorem dX8_init_120 : decode cX8_init 120 = .ok (.newarray .int, 2) := by decide +kernel
theorem dX8_init_122 : decode cX8_init 122 = .ok (.putfield 52, 3) := by decide +kernel
theorem dX8_init_125 : decode cX8_init 125 = .ok (.aload_n 0, 1) := by decide +kernel
theorem dX8_init_126 : decode cX8_init 126 = .ok (.sipush 3600, 3) := by decide +kernel
theorem dX8_init_129 : decode cX8_init 129 = .ok (.newarray .int, 2) := by decide +kernel
theorem dX8_init_131 : decode cX8_init 131 = .ok (.putfield 55, 3) := by decide +kernel
theorem dX8_init_134 : decode cX8_init 134 = .ok (.aload_n 0, 1) := by decide +kernel
theorem dX8_init_135 : decode cX8_init 135 = .ok (.sipush 3600, 3) := by decide +kernel
theorem dX8_init_138 : decode cX8_init 138 = .ok (.newarray .int, 2) := by decide +kernel
theorem dX8_init_140 : decode cX8_init 140 = .ok (.putfield 58, 3) := by decide +kernel
theorem dX8_init_143 : decode cX8_init 143 = .ok (.aload_n 0, 1) := by decide +kernel
theorem dX8_init_144 : decode cX8_init 144 = .ok (.sipush 7695, 3) := by decide +kernel
theorem dX8_init_147 : decode cX8_init 147 = .ok (.newarray .int, 2) := by decide +kernel
theorem dX8_init_149 : decode cX8_init 149 = .ok (.putfield 61, 3) := by decide +kernel
theorem dX8_init_152 : decode cX8_init 152 = .ok (.aload_n 0, 1) := by decide +kernel
theorem dX8_init_153 : decode cX8_init 153 = .ok (.sipush 7695, 3) := by decide +kernel
theorem dX8_init_156 : decode cX8_init 156 = .ok (.newarray .int, 2) := by decide +kernel
theorem dX8_init_158 : decode cX8_init 158 = .ok (.putfield 64, 3) := by decide +kernel
theorem dX8_init_161 : decode cX8_init 161 = .ok (.aload_n 0, 1) := by decide +kernel
theorem dX8_init_162 : decode cX8_init 162 = .ok (.sipush 7695, 3) := by decide +kernel
theorem dX8_init_165 : decode cX8_init 165 = .ok (.newarray .boolean, 2) := by decide +kernel
theorem dX8_init_167 : decode cX8_init 167 = .ok (.putfield 67, 3) := by decide +kernel
theorem dX8_init_170 : decode cX8_init 170 = .ok (.aload_n 0, 1) := by decide +kernel
theorem dX8_init_171 : decode cX8_init 171 = .ok (.bipush 20, 2) := by decide +kernel
theorem dX8_init_173 : decode cX8_init 173 = .ok (.newarray .int, 2) := by decide +kernel
theorem dX8_init_175 : decode cX8_init 175 = .ok (.putfield 71, 3) := by decide +kernel
theorem dX8_init_178 : decode cX8_init 178 = .ok (.aload_n 0, 1) := by decide +kernel
theorem dX8_init_179 : decode cX8_init 179 = .ok (.bipush 20, 2) := by decide +kernel
theorem dX8_init_181 : decode cX8_init 181 = .ok (.newarray .int, 2) := by decide +kernel
theorem dX8_init_183 : decode cX8_init 183 = .ok (.putfield 74, 3) := by decide +kernel
theorem dX8_init_186 : decode cX8_init 186 = .ok (.aload_n 0, 1) := by decide +kernel
theorem dX8_init_187 : decode cX8_init 187 = .ok (.bipush 20, 2) := by decide +kernel
theorem dX8_init_189 : decode cX8_init 189 = .ok (.newarray .int, 2) := by decide +kernel
theorem dX8_init_191 : decode cX8_init 191 = .ok (.putfield 77, 3) := by decide +kernel
theorem dX8_init_194 : decode cX8_init 194 = .ok (.return_, 1) := by decide +kernel
theorem dX8_thrown_0 : decode cX8_thrown 0 = .ok (.aload_n 0, 1) := by decide +kernel
theorem dX8_thrown_1 : decode cX8_thrown 1 = .ok (.getfield 80, 3) := by decide +kernel
theorem dX8_thrown_4 : decode cX8_thrown 4 = .ok (.ireturn, 1) := by decide +kernel
theorem dX8_can_0 : decode cX8_can 0 = .ok (.aload_n 0, 1) := by decide +kernel
theorem dX8_can_1 : decode cX8_can 1 = .ok (.iload_n 1, 1) := by decide +kernel
theorem dX8_can_2 : decode cX8_can 2 = .ok (.putfield 80, 3) := by decide +kernel
theorem dX8_can_5 : decode cX8_can 5 = .ok (.iload_n 1, 1) := by decide +kernel
theorem dX8_can_6 : decode cX8_can 6 = .ok (.ifCond .ne 7, 3) := by decide +kernel
theorem dX8_can_9 : decode cX8_can 9 = .ok (.iconst 1, 1) := by decide +kernel
theorem dX8_can_10 : decode cX8_can 10 = .ok (.goto 4, 3) := by decide +kernel
theorem dX8_can_13 : decode cX8_can 13 = .ok (.iconst 0, 1) := by decide +kernel
theorem dX8_can_14 : decode cX8_can 14 = .ok (.ireturn, 1) := by decide +kernel
theorem dX8_isIn_0 : decode cX8_isIn 0 = .ok (.iload_n 0, 1) := by decide +kernel
theorem dX8_isIn_1 : decode cX8_isIn 1 = .ok (.iload_n 1, 1) := by decide +kernel
theorem dX8_isIn_2 : decode cX8_isIn 2 = .ok (.if_icmp .lt 12, 3) := by decide +kernel
theorem dX8_isIn_5 : decode cX8_isIn 5 = .ok (.iload_n 0, 1) := by decide +kernel
theorem dX8_isIn_6 : decode cX8_isIn 6 = .ok (.iload_n 2, 1) := by decide +kernel
theorem dX8_isIn_7 : decode cX8_isIn 7 = .ok (.if_icmp .gt 7, 3) := by decide +kernel
theorem dX8_isIn_10 : decode cX8_isIn 10 = .ok (.iconst 1, 1) := by decide +kernel
theorem dX8_isIn_11 : decode cX8_isIn 11 = .ok (.goto 4, 3) := by decide +kernel
theorem dX8_isIn_14 : decode cX8_isIn 14 = .ok (.iconst 0, 1) := by decide +kernel
theorem dX8_isIn_15 : decode cX8_isIn 15 = .ok (.ireturn, 1) := by decide +kernel
theorem dX8_size_0 : decode cX8_size 0 = .ok (.iload_n 0, 1) := by decide +kernel
theorem dX8_size_1 : decode cX8_size 1 = .ok (.ifCond .ge 8, 3) := by decide +kernel
theorem dX8_size_4 : decode cX8_size 4 = .ok (.iload_n 0, 1) := by decide +kernel
theorem dX8_size_5 : decode cX8_size 5 = .ok (.ineg, 1) := by decide +kernel
theorem dX8_size_6 : decode cX8_size 6 = .ok (.goto 4, 3) := by decide +kernel
theorem dX8_size_9 : decode cX8_size 9 = .ok (.iload_n 0, 1) := by decide +kernel
theorem dX8_size_10 : decode cX8_size 10 = .ok (.ireturn, 1) := by decide +kernel
theorem dX8_round_0 : decode cX8_round 0 = .ok (.iload_n 0, 1) := by decide +kernel
theorem dX8_round_1 : decode cX8_round 1 = .ok (.sipush 3600, 3) := by decide +kernel
theorem dX8_round_4 : decode cX8_round 4 = .ok (.irem, 1) := by decide +kernel
theorem dX8_round_5 : decode cX8_round 5 = .ok (.istore_n 1, 1) := by decide +kernel
theorem dX8_round_6 : decode cX8_round 6 = .ok (.iload_n 1, 1) := by decide +kernel
theorem dX8_round_7 : decode cX8_round 7 = .ok (.ifCond .ge 11, 3) := by decide +kernel
theorem dX8_round_10 : decode cX8_round 10 = .ok (.iload_n 1, 1) := by decide +kernel
theorem dX8_round_11 : decode cX8_round 11 = .ok (.sipush 3600, 3) := by decide +kernel
theorem dX8_round_14 : decode cX8_round 14 = .ok (.iadd, 1) := by decide +kernel
theorem dX8_round_15 : decode cX8_round 15 = .ok (.goto 4, 3) := by decide +kernel
theorem dX8_round_18 : decode cX8_round 18 = .ok (.iload_n 1, 1) := by decide +kernel
theorem dX8_round_19 : decode cX8_round 19 = .ok (.ireturn, 1) := by decide +kernel
set_option maxRecDepth 20000 in
theorem ggX8_apart_X8_size : GoodIn wsX8_apart wsX8_size := goodIn_r _ [4] (by decide +kernel) (by decide +kernel)
set_option maxRecDepth 20000 in
theorem gX8_apart_X8_size : GoodIn wsX8_apart (va_wsS RX8 84 yX8_size wsX8_size) := goodIn_app (goodIn_of _ (by decide +kernel)) ggX8_apart_X8_size
theorem dX8_apart_0 : decode cX8_apart 0 = .ok (.iload_n 0, 1) := by decide +kernel
theorem dX8_apart_1 : decode cX8_apart 1 = .ok (.iload_n 1, 1) := by decide +kernel
theorem dX8_apart_2 : decode cX8_apart 2 = .ok (.isub, 1) := by decide +kernel
theorem dX8_apart_3 : decode cX8_apart 3 = .ok (.invokestatic 84, 3) := by decide +kernel
theorem dX8_apart_6 : decode cX8_apart 6 = .ok (.istore_n 2, 1) := by decide +kernel
theorem dX8_apart_7 : decode cX8_apart 7 = .ok (.iload_n 2, 1) := by decide +kernel
theorem dX8_apart_8 : decode cX8_apart 8 = .ok (.sipush 1800, 3) := by decide +kernel
theorem dX8_apart_11 : decode cX8_apart 11 = .ok (.if_icmp .le 11, 3) := by decide +kernel
theorem dX8_apart_14 : decode cX8_apart 14 = .ok (.sipush 3600, 3) := by decide +kernel
theorem dX8_apart_17 : decode cX8_apart 17 = .ok (.iload_n 2, 1) := by decide +kernel
theorem dX8_apart_18 : decode cX8_apart 18 = .ok (.isub, 1) := by decide +kernel
theorem dX8_apart_19 : decode cX8_apart 19 = .ok (.goto 4, 3) := by decide +kernel
theorem dX8_apart_22 : decode cX8_apart 22 = .ok (.iload_n 2, 1) := by decide +kernel
theorem dX8_apart_23 : decode cX8_apart 23 = .ok (.ireturn, 1) := by decide +kernel
set_option maxRecDepth 20000 in
theorem ggX8_isNight_X8_isIn : GoodIn wsX8_isNight wsX8_isIn := goodIn_r _ [4] (by decide +kernel) (by decide +kernel)
set_option maxRecDepth 20000 in
theorem gX8_isNight_X8_isIn : GoodIn wsX8_isNight (va_wsS RX8 88 yX8_isIn wsX8_isIn) := goodIn_app (goodIn_of _ (by decide +kernel)) ggX8_isNight_X8_isIn
theorem dX8_isNight_0 : decode cX8_isNight 0 = .ok (.iload_n 0, 1) := by decide +kernel
theorem dX8_isNight_1 : decode cX8_isNight 1 = .ok (.iconst 0, 1) := by decide +kernel
theorem dX8_isNight_2 : decode cX8_isNight 2 = .ok (.sipush 999, 3) := by decide +kernel
theorem dX8_isNight_5 : decode cX8_isNight 5 = .ok (.invokestatic 88, 3) := by decide +kernel
theorem dX8_isNight_8 : decode cX8_isNight 8 = .ok (.ireturn, 1) := by decide +kernel
set_option maxRecDepth 20000 in
theorem ggX8_isDot_X8_isIn : GoodIn wsX8_isDot wsX8_isIn := goodIn_r _ [5] (by decide +kernel) (by decide +kernel)
set_option maxRecDepth 20000 in
theorem gX8_isDot_X8_isIn : GoodIn wsX8_isDot (va_wsS RX8 88 yX8_isIn wsX8_isIn) := goodIn_app (goodIn_of _ (by decide +kernel)) ggX8_isDot_X8_isIn
theorem dX8_isDot_0 : decode cX8_isDot 0 = .ok (.iload_n 1, 1) := by decide +kernel
theorem dX8_isDot_1 : decode cX8_isDot 1 = .ok (.iconst 0, 1) := by decide +kernel
theorem dX8_isDot_2 : decode cX8_isDot 2 = .ok (.aload_n 0, 1) := by decide +kernel
theorem dX8_isDot_3 : decode cX8_isDot 3 = .ok (.getfield 92, 3) := by decide +kernel
theorem dX8_isDot_6 : decode cX8_isDot 6 = .ok (.iconst 1, 1) := by decide +kernel
theorem dX8_isDot_7 : decode cX8_isDot 7 = .ok (.isub, 1) := by decide +kernel
theorem dX8_isDot_8 : decode cX8_isDot 8 = .ok (.invokestatic 88, 3) := by decide +kernel
theorem dX8_isDot_11 : decode cX8_isDot 11 = .ok (.ireturn, 1) := by decide +kernel
set_option maxRecDepth 20000 in
theorem ggX8_isBody_X8_isIn : GoodIn wsX8_isBody wsX8_isIn := goodIn_r _ [5] (by decide +kernel) (by decide +kernel)
set_option maxRecDepth 20000 in
theorem gX8_isBody_X8_isIn : GoodIn wsX8_isBody (va_wsS RX8 88 yX8_isIn wsX8_isIn) := goodIn_app (goodIn_of _ (by decide +kernel)) ggX8_isBody_X8_isIn
theorem dX8_isBody_0 : decode cX8_isBody 0 = .ok (.iload_n 1, 1) := by decide +kernel
theorem dX8_isBody_1 : decode cX8_isBody 1 = .ok (.iconst 0, 1) := by decide +kernel
theorem dX8_isBody_2 : decode cX8_isBody 2 = .ok (.aload_n 0, 1) := by decide +kernel
theorem dX8_isBody_3 : decode cX8_isBody 3 = .ok (.getfield 95, 3) := by decide +kernel
theorem dX8_isBody_6 : decode cX8_isBody 6 = .ok (.iconst 1, 1) := by decide +kernel
theorem dX8_isBody_7 : decode cX8_isBody 7 = .ok (.isub, 1) := by decide +kernel
theorem dX8_isBody_8 : decode cX8_isBody 8 = .ok (.invokestatic 88, 3) := by decide +kernel
theorem dX8_isBody_11 : decode cX8_isBody 11 = .ok (.ireturn, 1) := by decide +kernel
set_option maxRecDepth 20000 in
theorem ggX8_observatory_X8_isIn : GoodIn wsX8_observatory wsX8_isIn := goodIn_r _ [6] (by decide +kernel) (by decide +kernel)
set_option maxRecDepth 20000 in
theorem gX8_observatory_X8_isIn : GoodIn wsX8_observatory (va_wsS RX8 88 yX8_isIn wsX8_isIn) := goodIn_app (goodIn_of _ (by decide +kernel)) ggX8_observatory_X8_isIn
set_option maxRecDepth 20000 in
theorem ggX8_observatory_X8_can : GoodIn wsX8_observatory wsX8_can := goodIn_r _ [10, 11, 12, 13, 14, 15, 16, 17, 18, 19, 20, 21, 22, 23, 24, 25, 26, 27, 28, 29, 30, 31, 32, 33, 34, 35, 36, 37, 38, 39, 40, 41, 42, 43] (by decide +kernel) (by decide +kernel)
set_option maxRecDepth 20000 in
theorem gX8_observatory_X8_can : GoodIn wsX8_observatory (wsV RX8 101 RX8 yX8_can wsX8_can) := goodIn_app (goodIn_of _ (by decide +kernel)) ggX8_observatory_X8_can
theorem dX8_observatory_0 : decode cX8_observatory 0 = .ok (.aload_n 0, 1) := by decide +kernel
theorem dX8_observatory_1 : decode cX8_observatory 1 = .ok (.iload_n 1, 1) := by decide +kernel
theorem dX8_observatory_2 : decode cX8_observatory 2 = .ok (.iconst 0, 1) := by decide +kernel
theorem dX8_observatory_3 : decode cX8_observatory 3 = .ok (.bipush 9, 2) := by decide +kernel
theorem dX8_observatory_5 : decode cX8_observatory 5 = .ok (.invokestatic 88, 3) := by decide +kernel
theorem dX8_observatory_8 : decode cX8_observatory 8 = .ok (.ifCond .ne 7, 3) := by decide +kernel
theorem dX8_observatory_11 : decode cX8_observatory 11 = .ok (.iconst 1, 1) := by decide +kernel
theorem dX8_observatory_12 : decode cX8_observatory 12 = .ok (.goto 17, 3) := by decide +kernel
theorem dX8_observatory_15 : decode cX8_observatory 15 = .ok (.aload_n 0, 1) := by decide +kernel
theorem dX8_observatory_16 : decode cX8_observatory 16 = .ok (.getfield 98, 3) := by decide +kernel
theorem dX8_observatory_19 : decode cX8_observatory 19 = .ok (.bipush 6, 2) := by decide +kernel
theorem dX8_observatory_21 : decode cX8_observatory 21 = .ok (.if_icmp .ne 7, 3) := by decide +kernel
theorem dX8_observatory_24 : decode cX8_observatory 24 = .ok (.iconst 2, 1) := by decide +kernel
theorem dX8_observatory_25 : decode cX8_observatory 25 = .ok (.goto 4, 3) := by decide +kernel
theorem dX8_observatory_28 : decode cX8_observatory 28 = .ok (.iconst 0, 1) := by decide +kernel
theorem dX8_observatory_29 : decode cX8_observatory 29 = .ok (.invokevirtual 101, 3) := by decide +kernel
theorem dX8_observatory_32 : decode cX8_observatory 32 = .ok (.ifCond .ne 5, 3) := by decide +kernel
theorem dX8_observatory_35 : decode cX8_observatory 35 = .ok (.iconst 0, 1) := by decide +kernel
theorem dX8_observatory_36 : decode cX8_observatory 36 = .ok (.ireturn, 1) := by decide +kernel
theorem dX8_observatory_37 : decode cX8_observatory 37 = .ok (.aload_n 0, 1) := by decide +kernel
theorem dX8_observatory_38 : decode cX8_observatory 38 = .ok (.getfield 13, 3) := by decide +kernel
theorem dX8_observatory_41 : decode cX8_observatory 41 = .ok (.aload_n 0, 1) := by decide +kernel
theorem dX8_observatory_42 : decode cX8_observatory 42 = .ok (.getfield 98, 3) := by decide +kernel
theorem dX8_observatory_45 : decode cX8_observatory 45 = .ok (.iload_n 1, 1) := by decide +kernel
theorem dX8_observatory_46 : decode cX8_observatory 46 = .ok (.iastore, 1) := by decide +kernel
theorem dX8_observatory_47 : decode cX8_observatory 47 = .ok (.aload_n 0, 1) := by decide +kernel
theorem dX8_observatory_48 : decode cX8_observatory 48 = .ok (.dup, 1) := by decide +kernel
theorem dX8_observatory_49 : decode cX8_observatory 49 = .ok (.getfield 98, 3) := by decide +kernel
theorem dX8_observatory_52 : decode cX8_observatory 52 = .ok (.iconst 1, 1) := by decide +kernel
theorem dX8_observatory_53 : decode cX8_observatory 53 = .ok (.iadd, 1) := by decide +kernel
theorem dX8_observatory_54 : decode cX8_observatory 54 = .ok (.putfield 98, 3) := by decide +kernel
theorem dX8_observatory_57 : decode cX8_observatory 57 = .ok (.aload_n 0, 1) := by decide +kernel
theorem dX8_observatory_58 : decode cX8_observatory 58 = .ok (.getfield 98, 3) := by decide +kernel
theorem dX8_observatory_61 : decode cX8_observatory 61 = .ok (.iconst 1, 1) := by decide +kernel
theorem dX8_observatory_62 : decode cX8_observatory 62 = .ok (.isub, 1) := by decide +kernel
theorem dX8_observatory_63 : decode cX8_observatory 63 = .ok (.ireturn, 1) := by decide +kernel
set_option maxRecDepth 20000 in
theorem ggX8_plate_X8_isIn : GoodIn wsX8_plate wsX8_isIn := goodIn_r _ [8] (by decide +kernel) (by decide +kernel)
set_option maxRecDepth 20000 in
theorem gX8_plate_X8_isIn : GoodIn wsX8_plate (va_wsS RX8 88 yX8_isIn wsX8_isIn) := goodIn_app (goodIn_of _ (by decide +kernel)) ggX8_plate_X8_isIn
set_option maxRecDepth 20000 in
theorem ggX8_plate_X8_isNight : GoodIn wsX8_plate wsX8_isNight := goodIn_r _ [11, 5, 6, 7, 8] (by decide +kernel) (by decide +kernel)
set_option maxRecDepth 20000 in
theorem gX8_plate_X8_isNight : GoodIn wsX8_plate (va_wsS RX8 105 yX8_isNight wsX8_isNight) := goodIn_app (goodIn_of _ (by decide +kernel)) ggX8_plate_X8_isNight
set_option maxRecDepth 20000 in
theorem ggX8_plate_X8_can : GoodIn wsX8_plate wsX8_can := goodIn_r _ [15, 16, 17, 18, 19, 20, 21, 22, 23, 24, 25, 26, 27, 28, 29, 30, 31, 32, 33, 34, 35, 36, 37, 38, 39, 40, 41, 42, 43, 44, 45, 46, 47, 48] (by decide +kernel) (by decide +kernel)
set_option maxRecDepth 20000 in
theorem gX8_plate_X8_can : GoodIn wsX8_plate (wsV RX8 101 RX8 yX8_can wsX8_can) := goodIn_app (goodIn_of _ (by decide +kernel)) ggX8_plate_X8_can
theorem dX8_plate_0 : decode cX8_plate 0 = .ok (.iload_n 1, 1) := by decide +kernel
theorem dX8_plate_1 : decode cX8_plate 1 = .ok (.iconst 0, 1) := by decide +kernel
theorem dX8_plate_2 : decode cX8_plate 2 = .ok (.aload_n 0, 1) := by decide +kernel
theorem dX8_plate_3 : decode cX8_plate 3 = .ok (.getfield 98, 3) := by decide +kernel
theorem dX8_plate_6 : decode cX8_plate 6 = .ok (.iconst 1, 1) := by decide +kernel
theorem dX8_plate_7 : decode cX8_plate 7 = .ok (.isub, 1) := by decide +kernel
theorem dX8_plate_8 : decode cX8_plate 8 = .ok (.invokestatic 88, 3) := by decide +kernel
theorem dX8_plate_11 : decode cX8_plate 11 = .ok (.istore_n 3, 1) := by decide +kernel
theorem dX8_plate_12 : decode cX8_plate 12 = .ok (.aload_n 0, 1) := by decide +kernel
theorem dX8_plate_13 : decode cX8_plate 13 = .ok (.iload_n 3, 1) := by decide +kernel
theorem dX8_plate_14 : decode cX8_plate 14 = .ok (.ifCond .ne 7, 3) := by decide +kernel
theorem dX8_plate_17 : decode cX8_plate 17 = .ok (.iconst 1, 1) := by decide +kernel
theorem dX8_plate_18 : decode cX8_plate 18 = .ok (.goto 28, 3) := by decide +kernel
theorem dX8_plate_21 : decode cX8_plate 21 = .ok (.iload_n 2, 1) := by decide +kernel
theorem dX8_plate_22 : decode cX8_plate 22 = .ok (.invokestatic 105, 3) := by decide +kernel
theorem dX8_plate_25 : decode cX8_plate 25 = .ok (.ifCond .ne 7, 3) := by decide +kernel
theorem dX8_plate_28 : decode cX8_plate 28 = .ok (.iconst 2, 1) := by decide +kernel
theorem dX8_plate_29 : decode cX8_plate 29 = .ok (.goto 17, 3) := by decide +kernel
theorem dX8_plate_32 : decode cX8_plate 32 = .ok (.aload_n 0, 1) := by decide +kernel
theorem dX8_plate_33 : decode cX8_plate 33 = .ok (.getfield 108, 3) := by decide +kernel
theorem dX8_plate_36 : decode cX8_plate 36 = .ok (.bipush 30, 2) := by decide +kernel
theorem dX8_plate_38 : decode cX8_plate 38 = .ok (.if_icmp .ne 7, 3) := by decide +kernel
theorem dX8_plate_41 : decode cX8_plate 41 = .ok (.iconst 3, 1) := by decide +kernel
theorem dX8_plate_42 : decode cX8_plate 42 = .ok (.goto 4, 3) := by decide +kernel
theorem dX8_plate_45 : decode cX8_plate 45 = .ok (.iconst 0, 1) := by decide +kernel
theorem dX8_plate_46 : decode cX8_plate 46 = .ok (.invokevirtual 101, 3) := by decide +kernel
theorem dX8_plate_49 : decode cX8_plate 49 = .ok (.ifCond .ne 5, 3) := by decide +kernel
theorem dX8_plate_52 : decode cX8_plate 52 = .ok (.iconst 0, 1) := by decide +kernel
theorem dX8_plate_53 : decode cX8_plate 53 = .ok (.ireturn, 1) := by decide +kernel
theorem dX8_plate_54 : decode cX8_plate 54 = .ok (.aload_n 0, 1) := by decide +kernel
theorem dX8_plate_55 : decode cX8_plate 55 = .ok (.getfield 16, 3) := by decide +kernel
theorem dX8_plate_58 : decode cX8_plate 58 = .ok (.aload_n 0, 1) := by decide +kernel
theorem dX8_plate_59 : decode cX8_plate 59 = .ok (.getfield 108, 3) := by decide +kernel
theorem dX8_plate_62 : decode cX8_plate 62 = .ok (.iload_n 1, 1) := by decide +kernel
theorem dX8_plate_63 : decode cX8_plate 63 = .ok (.iastore, 1) := by decide +kernel
theorem dX8_plate_64 : decode cX8_plate 64 = .ok (.aload_n 0, 1) := by decide +kernel
theorem dX8_plate_65 : decode cX8_plate 65 = .ok (.getfield 19, 3) := by decide +kernel
theorem dX8_plate_68 : decode cX8_plate 68 = .ok (.aload_n 0, 1) := by decide +kernel
theorem dX8_plate_69 : decode cX8_plate 69 = .ok (.getfield 108, 3) := by decide +kernel
theorem dX8_plate_72 : decode cX8_plate 72 = .ok (.iload_n 2, 1) := by decide +kernel
theorem dX8_plate_73 : decode cX8_plate 73 = .ok (.iastore, 1) := by decide +kernel
theorem dX8_plate_74 : decode cX8_plate 74 = .ok (.aload_n 0, 1) := by decide +kernel
theorem dX8_plate_75 : decode cX8_plate 75 = .ok (.dup, 1) := by decide +kernel
theorem dX8_plate_76 : decode cX8_plate 76 = .ok (.getfield 108, 3) := by decide +kernel
theorem dX8_plate_79 : decode cX8_plate 79 = .ok (.iconst 1, 1) := by decide +kernel
theorem dX8_plate_80 : decode cX8_plate 80 = .ok (.iadd, 1) := by decide +kernel
theorem dX8_plate_81 : decode cX8_plate 81 = .ok (.putfield 108, 3) := by decide +kernel
theorem dX8_plate_84 : decode cX8_plate 84 = .ok (.aload_n 0, 1) := by decide +kernel
theorem dX8_plate_85 : decode cX8_plate 85 = .ok (.getfield 108, 3) := by decide +kernel
theorem dX8_plate_88 : decode cX8_plate 88 = .ok (.iconst 1, 1) := by decide +kernel
theorem dX8_plate_89 : decode cX8_plate 89 = .ok (.isub, 1) := by decide +kernel
theorem dX8_plate_90 : decode cX8_plate 90 = .ok (.ireturn, 1) := by decide +kernel
set_option maxRecDepth 20000 in
theorem ggX8_dot_X8_isIn : GoodIn wsX8_dot wsX8_isIn := goodIn_r _ [10] (by decide +kernel) (by decide +kernel)
set_option maxRecDepth 20000 in
theorem gX8_dot_X8_isIn : GoodIn wsX8_dot (va_wsS RX8 88 yX8_isIn wsX8_isIn) := goodIn_app (goodIn_of _ (by decide +kernel)) ggX8_dot_X8_isIn
set_option maxRecDepth 20000 in
theorem ggX8_dot_X8_can : GoodIn wsX8_dot wsX8_can := goodIn_r _ [14, 15, 16, 17, 18, 19, 20, 21, 22, 23, 24, 25, 26, 27, 28, 29, 30, 31, 32, 33, 34, 35, 36, 37, 38, 39, 40, 41, 42, 43, 44, 45, 46, 47] (by decide +kernel) (by decide +kernel)
set_option maxRecDepth 20000 in
theorem gX8_dot_X8_can : GoodIn wsX8_dot (wsV RX8 101 RX8 yX8_can wsX8_can) := goodIn_app (goodIn_of _ (by decide +kernel)) ggX8_dot_X8_can
theorem dX8_dot_0 : decode cX8_dot 0 = .ok (.iload_n 1, 1) := by decide +kernel
theorem dX8_dot_1 : decode cX8_dot 1 = .ok (.iconst 0, 1) := by decide +kernel
theorem dX8_dot_2 : decode cX8_dot 2 = .ok (.aload_n 0, 1) := by decide +kernel
theorem dX8_dot_3 : decode cX8_dot 3 = .ok (.getfield 108, 3) := by decide +kernel
theorem dX8_dot_6 : decode cX8_dot 6 = .ok (.iconst 1, 1) := by decide +kernel
theorem dX8_dot_7 : decode cX8_dot 7 = .ok (.isub, 1) := by decide +kernel
theorem dX8_dot_8 : decode cX8_dot 8 = .ok (.invokestatic 88, 3) := by decide +kernel
theorem dX8_dot_11 : decode cX8_dot 11 = .ok (.istore 4, 2) := by decide +kernel
theorem dX8_dot_13 : decode cX8_dot 13 = .ok (.iload_n 2, 1) := by decide +kernel
theorem dX8_dot_14 : decode cX8_dot 14 = .ok (.iconst 0, 1) := by decide +kernel
theorem dX8_dot_15 : decode cX8_dot 15 = .ok (.sipush 3599, 3) := by decide +kernel
theorem dX8_dot_18 : decode cX8_dot 18 = .ok (.invokestatic 88, 3) := by decide +kernel
theorem dX8_dot_21 : decode cX8_dot 21 = .ok (.ifCond .eq 17, 3) := by decide +kernel
theorem dX8_dot_24 : decode cX8_dot 24 = .ok (.iload_n 3, 1) := by decide +kernel
theorem dX8_dot_25 : decode cX8_dot 25 = .ok (.iconst 0, 1) := by decide +kernel
theorem dX8_dot_26 : decode cX8_dot 26 = .ok (.bipush 99, 2) := by decide +kernel
theorem dX8_dot_28 : decode cX8_dot 28 = .ok (.invokestatic 88, 3) := by decide +kernel
theorem dX8_dot_31 : decode cX8_dot 31 = .ok (.ifCond .eq 7, 3) := by decide +kernel
theorem dX8_dot_34 : decode cX8_dot 34 = .ok (.iconst 1, 1) := by decide +kernel
theorem dX8_dot_35 : decode cX8_dot 35 = .ok (.goto 4, 3) := by decide +kernel
theorem dX8_dot_38 : decode cX8_dot 38 = .ok (.iconst 0, 1) := by decide +kernel
theorem dX8_dot_39 : decode cX8_dot 39 = .ok (.istore 5, 2) := by decide +kernel
theorem dX8_dot_41 : decode cX8_dot 41 = .ok (.aload_n 0, 1) := by decide +kernel
theorem dX8_dot_42 : decode cX8_dot 42 = .ok (.iload 4, 2) := by decide +kernel
theorem dX8_dot_44 : decode cX8_dot 44 = .ok (.ifCond .ne 7, 3) := by decide +kernel
theorem dX8_dot_47 : decode cX8_dot 47 = .ok (.iconst 1, 1) := by decide +kernel
theorem dX8_dot_48 : decode cX8_dot 48 = .ok (.goto 26, 3) := by decide +kernel
theorem dX8_dot_51 : decode cX8_dot 51 = .ok (.iload 5, 2) := by decide +kernel
theorem dX8_dot_53 : decode cX8_dot 53 = .ok (.ifCond .ne 7, 3) := by decide +kernel
theorem dX8_dot_56 : decode cX8_dot 56 = .ok (.iconst 2, 1) := by decide +kernel
theorem dX8_dot_57 : decode cX8_dot 57 = .ok (.goto 17, 3) := by decide +kernel
theorem dX8_dot_60 : decode cX8_dot 60 = .ok (.aload_n 0, 1) := by decide +kernel
theorem dX8_dot_61 : decode cX8_dot 61 = .ok (.getfield 92, 3) := by decide +kernel
theorem dX8_dot_64 : decode cX8_dot 64 = .ok (.bipush 60, 2) := by decide +kernel
theorem dX8_dot_66 : decode cX8_dot 66 = .ok (.if_icmp .ne 7, 3) := by decide +kernel
theorem dX8_dot_69 : decode cX8_dot 69 = .ok (.iconst 3, 1) := by decide +kernel
theorem dX8_dot_70 : decode cX8_dot 70 = .ok (.goto 4, 3) := by decide +kernel
theorem dX8_dot_73 : decode cX8_dot 73 = .ok (.iconst 0, 1) := by decide +kernel
theorem dX8_dot_74 : decode cX8_dot 74 = .ok (.invokevirtual 101, 3) := by decide +kernel
theorem dX8_dot_77 : decode cX8_dot 77 = .ok (.ifCond .ne 5, 3) := by decide +kernel
theorem dX8_dot_80 : decode cX8_dot 80 = .ok (.iconst 0, 1) := by decide +kernel
theorem dX8_dot_81 : decode cX8_dot 81 = .ok (.ireturn, 1) := by decide +kernel
theorem dX8_dot_82 : decode cX8_dot 82 = .ok (.aload_n 0, 1) := by decide +kernel
theorem dX8_dot_83 : decode cX8_dot 83 = .ok (.getfield 22, 3) := by decide +kernel
theorem dX8_dot_86 : decode cX8_dot 86 = .ok (.aload_n 0, 1) := by decide +kernel
theorem dX8_dot_87 : decode cX8_dot 87 = .ok (.getfield 92, 3) := by decide +kernel
theorem dX8_dot_90 : decode cX8_dot 90 = .ok (.iload_n 1, 1) := by decide +kernel
theorem dX8_dot_91 : decode cX8_dot 91 = .ok (.iastore, 1) := by decide +kernel
theorem dX8_dot_92 : decode cX8_dot 92 = .ok (.aload_n 0, 1) := by decide +kernel
theorem dX8_dot_93 : decode cX8_dot 93 = .ok (.getfield 25, 3) := by decide +kernel
theorem dX8_dot_96 : decode cX8_dot 96 = .ok (.aload_n 0, 1) := by decide +kernel
theorem dX8_dot_97 : decode cX8_dot 97 = .ok (.getfield 92, 3) := by decide +kernel
theorem dX8_dot_100 : decode cX8_dot 100 = .ok (.iload_n 2, 1) := by decide +kernel
theorem dX8_dot_101 : decode cX8_dot 101 = .ok (.iastore, 1) := by decide +kernel
theorem dX8_dot_102 : decode cX8_dot 102 = .ok (.aload_n 0, 1) := by decide +kernel
theorem dX8_dot_103 : decode cX8_dot 103 = .ok (.getfield 28, 3) := by decide +kernel
theorem dX8_dot_106 : decode cX8_dot 106 = .ok (.aload_n 0, 1) := by decide +kernel
theorem dX8_dot_107 : decode cX8_dot 107 = .ok (.getfield 92, 3) := by decide +kernel
theorem dX8_dot_110 : decode cX8_dot 110 = .ok (.iload_n 3, 1) := by decide +kernel
theorem dX8_dot_111 : decode cX8_dot 111 = .ok (.iastore, 1) := by decide +kernel
theorem dX8_dot_112 : decode cX8_dot 112 = .ok (.aload_n 0, 1) := by decide +kernel
theorem dX8_dot_113 : decode cX8_dot 113 = .ok (.getfield 31, 3) := by decide +kernel
theorem dX8_dot_116 : decode cX8_dot 116 = .ok (.aload_n 0, 1) := by decide +kernel
theorem dX8_dot_117 : decode cX8_dot 117 = .ok (.getfield 92, 3) := by decide +kernel
theorem dX8_dot_120 : decode cX8_dot 120 = .ok (.iconst (-1), 1) := by decide +kernel
theorem dX8_dot_121 : decode cX8_dot 121 = .ok (.iastore, 1) := by decide +kernel
theorem dX8_dot_122 : decode cX8_dot 122 = .ok (.aload_n 0, 1) := by decide +kernel
theorem dX8_dot_123 : decode cX8_dot 123 = .ok (.dup, 1) := by decide +kernel
theorem dX8_dot_124 : decode cX8_dot 124 = .ok (.getfield 92, 3) := by decide +kernel
theorem dX8_dot_127 : decode cX8_dot 127 = .ok (.iconst 1, 1) := by decide +kernel
theorem dX8_dot_128 : decode cX8_dot 128 = .ok (.iadd, 1) := by decide +kernel
theorem dX8_dot_129 : decode cX8_dot 129 = .ok (.putfield 92, 3) := by decide +kernel
theorem dX8_dot_132 : decode cX8_dot 132 = .ok (.aload_n 0, 1) := by decide +kernel
theorem dX8_dot_133 : decode cX8_dot 133 = .ok (.getfield 92, 3) := by decide +kernel
theorem dX8_dot_136 : decode cX8_dot 136 = .ok (.iconst 1, 1) := by decide +kernel
theorem dX8_dot_137 : decode cX8_dot 137 = .ok (.isub, 1) := by decide +kernel
theorem dX8_dot_138 : decode cX8_dot 138 = .ok (.ireturn, 1) := by decide +kernel
set_option maxRecDepth 20000 in
theorem ggX8_shift_X8_isIn : GoodIn wsX8_shift wsX8_isIn := goodIn_r _ [5] (by decide +kernel) (by decide +kernel)
set_option maxRecDepth 20000 in
theorem gX8_shift_X8_isIn : GoodIn wsX8_shift (va_wsS RX8 88 yX8_isIn wsX8_isIn) := goodIn_app (goodIn_of _ (by decide +kernel)) ggX8_shift_X8_isIn
set_option maxRecDepth 20000 in
theorem ggX8_shift_X8_can : GoodIn wsX8_shift wsX8_can := goodIn_r _ [9, 10, 11, 12, 13, 14, 15, 16, 17, 18, 19, 20, 21, 22, 23, 24, 25, 26, 27, 28, 29, 30, 31, 32, 33, 34, 35, 36, 37, 38, 39, 40, 41, 42] (by decide +kernel) (by decide +kernel)
set_option maxRecDepth 20000 in
theorem gX8_shift_X8_can : GoodIn wsX8_shift (wsV RX8 101 RX8 yX8_can wsX8_can) := goodIn_app (goodIn_of _ (by decide +kernel)) ggX8_shift_X8_can
theorem dX8_shift_0 : decode cX8_shift 0 = .ok (.aload_n 0, 1) := by decide +kernel
theorem dX8_shift_1 : decode cX8_shift 1 = .ok (.iload_n 1, 1) := by decide +kernel
theorem dX8_shift_2 : decode cX8_shift 2 = .ok (.iconst 0, 1) := by decide +kernel
theorem dX8_shift_3 : decode cX8_shift 3 = .ok (.bipush 8, 2) := by decide +kernel
theorem dX8_shift_5 : decode cX8_shift 5 = .ok (.invokestatic 88, 3) := by decide +kernel
theorem dX8_shift_8 : decode cX8_shift 8 = .ok (.ifCond .ne 7, 3) := by decide +kernel
theorem dX8_shift_11 : decode cX8_shift 11 = .ok (.iconst 1, 1) := by decide +kernel
theorem dX8_shift_12 : decode cX8_shift 12 = .ok (.goto 19, 3) := by decide +kernel
theorem dX8_shift_15 : decode cX8_shift 15 = .ok (.iload_n 2, 1) := by decide +kernel
theorem dX8_shift_16 : decode cX8_shift 16 = .ok (.bipush (-9), 2) := by decide +kernel
theorem dX8_shift_18 : decode cX8_shift 18 = .ok (.bipush 9, 2) := by decide +kernel
theorem dX8_shift_20 : decode cX8_shift 20 = .ok (.invokestatic 88, 3) := by decide +kernel
theorem dX8_shift_23 : decode cX8_shift 23 = .ok (.ifCond .eq 7, 3) := by decide +kernel
theorem dX8_shift_26 : decode cX8_shift 26 = .ok (.iconst 0, 1) := by decide +kernel
theorem dX8_shift_27 : decode cX8_shift 27 = .ok (.goto 4, 3) := by decide +kernel
theorem dX8_shift_30 : decode cX8_shift 30 = .ok (.iconst 2, 1) := by decide +kernel
theorem dX8_shift_31 : decode cX8_shift 31 = .ok (.invokevirtual 101, 3) := by decide +kernel
theorem dX8_shift_34 : decode cX8_shift 34 = .ok (.ifCond .ne 5, 3) := by decide +kernel
theorem dX8_shift_37 : decode cX8_shift 37 = .ok (.iconst 0, 1) := by decide +kernel
theorem dX8_shift_38 : decode cX8_shift 38 = .ok (.ireturn, 1) := by decide +kernel
theorem dX8_shift_39 : decode cX8_shift 39 = .ok (.aload_n 0, 1) := by decide +kernel
theorem dX8_shift_40 : decode cX8_shift 40 = .ok (.getfield 7, 3) := by decide +kernel
theorem dX8_shift_43 : decode cX8_shift 43 = .ok (.iload_n 1, 1) := by decide +kernel
theorem dX8_shift_44 : decode cX8_shift 44 = .ok (.iaload, 1) := by decide +kernel
theorem dX8_shift_45 : decode cX8_shift 45 = .ok (.istore_n 3, 1) := by decide +kernel
theorem dX8_shift_46 : decode cX8_shift 46 = .ok (.aload_n 0, 1) := by decide +kernel
theorem dX8_shift_47 : decode cX8_shift 47 = .ok (.getfield 7, 3) := by decide +kernel
theorem dX8_shift_50 : decode cX8_shift 50 = .ok (.iload_n 1, 1) := by decide +kernel
theorem dX8_shift_51 : decode cX8_shift 51 = .ok (.iload_n 2, 1) := by decide +kernel
theorem dX8_shift_52 : decode cX8_shift 52 = .ok (.iastore, 1) := by decide +kernel
theorem dX8_shift_53 : decode cX8_shift 53 = .ok (.iload_n 3, 1) := by decide +kernel
theorem dX8_shift_54 : decode cX8_shift 54 = .ok (.ireturn, 1) := by decide +kernel
set_option maxRecDepth 20000 in
theorem ggX8_trueOf_X8_round : GoodIn wsX8_trueOf wsX8_round := goodIn_r _ [6] (by decide +kernel) (by decide +kernel)
set_option maxRecDepth 20000 in
theorem gX8_trueOf_X8_round : GoodIn wsX8_trueOf (va_wsS RX8 111 yX8_round wsX8_round) := goodIn_app (goodIn_of _ (by decide +kernel)) ggX8_trueOf_X8_round
theorem dX8_trueOf_0 : decode cX8_trueOf 0 = .ok (.aload_n 0, 1) := by decide +kernel
theorem dX8_trueOf_1 : decode cX8_trueOf 1 = .ok (.getfield 25, 3) := by decide +kernel
theorem dX8_trueOf_4 : decode cX8_trueOf 4 = .ok (.iload_n 1, 1) := by decide +kernel
theorem dX8_trueOf_5 : decode cX8_trueOf 5 = .ok (.iaload, 1) := by decide +kernel
theorem dX8_trueOf_6 : decode cX8_trueOf 6 = .ok (.aload_n 0, 1) := by decide +kernel
theorem dX8_trueOf_7 : decode cX8_trueOf 7 = .ok (.getfield 7, 3) := by decide +kernel
theorem dX8_trueOf_10 : decode cX8_trueOf 10 = .ok (.aload_n 0, 1) := by decide +kernel
theorem dX8_trueOf_11 : decode cX8_trueOf 11 = .ok (.getfield 25, 3) := by decide +kernel
theorem dX8_trueOf_14 : decode cX8_trueOf 14 = .ok (.iload_n 1, 1) := by decide +kernel
theorem dX8_trueOf_15 : decode cX8_trueOf 15 = .ok (.iaload, 1) := by decide +kernel
theorem dX8_trueOf_16 : decode cX8_trueOf 16 = .ok (.sipush 400, 3) := by decide +kernel
theorem dX8_trueOf_19 : decode cX8_trueOf 19 = .ok (.idiv, 1) := by decide +kernel
theorem dX8_trueOf_20 : decode cX8_trueOf 20 = .ok (.iaload, 1) := by decide +kernel
theorem dX8_trueOf_21 : decode cX8_trueOf 21 = .ok (.iadd, 1) := by decide +kernel
theorem dX8_trueOf_22 : decode cX8_trueOf 22 = .ok (.invokestatic 111, 3) := by decide +kernel
theorem dX8_trueOf_25 : decode cX8_trueOf 25 = .ok (.ireturn, 1) := by decide +kernel
theorem dX8_nightOf_0 : decode cX8_nightOf 0 = .ok (.aload_n 0, 1) := by decide +kernel
theorem dX8_nightOf_1 : decode cX8_nightOf 1 = .ok (.getfield 19, 3) := by decide +kernel
theorem dX8_nightOf_4 : decode cX8_nightOf 4 = .ok (.aload_n 0, 1) := by decide +kernel
theorem dX8_nightOf_5 : decode cX8_nightOf 5 = .ok (.getfield 22, 3) := by decide +kernel
theorem dX8_nightOf_8 : decode cX8_nightOf 8 = .ok (.iload_n 1, 1) := by decide +kernel
theorem dX8_nightOf_9 : decode cX8_nightOf 9 = .ok (.iaload, 1) := by decide +kernel
theorem dX8_nightOf_10 : decode cX8_nightOf 10 = .ok (.iaload, 1) := by decide +kernel
theorem dX8_nightOf_11 : decode cX8_nightOf 11 = .ok (.ireturn, 1) := by decide +kernel
theorem dX8_errorOf_0 : decode cX8_errorOf 0 = .ok (.aload_n 0, 1) := by decide +kernel
theorem dX8_errorOf_1 : decode cX8_errorOf 1 = .ok (.getfield 13, 3) := by decide +kernel
theorem dX8_errorOf_4 : decode cX8_errorOf 4 = .ok (.aload_n 0, 1) := by decide +kernel
theorem dX8_errorOf_5 : decode cX8_errorOf 5 = .ok (.getfield 16, 3) := by decide +kernel
theorem dX8_errorOf_8 : decode cX8_errorOf 8 = .ok (.aload_n 0, 1) := by decide +kernel
theorem dX8_errorOf_9 : decode cX8_errorOf 9 = .ok (.getfield 22, 3) := by decide +kernel
theorem dX8_errorOf_12 : decode cX8_errorOf 12 = .ok (.iload_n 1, 1) := by decide +kernel
theorem dX8_errorOf_13 : decode cX8_errorOf 13 = .ok (.iaload, 1) := by decide +kernel
theorem dX8_errorOf_14 : decode cX8_errorOf 14 = .ok (.iaload, 1) := by decide +kernel
theorem dX8_errorOf_15 : decode cX8_errorOf 15 = .ok (.iaload, 1) := by decide +kernel
theorem dX8_errorOf_16 : decode cX8_errorOf 16 = .ok (.ireturn, 1) := by decide +kernel
set_option maxRecDepth 20000 in
theorem ggX8_ofDot_X8_isDot : GoodIn wsX8_ofDot wsX8_isDot := goodIn_r _ [7, 8, 9, 10, 6, 11, 32, 33, 34, 35, 36, 37, 38, 39, 40, 41, 42, 43, 44, 45, 46, 47, 48, 49, 50, 51, 52, 53, 54, 55, 56, 57, 58, 59, 60, 61, 62, 63] (by decide +kernel) (by decide +kernel)
set_option maxRecDepth 20000 in
theorem gX8_ofDot_X8_isDot : GoodIn wsX8_ofDot (wsV RX8 114 RX8 yX8_isDot wsX8_isDot) := goodIn_app (goodIn_of _ (by decide +kernel)) ggX8_ofDot_X8_isDot
set_option maxRecDepth 20000 in
theorem ggX8_ofDot_X8_isIn : GoodIn wsX8_ofDot wsX8_isIn := goodIn_r _ [11] (by decide +kernel) (by decide +kernel)
set_option maxRecDepth 20000 in
theorem gX8_ofDot_X8_isIn : GoodIn wsX8_ofDot (va_wsS RX8 88 yX8_isIn wsX8_isIn) := goodIn_app (goodIn_of _ (by decide +kernel)) ggX8_ofDot_X8_isIn
set_option maxRecDepth 20000 in
theorem ggX8_ofDot_X8_can : GoodIn wsX8_ofDot wsX8_can := goodIn_r _ [15, 16, 32, 33, 34, 35, 36, 37, 38, 39, 40, 41, 42, 43, 44, 45, 46, 47, 48, 49, 50, 51, 52, 53, 54, 55, 56, 57, 58, 59, 60, 61, 62, 63] (by decide +kernel) (by decide +kernel)
set_option maxRecDepth 20000 in
theorem gX8_ofDot_X8_can : GoodIn wsX8_ofDot (wsV RX8 101 RX8 yX8_can wsX8_can) := goodIn_app (goodIn_of _ (by decide +kernel)) ggX8_ofDot_X8_can
set_option maxRecDepth 20000 in
theorem ggX8_ofDot_X8_nightOf : GoodIn wsX8_ofDot wsX8_nightOf := goodIn_r _ [20, 21, 22, 32, 33, 34, 35, 36, 37, 38, 39, 40, 41, 42, 43, 44, 45, 46, 47, 48, 49, 50, 51, 52, 53, 54, 55, 56, 57, 58, 59, 60, 61, 62, 63] (by decide +kernel) (by decide +kernel)
set_option maxRecDepth 20000 in
theorem gX8_ofDot_X8_nightOf : GoodIn wsX8_ofDot (wsV RX8 117 RX8 yX8_nightOf wsX8_nightOf) := goodIn_app (goodIn_of _ (by decide +kernel)) ggX8_ofDot_X8_nightOf
set_option maxRecDepth 20000 in
theorem ggX8_ofDot_X8_trueOf : GoodIn wsX8_ofDot wsX8_trueOf := goodIn_r _ [26, 27, 28, 29, 30, 6, 31, 32, 33, 34, 35, 36, 37, 38, 39, 40, 41, 42, 43, 44, 45, 46, 47, 48, 49, 50, 51, 52, 53, 54, 55, 56, 57, 58, 59, 60, 61, 62, 63] (by decide +kernel) (by decide +kernel)
set_option maxRecDepth 20000 in
theorem gX8_ofDot_X8_trueOf : GoodIn wsX8_ofDot (wsV RX8 120 RX8 yX8_trueOf wsX8_trueOf) := goodIn_app (goodIn_of _ (by decide +kernel)) ggX8_ofDot_X8_trueOf
theorem dX8_ofDot_0 : decode cX8_ofDot 0 = .ok (.aload_n 0, 1) := by decide +kernel
theorem dX8_ofDot_1 : decode cX8_ofDot 1 = .ok (.aload_n 0, 1) := by decide +kernel
theorem dX8_ofDot_2 : decode cX8_ofDot 2 = .ok (.iload_n 1, 1) := by decide +kernel
theorem dX8_ofDot_3 : decode cX8_ofDot 3 = .ok (.invokevirtual 114, 3) := by decide +kernel
theorem dX8_ofDot_6 : decode cX8_ofDot 6 = .ok (.ifCond .ne 7, 3) := by decide +kernel
theorem dX8_ofDot_9 : decode cX8_ofDot 9 = .ok (.iconst 1, 1) := by decide +kernel
theorem dX8_ofDot_10 : decode cX8_ofDot 10 = .ok (.goto 17, 3) := by decide +kernel
theorem dX8_ofDot_13 : decode cX8_ofDot 13 = .ok (.iload_n 2, 1) := by decide +kernel
theorem dX8_ofDot_14 : decode cX8_ofDot 14 = .ok (.iconst 0, 1) := by decide +kernel
theorem dX8_ofDot_15 : decode cX8_ofDot 15 = .ok (.iconst 3, 1) := by decide +kernel
theorem dX8_ofDot_16 : decode cX8_ofDot 16 = .ok (.invokestatic 88, 3) := by decide +kernel
theorem dX8_ofDot_19 : decode cX8_ofDot 19 = .ok (.ifCond .eq 7, 3) := by decide +kernel
theorem dX8_ofDot_22 : decode cX8_ofDot 22 = .ok (.iconst 0, 1) := by decide +kernel
theorem dX8_ofDot_23 : decode cX8_ofDot 23 = .ok (.goto 4, 3) := by decide +kernel
theorem dX8_ofDot_26 : decode cX8_ofDot 26 = .ok (.iconst 2, 1) := by decide +kernel
theorem dX8_ofDot_27 : decode cX8_ofDot 27 = .ok (.invokevirtual 101, 3) := by decide +kernel
theorem dX8_ofDot_30 : decode cX8_ofDot 30 = .ok (.ifCond .ne 5, 3) := by decide +kernel
theorem dX8_ofDot_33 : decode cX8_ofDot 33 = .ok (.iconst 0, 1) := by decide +kernel
theorem dX8_ofDot_34 : decode cX8_ofDot 34 = .ok (.ireturn, 1) := by decide +kernel
theorem dX8_ofDot_35 : decode cX8_ofDot 35 = .ok (.iload_n 2, 1) := by decide +kernel
theorem dX8_ofDot_36 : decode cX8_ofDot 36 = .ok (.ifCond .ne 11, 3) := by decide +kernel
theorem dX8_ofDot_39 : decode cX8_ofDot 39 = .ok (.aload_n 0, 1) := by decide +kernel
theorem dX8_ofDot_40 : decode cX8_ofDot 40 = .ok (.iload_n 1, 1) := by decide +kernel
theorem dX8_ofDot_41 : decode cX8_ofDot 41 = .ok (.invokevirtual 117, 3) := by decide +kernel
theorem dX8_ofDot_44 : decode cX8_ofDot 44 = .ok (.goto 36, 3) := by decide +kernel
theorem dX8_ofDot_47 : decode cX8_ofDot 47 = .ok (.iload_n 2, 1) := by decide +kernel
theorem dX8_ofDot_48 : decode cX8_ofDot 48 = .ok (.iconst 1, 1) := by decide +kernel
theorem dX8_ofDot_49 : decode cX8_ofDot 49 = .ok (.if_icmp .ne 11, 3) := by decide +kernel
theorem dX8_ofDot_52 : decode cX8_ofDot 52 = .ok (.aload_n 0, 1) := by decide +kernel
theorem dX8_ofDot_53 : decode cX8_ofDot 53 = .ok (.iload_n 1, 1) := by decide +kernel
theorem dX8_ofDot_54 : decode cX8_ofDot 54 = .ok (.invokevirtual 120, 3) := by decide +kernel
theorem dX8_ofDot_57 : decode cX8_ofDot 57 = .ok (.goto 23, 3) := by decide +kernel
theorem dX8_ofDot_60 : decode cX8_ofDot 60 = .ok (.iload_n 2, 1) := by decide +kernel
theorem dX8_ofDot_61 : decode cX8_ofDot 61 = .ok (.iconst 2, 1) := by decide +kernel
theorem dX8_ofDot_62 : decode cX8_ofDot 62 = .ok (.if_icmp .ne 12, 3) := by decide +kernel
theorem dX8_ofDot_65 : decode cX8_ofDot 65 = .ok (.aload_n 0, 1) := by decide +kernel
theorem dX8_ofDot_66 : decode cX8_ofDot 66 = .ok (.getfield 28, 3) := by decide +kernel
theorem dX8_ofDot_69 : decode cX8_ofDot 69 = .ok (.iload_n 1, 1) := by decide +kernel
theorem dX8_ofDot_70 : decode cX8_ofDot 70 = .ok (.iaload, 1) := by decide +kernel
theorem dX8_ofDot_71 : decode cX8_ofDot 71 = .ok (.goto 9, 3) := by decide +kernel
theorem dX8_ofDot_74 : decode cX8_ofDot 74 = .ok (.aload_n 0, 1) := by decide +kernel
theorem dX8_ofDot_75 : decode cX8_ofDot 75 = .ok (.getfield 31, 3) := by decide +kernel
theorem dX8_ofDot_78 : decode cX8_ofDot 78 = .ok (.iload_n 1, 1) := by decide +kernel
theorem dX8_ofDot_79 : decode cX8_ofDot 79 = .ok (.iaload, 1) := by decide +kernel
theorem dX8_ofDot_80 : decode cX8_ofDot 80 = .ok (.ireturn, 1) := by decide +kernel
theorem dX8_isBelow_0 : decode cX8_isBelow 0 = .ok (.iload_n 1, 1) := by decide +kernel
theorem dX8_isBelow_1 : decode cX8_isBelow 1 = .ok (.istore_n 3, 1) := by decide +kernel
theorem dX8_isBelow_2 : decode cX8_isBelow 2 = .ok (.iload_n 3, 1) := by decide +kernel
theorem dX8_isBelow_3 : decode cX8_isBelow 3 = .ok (.iconst (-1), 1) := by decide +kernel
theorem dX8_isBelow_4 : decode cX8_isBelow 4 = .ok (.if_icmp .eq 18, 3) := by decide +kernel
theorem dX8_isBelow_7 : decode cX8_isBelow 7 = .ok (.iload_n 3, 1) := by decide +kernel
theorem dX8_isBelow_8 : decode cX8_isBelow 8 = .ok (.iload_n 2, 1) := by decide +kernel
theorem dX8_isBelow_9 : decode cX8_isBelow 9 = .ok (.if_icmp .eq 13, 3) := by decide +kernel
theorem dX8_isBelow_12 : decode cX8_isBelow 12 = .ok (.aload_n 0, 1) := by decide +kernel
theorem dX8_isBelow_13 : decode cX8_isBelow 13 = .ok (.getfield 34, 3) := by decide +kernel
theorem dX8_isBelow_16 : decode cX8_isBelow 16 = .ok (.iload_n 3, 1) := by decide +kernel
theorem dX8_isBelow_17 : decode cX8_isBelow 17 = .ok (.iaload, 1) := by decide +kernel
theorem dX8_isBelow_18 : decode cX8_isBelow 18 = .ok (.istore_n 3, 1) := by decide +kernel
theorem dX8_isBelow_19 : decode cX8_isBelow 19 = .ok (.goto (-17), 3) := by decide +kernel
theorem dX8_isBelow_22 : decode cX8_isBelow 22 = .ok (.iload_n 3, 1) := by decide +kernel
theorem dX8_isBelow_23 : decode cX8_isBelow 23 = .ok (.iload_n 2, 1) := by decide +kernel
theorem dX8_isBelow_24 : decode cX8_isBelow 24 = .ok (.if_icmp .ne 7, 3) := by decide +kernel
theorem dX8_isBelow_27 : decode cX8_isBelow 27 = .ok (.iconst 1, 1) := by decide +kernel
theorem dX8_isBelow_28 : decode cX8_isBelow 28 = .ok (.goto 4, 3) := by decide +kernel
theorem dX8_isBelow_31 : decode cX8_isBelow 31 = .ok (.iconst 0, 1) := by decide +kernel
theorem dX8_isBelow_32 : decode cX8_isBelow 32 = .ok (.ireturn, 1) := by decide +kernel
set_option maxRecDepth 20000 in
theorem ggX8_laysAlso_X8_isBelow : GoodIn wsX8_laysAlso wsX8_isBelow := goodIn_r _ [9, 10, 11, 12, 13, 14, 15, 16, 17, 18, 19, 20, 21, 22, 23, 24, 25, 26, 27, 28, 29, 30, 31, 32, 33, 34, 35, 36, 37, 38, 39, 40, 41, 42] (by decide +kernel) (by decide +kernel)
set_option maxRecDepth 20000 in
theorem gX8_laysAlso_X8_isBelow : GoodIn wsX8_laysAlso (wsV RX8 123 RX8 yX8_isBelow wsX8_isBelow) := goodIn_app (goodIn_of _ (by decide +kernel)) ggX8_laysAlso_X8_isBelow
theorem dX8_laysAlso_0 : decode cX8_laysAlso 0 = .ok (.iconst 0, 1) := by decide +kernel
theorem dX8_laysAlso_1 : decode cX8_laysAlso 1 = .ok (.istore_n 2, 1) := by decide +kernel
theorem dX8_laysAlso_2 : decode cX8_laysAlso 2 = .ok (.iload_n 2, 1) := by decide +kernel
theorem dX8_laysAlso_3 : decode cX8_laysAlso 3 = .ok (.aload_n 0, 1) := by decide +kernel
theorem dX8_laysAlso_4 : decode cX8_laysAlso 4 = .ok (.getfield 92, 3) := by decide +kernel
theorem dX8_laysAlso_7 : decode cX8_laysAlso 7 = .ok (.if_icmp .ge 53, 3) := by decide +kernel
theorem dX8_laysAlso_10 : decode cX8_laysAlso 10 = .ok (.aload_n 0, 1) := by decide +kernel
theorem dX8_laysAlso_11 : decode cX8_laysAlso 11 = .ok (.getfield 31, 3) := by decide +kernel
theorem dX8_laysAlso_14 : decode cX8_laysAlso 14 = .ok (.iload_n 2, 1) := by decide +kernel
theorem dX8_laysAlso_15 : decode cX8_laysAlso 15 = .ok (.iaload, 1) := by decide +kernel
theorem dX8_laysAlso_16 : decode cX8_laysAlso 16 = .ok (.iconst (-1), 1) := by decide +kernel
theorem dX8_laysAlso_17 : decode cX8_laysAlso 17 = .ok (.if_icmp .eq 37, 3) := by decide +kernel
theorem dX8_laysAlso_20 : decode cX8_laysAlso 20 = .ok (.aload_n 0, 1) := by decide +kernel
theorem dX8_laysAlso_21 : decode cX8_laysAlso 21 = .ok (.aload_n 0, 1) := by decide +kernel
theorem dX8_laysAlso_22 : decode cX8_laysAlso 22 = .ok (.getfield 31, 3) := by decide +kernel
theorem dX8_laysAlso_25 : decode cX8_laysAlso 25 = .ok (.iload_n 2, 1) := by decide +kernel
theorem dX8_laysAlso_26 : decode cX8_laysAlso 26 = .ok (.iaload, 1) := by decide +kernel
theorem dX8_laysAlso_27 : decode cX8_laysAlso 27 = .ok (.iload_n 1, 1) := by decide +kernel
theorem dX8_laysAlso_28 : decode cX8_laysAlso 28 = .ok (.invokevirtual 123, 3) := by decide +kernel
theorem dX8_laysAlso_31 : decode cX8_laysAlso 31 = .ok (.ifCond .eq 23, 3) := by decide +kernel
theorem dX8_laysAlso_34 : decode cX8_laysAlso 34 = .ok (.aload_n 0, 1) := by decide +kernel
theorem dX8_laysAlso_35 : decode cX8_laysAlso 35 = .ok (.getfield 49, 3) := by decide +kernel
theorem dX8_laysAlso_38 : decode cX8_laysAlso 38 = .ok (.aload_n 0, 1) := by decide +kernel
theorem dX8_laysAlso_39 : decode cX8_laysAlso 39 = .ok (.getfield 127, 3) := by decide +kernel
theorem dX8_laysAlso_42 : decode cX8_laysAlso 42 = .ok (.iload_n 2, 1) := by decide +kernel
theorem dX8_laysAlso_43 : decode cX8_laysAlso 43 = .ok (.iastore, 1) := by decide +kernel
theorem dX8_laysAlso_44 : decode cX8_laysAlso 44 = .ok (.aload_n 0, 1) := by decide +kernel
theorem dX8_laysAlso_45 : decode cX8_laysAlso 45 = .ok (.dup, 1) := by decide +kernel
theorem dX8_laysAlso_46 : decode cX8_laysAlso 46 = .ok (.getfield 127, 3) := by decide +kernel
theorem dX8_laysAlso_49 : decode cX8_laysAlso 49 = .ok (.iconst 1, 1) := by decide +kernel
theorem dX8_laysAlso_50 : decode cX8_laysAlso 50 = .ok (.iadd, 1) := by decide +kernel
theorem dX8_laysAlso_51 : decode cX8_laysAlso 51 = .ok (.putfield 127, 3) := by decide +kernel
theorem dX8_laysAlso_54 : decode cX8_laysAlso 54 = .ok (.iinc 2 1, 3) := by decide +kernel
theorem dX8_laysAlso_57 : decode cX8_laysAlso 57 = .ok (.goto (-55), 3) := by decide +kernel
theorem dX8_laysAlso_60 : decode cX8_laysAlso 60 = .ok (.return_, 1) := by decide +kernel
set_option maxRecDepth 20000 in
theorem ggX8_lays_X8_laysAlso : GoodIn wsX8_lays wsX8_laysAlso := goodIn_r _ [6, 7, 8, 9, 1, 10, 11, 12, 5, 13, 14, 15, 16, 17, 18, 19, 20, 21, 22, 23, 24, 25, 26, 27, 28, 29, 30, 31, 32, 33, 34, 35, 36, 37, 38, 39, 40, 41, 42, 43, 44, 45, 46] (by decide +kernel) (by decide +kernel)
set_option maxRecDepth 20000 in
theorem gX8_lays_X8_laysAlso : GoodIn wsX8_lays (wsV RX8 130 RX8 yX8_laysAlso wsX8_laysAlso) := goodIn_app (goodIn_of _ (by decide +kernel)) ggX8_lays_X8_laysAlso
theorem dX8_lays_0 : decode cX8_lays 0 = .ok (.aload_n 0, 1) := by decide +kernel
theorem dX8_lays_1 : decode cX8_lays 1 = .ok (.iconst 0, 1) := by decide +kernel
theorem dX8_lays_2 : decode cX8_lays 2 = .ok (.putfield 127, 3) := by decide +kernel
theorem dX8_lays_5 : decode cX8_lays 5 = .ok (.aload_n 0, 1) := by decide +kernel
theorem dX8_lays_6 : decode cX8_lays 6 = .ok (.iload_n 1, 1) := by decide +kernel
theorem dX8_lays_7 : decode cX8_lays 7 = .ok (.invokevirtual 130, 3) := by decide +kernel
theorem dX8_lays_10 : decode cX8_lays 10 = .ok (.return_, 1) := by decide +kernel
theorem dX8_moves_0 : decode cX8_moves 0 = .ok (.iload_n 0, 1) := by decide +kernel
theorem dX8_moves_1 : decode cX8_moves 1 = .ok (.iload_n 2, 1) := by decide +kernel
theorem dX8_moves_2 : decode cX8_moves 2 = .ok (.imul, 1) := by decide +kernel
theorem dX8_moves_3 : decode cX8_moves 3 = .ok (.iload_n 1, 1) := by decide +kernel
theorem dX8_moves_4 : decode cX8_moves 4 = .ok (.iload_n 2, 1) := by decide +kernel
theorem dX8_moves_5 : decode cX8_moves 5 = .ok (.iload_n 2, 1) := by decide +kernel
theorem dX8_moves_6 : decode cX8_moves 6 = .ok (.iconst 1, 1) := by decide +kernel
theorem dX8_moves_7 : decode cX8_moves 7 = .ok (.isub, 1) := by decide +kernel
theorem dX8_moves_8 : decode cX8_moves 8 = .ok (.imul, 1) := by decide +kernel
theorem dX8_moves_9 : decode cX8_moves 9 = .ok (.iconst 2, 1) := by decide +kernel
theorem dX8_moves_10 : decode cX8_moves 10 = .ok (.idiv, 1) := by decide +kernel
theorem dX8_moves_11 : decode cX8_moves 11 = .ok (.imul, 1) := by decide +kernel
theorem dX8_moves_12 : decode cX8_moves 12 = .ok (.iadd, 1) := by decide +kernel
theorem dX8_moves_13 : decode cX8_moves 13 = .ok (.ireturn, 1) := by decide +kernel
set_option maxRecDepth 20000 in
theorem ggX8_fits_X8_nightOf : GoodIn wsX8_fits wsX8_nightOf := goodIn_r _ [7, 8, 9, 34, 35, 36, 37, 38, 39, 40, 41, 42, 43, 44, 45, 46, 47, 48, 49, 50, 51, 52, 53, 54, 55, 56, 57, 58, 59, 60, 61, 62, 63, 64, 65] (by decide +kernel) (by decide +kernel)
set_option maxRecDepth 20000 in
theorem gX8_fits_X8_nightOf : GoodIn wsX8_fits (wsV RX8 117 RX8 yX8_nightOf wsX8_nightOf) := goodIn_app (goodIn_of _ (by decide +kernel)) ggX8_fits_X8_nightOf
set_option maxRecDepth 20000 in
theorem ggX8_fits_X8_moves : GoodIn wsX8_fits wsX8_moves := goodIn_r _ [12] (by decide +kernel) (by decide +kernel)
set_option maxRecDepth 20000 in
theorem gX8_fits_X8_moves : GoodIn wsX8_fits (va_wsS RX8 134 yX8_moves wsX8_moves) := goodIn_app (goodIn_of _ (by decide +kernel)) ggX8_fits_X8_moves
set_option maxRecDepth 20000 in
theorem ggX8_fits_X8_round : GoodIn wsX8_fits wsX8_round := goodIn_r _ [15] (by decide +kernel) (by decide +kernel)
set_option maxRecDepth 20000 in
theorem gX8_fits_X8_round : GoodIn wsX8_fits (va_wsS RX8 111 yX8_round wsX8_round) := goodIn_app (goodIn_of _ (by decide +kernel)) ggX8_fits_X8_round
set_option maxRecDepth 20000 in
theorem ggX8_fits_X8_trueOf : GoodIn wsX8_fits wsX8_trueOf := goodIn_r _ [19, 20, 21, 13, 14, 6, 15, 34, 35, 36, 37, 38, 39, 40, 41, 42, 43, 44, 45, 46, 47, 48, 49, 50, 51, 52, 53, 54, 55, 56, 57, 58, 59, 60, 61, 62, 63, 64, 65] (by decide +kernel) (by decide +kernel)
set_option maxRecDepth 20000 in
theorem gX8_fits_X8_trueOf : GoodIn wsX8_fits (wsV RX8 120 RX8 yX8_trueOf wsX8_trueOf) := goodIn_app (goodIn_of _ (by decide +kernel)) ggX8_fits_X8_trueOf
set_option maxRecDepth 20000 in
theorem ggX8_fits_X8_apart : GoodIn wsX8_fits wsX8_apart := goodIn_r _ [24, 25, 26, 6, 27] (by decide +kernel) (by decide +kernel)
set_option maxRecDepth 20000 in
theorem gX8_fits_X8_apart : GoodIn wsX8_fits (va_wsS RX8 138 yX8_apart wsX8_apart) := goodIn_app (goodIn_of _ (by decide +kernel)) ggX8_fits_X8_apart
set_option maxRecDepth 20000 in
theorem ggX8_fits_X8_errorOf : GoodIn wsX8_fits wsX8_errorOf := goodIn_r _ [31, 32, 33, 9, 34, 35, 36, 37, 38, 39, 40, 41, 42, 43, 44, 45, 46, 47, 48, 49, 50, 51, 52, 53, 54, 55, 56, 57, 58, 59, 60, 61, 62, 63, 64, 65] (by decide +kernel) (by decide +kernel)
set_option maxRecDepth 20000 in
theorem gX8_fits_X8_errorOf : GoodIn wsX8_fits (wsV RX8 142 RX8 yX8_errorOf wsX8_errorOf) := goodIn_app (goodIn_of _ (by decide +kernel)) ggX8_fits_X8_errorOf
theorem dX8_fits_0 : decode cX8_fits 0 = .ok (.iconst 1, 1) := by decide +kernel
theorem dX8_fits_1 : decode cX8_fits 1 = .ok (.istore 4, 2) := by decide +kernel
theorem dX8_fits_3 : decode cX8_fits 3 = .ok (.iconst 0, 1) := by decide +kernel
theorem dX8_fits_4 : decode cX8_fits 4 = .ok (.istore 5, 2) := by decide +kernel
theorem dX8_fits_6 : decode cX8_fits 6 = .ok (.iload 5, 2) := by decide +kernel
theorem dX8_fits_8 : decode cX8_fits 8 = .ok (.aload_n 0, 1) := by decide +kernel
theorem dX8_fits_9 : decode cX8_fits 9 = .ok (.getfield 127, 3) := by decide +kernel
theorem dX8_fits_12 : decode cX8_fits 12 = .ok (.if_icmp .ge 70, 3) := by decide +kernel
theorem dX8_fits_15 : decode cX8_fits 15 = .ok (.iload 4, 2) := by decide +kernel
theorem dX8_fits_17 : decode cX8_fits 17 = .ok (.ifCond .eq 65, 3) := by decide +kernel
theorem dX8_fits_20 : decode cX8_fits 20 = .ok (.iload_n 1, 1) := by decide +kernel
theorem dX8_fits_21 : decode cX8_fits 21 = .ok (.iload_n 2, 1) := by decide +kernel
theorem dX8_fits_22 : decode cX8_fits 22 = .ok (.iload_n 3, 1) := by decide +kernel
theorem dX8_fits_23 : decode cX8_fits 23 = .ok (.aload_n 0, 1) := by decide +kernel
theorem dX8_fits_24 : decode cX8_fits 24 = .ok (.aload_n 0, 1) := by decide +kernel
theorem dX8_fits_25 : decode cX8_fits 25 = .ok (.getfield 49, 3) := by decide +kernel
theorem dX8_fits_28 : decode cX8_fits 28 = .ok (.iload 5, 2) := by decide +kernel
theorem dX8_fits_30 : decode cX8_fits 30 = .ok (.iaload, 1) := by decide +kernel
theorem dX8_fits_31 : decode cX8_fits 31 = .ok (.invokevirtual 117, 3) := by decide +kernel
theorem dX8_fits_34 : decode cX8_fits 34 = .ok (.invokestatic 134, 3) := by decide +kernel
theorem dX8_fits_37 : decode cX8_fits 37 = .ok (.iadd, 1) := by decide +kernel
theorem dX8_fits_38 : decode cX8_fits 38 = .ok (.invokestatic 111, 3) := by decide +kernel
theorem dX8_fits_41 : decode cX8_fits 41 = .ok (.aload_n 0, 1) := by decide +kernel
theorem dX8_fits_42 : decode cX8_fits 42 = .ok (.aload_n 0, 1) := by decide +kernel
theorem dX8_fits_43 : decode cX8_fits 43 = .ok (.getfield 49, 3) := by decide +kernel
theorem dX8_fits_46 : decode cX8_fits 46 = .ok (.iload 5, 2) := by decide +kernel
theorem dX8_fits_48 : decode cX8_fits 48 = .ok (.iaload, 1) := by decide +kernel
theorem dX8_fits_49 : decode cX8_fits 49 = .ok (.invokevirtual 120, 3) := by decide +kernel
theorem dX8_fits_52 : decode cX8_fits 52 = .ok (.invokestatic 138, 3) := by decide +kernel
theorem dX8_fits_55 : decode cX8_fits 55 = .ok (.aload_n 0, 1) := by decide +kernel
theorem dX8_fits_56 : decode cX8_fits 56 = .ok (.aload_n 0, 1) := by decide +kernel
theorem dX8_fits_57 : decode cX8_fits 57 = .ok (.getfield 49, 3) := by decide +kernel
theorem dX8_fits_60 : decode cX8_fits 60 = .ok (.iload 5, 2) := by decide +kernel
theorem dX8_fits_62 : decode cX8_fits 62 = .ok (.iaload, 1) := by decide +kernel
theorem dX8_fits_63 : decode cX8_fits 63 = .ok (.invokevirtual 142, 3) := by decide +kernel
theorem dX8_fits_66 : decode cX8_fits 66 = .ok (.if_icmp .gt 7, 3) := by decide +kernel
theorem dX8_fits_69 : decode cX8_fits 69 = .ok (.iconst 1, 1) := by decide +kernel
theorem dX8_fits_70 : decode cX8_fits 70 = .ok (.goto 4, 3) := by decide +kernel
theorem dX8_fits_73 : decode cX8_fits 73 = .ok (.iconst 0, 1) := by decide +kernel
theorem dX8_fits_74 : decode cX8_fits 74 = .ok (.istore 4, 2) := by decide +kernel
theorem dX8_fits_76 : decode cX8_fits 76 = .ok (.iinc 5 1, 3) := by decide +kernel
theorem dX8_fits_79 : decode cX8_fits 79 = .ok (.goto (-73), 3) := by decide +kernel
theorem dX8_fits_82 : decode cX8_fits 82 = .ok (.iload 4, 2) := by decide +kernel
theorem dX8_fits_84 : decode cX8_fits 84 = .ok (.ireturn, 1) := by decide +kernel
set_option maxRecDepth 20000 in
theorem ggX8_finds_X8_errorOf : GoodIn wsX8_finds wsX8_errorOf := goodIn_r _ [8, 9, 10, 11, 40, 41, 42, 43, 44, 45, 46, 47, 48, 49, 50, 51, 52, 53, 54, 55, 56, 57, 58, 59, 60, 61, 62, 63, 64, 65, 66, 67, 68, 69, 70, 71] (by decide +kernel) (by decide +kernel)
set_option maxRecDepth 20000 in
theorem gX8_finds_X8_errorOf : GoodIn wsX8_finds (wsV RX8 142 RX8 yX8_errorOf wsX8_errorOf) := goodIn_app (goodIn_of _ (by decide +kernel)) ggX8_finds_X8_errorOf
set_option maxRecDepth 20000 in
theorem ggX8_finds_X8_trueOf : GoodIn wsX8_finds wsX8_trueOf := goodIn_r _ [15, 16, 17, 18, 19, 7, 20, 40, 41, 42, 43, 44, 45, 46, 47, 48, 49, 50, 51, 52, 53, 54, 55, 56, 57, 58, 59, 60, 61, 62, 63, 64, 65, 66, 67, 68, 69, 70, 71] (by decide +kernel) (by decide +kernel)
set_option maxRecDepth 20000 in
theorem gX8_finds_X8_trueOf : GoodIn wsX8_finds (wsV RX8 120 RX8 yX8_trueOf wsX8_trueOf) := goodIn_app (goodIn_of _ (by decide +kernel)) ggX8_finds_X8_trueOf
set_option maxRecDepth 20000 in
theorem ggX8_finds_X8_nightOf : GoodIn wsX8_finds wsX8_nightOf := goodIn_r _ [24, 25, 11, 40, 41, 42, 43, 44, 45, 46, 47, 48, 49, 50, 51, 52, 53, 54, 55, 56, 57, 58, 59, 60, 61, 62, 63, 64, 65, 66, 67, 68, 69, 70, 71] (by decide +kernel) (by decide +kernel)
set_option maxRecDepth 20000 in
theorem gX8_finds_X8_nightOf : GoodIn wsX8_finds (wsV RX8 117 RX8 yX8_nightOf wsX8_nightOf) := goodIn_app (goodIn_of _ (by decide +kernel)) ggX8_finds_X8_nightOf
set_option maxRecDepth 20000 in
theorem ggX8_finds_X8_moves : GoodIn wsX8_finds wsX8_moves := goodIn_r _ [28] (by decide +kernel) (by decide +kernel)
set_option maxRecDepth 20000 in
theorem gX8_finds_X8_moves : GoodIn wsX8_finds (va_wsS RX8 134 yX8_moves wsX8_moves) := goodIn_app (goodIn_of _ (by decide +kernel)) ggX8_finds_X8_moves
set_option maxRecDepth 20000 in
theorem ggX8_finds_X8_round : GoodIn wsX8_finds wsX8_round := goodIn_r _ [20] (by decide +kernel) (by decide +kernel)
set_option maxRecDepth 20000 in
theorem gX8_finds_X8_round : GoodIn wsX8_finds (va_wsS RX8 111 yX8_round wsX8_round) := goodIn_app (goodIn_of _ (by decide +kernel)) ggX8_finds_X8_round
set_option maxRecDepth 20000 in
theorem ggX8_finds_X8_fits : GoodIn wsX8_finds wsX8_fits := goodIn_r _ [32, 33, 2, 21, 22, 23, 7, 24, 25, 11, 26, 27, 28, 18, 19, 20, 12, 13, 14, 15, 16, 17, 34, 35, 36, 37, 38, 39, 4, 5, 6, 8, 9, 10, 40, 41, 42, 43, 44, 45, 46, 47, 48, 49, 50, 51, 52, 53, 54, 55, 56, 57, 58, 59, 60, 61, 62, 63, 64, 65, 66, 67, 68, 69, 70, 71] (by decide +kernel) (by decide +kernel)
set_option maxRecDepth 20000 in
theorem gX8_finds_X8_fits : GoodIn wsX8_finds (wsV RX8 148 RX8 yX8_fits wsX8_fits) := goodIn_app (goodIn_of _ (by decide +kernel)) ggX8_finds_X8_fits
theorem dX8_finds_0 : decode cX8_finds 0 = .ok (.aload_n 0, 1) := by decide +kernel
theorem dX8_finds_1 : decode cX8_finds 1 = .ok (.iconst 0, 1) := by decide +kernel
theorem dX8_finds_2 : decode cX8_finds 2 = .ok (.putfield 145, 3) := by decide +kernel
theorem dX8_finds_5 : decode cX8_finds 5 = .ok (.aload_n 0, 1) := by decide +kernel
theorem dX8_finds_6 : decode cX8_finds 6 = .ok (.aload_n 0, 1) := by decide +kernel
theorem dX8_finds_7 : decode cX8_finds 7 = .ok (.getfield 49, 3) := by decide +kernel
theorem dX8_finds_10 : decode cX8_finds 10 = .ok (.iconst 0, 1) := by decide +kernel
theorem dX8_finds_11 : decode cX8_finds 11 = .ok (.iaload, 1) := by decide +kernel
theorem dX8_finds_12 : decode cX8_finds 12 = .ok (.invokevirtual 142, 3) := by decide +kernel
theorem dX8_finds_15 : decode cX8_finds 15 = .ok (.istore_n 1, 1) := by decide +kernel
theorem dX8_finds_16 : decode cX8_finds 16 = .ok (.iconst 0, 1) := by decide +kernel
theorem dX8_finds_17 : decode cX8_finds 17 = .ok (.istore_n 2, 1) := by decide +kernel
theorem dX8_finds_18 : decode cX8_finds 18 = .ok (.iload_n 2, 1) := by decide +kernel
theorem dX8_finds_19 : decode cX8_finds 19 = .ok (.sipush 405, 3) := by decide +kernel
theorem dX8_finds_22 : decode cX8_finds 22 = .ok (.if_icmp .ge 120, 3) := by decide +kernel
theorem dX8_finds_25 : decode cX8_finds 25 = .ok (.iload_n 2, 1) := by decide +kernel
theorem dX8_finds_26 : decode cX8_finds 26 = .ok (.iconst 5, 1) := by decide +kernel
theorem dX8_finds_27 : decode cX8_finds 27 = .ok (.idiv, 1) := by decide +kernel
theorem dX8_finds_28 : decode cX8_finds 28 = .ok (.bipush 40, 2) := by decide +kernel
theorem dX8_finds_30 : decode cX8_finds 30 = .ok (.isub, 1) := by decide +kernel
theorem dX8_finds_31 : decode cX8_finds 31 = .ok (.istore_n 3, 1) := by decide +kernel
theorem dX8_finds_32 : decode cX8_finds 32 = .ok (.iload_n 2, 1) := by decide +kernel
theorem dX8_finds_33 : decode cX8_finds 33 = .ok (.iconst 5, 1) := by decide +kernel
theorem dX8_finds_34 : decode cX8_finds 34 = .ok (.irem, 1) := by decide +kernel
theorem dX8_finds_35 : decode cX8_finds 35 = .ok (.iconst 2, 1) := by decide +kernel
theorem dX8_finds_36 : decode cX8_finds 36 = .ok (.isub, 1) := by decide +kernel
theorem dX8_finds_37 : decode cX8_finds 37 = .ok (.istore 4, 2) := by decide +kernel
theorem dX8_finds_39 : decode cX8_finds 39 = .ok (.aload_n 0, 1) := by decide +kernel
theorem dX8_finds_40 : decode cX8_finds 40 = .ok (.aload_n 0, 1) := by decide +kernel
theorem dX8_finds_41 : decode cX8_finds 41 = .ok (.getfield 49, 3) := by decide +kernel
theorem dX8_finds_44 : decode cX8_finds 44 = .ok (.iconst 0, 1) := by decide +kernel
theorem dX8_finds_45 : decode cX8_finds 45 = .ok (.iaload, 1) := by decide +kernel
theorem dX8_finds_46 : decode cX8_finds 46 = .ok (.invokevirtual 120, 3) := by decide +kernel
theorem dX8_finds_49 : decode cX8_finds 49 = .ok (.iload_n 3, 1) := by decide +kernel
theorem dX8_finds_50 : decode cX8_finds 50 = .ok (.iload 4, 2) := by decide +kernel
theorem dX8_finds_52 : decode cX8_finds 52 = .ok (.aload_n 0, 1) := by decide +kernel
theorem dX8_finds_53 : decode cX8_finds 53 = .ok (.aload_n 0, 1) := by decide +kernel
theorem dX8_finds_54 : decode cX8_finds 54 = .ok (.getfield 49, 3) := by decide +kernel
theorem dX8_finds_57 : decode cX8_finds 57 = .ok (.iconst 0, 1) := by decide +kernel
theorem dX8_finds_58 : decode cX8_finds 58 = .ok (.iaload, 1) := by decide +kernel
theorem dX8_finds_59 : decode cX8_finds 59 = .ok (.invokevirtual 117, 3) := by decide +kernel
theorem dX8_finds_62 : decode cX8_finds 62 = .ok (.invokestatic 134, 3) := by decide +kernel
theorem dX8_finds_65 : decode cX8_finds 65 = .ok (.isub, 1) := by decide +kernel
theorem dX8_finds_66 : decode cX8_finds 66 = .ok (.invokestatic 111, 3) := by decide +kernel
theorem dX8_finds_69 : decode cX8_finds 69 = .ok (.istore 5, 2) := by decide +kernel
theorem dX8_finds_71 : decode cX8_finds 71 = .ok (.iload_n 1, 1) := by decide +kernel
theorem dX8_finds_72 : decode cX8_finds 72 = .ok (.ineg, 1) := by decide +kernel
theorem dX8_finds_73 : decode cX8_finds 73 = .ok (.istore 6, 2) := by decide +kernel
theorem dX8_finds_75 : decode cX8_finds 75 = .ok (.iload 6, 2) := by decide +kernel
theorem dX8_finds_77 : decode cX8_finds 77 = .ok (.iload_n 1, 1) := by decide +kernel
theorem dX8_finds_78 : decode cX8_finds 78 = .ok (.if_icmp .gt 58, 3) := by decide +kernel
theorem dX8_finds_81 : decode cX8_finds 81 = .ok (.iload 5, 2) := by decide +kernel
theorem dX8_finds_83 : decode cX8_finds 83 = .ok (.iload 6, 2) := by decide +kernel
theorem dX8_finds_85 : decode cX8_finds 85 = .ok (.iadd, 1) := by decide +kernel
theorem dX8_finds_86 : decode cX8_finds 86 = .ok (.invokestatic 111, 3) := by decide +kernel
theorem dX8_finds_89 : decode cX8_finds 89 = .ok (.istore 7, 2) := by decide +kernel
theorem dX8_finds_91 : decode cX8_finds 91 = .ok (.aload_n 0, 1) := by decide +kernel
theorem dX8_finds_92 : decode cX8_finds 92 = .ok (.iload 7, 2) := by decide +kernel
theorem dX8_finds_94 : decode cX8_finds 94 = .ok (.iload_n 3, 1) := by decide +kernel
theorem dX8_finds_95 : decode cX8_finds 95 = .ok (.iload 4, 2) := by decide +kernel
theorem dX8_finds_97 : decode cX8_finds 97 = .ok (.invokevirtual 148, 3) := by decide +kernel
theorem dX8_finds_100 : decode cX8_finds 100 = .ok (.ifCond .eq 30, 3) := by decide +kernel
theorem dX8_finds_103 : decode cX8_finds 103 = .ok (.aload_n 0, 1) := by decide +kernel
theorem dX8_finds_104 : decode cX8_finds 104 = .ok (.getfield 52, 3) := by decide +kernel
theorem dX8_finds_107 : decode cX8_finds 107 = .ok (.aload_n 0, 1) := by decide +kernel
theorem dX8_finds_108 : decode cX8_finds 108 = .ok (.getfield 145, 3) := by decide +kernel
theorem dX8_finds_111 : decode cX8_finds 111 = .ok (.sipush 405, 3) := by decide +kernel
theorem dX8_finds_114 : decode cX8_finds 114 = .ok (.iload 7, 2) := by decide +kernel
theorem dX8_finds_116 : decode cX8_finds 116 = .ok (.imul, 1) := by decide +kernel
theorem dX8_finds_117 : decode cX8_finds 117 = .ok (.iload_n 2, 1) := by decide +kernel
theorem dX8_finds_118 : decode cX8_finds 118 = .ok (.iadd, 1) := by decide +kernel
theorem dX8_finds_119 : decode cX8_finds 119 = .ok (.iastore, 1) := by decide +kernel
theorem dX8_finds_120 : decode cX8_finds 120 = .ok (.aload_n 0, 1) := by decide +kernel
theorem dX8_finds_121 : decode cX8_finds 121 = .ok (.dup, 1) := by decide +kernel
theorem dX8_finds_122 : decode cX8_finds 122 = .ok (.getfield 145, 3) := by decide +kernel
theorem dX8_finds_125 : decode cX8_finds 125 = .ok (.iconst 1, 1) := by decide +kernel
theorem dX8_finds_126 : decode cX8_finds 126 = .ok (.iadd, 1) := by decide +kernel
theorem dX8_finds_127 : decode cX8_finds 127 = .ok (.putfield 145, 3) := by decide +kernel
theorem dX8_finds_130 : decode cX8_finds 130 = .ok (.iinc 6 1, 3) := by decide +kernel
theorem dX8_finds_133 : decode cX8_finds 133 = .ok (.goto (-58), 3) := by decide +kernel
theorem dX8_finds_136 : decode cX8_finds 136 = .ok (.iinc 2 1, 3) := by decide +kernel
theorem dX8_finds_139 : decode cX8_finds 139 = .ok (.goto (-121), 3) := by decide +kernel
theorem dX8_finds_142 : decode cX8_finds 142 = .ok (.return_, 1) := by decide +kernel
set_option maxRecDepth 20000 in
theorem ggX8_hasOrbit_X8_finds : GoodIn wsX8_hasOrbit wsX8_finds := goodIn_r _ [6, 1, 7, 8, 9, 10, 11, 5, 12, 13, 14, 15, 16, 17, 18, 19, 20, 21, 22, 23, 24, 25, 26, 27, 28, 29, 30, 31, 32, 33, 34, 35, 36, 37, 38, 39, 40, 41, 42, 43, 44, 45, 46, 47, 48, 49, 50, 51, 52, 53, 54, 55, 56, 57, 58, 59, 60, 61, 62, 63, 64, 65, 66, 67, 68, 69, 70, 71, 72, 73, 74, 75] (by decide +kernel) (by decide +kernel)
set_option maxRecDepth 20000 in
theorem gX8_hasOrbit_X8_finds : GoodIn wsX8_hasOrbit (wsV RX8 151 RX8 yX8_finds wsX8_finds) := goodIn_app (goodIn_of _ (by decide +kernel)) ggX8_hasOrbit_X8_finds
theorem dX8_hasOrbit_0 : decode cX8_hasOrbit 0 = .ok (.aload_n 0, 1) := by decide +kernel
theorem dX8_hasOrbit_1 : decode cX8_hasOrbit 1 = .ok (.invokevirtual 151, 3) := by decide +kernel
theorem dX8_hasOrbit_4 : decode cX8_hasOrbit 4 = .ok (.aload_n 0, 1) := by decide +kernel
theorem dX8_hasOrbit_5 : decode cX8_hasOrbit 5 = .ok (.getfield 145, 3) := by decide +kernel
theorem dX8_hasOrbit_8 : decode cX8_hasOrbit 8 = .ok (.ifCond .le 7, 3) := by decide +kernel
theorem dX8_hasOrbit_11 : decode cX8_hasOrbit 11 = .ok (.iconst 1, 1) := by decide +kernel
theorem dX8_hasOrbit_12 : decode cX8_hasOrbit 12 = .ok (.goto 4, 3) := by decide +kernel
theorem dX8_hasOrbit_15 : decode cX8_hasOrbit 15 = .ok (.iconst 0, 1) := by decide +kernel
theorem dX8_hasOrbit_16 : decode cX8_hasOrbit 16 = .ok (.ireturn, 1) := by decide +kernel
set_option maxRecDepth 20000 in
theorem ggX8_firstOf_X8_lays : GoodIn wsX8_firstOf wsX8_lays := goodIn_r _ [7, 2, 8, 9, 10, 6, 11, 12, 13, 1, 14, 15, 16, 17, 18, 25, 26, 27, 28, 29, 30, 31, 32, 33, 34, 35, 36, 37, 38, 39, 40, 41, 42, 43, 44, 45, 46, 47, 48, 49, 50, 51, 52, 53, 54, 55, 56] (by decide +kernel) (by decide +kernel)
set_option maxRecDepth 20000 in
theorem gX8_firstOf_X8_lays : GoodIn wsX8_firstOf (wsV RX8 154 RX8 yX8_lays wsX8_lays) := goodIn_app (goodIn_of _ (by decide +kernel)) ggX8_firstOf_X8_lays
set_option maxRecDepth 20000 in
theorem ggX8_firstOf_X8_nightOf : GoodIn wsX8_firstOf wsX8_nightOf := goodIn_r _ [22, 23, 24, 25, 26, 27, 28, 29, 30, 31, 32, 33, 34, 35, 36, 37, 38, 39, 40, 41, 42, 43, 44, 45, 46, 47, 48, 49, 50, 51, 52, 53, 54, 55, 56] (by decide +kernel) (by decide +kernel)
set_option maxRecDepth 20000 in
theorem gX8_firstOf_X8_nightOf : GoodIn wsX8_firstOf (wsV RX8 117 RX8 yX8_nightOf wsX8_nightOf) := goodIn_app (goodIn_of _ (by decide +kernel)) ggX8_firstOf_X8_nightOf
theorem dX8_firstOf_0 : decode cX8_firstOf 0 = .ok (.aload_n 0, 1) := by decide +kernel
theorem dX8_firstOf_1 : decode cX8_firstOf 1 = .ok (.iload_n 1, 1) := by decide +kernel
theorem dX8_firstOf_2 : decode cX8_firstOf 2 = .ok (.invokevirtual 154, 3) := by decide +kernel
theorem dX8_firstOf_5 : decode cX8_firstOf 5 = .ok (.aload_n 0, 1) := by decide +kernel
theorem dX8_firstOf_6 : decode cX8_firstOf 6 = .ok (.getfield 49, 3) := by decide +kernel
theorem dX8_firstOf_9 : decode cX8_firstOf 9 = .ok (.iconst 0, 1) := by decide +kernel
theorem dX8_firstOf_10 : decode cX8_firstOf 10 = .ok (.iaload, 1) := by decide +kernel
theorem dX8_firstOf_11 : decode cX8_firstOf 11 = .ok (.istore_n 2, 1) := by decide +kernel
theorem dX8_firstOf_12 : decode cX8_firstOf 12 = .ok (.iconst 1, 1) := by decide +kernel
theorem dX8_firstOf_13 : decode cX8_firstOf 13 = .ok (.istore_n 3, 1) := by decide +kernel
theorem dX8_firstOf_14 : decode cX8_firstOf 14 = .ok (.iload_n 3, 1) := by decide +kernel
theorem dX8_firstOf_15 : decode cX8_firstOf 15 = .ok (.aload_n 0, 1) := by decide +kernel
theorem dX8_firstOf_16 : decode cX8_firstOf 16 = .ok (.getfield 127, 3) := by decide +kernel
theorem dX8_firstOf_19 : decode cX8_firstOf 19 = .ok (.if_icmp .ge 38, 3) := by decide +kernel
theorem dX8_firstOf_22 : decode cX8_firstOf 22 = .ok (.aload_n 0, 1) := by decide +kernel
theorem dX8_firstOf_23 : decode cX8_firstOf 23 = .ok (.aload_n 0, 1) := by decide +kernel
theorem dX8_firstOf_24 : decode cX8_firstOf 24 = .ok (.getfield 49, 3) := by decide +kernel
theorem dX8_firstOf_27 : decode cX8_firstOf 27 = .ok (.iload_n 3, 1) := by decide +kernel
theorem dX8_firstOf_28 : decode cX8_firstOf 28 = .ok (.iaload, 1) := by decide +kernel
theorem dX8_firstOf_29 : decode cX8_firstOf 29 = .ok (.invokevirtual 117, 3) := by decide +kernel
theorem dX8_firstOf_32 : decode cX8_firstOf 32 = .ok (.aload_n 0, 1) := by decide +kernel
theorem dX8_firstOf_33 : decode cX8_firstOf 33 = .ok (.iload_n 2, 1) := by decide +kernel
theorem dX8_firstOf_34 : decode cX8_firstOf 34 = .ok (.invokevirtual 117, 3) := by decide +kernel
theorem dX8_firstOf_37 : decode cX8_firstOf 37 = .ok (.if_icmp .ge 12, 3) := by decide +kernel
theorem dX8_firstOf_40 : decode cX8_firstOf 40 = .ok (.aload_n 0, 1) := by decide +kernel
theorem dX8_firstOf_41 : decode cX8_firstOf 41 = .ok (.getfield 49, 3) := by decide +kernel
theorem dX8_firstOf_44 : decode cX8_firstOf 44 = .ok (.iload_n 3, 1) := by decide +kernel
theorem dX8_firstOf_45 : decode cX8_firstOf 45 = .ok (.iaload, 1) := by decide +kernel
theorem dX8_firstOf_46 : decode cX8_firstOf 46 = .ok (.goto 4, 3) := by decide +kernel
theorem dX8_firstOf_49 : decode cX8_firstOf 49 = .ok (.iload_n 2, 1) := by decide +kernel
theorem dX8_firstOf_50 : decode cX8_firstOf 50 = .ok (.istore_n 2, 1) := by decide +kernel
theorem dX8_firstOf_51 : decode cX8_firstOf 51 = .ok (.iinc 3 1, 3) := by decide +kernel
theorem dX8_firstOf_54 : decode cX8_firstOf 54 = .ok (.goto (-40), 3) := by decide +kernel
theorem dX8_firstOf_57 : decode cX8_firstOf 57 = .ok (.iload_n 2, 1) := by decide +kernel
theorem dX8_firstOf_58 : decode cX8_firstOf 58 = .ok (.ireturn, 1) := by decide +kernel
set_option maxRecDepth 20000 in
theorem ggX8_body_X8_isDot : GoodIn wsX8_body wsX8_isDot := goodIn_r _ [8, 9, 10, 11, 7, 12, 18, 19, 20, 21, 22, 23, 24, 25, 26, 27, 28, 29, 30, 31, 32, 33, 34, 35, 36, 37, 38, 39, 40, 41, 42, 43, 44, 45, 46, 47, 48, 49] (by decide +kernel) (by decide +kernel)
set_option maxRecDepth 20000 in
theorem gX8_body_X8_isDot : GoodIn wsX8_body (wsV RX8 114 RX8 yX8_isDot wsX8_isDot) := goodIn_app (goodIn_of _ (by decide +kernel)) ggX8_body_X8_isDot
set_option maxRecDepth 20000 in
theorem ggX8_body_X8_can : GoodIn wsX8_body wsX8_can := goodIn_r _ [16, 17, 18, 19, 20, 21, 22, 23, 24, 25, 26, 27, 28, 29, 30, 31, 32, 33, 34, 35, 36, 37, 38, 39, 40, 41, 42, 43, 44, 45, 46, 47, 48, 49] (by decide +kernel) (by decide +kernel)
set_option maxRecDepth 20000 in
theorem gX8_body_X8_can : GoodIn wsX8_body (wsV RX8 101 RX8 yX8_can wsX8_can) := goodIn_app (goodIn_of _ (by decide +kernel)) ggX8_body_X8_can
theorem dX8_body_0 : decode cX8_body 0 = .ok (.aload_n 0, 1) := by decide +kernel
theorem dX8_body_1 : decode cX8_body 1 = .ok (.iload_n 1, 1) := by decide +kernel
theorem dX8_body_2 : decode cX8_body 2 = .ok (.invokevirtual 114, 3) := by decide +kernel
theorem dX8_body_5 : decode cX8_body 5 = .ok (.istore_n 2, 1) := by decide +kernel
theorem dX8_body_6 : decode cX8_body 6 = .ok (.aload_n 0, 1) := by decide +kernel
theorem dX8_body_7 : decode cX8_body 7 = .ok (.iload_n 2, 1) := by decide +kernel
theorem dX8_body_8 : decode cX8_body 8 = .ok (.ifCond .ne 7, 3) := by decide +kernel
theorem dX8_body_11 : decode cX8_body 11 = .ok (.iconst 1, 1) := by decide +kernel
theorem dX8_body_12 : decode cX8_body 12 = .ok (.goto 27, 3) := by decide +kernel
theorem dX8_body_15 : decode cX8_body 15 = .ok (.aload_n 0, 1) := by decide +kernel
theorem dX8_body_16 : decode cX8_body 16 = .ok (.getfield 31, 3) := by decide +kernel
theorem dX8_body_19 : decode cX8_body 19 = .ok (.iload_n 1, 1) := by decide +kernel
theorem dX8_body_20 : decode cX8_body 20 = .ok (.iaload, 1) := by decide +kernel
theorem dX8_body_21 : decode cX8_body 21 = .ok (.iconst (-1), 1) := by decide +kernel
theorem dX8_body_22 : decode cX8_body 22 = .ok (.if_icmp .ne 12, 3) := by decide +kernel
theorem dX8_body_25 : decode cX8_body 25 = .ok (.aload_n 0, 1) := by decide +kernel
theorem dX8_body_26 : decode cX8_body 26 = .ok (.getfield 95, 3) := by decide +kernel
theorem dX8_body_29 : decode cX8_body 29 = .ok (.bipush 20, 2) := by decide +kernel
theorem dX8_body_31 : decode cX8_body 31 = .ok (.if_icmp .ne 7, 3) := by decide +kernel
theorem dX8_body_34 : decode cX8_body 34 = .ok (.iconst 2, 1) := by decide +kernel
theorem dX8_body_35 : decode cX8_body 35 = .ok (.goto 4, 3) := by decide +kernel
theorem dX8_body_38 : decode cX8_body 38 = .ok (.iconst 0, 1) := by decide +kernel
theorem dX8_body_39 : decode cX8_body 39 = .ok (.invokevirtual 101, 3) := by decide +kernel
theorem dX8_body_42 : decode cX8_body 42 = .ok (.ifCond .ne 5, 3) := by decide +kernel
theorem dX8_body_45 : decode cX8_body 45 = .ok (.iconst 0, 1) := by decide +kernel
theorem dX8_body_46 : decode cX8_body 46 = .ok (.ireturn, 1) := by decide +kernel
theorem dX8_body_47 : decode cX8_body 47 = .ok (.aload_n 0, 1) := by decide +kernel
theorem dX8_body_48 : decode cX8_body 48 = .ok (.getfield 31, 3) := by decide +kernel
theorem dX8_body_51 : decode cX8_body 51 = .ok (.iload_n 1, 1) := by decide +kernel
theorem dX8_body_52 : decode cX8_body 52 = .ok (.aload_n 0, 1) := by decide +kernel
theorem dX8_body_53 : decode cX8_body 53 = .ok (.getfield 95, 3) := by decide +kernel
theorem dX8_body_56 : decode cX8_body 56 = .ok (.iastore, 1) := by decide +kernel
theorem dX8_body_57 : decode cX8_body 57 = .ok (.aload_n 0, 1) := by decide +kernel
theorem dX8_body_58 : decode cX8_body 58 = .ok (.getfield 34, 3) := by decide +kernel
theorem dX8_body_61 : decode cX8_body 61 = .ok (.aload_n 0, 1) := by decide +kernel
theorem dX8_body_62 : decode cX8_body 62 = .ok (.getfield 95, 3) := by decide +kernel
theorem dX8_body_65 : decode cX8_body 65 = .ok (.iconst (-1), 1) := by decide +kernel
theorem dX8_body_66 : decode cX8_body 66 = .ok (.iastore, 1) := by decide +kernel
theorem dX8_body_67 : decode cX8_body 67 = .ok (.aload_n 0, 1) := by decide +kernel
theorem dX8_body_68 : decode cX8_body 68 = .ok (.dup, 1) := by decide +kernel
theorem dX8_body_69 : decode cX8_body 69 = .ok (.getfield 95, 3) := by decide +kernel
theorem dX8_body_72 : decode cX8_body 72 = .ok (.iconst 1, 1) := by decide +kernel
theorem dX8_body_73 : decode cX8_body 73 = .ok (.iadd, 1) := by decide +kernel
theorem dX8_body_74 : decode cX8_body 74 = .ok (.putfield 95, 3) := by decide +kernel
theorem dX8_body_77 : decode cX8_body 77 = .ok (.aload_n 0, 1) := by decide +kernel
theorem dX8_body_78 : decode cX8_body 78 = .ok (.getfield 95, 3) := by decide +kernel
theorem dX8_body_81 : decode cX8_body 81 = .ok (.iconst 1, 1) := by decide +kernel
theorem dX8_body_82 : decode cX8_body 82 = .ok (.isub, 1) := by decide +kernel
theorem dX8_body_83 : decode cX8_body 83 = .ok (.ireturn, 1) := by decide +kernel
theorem dX8_isOnPlate_0 : decode cX8_isOnPlate 0 = .ok (.iconst 0, 1) := by decide +kernel
theorem dX8_isOnPlate_1 : decode cX8_isOnPlate 1 = .ok (.istore_n 3, 1) := by decide +kernel
theorem dX8_isOnPlate_2 : decode cX8_isOnPlate 2 = .ok (.iconst 0, 1) := by decide +kernel
theorem dX8_isOnPlate_3 : decode cX8_isOnPlate 3 = .ok (.istore 4, 2) := by decide +kernel
theorem dX8_isOnPlate_5 : decode cX8_isOnPlate 5 = .ok (.iload 4, 2) := by decide +kernel
theorem dX8_isOnPlate_7 : decode cX8_isOnPlate 7 = .ok (.iload_n 2, 1) := by decide +kernel
theorem dX8_isOnPlate_8 : decode cX8_isOnPlate 8 = .ok (.if_icmp .ge 35, 3) := by decide +kernel
theorem dX8_isOnPlate_11 : decode cX8_isOnPlate 11 = .ok (.iload_n 3, 1) := by decide +kernel
theorem dX8_isOnPlate_12 : decode cX8_isOnPlate 12 = .ok (.ifCond .ne 19, 3) := by decide +kernel
theorem dX8_isOnPlate_15 : decode cX8_isOnPlate 15 = .ok (.aload_n 0, 1) := by decide +kernel
theorem dX8_isOnPlate_16 : decode cX8_isOnPlate 16 = .ok (.getfield 22, 3) := by decide +kernel
theorem dX8_isOnPlate_19 : decode cX8_isOnPlate 19 = .ok (.aload_n 0, 1) := by decide +kernel
theorem dX8_isOnPlate_20 : decode cX8_isOnPlate 20 = .ok (.getfield 49, 3) := by decide +kernel
theorem dX8_isOnPlate_23 : decode cX8_isOnPlate 23 = .ok (.iload 4, 2) := by decide +kernel
theorem dX8_isOnPlate_25 : decode cX8_isOnPlate 25 = .ok (.iaload, 1) := by decide +kernel
theorem dX8_isOnPlate_26 : decode cX8_isOnPlate 26 = .ok (.iaload, 1) := by decide +kernel
theorem dX8_isOnPlate_27 : decode cX8_isOnPlate 27 = .ok (.iload_n 1, 1) := by decide +kernel
theorem dX8_isOnPlate_28 : decode cX8_isOnPlate 28 = .ok (.if_icmp .ne 7, 3) := by decide +kernel
theorem dX8_isOnPlate_31 : decode cX8_isOnPlate 31 = .ok (.iconst 1, 1) := by decide +kernel
theorem dX8_isOnPlate_32 : decode cX8_isOnPlate 32 = .ok (.goto 4, 3) := by decide +kernel
theorem dX8_isOnPlate_35 : decode cX8_isOnPlate 35 = .ok (.iconst 0, 1) := by decide +kernel
theorem dX8_isOnPlate_36 : decode cX8_isOnPlate 36 = .ok (.istore_n 3, 1) := by decide +kernel
theorem dX8_isOnPlate_37 : decode cX8_isOnPlate 37 = .ok (.iinc 4 1, 3) := by decide +kernel
theorem dX8_isOnPlate_40 : decode cX8_isOnPlate 40 = .ok (.goto (-35), 3) := by decide +kernel
theorem dX8_isOnPlate_43 : decode cX8_isOnPlate 43 = .ok (.iload_n 3, 1) := by decide +kernel
theorem dX8_isOnPlate_44 : decode cX8_isOnPlate 44 = .ok (.ireturn, 1) := by decide +kernel
set_option maxRecDepth 20000 in
theorem ggX8_canLink_X8_lays : GoodIn wsX8_canLink wsX8_lays := goodIn_r _ [10, 4, 11, 12, 13, 9, 14, 15, 1, 5, 16, 17, 18, 19, 2, 67, 68, 69, 70, 71, 72, 73, 74, 75, 76, 77, 78, 79, 80, 81, 82, 83, 84, 85, 86, 87, 88, 89, 90, 91, 92, 93, 94, 95, 96, 97, 98] (by decide +kernel) (by decide +kernel)
set_option maxRecDepth 20000 in
theorem gX8_canLink_X8_lays : GoodIn wsX8_canLink (wsV RX8 154 RX8 yX8_lays wsX8_lays) := goodIn_app (goodIn_of _ (by decide +kernel)) ggX8_canLink_X8_lays
set_option maxRecDepth 20000 in
theorem ggX8_canLink_X8_isOnPlate : GoodIn wsX8_canLink wsX8_isOnPlate := goodIn_r _ [23, 3, 5, 67, 68, 69, 70, 71, 72, 73, 74, 75, 76, 77, 78, 79, 80, 81, 82, 83, 84, 85, 86, 87, 88, 89, 90, 91, 92, 93, 94, 95, 96, 97, 98] (by decide +kernel) (by decide +kernel)
set_option maxRecDepth 20000 in
theorem gX8_canLink_X8_isOnPlate : GoodIn wsX8_canLink (wsV RX8 157 RX8 yX8_isOnPlate wsX8_isOnPlate) := goodIn_app (goodIn_of _ (by decide +kernel)) ggX8_canLink_X8_isOnPlate
set_option maxRecDepth 20000 in
theorem ggX8_canLink_X8_hasOrbit : GoodIn wsX8_canLink wsX8_hasOrbit := goodIn_r _ [27, 28, 29, 30, 31, 9, 32, 5, 33, 34, 35, 36, 37, 38, 39, 3, 40, 41, 42, 43, 44, 45, 46, 47, 48, 49, 50, 51, 52, 53, 54, 55, 56, 57, 58, 59, 60, 4, 61, 62, 63, 64, 65, 66, 67, 68, 69, 70, 71, 72, 73, 74, 75, 76, 77, 78, 79, 80, 81, 82, 83, 84, 85, 86, 87, 88, 89, 90, 91, 92, 93, 94, 95, 96, 97, 98] (by decide +kernel) (by decide +kernel)
set_option maxRecDepth 20000 in
theorem gX8_canLink_X8_hasOrbit : GoodIn wsX8_canLink (wsV RX8 160 RX8 yX8_hasOrbit wsX8_hasOrbit) := goodIn_app (goodIn_of _ (by decide +kernel)) ggX8_canLink_X8_hasOrbit
theorem dX8_canLink_0 : decode cX8_canLink 0 = .ok (.aload_n 0, 1) := by decide +kernel
theorem dX8_canLink_1 : decode cX8_canLink 1 = .ok (.getfield 31, 3) := by decide +kernel
theorem dX8_canLink_4 : decode cX8_canLink 4 = .ok (.iload_n 2, 1) := by decide +kernel
theorem dX8_canLink_5 : decode cX8_canLink 5 = .ok (.iaload, 1) := by decide +kernel
theorem dX8_canLink_6 : decode cX8_canLink 6 = .ok (.iconst (-1), 1) := by decide +kernel
theorem dX8_canLink_7 : decode cX8_canLink 7 = .ok (.if_icmp .ne 13, 3) := by decide +kernel
theorem dX8_canLink_10 : decode cX8_canLink 10 = .ok (.aload_n 0, 1) := by decide +kernel
theorem dX8_canLink_11 : decode cX8_canLink 11 = .ok (.getfield 34, 3) := by decide +kernel
theorem dX8_canLink_14 : decode cX8_canLink 14 = .ok (.iload_n 1, 1) := by decide +kernel
theorem dX8_canLink_15 : decode cX8_canLink 15 = .ok (.iaload, 1) := by decide +kernel
theorem dX8_canLink_16 : decode cX8_canLink 16 = .ok (.iconst (-1), 1) := by decide +kernel
theorem dX8_canLink_17 : decode cX8_canLink 17 = .ok (.if_icmp .eq 5, 3) := by decide +kernel
theorem dX8_canLink_20 : decode cX8_canLink 20 = .ok (.iconst 0, 1) := by decide +kernel
theorem dX8_canLink_21 : decode cX8_canLink 21 = .ok (.ireturn, 1) := by decide +kernel
theorem dX8_canLink_22 : decode cX8_canLink 22 = .ok (.aload_n 0, 1) := by decide +kernel
theorem dX8_canLink_23 : decode cX8_canLink 23 = .ok (.iload_n 1, 1) := by decide +kernel
theorem dX8_canLink_24 : decode cX8_canLink 24 = .ok (.invokevirtual 154, 3) := by decide +kernel
theorem dX8_canLink_27 : decode cX8_canLink 27 = .ok (.aload_n 0, 1) := by decide +kernel
theorem dX8_canLink_28 : decode cX8_canLink 28 = .ok (.aload_n 0, 1) := by decide +kernel
theorem dX8_canLink_29 : decode cX8_canLink 29 = .ok (.getfield 22, 3) := by decide +kernel
theorem dX8_canLink_32 : decode cX8_canLink 32 = .ok (.iload_n 2, 1) := by decide +kernel
theorem dX8_canLink_33 : decode cX8_canLink 33 = .ok (.iaload, 1) := by decide +kernel
theorem dX8_canLink_34 : decode cX8_canLink 34 = .ok (.aload_n 0, 1) := by decide +kernel
theorem dX8_canLink_35 : decode cX8_canLink 35 = .ok (.getfield 127, 3) := by decide +kernel
theorem dX8_canLink_38 : decode cX8_canLink 38 = .ok (.invokevirtual 157, 3) := by decide +kernel
theorem dX8_canLink_41 : decode cX8_canLink 41 = .ok (.ifCond .eq 5, 3) := by decide +kernel
theorem dX8_canLink_44 : decode cX8_canLink 44 = .ok (.iconst 0, 1) := by decide +kernel
theorem dX8_canLink_45 : decode cX8_canLink 45 = .ok (.ireturn, 1) := by decide +kernel
theorem dX8_canLink_46 : decode cX8_canLink 46 = .ok (.aload_n 0, 1) := by decide +kernel
theorem dX8_canLink_47 : decode cX8_canLink 47 = .ok (.getfield 49, 3) := by decide +kernel
theorem dX8_canLink_50 : decode cX8_canLink 50 = .ok (.aload_n 0, 1) := by decide +kernel
theorem dX8_canLink_51 : decode cX8_canLink 51 = .ok (.getfield 127, 3) := by decide +kernel
theorem dX8_canLink_54 : decode cX8_canLink 54 = .ok (.iload_n 2, 1) := by decide +kernel
theorem dX8_canLink_55 : decode cX8_canLink 55 = .ok (.iastore, 1) := by decide +kernel
theorem dX8_canLink_56 : decode cX8_canLink 56 = .ok (.aload_n 0, 1) := by decide +kernel
theorem dX8_canLink_57 : decode cX8_canLink 57 = .ok (.dup, 1) := by decide +kernel
theorem dX8_canLink_58 : decode cX8_canLink 58 = .ok (.getfield 127, 3) := by decide +kernel
theorem dX8_canLink_61 : decode cX8_canLink 61 = .ok (.iconst 1, 1) := by decide +kernel
theorem dX8_canLink_62 : decode cX8_canLink 62 = .ok (.iadd, 1) := by decide +kernel
theorem dX8_canLink_63 : decode cX8_canLink 63 = .ok (.putfield 127, 3) := by decide +kernel
theorem dX8_canLink_66 : decode cX8_canLink 66 = .ok (.aload_n 0, 1) := by decide +kernel
theorem dX8_canLink_67 : decode cX8_canLink 67 = .ok (.invokevirtual 160, 3) := by decide +kernel
theorem dX8_canLink_70 : decode cX8_canLink 70 = .ok (.ireturn, 1) := by decide +kernel
set_option maxRecDepth 20000 in
theorem ggX8_link_X8_isBody : GoodIn wsX8_link wsX8_isBody := goodIn_r _ [7, 8, 9, 10, 6, 11, 88, 89, 90, 91, 92, 93, 94, 95, 96, 97, 98, 99, 100, 101, 102, 103, 104, 105, 106, 107, 108, 109, 110, 111, 112, 113, 114, 115, 116, 117, 118, 119] (by decide +kernel) (by decide +kernel)
set_option maxRecDepth 20000 in
theorem gX8_link_X8_isBody : GoodIn wsX8_link (wsV RX8 164 RX8 yX8_isBody wsX8_isBody) := goodIn_app (goodIn_of _ (by decide +kernel)) ggX8_link_X8_isBody
set_option maxRecDepth 20000 in
theorem ggX8_link_X8_isDot : GoodIn wsX8_link wsX8_isDot := goodIn_r _ [15, 16, 9, 10, 6, 11, 88, 89, 90, 91, 92, 93, 94, 95, 96, 97, 98, 99, 100, 101, 102, 103, 104, 105, 106, 107, 108, 109, 110, 111, 112, 113, 114, 115, 116, 117, 118, 119] (by decide +kernel) (by decide +kernel)
set_option maxRecDepth 20000 in
theorem gX8_link_X8_isDot : GoodIn wsX8_link (wsV RX8 114 RX8 yX8_isDot wsX8_isDot) := goodIn_app (goodIn_of _ (by decide +kernel)) ggX8_link_X8_isDot
set_option maxRecDepth 20000 in
theorem ggX8_link_X8_canLink : GoodIn wsX8_link wsX8_canLink := goodIn_r _ [20, 1, 21, 22, 2, 23, 24, 25, 26, 6, 27, 28, 29, 30, 31, 16, 32, 33, 34, 35, 36, 37, 38, 39, 40, 41, 42, 43, 44, 45, 46, 47, 48, 49, 50, 51, 52, 53, 54, 55, 56, 57, 58, 59, 60, 61, 62, 63, 64, 65, 66, 67, 68, 69, 70, 71, 72, 73, 74, 75, 76, 77, 78, 79, 80, 81, 82, 88, 89, 90, 91, 92, 93, 94, 95, 96, 97, 98, 99, 100, 101, 102, 103, 104, 105, 106, 107, 108, 109, 110, 111, 112, 113, 114, 115, 116, 117, 118, 119] (by decide +kernel) (by decide +kernel)
set_option maxRecDepth 20000 in
theorem gX8_link_X8_canLink : GoodIn wsX8_link (wsV RX8 167 RX8 yX8_canLink wsX8_canLink) := goodIn_app (goodIn_of _ (by decide +kernel)) ggX8_link_X8_canLink
set_option maxRecDepth 20000 in
theorem ggX8_link_X8_can : GoodIn wsX8_link wsX8_can := goodIn_r _ [86, 87, 88, 89, 90, 91, 92, 93, 94, 95, 96, 97, 98, 99, 100, 101, 102, 103, 104, 105, 106, 107, 108, 109, 110, 111, 112, 113, 114, 115, 116, 117, 118, 119] (by decide +kernel) (by decide +kernel)
set_option maxRecDepth 20000 in
theorem gX8_link_X8_can : GoodIn wsX8_link (wsV RX8 101 RX8 yX8_can wsX8_can) := goodIn_app (goodIn_of _ (by decide +kernel)) ggX8_link_X8_can
theorem dX8_link_0 : decode cX8_link 0 = .ok (.aload_n 0, 1) := by decide +kernel
theorem dX8_link_1 : decode cX8_link 1 = .ok (.iload_n 1, 1) := by decide +kernel
theorem dX8_link_2 : decode cX8_link 2 = .ok (.invokevirtual 164, 3) := by decide +kernel
theorem dX8_link_5 : decode cX8_link 5 = .ok (.ifCond .eq 15, 3) := by decide +kernel
theorem dX8_link_8 : decode cX8_link 8 = .ok (.aload_n 0, 1) := by decide +kernel
theorem dX8_link_9 : decode cX8_link 9 = .ok (.iload_n 2, 1) := by decide +kernel
theorem dX8_link_10 : decode cX8_link 10 = .ok (.invokevirtual 114, 3) := by decide +kernel
theorem dX8_link_13 : decode cX8_link 13 = .ok (.ifCond .eq 7, 3) := by decide +kernel
theorem dX8_link_16 : decode cX8_link 16 = .ok (.iconst 1, 1) := by decide +kernel
theorem dX8_link_17 : decode cX8_link 17 = .ok (.goto 4, 3) := by decide +kernel
theorem dX8_link_20 : decode cX8_link 20 = .ok (.iconst 0, 1) := by decide +kernel
theorem dX8_link_21 : decode cX8_link 21 = .ok (.istore_n 3, 1) := by decide +kernel
theorem dX8_link_22 : decode cX8_link 22 = .ok (.aload_n 0, 1) := by decide +kernel
theorem dX8_link_23 : decode cX8_link 23 = .ok (.iload_n 3, 1) := by decide +kernel
theorem dX8_link_24 : decode cX8_link 24 = .ok (.ifCond .ne 7, 3) := by decide +kernel
theorem dX8_link_27 : decode cX8_link 27 = .ok (.iconst 1, 1) := by decide +kernel
theorem dX8_link_28 : decode cX8_link 28 = .ok (.goto 17, 3) := by decide +kernel
theorem dX8_link_31 : decode cX8_link 31 = .ok (.aload_n 0, 1) := by decide +kernel
theorem dX8_link_32 : decode cX8_link 32 = .ok (.iload_n 1, 1) := by decide +kernel
theorem dX8_link_33 : decode cX8_link 33 = .ok (.iload_n 2, 1) := by decide +kernel
theorem dX8_link_34 : decode cX8_link 34 = .ok (.invokevirtual 167, 3) := by decide +kernel
theorem dX8_link_37 : decode cX8_link 37 = .ok (.ifCond .eq 7, 3) := by decide +kernel
theorem dX8_link_40 : decode cX8_link 40 = .ok (.iconst 0, 1) := by decide +kernel
theorem dX8_link_41 : decode cX8_link 41 = .ok (.goto 4, 3) := by decide +kernel
theorem dX8_link_44 : decode cX8_link 44 = .ok (.iconst 2, 1) := by decide +kernel
theorem dX8_link_45 : decode cX8_link 45 = .ok (.invokevirtual 101, 3) := by decide +kernel
theorem dX8_link_48 : decode cX8_link 48 = .ok (.ifCond .ne 5, 3) := by decide +kernel
theorem dX8_link_51 : decode cX8_link 51 = .ok (.iconst 0, 1) := by decide +kernel
theorem dX8_link_52 : decode cX8_link 52 = .ok (.ireturn, 1) := by decide +kernel
theorem dX8_link_53 : decode cX8_link 53 = .ok (.aload_n 0, 1) := by decide +kernel
theorem dX8_link_54 : decode cX8_link 54 = .ok (.getfield 31, 3) := by decide +kernel
theorem dX8_link_57 : decode cX8_link 57 = .ok (.iload_n 2, 1) := by decide +kernel
theorem dX8_link_58 : decode cX8_link 58 = .ok (.iload_n 1, 1) := by decide +kernel
theorem dX8_link_59 : decode cX8_link 59 = .ok (.iastore, 1) := by decide +kernel
theorem dX8_link_60 : decode cX8_link 60 = .ok (.aload_n 0, 1) := by decide +kernel
theorem dX8_link_61 : decode cX8_link 61 = .ok (.getfield 127, 3) := by decide +kernel
theorem dX8_link_64 : decode cX8_link 64 = .ok (.ireturn, 1) := by decide +kernel
theorem dX8_ownOf_0 : decode cX8_ownOf 0 = .ok (.iconst 0, 1) := by decide +kernel
theorem dX8_ownOf_1 : decode cX8_ownOf 1 = .ok (.istore_n 2, 1) := by decide +kernel
theorem dX8_ownOf_2 : decode cX8_ownOf 2 = .ok (.iconst 0, 1) := by decide +kernel
theorem dX8_ownOf_3 : decode cX8_ownOf 3 = .ok (.istore_n 3, 1) := by decide +kernel
theorem dX8_ownOf_4 : decode cX8_ownOf 4 = .ok (.iload_n 3, 1) := by decide +kernel
theorem dX8_ownOf_5 : decode cX8_ownOf 5 = .ok (.aload_n 0, 1) := by decide +kernel
theorem dX8_ownOf_6 : decode cX8_ownOf 6 = .ok (.getfield 92, 3) := by decide +kernel
theorem dX8_ownOf_9 : decode cX8_ownOf 9 = .ok (.if_icmp .ge 27, 3) := by decide +kernel
theorem dX8_ownOf_12 : decode cX8_ownOf 12 = .ok (.iload_n 2, 1) := by decide +kernel
theorem dX8_ownOf_13 : decode cX8_ownOf 13 = .ok (.aload_n 0, 1) := by decide +kernel
theorem dX8_ownOf_14 : decode cX8_ownOf 14 = .ok (.getfield 31, 3) := by decide +kernel
theorem dX8_ownOf_17 : decode cX8_ownOf 17 = .ok (.iload_n 3, 1) := by decide +kernel
theorem dX8_ownOf_18 : decode cX8_ownOf 18 = .ok (.iaload, 1) := by decide +kernel
theorem dX8_ownOf_19 : decode cX8_ownOf 19 = .ok (.iload_n 1, 1) := by decide +kernel
theorem dX8_ownOf_20 : decode cX8_ownOf 20 = .ok (.if_icmp .ne 7, 3) := by decide +kernel
theorem dX8_ownOf_23 : decode cX8_ownOf 23 = .ok (.iconst 1, 1) := by decide +kernel
theorem dX8_ownOf_24 : decode cX8_ownOf 24 = .ok (.goto 4, 3) := by decide +kernel
theorem dX8_ownOf_27 : decode cX8_ownOf 27 = .ok (.iconst 0, 1) := by decide +kernel
theorem dX8_ownOf_28 : decode cX8_ownOf 28 = .ok (.iadd, 1) := by decide +kernel
theorem dX8_ownOf_29 : decode cX8_ownOf 29 = .ok (.istore_n 2, 1) := by decide +kernel
theorem dX8_ownOf_30 : decode cX8_ownOf 30 = .ok (.iinc 3 1, 3) := by decide +kernel
theorem dX8_ownOf_33 : decode cX8_ownOf 33 = .ok (.goto (-29), 3) := by decide +kernel
theorem dX8_ownOf_36 : decode cX8_ownOf 36 = .ok (.iload_n 2, 1) := by decide +kernel
theorem dX8_ownOf_37 : decode cX8_ownOf 37 = .ok (.ireturn, 1) := by decide +kernel
set_option maxRecDepth 20000 in
theorem ggX8_unlink_X8_isBody : GoodIn wsX8_unlink wsX8_isBody := goodIn_r _ [6, 7, 8, 9, 5, 10, 25, 26, 27, 28, 29, 30, 31, 32, 33, 34, 35, 36, 37, 38, 39, 40, 41, 42, 43, 44, 45, 46, 47, 48, 49, 50, 51, 52, 53, 54, 55, 56] (by decide +kernel) (by decide +kernel)
set_option maxRecDepth 20000 in
theorem gX8_unlink_X8_isBody : GoodIn wsX8_unlink (wsV RX8 164 RX8 yX8_isBody wsX8_isBody) := goodIn_app (goodIn_of _ (by decide +kernel)) ggX8_unlink_X8_isBody
set_option maxRecDepth 20000 in
theorem ggX8_unlink_X8_isDot : GoodIn wsX8_unlink wsX8_isDot := goodIn_r _ [14, 15, 8, 9, 5, 10, 25, 26, 27, 28, 29, 30, 31, 32, 33, 34, 35, 36, 37, 38, 39, 40, 41, 42, 43, 44, 45, 46, 47, 48, 49, 50, 51, 52, 53, 54, 55, 56] (by decide +kernel) (by decide +kernel)
set_option maxRecDepth 20000 in
theorem gX8_unlink_X8_isDot : GoodIn wsX8_unlink (wsV RX8 114 RX8 yX8_isDot wsX8_isDot) := goodIn_app (goodIn_of _ (by decide +kernel)) ggX8_unlink_X8_isDot
set_option maxRecDepth 20000 in
theorem ggX8_unlink_X8_ownOf : GoodIn wsX8_unlink wsX8_ownOf := goodIn_r _ [19, 15, 1, 25, 26, 27, 28, 29, 30, 31, 32, 33, 34, 35, 36, 37, 38, 39, 40, 41, 42, 43, 44, 45, 46, 47, 48, 49, 50, 51, 52, 53, 54, 55, 56] (by decide +kernel) (by decide +kernel)
set_option maxRecDepth 20000 in
theorem gX8_unlink_X8_ownOf : GoodIn wsX8_unlink (wsV RX8 170 RX8 yX8_ownOf wsX8_ownOf) := goodIn_app (goodIn_of _ (by decide +kernel)) ggX8_unlink_X8_ownOf
set_option maxRecDepth 20000 in
theorem ggX8_unlink_X8_can : GoodIn wsX8_unlink wsX8_can := goodIn_r _ [23, 24, 25, 26, 27, 28, 29, 30, 31, 32, 33, 34, 35, 36, 37, 38, 39, 40, 41, 42, 43, 44, 45, 46, 47, 48, 49, 50, 51, 52, 53, 54, 55, 56] (by decide +kernel) (by decide +kernel)
set_option maxRecDepth 20000 in
theorem gX8_unlink_X8_can : GoodIn wsX8_unlink (wsV RX8 101 RX8 yX8_can wsX8_can) := goodIn_app (goodIn_of _ (by decide +kernel)) ggX8_unlink_X8_can
theorem dX8_unlink_0 : decode cX8_unlink 0 = .ok (.aload_n 0, 1) := by decide +kernel
theorem dX8_unlink_1 : decode cX8_unlink 1 = .ok (.iload_n 1, 1) := by decide +kernel
theorem dX8_unlink_2 : decode cX8_unlink 2 = .ok (.invokevirtual 164, 3) := by decide +kernel
theorem dX8_unlink_5 : decode cX8_unlink 5 = .ok (.ifCond .eq 15, 3) := by decide +kernel
theorem dX8_unlink_8 : decode cX8_unlink 8 = .ok (.aload_n 0, 1) := by decide +kernel
theorem dX8_unlink_9 : decode cX8_unlink 9 = .ok (.iload_n 2, 1) := by decide +kernel
theorem dX8_unlink_10 : decode cX8_unlink 10 = .ok (.invokevirtual 114, 3) := by decide +kernel
theorem dX8_unlink_13 : decode cX8_unlink 13 = .ok (.ifCond .eq 7, 3) := by decide +kernel
theorem dX8_unlink_16 : decode cX8_unlink 16 = .ok (.iconst 1, 1) := by decide +kernel
theorem dX8_unlink_17 : decode cX8_unlink 17 = .ok (.goto 4, 3) := by decide +kernel
theorem dX8_unlink_20 : decode cX8_unlink 20 = .ok (.iconst 0, 1) := by decide +kernel
theorem dX8_unlink_21 : decode cX8_unlink 21 = .ok (.istore_n 3, 1) := by decide +kernel
theorem dX8_unlink_22 : decode cX8_unlink 22 = .ok (.aload_n 0, 1) := by decide +kernel
theorem dX8_unlink_23 : decode cX8_unlink 23 = .ok (.iload_n 3, 1) := by decide +kernel
theorem dX8_unlink_24 : decode cX8_unlink 24 = .ok (.ifCond .ne 7, 3) := by decide +kernel
theorem dX8_unlink_27 : decode cX8_unlink 27 = .ok (.iconst 1, 1) := by decide +kernel
theorem dX8_unlink_28 : decode cX8_unlink 28 = .ok (.goto 27, 3) := by decide +kernel
theorem dX8_unlink_31 : decode cX8_unlink 31 = .ok (.aload_n 0, 1) := by decide +kernel
theorem dX8_unlink_32 : decode cX8_unlink 32 = .ok (.getfield 31, 3) := by decide +kernel
theorem dX8_unlink_35 : decode cX8_unlink 35 = .ok (.iload_n 2, 1) := by decide +kernel
theorem dX8_unlink_36 : decode cX8_unlink 36 = .ok (.iaload, 1) := by decide +kernel
theorem dX8_unlink_37 : decode cX8_unlink 37 = .ok (.iload_n 1, 1) := by decide +kernel
theorem dX8_unlink_38 : decode cX8_unlink 38 = .ok (.if_icmp .ne 12, 3) := by decide +kernel
theorem dX8_unlink_41 : decode cX8_unlink 41 = .ok (.aload_n 0, 1) := by decide +kernel
theorem dX8_unlink_42 : decode cX8_unlink 42 = .ok (.iload_n 1, 1) := by decide +kernel
theorem dX8_unlink_43 : decode cX8_unlink 43 = .ok (.invokevirtual 170, 3) := by decide +kernel
theorem dX8_unlink_46 : decode cX8_unlink 46 = .ok (.iconst 1, 1) := by decide +kernel
theorem dX8_unlink_47 : decode cX8_unlink 47 = .ok (.if_icmp .ne 7, 3) := by decide +kernel
theorem dX8_unlink_50 : decode cX8_unlink 50 = .ok (.iconst 2, 1) := by decide +kernel
theorem dX8_unlink_51 : decode cX8_unlink 51 = .ok (.goto 4, 3) := by decide +kernel
theorem dX8_unlink_54 : decode cX8_unlink 54 = .ok (.iconst 0, 1) := by decide +kernel
theorem dX8_unlink_55 : decode cX8_unlink 55 = .ok (.invokevirtual 101, 3) := by decide +kernel
theorem dX8_unlink_58 : decode cX8_unlink 58 = .ok (.ifCond .ne 5, 3) := by decide +kernel
theorem dX8_unlink_61 : decode cX8_unlink 61 = .ok (.iconst 0, 1) := by decide +kernel
theorem dX8_unlink_62 : decode cX8_unlink 62 = .ok (.ireturn, 1) := by decide +kernel
theorem dX8_unlink_63 : decode cX8_unlink 63 = .ok (.aload_n 0, 1) := by decide +kernel
theorem dX8_unlink_64 : decode cX8_unlink 64 = .ok (.getfield 31, 3) := by decide +kernel
theorem dX8_unlink_67 : decode cX8_unlink 67 = .ok (.iload_n 2, 1) := by decide +kernel
theorem dX8_unlink_68 : decode cX8_unlink 68 = .ok (.iconst (-1), 1) := by decide +kernel
theorem dX8_unlink_69 : decode cX8_unlink 69 = .ok (.iastore, 1) := by decide +kernel
theorem dX8_unlink_70 : decode cX8_unlink 70 = .ok (.aload_n 0, 1) := by decide +kernel
theorem dX8_unlink_71 : decode cX8_unlink 71 = .ok (.iload_n 1, 1) := by decide +kernel
theorem dX8_unlink_72 : decode cX8_unlink 72 = .ok (.invokevirtual 170, 3) := by decide +kernel
theorem dX8_unlink_75 : decode cX8_unlink 75 = .ok (.ireturn, 1) := by decide +kernel
set_option maxRecDepth 20000 in
theorem ggX8_canJoin_X8_lays : GoodIn wsX8_canJoin wsX8_lays := goodIn_r _ [10, 3, 11, 12, 13, 9, 14, 15, 16, 5, 17, 18, 19, 20, 1, 68, 69, 70, 71, 72, 73, 74, 75, 76, 77, 78, 79, 80, 81, 82, 83, 84, 85, 86, 87, 88, 89, 90, 91, 92, 93, 94, 95, 96, 97, 98, 99] (by decide +kernel) (by decide +kernel)
set_option maxRecDepth 20000 in
theorem gX8_canJoin_X8_lays : GoodIn wsX8_canJoin (wsV RX8 154 RX8 yX8_lays wsX8_lays) := goodIn_app (goodIn_of _ (by decide +kernel)) ggX8_canJoin_X8_lays
set_option maxRecDepth 20000 in
theorem ggX8_canJoin_X8_laysAlso : GoodIn wsX8_canJoin wsX8_laysAlso := goodIn_r _ [14, 15, 16, 5, 3, 17, 18, 19, 9, 20, 1, 68, 69, 70, 71, 72, 73, 74, 75, 76, 77, 78, 79, 80, 81, 82, 83, 84, 85, 86, 87, 88, 89, 90, 91, 92, 93, 94, 95, 96, 97, 98, 99] (by decide +kernel) (by decide +kernel)
set_option maxRecDepth 20000 in
theorem gX8_canJoin_X8_laysAlso : GoodIn wsX8_canJoin (wsV RX8 130 RX8 yX8_laysAlso wsX8_laysAlso) := goodIn_app (goodIn_of _ (by decide +kernel)) ggX8_canJoin_X8_laysAlso
set_option maxRecDepth 20000 in
theorem ggX8_canJoin_X8_isOnPlate : GoodIn wsX8_canJoin wsX8_isOnPlate := goodIn_r _ [24, 4, 5, 68, 69, 70, 71, 72, 73, 74, 75, 76, 77, 78, 79, 80, 81, 82, 83, 84, 85, 86, 87, 88, 89, 90, 91, 92, 93, 94, 95, 96, 97, 98, 99] (by decide +kernel) (by decide +kernel)
set_option maxRecDepth 20000 in
theorem gX8_canJoin_X8_isOnPlate : GoodIn wsX8_canJoin (wsV RX8 157 RX8 yX8_isOnPlate wsX8_isOnPlate) := goodIn_app (goodIn_of _ (by decide +kernel)) ggX8_canJoin_X8_isOnPlate
set_option maxRecDepth 20000 in
theorem ggX8_canJoin_X8_hasOrbit : GoodIn wsX8_canJoin wsX8_hasOrbit := goodIn_r _ [28, 29, 30, 31, 32, 9, 33, 5, 34, 35, 36, 37, 38, 39, 40, 4, 41, 42, 43, 44, 45, 46, 47, 48, 49, 50, 51, 52, 53, 54, 55, 56, 57, 58, 59, 60, 61, 3, 62, 63, 64, 65, 66, 67, 68, 69, 70, 71, 72, 73, 74, 75, 76, 77, 78, 79, 80, 81, 82, 83, 84, 85, 86, 87, 88, 89, 90, 91, 92, 93, 94, 95, 96, 97, 98, 99] (by decide +kernel) (by decide +kernel)
set_option maxRecDepth 20000 in
theorem gX8_canJoin_X8_hasOrbit : GoodIn wsX8_canJoin (wsV RX8 160 RX8 yX8_hasOrbit wsX8_hasOrbit) := goodIn_app (goodIn_of _ (by decide +kernel)) ggX8_canJoin_X8_hasOrbit
theorem dX8_canJoin_0 : decode cX8_canJoin 0 = .ok (.iload_n 1, 1) := by decide +kernel
theorem dX8_canJoin_1 : decode cX8_canJoin 1 = .ok (.iload_n 2, 1) := by decide +kernel
theorem dX8_canJoin_2 : decode cX8_canJoin 2 = .ok (.if_icmp .eq 41, 3) := by decide +kernel
theorem dX8_canJoin_5 : decode cX8_canJoin 5 = .ok (.aload_n 0, 1) := by decide +kernel
theorem dX8_canJoin_6 : decode cX8_canJoin 6 = .ok (.getfield 34, 3) := by decide +kernel
theorem dX8_canJoin_9 : decode cX8_canJoin 9 = .ok (.iload_n 1, 1) := by decide +kernel
theorem dX8_canJoin_10 : decode cX8_canJoin 10 = .ok (.iaload, 1) := by decide +kernel
theorem dX8_canJoin_11 : decode cX8_canJoin 11 = .ok (.iconst (-1), 1) := by decide +kernel
theorem dX8_canJoin_12 : decode cX8_canJoin 12 = .ok (.if_icmp .ne 31, 3) := by decide +kernel
theorem dX8_canJoin_15 : decode cX8_canJoin 15 = .ok (.aload_n 0, 1) := by decide +kernel
theorem dX8_canJoin_16 : decode cX8_canJoin 16 = .ok (.getfield 34, 3) := by decide +kernel
theorem dX8_canJoin_19 : decode cX8_canJoin 19 = .ok (.iload_n 2, 1) := by decide +kernel
theorem dX8_canJoin_20 : decode cX8_canJoin 20 = .ok (.iaload, 1) := by decide +kernel
theorem dX8_canJoin_21 : decode cX8_canJoin 21 = .ok (.iconst (-1), 1) := by decide +kernel
theorem dX8_canJoin_22 : decode cX8_canJoin 22 = .ok (.if_icmp .ne 21, 3) := by decide +kernel
theorem dX8_canJoin_25 : decode cX8_canJoin 25 = .ok (.aload_n 0, 1) := by decide +kernel
theorem dX8_canJoin_26 : decode cX8_canJoin 26 = .ok (.getfield 40, 3) := by decide +kernel
theorem dX8_canJoin_29 : decode cX8_canJoin 29 = .ok (.iload_n 1, 1) := by decide +kernel
theorem dX8_canJoin_30 : decode cX8_canJoin 30 = .ok (.iaload, 1) := by decide +kernel
theorem dX8_canJoin_31 : decode cX8_canJoin 31 = .ok (.ifCond .le 14, 3) := by decide +kernel
theorem dX8_canJoin_34 : decode cX8_canJoin 34 = .ok (.aload_n 0, 1) := by decide +kernel
theorem dX8_canJoin_35 : decode cX8_canJoin 35 = .ok (.getfield 40, 3) := by decide +kernel
theorem dX8_canJoin_38 : decode cX8_canJoin 38 = .ok (.iload_n 2, 1) := by decide +kernel
theorem dX8_canJoin_39 : decode cX8_canJoin 39 = .ok (.iaload, 1) := by decide +kernel
theorem dX8_canJoin_40 : decode cX8_canJoin 40 = .ok (.ifCond .le 5, 3) := by decide +kernel
theorem dX8_canJoin_43 : decode cX8_canJoin 43 = .ok (.iconst 0, 1) := by decide +kernel
theorem dX8_canJoin_44 : decode cX8_canJoin 44 = .ok (.ireturn, 1) := by decide +kernel
theorem dX8_canJoin_45 : decode cX8_canJoin 45 = .ok (.aload_n 0, 1) := by decide +kernel
theorem dX8_canJoin_46 : decode cX8_canJoin 46 = .ok (.iload_n 1, 1) := by decide +kernel
theorem dX8_canJoin_47 : decode cX8_canJoin 47 = .ok (.invokevirtual 154, 3) := by decide +kernel
theorem dX8_canJoin_50 : decode cX8_canJoin 50 = .ok (.aload_n 0, 1) := by decide +kernel
theorem dX8_canJoin_51 : decode cX8_canJoin 51 = .ok (.getfield 127, 3) := by decide +kernel
theorem dX8_canJoin_54 : decode cX8_canJoin 54 = .ok (.istore_n 3, 1) := by decide +kernel
theorem dX8_canJoin_55 : decode cX8_canJoin 55 = .ok (.aload_n 0, 1) := by decide +kernel
theorem dX8_canJoin_56 : decode cX8_canJoin 56 = .ok (.iload_n 2, 1) := by decide +kernel
theorem dX8_canJoin_57 : decode cX8_canJoin 57 = .ok (.invokevirtual 130, 3) := by decide +kernel
theorem dX8_canJoin_60 : decode cX8_canJoin 60 = .ok (.iconst 1, 1) := by decide +kernel
theorem dX8_canJoin_61 : decode cX8_canJoin 61 = .ok (.istore 4, 2) := by decide +kernel
theorem dX8_canJoin_63 : decode cX8_canJoin 63 = .ok (.iload_n 3, 1) := by decide +kernel
theorem dX8_canJoin_64 : decode cX8_canJoin 64 = .ok (.istore 5, 2) := by decide +kernel
theorem dX8_canJoin_66 : decode cX8_canJoin 66 = .ok (.iload 5, 2) := by decide +kernel
theorem dX8_canJoin_68 : decode cX8_canJoin 68 = .ok (.aload_n 0, 1) := by decide +kernel
theorem dX8_canJoin_69 : decode cX8_canJoin 69 = .ok (.getfield 127, 3) := by decide +kernel
theorem dX8_canJoin_72 : decode cX8_canJoin 72 = .ok (.if_icmp .ge 41, 3) := by decide +kernel
theorem dX8_canJoin_75 : decode cX8_canJoin 75 = .ok (.iload 4, 2) := by decide +kernel
theorem dX8_canJoin_77 : decode cX8_canJoin 77 = .ok (.ifCond .eq 27, 3) := by decide +kernel
theorem dX8_canJoin_80 : decode cX8_canJoin 80 = .ok (.aload_n 0, 1) := by decide +kernel
theorem dX8_canJoin_81 : decode cX8_canJoin 81 = .ok (.aload_n 0, 1) := by decide +kernel
theorem dX8_canJoin_82 : decode cX8_canJoin 82 = .ok (.getfield 22, 3) := by decide +kernel
theorem dX8_canJoin_85 : decode cX8_canJoin 85 = .ok (.aload_n 0, 1) := by decide +kernel
theorem dX8_canJoin_86 : decode cX8_canJoin 86 = .ok (.getfield 49, 3) := by decide +kernel
theorem dX8_canJoin_89 : decode cX8_canJoin 89 = .ok (.iload 5, 2) := by decide +kernel
theorem dX8_canJoin_91 : decode cX8_canJoin 91 = .ok (.iaload, 1) := by decide +kernel
theorem dX8_canJoin_92 : decode cX8_canJoin 92 = .ok (.iaload, 1) := by decide +kernel
theorem dX8_canJoin_93 : decode cX8_canJoin 93 = .ok (.iload_n 3, 1) := by decide +kernel
theorem dX8_canJoin_94 : decode cX8_canJoin 94 = .ok (.invokevirtual 157, 3) := by decide +kernel
theorem dX8_canJoin_97 : decode cX8_canJoin 97 = .ok (.ifCond .ne 7, 3) := by decide +kernel
theorem dX8_canJoin_100 : decode cX8_canJoin 100 = .ok (.iconst 1, 1) := by decide +kernel
theorem dX8_canJoin_101 : decode cX8_canJoin 101 = .ok (.goto 4, 3) := by decide +kernel
theorem dX8_canJoin_104 : decode cX8_canJoin 104 = .ok (.iconst 0, 1) := by decide +kernel
theorem dX8_canJoin_105 : decode cX8_canJoin 105 = .ok (.istore 4, 2) := by decide +kernel
theorem dX8_canJoin_107 : decode cX8_canJoin 107 = .ok (.iinc 5 1, 3) := by decide +kernel
theorem dX8_canJoin_110 : decode cX8_canJoin 110 = .ok (.goto (-44), 3) := by decide +kernel
theorem dX8_canJoin_113 : decode cX8_canJoin 113 = .ok (.iload 4, 2) := by decide +kernel
theorem dX8_canJoin_115 : decode cX8_canJoin 115 = .ok (.ifCond .eq 14, 3) := by decide +kernel
theorem dX8_canJoin_118 : decode cX8_canJoin 118 = .ok (.aload_n 0, 1) := by decide +kernel
theorem dX8_canJoin_119 : decode cX8_canJoin 119 = .ok (.invokevirtual 160, 3) := by decide +kernel
theorem dX8_canJoin_122 : decode cX8_canJoin 122 = .ok (.ifCond .eq 7, 3) := by decide +kernel
theorem dX8_canJoin_125 : decode cX8_canJoin 125 = .ok (.iconst 1, 1) := by decide +kernel
theorem dX8_canJoin_126 : decode cX8_canJoin 126 = .ok (.goto 4, 3) := by decide +kernel
theorem dX8_canJoin_129 : decode cX8_canJoin 129 = .ok (.iconst 0, 1) := by decide +kernel
theorem dX8_canJoin_130 : decode cX8_canJoin 130 = .ok (.ireturn, 1) := by decide +kernel
set_option maxRecDepth 20000 in
theorem ggX8_stronger_X8_firstOf : GoodIn wsX8_stronger wsX8_firstOf := goodIn_r _ [6, 7, 8, 9, 10, 11, 5, 12, 13, 14, 15, 16, 17, 18, 19, 20, 21, 22, 23, 24, 25, 26, 27, 28, 29, 30, 31, 32, 33, 34, 35, 36, 37, 38, 39, 40, 41, 42, 43, 44, 45, 46, 47, 48, 49, 50, 51, 52, 53, 54, 55, 56, 57, 58, 59, 60, 61] (by decide +kernel) (by decide +kernel)
set_option maxRecDepth 20000 in
theorem gX8_stronger_X8_firstOf : GoodIn wsX8_stronger (wsV RX8 173 RX8 yX8_firstOf wsX8_firstOf) := goodIn_app (goodIn_of _ (by decide +kernel)) ggX8_stronger_X8_firstOf
set_option maxRecDepth 20000 in
theorem ggX8_stronger_X8_nightOf : GoodIn wsX8_stronger wsX8_nightOf := goodIn_r _ [27, 28, 29, 30, 31, 32, 33, 34, 35, 36, 37, 38, 39, 40, 41, 42, 43, 44, 45, 46, 47, 48, 49, 50, 51, 52, 53, 54, 55, 56, 57, 58, 59, 60, 61] (by decide +kernel) (by decide +kernel)
set_option maxRecDepth 20000 in
theorem gX8_stronger_X8_nightOf : GoodIn wsX8_stronger (wsV RX8 117 RX8 yX8_nightOf wsX8_nightOf) := goodIn_app (goodIn_of _ (by decide +kernel)) ggX8_stronger_X8_nightOf
theorem dX8_stronger_0 : decode cX8_stronger 0 = .ok (.aload_n 0, 1) := by decide +kernel
theorem dX8_stronger_1 : decode cX8_stronger 1 = .ok (.getfield 40, 3) := by decide +kernel
theorem dX8_stronger_4 : decode cX8_stronger 4 = .ok (.iload_n 1, 1) := by decide +kernel
theorem dX8_stronger_5 : decode cX8_stronger 5 = .ok (.iaload, 1) := by decide +kernel
theorem dX8_stronger_6 : decode cX8_stronger 6 = .ok (.aload_n 0, 1) := by decide +kernel
theorem dX8_stronger_7 : decode cX8_stronger 7 = .ok (.getfield 40, 3) := by decide +kernel
theorem dX8_stronger_10 : decode cX8_stronger 10 = .ok (.iload_n 2, 1) := by decide +kernel
theorem dX8_stronger_11 : decode cX8_stronger 11 = .ok (.iaload, 1) := by decide +kernel
theorem dX8_stronger_12 : decode cX8_stronger 12 = .ok (.iadd, 1) := by decide +kernel
theorem dX8_stronger_13 : decode cX8_stronger 13 = .ok (.ifCond .le 18, 3) := by decide +kernel
theorem dX8_stronger_16 : decode cX8_stronger 16 = .ok (.aload_n 0, 1) := by decide +kernel
theorem dX8_stronger_17 : decode cX8_stronger 17 = .ok (.getfield 40, 3) := by decide +kernel
theorem dX8_stronger_20 : decode cX8_stronger 20 = .ok (.iload_n 1, 1) := by decide +kernel
theorem dX8_stronger_21 : decode cX8_stronger 21 = .ok (.iaload, 1) := by decide +kernel
theorem dX8_stronger_22 : decode cX8_stronger 22 = .ok (.ifCond .le 7, 3) := by decide +kernel
theorem dX8_stronger_25 : decode cX8_stronger 25 = .ok (.iload_n 1, 1) := by decide +kernel
theorem dX8_stronger_26 : decode cX8_stronger 26 = .ok (.goto 4, 3) := by decide +kernel
theorem dX8_stronger_29 : decode cX8_stronger 29 = .ok (.iload_n 2, 1) := by decide +kernel
theorem dX8_stronger_30 : decode cX8_stronger 30 = .ok (.ireturn, 1) := by decide +kernel
theorem dX8_stronger_31 : decode cX8_stronger 31 = .ok (.aload_n 0, 1) := by decide +kernel
theorem dX8_stronger_32 : decode cX8_stronger 32 = .ok (.iload_n 1, 1) := by decide +kernel
theorem dX8_stronger_33 : decode cX8_stronger 33 = .ok (.invokevirtual 173, 3) := by decide +kernel
theorem dX8_stronger_36 : decode cX8_stronger 36 = .ok (.istore_n 3, 1) := by decide +kernel
theorem dX8_stronger_37 : decode cX8_stronger 37 = .ok (.aload_n 0, 1) := by decide +kernel
theorem dX8_stronger_38 : decode cX8_stronger 38 = .ok (.iload_n 2, 1) := by decide +kernel
theorem dX8_stronger_39 : decode cX8_stronger 39 = .ok (.invokevirtual 173, 3) := by decide +kernel
theorem dX8_stronger_42 : decode cX8_stronger 42 = .ok (.istore 4, 2) := by decide +kernel
theorem dX8_stronger_44 : decode cX8_stronger 44 = .ok (.aload_n 0, 1) := by decide +kernel
theorem dX8_stronger_45 : decode cX8_stronger 45 = .ok (.iload_n 3, 1) := by decide +kernel
theorem dX8_stronger_46 : decode cX8_stronger 46 = .ok (.invokevirtual 117, 3) := by decide +kernel
theorem dX8_stronger_49 : decode cX8_stronger 49 = .ok (.aload_n 0, 1) := by decide +kernel
theorem dX8_stronger_50 : decode cX8_stronger 50 = .ok (.iload 4, 2) := by decide +kernel
theorem dX8_stronger_52 : decode cX8_stronger 52 = .ok (.invokevirtual 117, 3) := by decide +kernel
theorem dX8_stronger_55 : decode cX8_stronger 55 = .ok (.if_icmp .lt 23, 3) := by decide +kernel
theorem dX8_stronger_58 : decode cX8_stronger 58 = .ok (.aload_n 0, 1) := by decide +kernel
theorem dX8_stronger_59 : decode cX8_stronger 59 = .ok (.iload_n 3, 1) := by decide +kernel
theorem dX8_stronger_60 : decode cX8_stronger 60 = .ok (.invokevirtual 117, 3) := by decide +kernel
theorem dX8_stronger_63 : decode cX8_stronger 63 = .ok (.aload_n 0, 1) := by decide +kernel
theorem dX8_stronger_64 : decode cX8_stronger 64 = .ok (.iload 4, 2) := by decide +kernel
theorem dX8_stronger_66 : decode cX8_stronger 66 = .ok (.invokevirtual 117, 3) := by decide +kernel
theorem dX8_stronger_69 : decode cX8_stronger 69 = .ok (.if_icmp .ne 13, 3) := by decide +kernel
theorem dX8_stronger_72 : decode cX8_stronger 72 = .ok (.iload_n 3, 1) := by decide +kernel
theorem dX8_stronger_73 : decode cX8_stronger 73 = .ok (.iload 4, 2) := by decide +kernel
theorem dX8_stronger_75 : decode cX8_stronger 75 = .ok (.if_icmp .ge 7, 3) := by decide +kernel
theorem dX8_stronger_78 : decode cX8_stronger 78 = .ok (.iconst 1, 1) := by decide +kernel
theorem dX8_stronger_79 : decode cX8_stronger 79 = .ok (.goto 4, 3) := by decide +kernel
theorem dX8_stronger_82 : decode cX8_stronger 82 = .ok (.iconst 0, 1) := by decide +kernel
theorem dX8_stronger_83 : decode cX8_stronger 83 = .ok (.istore 5, 2) := by decide +kernel
theorem dX8_stronger_85 : decode cX8_stronger 85 = .ok (.iload 5, 2) := by decide +kernel
theorem dX8_stronger_87 : decode cX8_stronger 87 = .ok (.ifCond .eq 7, 3) := by decide +kernel
theorem dX8_stronger_90 : decode cX8_stronger 90 = .ok (.iload_n 1, 1) := by decide +kernel
theorem dX8_stronger_91 : decode cX8_stronger 91 = .ok (.goto 4, 3) := by decide +kernel
theorem dX8_stronger_94 : decode cX8_stronger 94 = .ok (.iload_n 2, 1) := by decide +kernel
theorem dX8_stronger_95 : decode cX8_stronger 95 = .ok (.ireturn, 1) := by decide +kernel
set_option maxRecDepth 20000 in
theorem ggX8_join_X8_isBody : GoodIn wsX8_join wsX8_isBody := goodIn_r _ [8, 9, 10, 11, 7, 12, 95, 96, 97, 98, 99, 100, 101, 102, 103, 104, 105, 106, 107, 108, 109, 110, 111, 112, 113, 114, 115, 116, 117, 118, 119, 120, 121, 122, 123, 124, 125, 126] (by decide +kernel) (by decide +kernel)
set_option maxRecDepth 20000 in
theorem gX8_join_X8_isBody : GoodIn wsX8_join (wsV RX8 164 RX8 yX8_isBody wsX8_isBody) := goodIn_app (goodIn_of _ (by decide +kernel)) ggX8_join_X8_isBody
set_option maxRecDepth 20000 in
theorem ggX8_join_X8_canJoin : GoodIn wsX8_join wsX8_canJoin := goodIn_r _ [16, 1, 17, 18, 19, 20, 21, 22, 23, 7, 24, 25, 26, 27, 28, 29, 30, 31, 32, 33, 34, 35, 36, 37, 38, 39, 40, 41, 42, 43, 44, 45, 46, 47, 48, 49, 50, 51, 52, 53, 54, 55, 56, 57, 58, 59, 60, 61, 62, 63, 64, 65, 66, 67, 68, 69, 70, 71, 72, 73, 74, 75, 76, 77, 78, 79, 80, 81, 95, 96, 97, 98, 99, 100, 101, 102, 103, 104, 105, 106, 107, 108, 109, 110, 111, 112, 113, 114, 115, 116, 117, 118, 119, 120, 121, 122, 123, 124, 125, 126] (by decide +kernel) (by decide +kernel)
set_option maxRecDepth 20000 in
theorem gX8_join_X8_canJoin : GoodIn wsX8_join (wsV RX8 176 RX8 yX8_canJoin wsX8_canJoin) := goodIn_app (goodIn_of _ (by decide +kernel)) ggX8_join_X8_canJoin
set_option maxRecDepth 20000 in
theorem ggX8_join_X8_can : GoodIn wsX8_join wsX8_can := goodIn_r _ [85, 86, 95, 96, 97, 98, 99, 100, 101, 102, 103, 104, 105, 106, 107, 108, 109, 110, 111, 112, 113, 114, 115, 116, 117, 118, 119, 120, 121, 122, 123, 124, 125, 126] (by decide +kernel) (by decide +kernel)
set_option maxRecDepth 20000 in
theorem gX8_join_X8_can : GoodIn wsX8_join (wsV RX8 101 RX8 yX8_can wsX8_can) := goodIn_app (goodIn_of _ (by decide +kernel)) ggX8_join_X8_can
set_option maxRecDepth 20000 in
theorem ggX8_join_X8_stronger : GoodIn wsX8_join wsX8_stronger := goodIn_r _ [90, 17, 91, 92, 93, 7, 94, 20, 18, 21, 22, 23, 24, 25, 26, 27, 28, 29, 30, 31, 32, 33, 34, 1, 64, 65, 66, 67, 68, 19, 95, 96, 97, 98, 99, 100, 101, 102, 103, 104, 105, 106, 107, 108, 109, 110, 111, 112, 113, 114, 115, 116, 117, 118, 119, 120, 121, 122, 123, 124, 125, 126] (by decide +kernel) (by decide +kernel)
set_option maxRecDepth 20000 in
theorem gX8_join_X8_stronger : GoodIn wsX8_join (wsV RX8 179 RX8 yX8_stronger wsX8_stronger) := goodIn_app (goodIn_of _ (by decide +kernel)) ggX8_join_X8_stronger
theorem dX8_join_0 : decode cX8_join 0 = .ok (.aload_n 0, 1) := by decide +kernel
theorem dX8_join_1 : decode cX8_join 1 = .ok (.iload_n 1, 1) := by decide +kernel
theorem dX8_join_2 : decode cX8_join 2 = .ok (.invokevirtual 164, 3) := by decide +kernel
theorem dX8_join_5 : decode cX8_join 5 = .ok (.ifCond .eq 15, 3) := by decide +kernel
theorem dX8_join_8 : decode cX8_join 8 = .ok (.aload_n 0, 1) := by decide +kernel
theorem dX8_join_9 : decode cX8_join 9 = .ok (.iload_n 2, 1) := by decide +kernel
theorem dX8_join_10 : decode cX8_join 10 = .ok (.invokevirtual 164, 3) := by decide +kernel
theorem dX8_join_13 : decode cX8_join 13 = .ok (.ifCond .eq 7, 3) := by decide +kernel
theorem dX8_join_16 : decode cX8_join 16 = .ok (.iconst 1, 1) := by decide +kernel
theorem dX8_join_17 : decode cX8_join 17 = .ok (.goto 4, 3) := by decide +kernel
theorem dX8_join_20 : decode cX8_join 20 = .ok (.iconst 0, 1) := by decide +kernel
theorem dX8_join_21 : decode cX8_join 21 = .ok (.istore_n 3, 1) := by decide +kernel
theorem dX8_join_22 : decode cX8_join 22 = .ok (.aload_n 0, 1) := by decide +kernel
theorem dX8_join_23 : decode cX8_join 23 = .ok (.iload_n 3, 1) := by decide +kernel
theorem dX8_join_24 : decode cX8_join 24 = .ok (.ifCond .ne 7, 3) := by decide +kernel
theorem dX8_join_27 : decode cX8_join 27 = .ok (.iconst 1, 1) := by decide +kernel
theorem dX8_join_28 : decode cX8_join 28 = .ok (.goto 17, 3) := by decide +kernel
theorem dX8_join_31 : decode cX8_join 31 = .ok (.aload_n 0, 1) := by decide +kernel
theorem dX8_join_32 : decode cX8_join 32 = .ok (.iload_n 1, 1) := by decide +kernel
theorem dX8_join_33 : decode cX8_join 33 = .ok (.iload_n 2, 1) := by decide +kernel
theorem dX8_join_34 : decode cX8_join 34 = .ok (.invokevirtual 176, 3) := by decide +kernel
theorem dX8_join_37 : decode cX8_join 37 = .ok (.ifCond .eq 7, 3) := by decide +kernel
theorem dX8_join_40 : decode cX8_join 40 = .ok (.iconst 0, 1) := by decide +kernel
theorem dX8_join_41 : decode cX8_join 41 = .ok (.goto 4, 3) := by decide +kernel
theorem dX8_join_44 : decode cX8_join 44 = .ok (.iconst 2, 1) := by decide +kernel
theorem dX8_join_45 : decode cX8_join 45 = .ok (.invokevirtual 101, 3) := by decide +kernel
theorem dX8_join_48 : decode cX8_join 48 = .ok (.ifCond .ne 5, 3) := by decide +kernel
theorem dX8_join_51 : decode cX8_join 51 = .ok (.iconst 0, 1) := by decide +kernel
theorem dX8_join_52 : decode cX8_join 52 = .ok (.ireturn, 1) := by decide +kernel
theorem dX8_join_53 : decode cX8_join 53 = .ok (.aload_n 0, 1) := by decide +kernel
theorem dX8_join_54 : decode cX8_join 54 = .ok (.iload_n 1, 1) := by decide +kernel
theorem dX8_join_55 : decode cX8_join 55 = .ok (.iload_n 2, 1) := by decide +kernel
theorem dX8_join_56 : decode cX8_join 56 = .ok (.invokevirtual 179, 3) := by decide +kernel
theorem dX8_join_59 : decode cX8_join 59 = .ok (.istore 4, 2) := by decide +kernel
theorem dX8_join_61 : decode cX8_join 61 = .ok (.iload 4, 2) := by decide +kernel
theorem dX8_join_63 : decode cX8_join 63 = .ok (.iload_n 1, 1) := by decide +kernel
theorem dX8_join_64 : decode cX8_join 64 = .ok (.if_icmp .ne 7, 3) := by decide +kernel
theorem dX8_join_67 : decode cX8_join 67 = .ok (.iload_n 2, 1) := by decide +kernel
theorem dX8_join_68 : decode cX8_join 68 = .ok (.goto 4, 3) := by decide +kernel
theorem dX8_join_71 : decode cX8_join 71 = .ok (.iload_n 1, 1) := by decide +kernel
theorem dX8_join_72 : decode cX8_join 72 = .ok (.istore 5, 2) := by decide +kernel
theorem dX8_join_74 : decode cX8_join 74 = .ok (.aload_n 0, 1) := by decide +kernel
theorem dX8_join_75 : decode cX8_join 75 = .ok (.getfield 34, 3) := by decide +kernel
theorem dX8_join_78 : decode cX8_join 78 = .ok (.iload 5, 2) := by decide +kernel
theorem dX8_join_80 : decode cX8_join 80 = .ok (.iload 4, 2) := by decide +kernel
theorem dX8_join_82 : decode cX8_join 82 = .ok (.iastore, 1) := by decide +kernel
theorem dX8_join_83 : decode cX8_join 83 = .ok (.aload_n 0, 1) := by decide +kernel
theorem dX8_join_84 : decode cX8_join 84 = .ok (.getfield 37, 3) := by decide +kernel
theorem dX8_join_87 : decode cX8_join 87 = .ok (.iload 5, 2) := by decide +kernel
theorem dX8_join_89 : decode cX8_join 89 = .ok (.aload_n 0, 1) := by decide +kernel
theorem dX8_join_90 : decode cX8_join 90 = .ok (.getfield 182, 3) := by decide +kernel
theorem dX8_join_93 : decode cX8_join 93 = .ok (.iastore, 1) := by decide +kernel
theorem dX8_join_94 : decode cX8_join 94 = .ok (.aload_n 0, 1) := by decide +kernel
theorem dX8_join_95 : decode cX8_join 95 = .ok (.dup, 1) := by decide +kernel
theorem dX8_join_96 : decode cX8_join 96 = .ok (.getfield 182, 3) := by decide +kernel
theorem dX8_join_99 : decode cX8_join 99 = .ok (.iconst 1, 1) := by decide +kernel
theorem dX8_join_100 : decode cX8_join 100 = .ok (.iadd, 1) := by decide +kernel
theorem dX8_join_101 : decode cX8_join 101 = .ok (.putfield 182, 3) := by decide +kernel
theorem dX8_join_104 : decode cX8_join 104 = .ok (.iload 4, 2) := by decide +kernel
theorem dX8_join_106 : decode cX8_join 106 = .ok (.ireturn, 1) := by decide +kernel
theorem dX8_latest_0 : decode cX8_latest 0 = .ok (.iconst (-1), 1) := by decide +kernel
theorem dX8_latest_1 : decode cX8_latest 1 = .ok (.istore_n 2, 1) := by decide +kernel
theorem dX8_latest_2 : decode cX8_latest 2 = .ok (.iconst 0, 1) := by decide +kernel
theorem dX8_latest_3 : decode cX8_latest 3 = .ok (.istore_n 3, 1) := by decide +kernel
theorem dX8_latest_4 : decode cX8_latest 4 = .ok (.iload_n 3, 1) := by decide +kernel
theorem dX8_latest_5 : decode cX8_latest 5 = .ok (.aload_n 0, 1) := by decide +kernel
theorem dX8_latest_6 : decode cX8_latest 6 = .ok (.getfield 95, 3) := by decide +kernel
theorem dX8_latest_9 : decode cX8_latest 9 = .ok (.if_icmp .ge 45, 3) := by decide +kernel
theorem dX8_latest_12 : decode cX8_latest 12 = .ok (.aload_n 0, 1) := by decide +kernel
theorem dX8_latest_13 : decode cX8_latest 13 = .ok (.getfield 34, 3) := by decide +kernel
theorem dX8_latest_16 : decode cX8_latest 16 = .ok (.iload_n 3, 1) := by decide +kernel
theorem dX8_latest_17 : decode cX8_latest 17 = .ok (.iaload, 1) := by decide +kernel
theorem dX8_latest_18 : decode cX8_latest 18 = .ok (.iload_n 1, 1) := by decide +kernel
theorem dX8_latest_19 : decode cX8_latest 19 = .ok (.if_icmp .ne 27, 3) := by decide +kernel
theorem dX8_latest_22 : decode cX8_latest 22 = .ok (.iload_n 2, 1) := by decide +kernel
theorem dX8_latest_23 : decode cX8_latest 23 = .ok (.iconst (-1), 1) := by decide +kernel
theorem dX8_latest_24 : decode cX8_latest 24 = .ok (.if_icmp .eq 18, 3) := by decide +kernel
theorem dX8_latest_27 : decode cX8_latest 27 = .ok (.aload_n 0, 1) := by decide +kernel
theorem dX8_latest_28 : decode cX8_latest 28 = .ok (.getfield 37, 3) := by decide +kernel
theorem dX8_latest_31 : decode cX8_latest 31 = .ok (.iload_n 3, 1) := by decide +kernel
theorem dX8_latest_32 : decode cX8_latest 32 = .ok (.iaload, 1) := by decide +kernel
theorem dX8_latest_33 : decode cX8_latest 33 = .ok (.aload_n 0, 1) := by decide +kernel
theorem dX8_latest_34 : decode cX8_latest 34 = .ok (.getfield 37, 3) := by decide +kernel
theorem dX8_latest_37 : decode cX8_latest 37 = .ok (.iload_n 2, 1) := by decide +kernel
theorem dX8_latest_38 : decode cX8_latest 38 = .ok (.iaload, 1) := by decide +kernel
theorem dX8_latest_39 : decode cX8_latest 39 = .ok (.if_icmp .le 7, 3) := by decide +kernel
theorem dX8_latest_42 : decode cX8_latest 42 = .ok (.iload_n 3, 1) := by decide +kernel
theorem dX8_latest_43 : decode cX8_latest 43 = .ok (.goto 4, 3) := by decide +kernel
theorem dX8_latest_46 : decode cX8_latest 46 = .ok (.iload_n 2, 1) := by decide +kernel
theorem dX8_latest_47 : decode cX8_latest 47 = .ok (.istore_n 2, 1) := by decide +kernel
theorem dX8_latest_48 : decode cX8_latest 48 = .ok (.iinc 3 1, 3) := by decide +kernel
theorem dX8_latest_51 : decode cX8_latest 51 = .ok (.goto (-47), 3) := by decide +kernel
theorem dX8_latest_54 : decode cX8_latest 54 = .ok (.iload_n 2, 1) := by decide +kernel
theorem dX8_latest_55 : decode cX8_latest 55 = .ok (.ireturn, 1) := by decide +kernel
set_option maxRecDepth 20000 in
theorem ggX8_part_X8_isBody : GoodIn wsX8_part wsX8_isBody := goodIn_r _ [6, 7, 8, 9, 5, 10, 21, 22, 23, 24, 25, 26, 27, 28, 29, 30, 31, 32, 33, 34, 35, 36, 37, 38, 39, 40, 41, 42, 43, 44, 45, 46, 47, 48, 49, 50, 51, 52] (by decide +kernel) (by decide +kernel)
set_option maxRecDepth 20000 in
theorem gX8_part_X8_isBody : GoodIn wsX8_part (wsV RX8 164 RX8 yX8_isBody wsX8_isBody) := goodIn_app (goodIn_of _ (by decide +kernel)) ggX8_part_X8_isBody
set_option maxRecDepth 20000 in
theorem ggX8_part_X8_latest : GoodIn wsX8_part wsX8_latest := goodIn_r _ [14, 7, 1, 15, 21, 22, 23, 24, 25, 26, 27, 28, 29, 30, 31, 32, 33, 34, 35, 36, 37, 38, 39, 40, 41, 42, 43, 44, 45, 46, 47, 48, 49, 50, 51, 52] (by decide +kernel) (by decide +kernel)
set_option maxRecDepth 20000 in
theorem gX8_part_X8_latest : GoodIn wsX8_part (wsV RX8 185 RX8 yX8_latest wsX8_latest) := goodIn_app (goodIn_of _ (by decide +kernel)) ggX8_part_X8_latest
set_option maxRecDepth 20000 in
theorem ggX8_part_X8_can : GoodIn wsX8_part wsX8_can := goodIn_r _ [19, 20, 21, 22, 23, 24, 25, 26, 27, 28, 29, 30, 31, 32, 33, 34, 35, 36, 37, 38, 39, 40, 41, 42, 43, 44, 45, 46, 47, 48, 49, 50, 51, 52] (by decide +kernel) (by decide +kernel)
set_option maxRecDepth 20000 in
theorem gX8_part_X8_can : GoodIn wsX8_part (wsV RX8 101 RX8 yX8_can wsX8_can) := goodIn_app (goodIn_of _ (by decide +kernel)) ggX8_part_X8_can
theorem dX8_part_0 : decode cX8_part 0 = .ok (.aload_n 0, 1) := by decide +kernel
theorem dX8_part_1 : decode cX8_part 1 = .ok (.iload_n 1, 1) := by decide +kernel
theorem dX8_part_2 : decode cX8_part 2 = .ok (.invokevirtual 164, 3) := by decide +kernel
theorem dX8_part_5 : decode cX8_part 5 = .ok (.istore_n 2, 1) := by decide +kernel
theorem dX8_part_6 : decode cX8_part 6 = .ok (.iload_n 2, 1) := by decide +kernel
theorem dX8_part_7 : decode cX8_part 7 = .ok (.ifCond .eq 11, 3) := by decide +kernel
theorem dX8_part_10 : decode cX8_part 10 = .ok (.aload_n 0, 1) := by decide +kernel
theorem dX8_part_11 : decode cX8_part 11 = .ok (.iload_n 1, 1) := by decide +kernel
theorem dX8_part_12 : decode cX8_part 12 = .ok (.invokevirtual 185, 3) := by decide +kernel
theorem dX8_part_15 : decode cX8_part 15 = .ok (.goto 4, 3) := by decide +kernel
theorem dX8_part_18 : decode cX8_part 18 = .ok (.iconst (-1), 1) := by decide +kernel
theorem dX8_part_19 : decode cX8_part 19 = .ok (.istore_n 3, 1) := by decide +kernel
theorem dX8_part_20 : decode cX8_part 20 = .ok (.aload_n 0, 1) := by decide +kernel
theorem dX8_part_21 : decode cX8_part 21 = .ok (.iload_n 2, 1) := by decide +kernel
theorem dX8_part_22 : decode cX8_part 22 = .ok (.ifCond .ne 7, 3) := by decide +kernel
theorem dX8_part_25 : decode cX8_part 25 = .ok (.iconst 1, 1) := by decide +kernel
theorem dX8_part_26 : decode cX8_part 26 = .ok (.goto 13, 3) := by decide +kernel
theorem dX8_part_29 : decode cX8_part 29 = .ok (.iload_n 3, 1) := by decide +kernel
theorem dX8_part_30 : decode cX8_part 30 = .ok (.iconst (-1), 1) := by decide +kernel
theorem dX8_part_31 : decode cX8_part 31 = .ok (.if_icmp .ne 7, 3) := by decide +kernel
theorem dX8_part_34 : decode cX8_part 34 = .ok (.iconst 2, 1) := by decide +kernel
theorem dX8_part_35 : decode cX8_part 35 = .ok (.goto 4, 3) := by decide +kernel
theorem dX8_part_38 : decode cX8_part 38 = .ok (.iconst 0, 1) := by decide +kernel
theorem dX8_part_39 : decode cX8_part 39 = .ok (.invokevirtual 101, 3) := by decide +kernel
theorem dX8_part_42 : decode cX8_part 42 = .ok (.ifCond .ne 5, 3) := by decide +kernel
theorem dX8_part_45 : decode cX8_part 45 = .ok (.iconst 0, 1) := by decide +kernel
theorem dX8_part_46 : decode cX8_part 46 = .ok (.ireturn, 1) := by decide +kernel
theorem dX8_part_47 : decode cX8_part 47 = .ok (.aload_n 0, 1) := by decide +kernel
theorem dX8_part_48 : decode cX8_part 48 = .ok (.getfield 34, 3) := by decide +kernel
theorem dX8_part_51 : decode cX8_part 51 = .ok (.iload_n 3, 1) := by decide +kernel
theorem dX8_part_52 : decode cX8_part 52 = .ok (.iconst (-1), 1) := by decide +kernel
theorem dX8_part_53 : decode cX8_part 53 = .ok (.iastore, 1) := by decide +kernel
theorem dX8_part_54 : decode cX8_part 54 = .ok (.iload_n 3, 1) := by decide +kernel
theorem dX8_part_55 : decode cX8_part 55 = .ok (.ireturn, 1) := by decide +kernel
set_option maxRecDepth 20000 in
theorem ggX8_canNumber_X8_lays : GoodIn wsX8_canNumber wsX8_lays := goodIn_r _ [10, 3, 11, 12, 13, 9, 14, 15, 16, 4, 17, 18, 19, 20, 1, 64, 65, 66, 67, 68, 69, 70, 71, 72, 73, 74, 75, 76, 77, 78, 79, 80, 81, 82, 83, 84, 85, 86, 87, 88, 89, 90, 91, 92, 93, 94, 95] (by decide +kernel) (by decide +kernel)
set_option maxRecDepth 20000 in
theorem gX8_canNumber_X8_lays : GoodIn wsX8_canNumber (wsV RX8 154 RX8 yX8_lays wsX8_lays) := goodIn_app (goodIn_of _ (by decide +kernel)) ggX8_canNumber_X8_lays
set_option maxRecDepth 20000 in
theorem ggX8_canNumber_X8_nightOf : GoodIn wsX8_canNumber wsX8_nightOf := goodIn_r _ [24, 25, 26, 64, 65, 66, 67, 68, 69, 70, 71, 72, 73, 74, 75, 76, 77, 78, 79, 80, 81, 82, 83, 84, 85, 86, 87, 88, 89, 90, 91, 92, 93, 94, 95] (by decide +kernel) (by decide +kernel)
set_option maxRecDepth 20000 in
theorem gX8_canNumber_X8_nightOf : GoodIn wsX8_canNumber (wsV RX8 117 RX8 yX8_nightOf wsX8_nightOf) := goodIn_app (goodIn_of _ (by decide +kernel)) ggX8_canNumber_X8_nightOf
set_option maxRecDepth 20000 in
theorem ggX8_canNumber_X8_hasOrbit : GoodIn wsX8_canNumber wsX8_hasOrbit := goodIn_r _ [30, 5, 31, 32, 33, 9, 34, 4, 35, 36, 37, 38, 39, 40, 41, 26, 42, 43, 44, 45, 46, 47, 48, 49, 50, 21, 22, 23, 24, 25, 51, 52, 53, 54, 55, 56, 57, 3, 58, 59, 60, 61, 62, 63, 64, 65, 66, 67, 68, 69, 70, 71, 72, 73, 74, 75, 76, 77, 78, 79, 80, 81, 82, 83, 84, 85, 86, 87, 88, 89, 90, 91, 92, 93, 94, 95] (by decide +kernel) (by decide +kernel)
set_option maxRecDepth 20000 in
theorem gX8_canNumber_X8_hasOrbit : GoodIn wsX8_canNumber (wsV RX8 160 RX8 yX8_hasOrbit wsX8_hasOrbit) := goodIn_app (goodIn_of _ (by decide +kernel)) ggX8_canNumber_X8_hasOrbit
theorem dX8_canNumber_0 : decode cX8_canNumber 0 = .ok (.aload_n 0, 1) := by decide +kernel
theorem dX8_canNumber_1 : decode cX8_canNumber 1 = .ok (.getfield 34, 3) := by decide +kernel
theorem dX8_canNumber_4 : decode cX8_canNumber 4 = .ok (.iload_n 1, 1) := by decide +kernel
theorem dX8_canNumber_5 : decode cX8_canNumber 5 = .ok (.iaload, 1) := by decide +kernel
theorem dX8_canNumber_6 : decode cX8_canNumber 6 = .ok (.iconst (-1), 1) := by decide +kernel
theorem dX8_canNumber_7 : decode cX8_canNumber 7 = .ok (.if_icmp .ne 12, 3) := by decide +kernel
theorem dX8_canNumber_10 : decode cX8_canNumber 10 = .ok (.aload_n 0, 1) := by decide +kernel
theorem dX8_canNumber_11 : decode cX8_canNumber 11 = .ok (.getfield 40, 3) := by decide +kernel
theorem dX8_canNumber_14 : decode cX8_canNumber 14 = .ok (.iload_n 1, 1) := by decide +kernel
theorem dX8_canNumber_15 : decode cX8_canNumber 15 = .ok (.iaload, 1) := by decide +kernel
theorem dX8_canNumber_16 : decode cX8_canNumber 16 = .ok (.ifCond .le 5, 3) := by decide +kernel
theorem dX8_canNumber_19 : decode cX8_canNumber 19 = .ok (.iconst 0, 1) := by decide +kernel
theorem dX8_canNumber_20 : decode cX8_canNumber 20 = .ok (.ireturn, 1) := by decide +kernel
theorem dX8_canNumber_21 : decode cX8_canNumber 21 = .ok (.aload_n 0, 1) := by decide +kernel
theorem dX8_canNumber_22 : decode cX8_canNumber 22 = .ok (.iload_n 1, 1) := by decide +kernel
theorem dX8_canNumber_23 : decode cX8_canNumber 23 = .ok (.invokevirtual 154, 3) := by decide +kernel
theorem dX8_canNumber_26 : decode cX8_canNumber 26 = .ok (.sipush 1000, 3) := by decide +kernel
theorem dX8_canNumber_29 : decode cX8_canNumber 29 = .ok (.istore_n 2, 1) := by decide +kernel
theorem dX8_canNumber_30 : decode cX8_canNumber 30 = .ok (.iconst 0, 1) := by decide +kernel
theorem dX8_canNumber_31 : decode cX8_canNumber 31 = .ok (.istore_n 3, 1) := by decide +kernel
theorem dX8_canNumber_32 : decode cX8_canNumber 32 = .ok (.iconst 0, 1) := by decide +kernel
theorem dX8_canNumber_33 : decode cX8_canNumber 33 = .ok (.istore 4, 2) := by decide +kernel
theorem dX8_canNumber_35 : decode cX8_canNumber 35 = .ok (.iconst 0, 1) := by decide +kernel
theorem dX8_canNumber_36 : decode cX8_canNumber 36 = .ok (.istore 5, 2) := by decide +kernel
theorem dX8_canNumber_38 : decode cX8_canNumber 38 = .ok (.iload 5, 2) := by decide +kernel
theorem dX8_canNumber_40 : decode cX8_canNumber 40 = .ok (.aload_n 0, 1) := by decide +kernel
theorem dX8_canNumber_41 : decode cX8_canNumber 41 = .ok (.getfield 127, 3) := by decide +kernel
theorem dX8_canNumber_44 : decode cX8_canNumber 44 = .ok (.if_icmp .ge 110, 3) := by decide +kernel
theorem dX8_canNumber_47 : decode cX8_canNumber 47 = .ok (.aload_n 0, 1) := by decide +kernel
theorem dX8_canNumber_48 : decode cX8_canNumber 48 = .ok (.aload_n 0, 1) := by decide +kernel
theorem dX8_canNumber_49 : decode cX8_canNumber 49 = .ok (.getfield 49, 3) := by decide +kernel
theorem dX8_canNumber_52 : decode cX8_canNumber 52 = .ok (.iload 5, 2) := by decide +kernel
theorem dX8_canNumber_54 : decode cX8_canNumber 54 = .ok (.iaload, 1) := by decide +kernel
theorem dX8_canNumber_55 : decode cX8_canNumber 55 = .ok (.invokevirtual 117, 3) := by decide +kernel
theorem dX8_canNumber_58 : decode cX8_canNumber 58 = .ok (.istore 6, 2) := by decide +kernel
theorem dX8_canNumber_60 : decode cX8_canNumber 60 = .ok (.iconst 0, 1) := by decide +kernel
theorem dX8_canNumber_61 : decode cX8_canNumber 61 = .ok (.istore 7, 2) := by decide +kernel
theorem dX8_canNumber_63 : decode cX8_canNumber 63 = .ok (.iconst 0, 1) := by decide +kernel
theorem dX8_canNumber_64 : decode cX8_canNumber 64 = .ok (.istore 8, 2) := by decide +kernel
theorem dX8_canNumber_66 : decode cX8_canNumber 66 = .ok (.iload 8, 2) := by decide +kernel
theorem dX8_canNumber_68 : decode cX8_canNumber 68 = .ok (.iload 5, 2) := by decide +kernel
theorem dX8_canNumber_70 : decode cX8_canNumber 70 = .ok (.if_icmp .ge 37, 3) := by decide +kernel
theorem dX8_canNumber_73 : decode cX8_canNumber 73 = .ok (.iload 7, 2) := by decide +kernel
theorem dX8_canNumber_75 : decode cX8_canNumber 75 = .ok (.ifCond .ne 19, 3) := by decide +kernel
theorem dX8_canNumber_78 : decode cX8_canNumber 78 = .ok (.aload_n 0, 1) := by decide +kernel
theorem dX8_canNumber_79 : decode cX8_canNumber 79 = .ok (.aload_n 0, 1) := by decide +kernel
theorem dX8_canNumber_80 : decode cX8_canNumber 80 = .ok (.getfield 49, 3) := by decide +kernel
theorem dX8_canNumber_83 : decode cX8_canNumber 83 = .ok (.iload 8, 2) := by decide +kernel
theorem dX8_canNumber_85 : decode cX8_canNumber 85 = .ok (.iaload, 1) := by decide +kernel
theorem dX8_canNumber_86 : decode cX8_canNumber 86 = .ok (.invokevirtual 117, 3) := by decide +kernel
theorem dX8_canNumber_89 : decode cX8_canNumber 89 = .ok (.iload 6, 2) := by decide +kernel
theorem dX8_canNumber_91 : decode cX8_canNumber 91 = .ok (.if_icmp .ne 7, 3) := by decide +kernel
theorem dX8_canNumber_94 : decode cX8_canNumber 94 = .ok (.iconst 1, 1) := by decide +kernel
theorem dX8_canNumber_95 : decode cX8_canNumber 95 = .ok (.goto 4, 3) := by decide +kernel
theorem dX8_canNumber_98 : decode cX8_canNumber 98 = .ok (.iconst 0, 1) := by decide +kernel
theorem dX8_canNumber_99 : decode cX8_canNumber 99 = .ok (.istore 7, 2) := by decide +kernel
theorem dX8_canNumber_101 : decode cX8_canNumber 101 = .ok (.iinc 8 1, 3) := by decide +kernel
theorem dX8_canNumber_104 : decode cX8_canNumber 104 = .ok (.goto (-38), 3) := by decide +kernel
theorem dX8_canNumber_107 : decode cX8_canNumber 107 = .ok (.iload 4, 2) := by decide +kernel
theorem dX8_canNumber_109 : decode cX8_canNumber 109 = .ok (.iload 7, 2) := by decide +kernel
theorem dX8_canNumber_111 : decode cX8_canNumber 111 = .ok (.ifCond .eq 7, 3) := by decide +kernel
theorem dX8_canNumber_114 : decode cX8_canNumber 114 = .ok (.iconst 0, 1) := by decide +kernel
theorem dX8_canNumber_115 : decode cX8_canNumber 115 = .ok (.goto 4, 3) := by decide +kernel
theorem dX8_canNumber_118 : decode cX8_canNumber 118 = .ok (.iconst 1, 1) := by decide +kernel
theorem dX8_canNumber_119 : decode cX8_canNumber 119 = .ok (.iadd, 1) := by decide +kernel
theorem dX8_canNumber_120 : decode cX8_canNumber 120 = .ok (.istore 4, 2) := by decide +kernel
theorem dX8_canNumber_122 : decode cX8_canNumber 122 = .ok (.iload 6, 2) := by decide +kernel
theorem dX8_canNumber_124 : decode cX8_canNumber 124 = .ok (.iload_n 2, 1) := by decide +kernel
theorem dX8_canNumber_125 : decode cX8_canNumber 125 = .ok (.if_icmp .ge 8, 3) := by decide +kernel
theorem dX8_canNumber_128 : decode cX8_canNumber 128 = .ok (.iload 6, 2) := by decide +kernel
theorem dX8_canNumber_130 : decode cX8_canNumber 130 = .ok (.goto 4, 3) := by decide +kernel
theorem dX8_canNumber_133 : decode cX8_canNumber 133 = .ok (.iload_n 2, 1) := by decide +kernel
theorem dX8_canNumber_134 : decode cX8_canNumber 134 = .ok (.istore_n 2, 1) := by decide +kernel
theorem dX8_canNumber_135 : decode cX8_canNumber 135 = .ok (.iload 6, 2) := by decide +kernel
theorem dX8_canNumber_137 : decode cX8_canNumber 137 = .ok (.iload_n 3, 1) := by decide +kernel
theorem dX8_canNumber_138 : decode cX8_canNumber 138 = .ok (.if_icmp .le 8, 3) := by decide +kernel
theorem dX8_canNumber_141 : decode cX8_canNumber 141 = .ok (.iload 6, 2) := by decide +kernel
theorem dX8_canNumber_143 : decode cX8_canNumber 143 = .ok (.goto 4, 3) := by decide +kernel
theorem dX8_canNumber_146 : decode cX8_canNumber 146 = .ok (.iload_n 3, 1) := by decide +kernel
theorem dX8_canNumber_147 : decode cX8_canNumber 147 = .ok (.istore_n 3, 1) := by decide +kernel
theorem dX8_canNumber_148 : decode cX8_canNumber 148 = .ok (.iinc 5 1, 3) := by decide +kernel
theorem dX8_canNumber_151 : decode cX8_canNumber 151 = .ok (.goto (-113), 3) := by decide +kernel
theorem dX8_canNumber_154 : decode cX8_canNumber 154 = .ok (.iload 4, 2) := by decide +kernel
theorem dX8_canNumber_156 : decode cX8_canNumber 156 = .ok (.iconst 2, 1) := by decide +kernel
theorem dX8_canNumber_157 : decode cX8_canNumber 157 = .ok (.if_icmp .le 30, 3) := by decide +kernel
theorem dX8_canNumber_160 : decode cX8_canNumber 160 = .ok (.iload_n 3, 1) := by decide +kernel
theorem dX8_canNumber_161 : decode cX8_canNumber 161 = .ok (.iload_n 2, 1) := by decide +kernel
theorem dX8_canNumber_162 : decode cX8_canNumber 162 = .ok (.isub, 1) := by decide +kernel
theorem dX8_canNumber_163 : decode cX8_canNumber 163 = .ok (.bipush 29, 2) := by decide +kernel
theorem dX8_canNumber_165 : decode cX8_canNumber 165 = .ok (.if_icmp .le 22, 3) := by decide +kernel
theorem dX8_canNumber_168 : decode cX8_canNumber 168 = .ok (.aload_n 0, 1) := by decide +kernel
theorem dX8_canNumber_169 : decode cX8_canNumber 169 = .ok (.invokevirtual 160, 3) := by decide +kernel
theorem dX8_canNumber_172 : decode cX8_canNumber 172 = .ok (.ifCond .eq 15, 3) := by decide +kernel
theorem dX8_canNumber_175 : decode cX8_canNumber 175 = .ok (.aload_n 0, 1) := by decide +kernel
theorem dX8_canNumber_176 : decode cX8_canNumber 176 = .ok (.getfield 145, 3) := by decide +kernel
theorem dX8_canNumber_179 : decode cX8_canNumber 179 = .ok (.iconst 1, 1) := by decide +kernel
theorem dX8_canNumber_180 : decode cX8_canNumber 180 = .ok (.if_icmp .ne 7, 3) := by decide +kernel
theorem dX8_canNumber_183 : decode cX8_canNumber 183 = .ok (.iconst 1, 1) := by decide +kernel
theorem dX8_canNumber_184 : decode cX8_canNumber 184 = .ok (.goto 4, 3) := by decide +kernel
theorem dX8_canNumber_187 : decode cX8_canNumber 187 = .ok (.iconst 0, 1) := by decide +kernel
theorem dX8_canNumber_188 : decode cX8_canNumber 188 = .ok (.ireturn, 1) := by decide +kernel
set_option maxRecDepth 20000 in
theorem ggX8_number_X8_isBody : GoodIn wsX8_number wsX8_isBody := goodIn_r _ [10, 11, 12, 13, 9, 14, 84, 85, 86, 87, 88, 89, 90, 91, 92, 93, 94, 95, 96, 97, 98, 99, 100, 101, 102, 103, 104, 105, 106, 107, 108, 109, 110, 111, 112, 113, 114, 115] (by decide +kernel) (by decide +kernel)
set_option maxRecDepth 20000 in
theorem gX8_number_X8_isBody : GoodIn wsX8_number (wsV RX8 164 RX8 yX8_isBody wsX8_isBody) := goodIn_app (goodIn_of _ (by decide +kernel)) ggX8_number_X8_isBody
set_option maxRecDepth 20000 in
theorem ggX8_number_X8_canNumber : GoodIn wsX8_number wsX8_canNumber := goodIn_r _ [18, 19, 2, 20, 21, 22, 23, 24, 25, 9, 26, 27, 28, 29, 30, 31, 32, 33, 34, 35, 36, 37, 38, 39, 40, 41, 42, 43, 44, 45, 46, 47, 48, 49, 50, 4, 51, 52, 53, 54, 55, 56, 57, 58, 59, 60, 61, 62, 63, 64, 65, 66, 67, 68, 69, 70, 71, 72, 73, 74, 75, 76, 77, 78, 84, 85, 86, 87, 88, 89, 90, 91, 92, 93, 94, 95, 96, 97, 98, 99, 100, 101, 102, 103, 104, 105, 106, 107, 108, 109, 110, 111, 112, 113, 114, 115] (by decide +kernel) (by decide +kernel)
set_option maxRecDepth 20000 in
theorem gX8_number_X8_canNumber : GoodIn wsX8_number (wsV RX8 188 RX8 yX8_canNumber wsX8_canNumber) := goodIn_app (goodIn_of _ (by decide +kernel)) ggX8_number_X8_canNumber
set_option maxRecDepth 20000 in
theorem ggX8_number_X8_can : GoodIn wsX8_number wsX8_can := goodIn_r _ [82, 83, 84, 85, 86, 87, 88, 89, 90, 91, 92, 93, 94, 95, 96, 97, 98, 99, 100, 101, 102, 103, 104, 105, 106, 107, 108, 109, 110, 111, 112, 113, 114, 115] (by decide +kernel) (by decide +kernel)
set_option maxRecDepth 20000 in
theorem gX8_number_X8_can : GoodIn wsX8_number (wsV RX8 101 RX8 yX8_can wsX8_can) := goodIn_app (goodIn_of _ (by decide +kernel)) ggX8_number_X8_can
theorem dX8_number_0 : decode cX8_number 0 = .ok (.aload_n 0, 1) := by decide +kernel
theorem dX8_number_1 : decode cX8_number 1 = .ok (.iload_n 1, 1) := by decide +kernel
theorem dX8_number_2 : decode cX8_number 2 = .ok (.invokevirtual 164, 3) := by decide +kernel
theorem dX8_number_5 : decode cX8_number 5 = .ok (.istore_n 2, 1) := by decide +kernel
theorem dX8_number_6 : decode cX8_number 6 = .ok (.aload_n 0, 1) := by decide +kernel
theorem dX8_number_7 : decode cX8_number 7 = .ok (.iload_n 2, 1) := by decide +kernel
theorem dX8_number_8 : decode cX8_number 8 = .ok (.ifCond .ne 7, 3) := by decide +kernel
theorem dX8_number_11 : decode cX8_number 11 = .ok (.iconst 1, 1) := by decide +kernel
theorem dX8_number_12 : decode cX8_number 12 = .ok (.goto 16, 3) := by decide +kernel
theorem dX8_number_15 : decode cX8_number 15 = .ok (.aload_n 0, 1) := by decide +kernel
theorem dX8_number_16 : decode cX8_number 16 = .ok (.iload_n 1, 1) := by decide +kernel
theorem dX8_number_17 : decode cX8_number 17 = .ok (.invokevirtual 188, 3) := by decide +kernel
theorem dX8_number_20 : decode cX8_number 20 = .ok (.ifCond .eq 7, 3) := by decide +kernel
theorem dX8_number_23 : decode cX8_number 23 = .ok (.iconst 0, 1) := by decide +kernel
theorem dX8_number_24 : decode cX8_number 24 = .ok (.goto 4, 3) := by decide +kernel
theorem dX8_number_27 : decode cX8_number 27 = .ok (.iconst 2, 1) := by decide +kernel
theorem dX8_number_28 : decode cX8_number 28 = .ok (.invokevirtual 101, 3) := by decide +kernel
theorem dX8_number_31 : decode cX8_number 31 = .ok (.ifCond .ne 5, 3) := by decide +kernel
theorem dX8_number_34 : decode cX8_number 34 = .ok (.iconst 0, 1) := by decide +kernel
theorem dX8_number_35 : decode cX8_number 35 = .ok (.ireturn, 1) := by decide +kernel
theorem dX8_number_36 : decode cX8_number 36 = .ok (.aload_n 0, 1) := by decide +kernel
theorem dX8_number_37 : decode cX8_number 37 = .ok (.dup, 1) := by decide +kernel
theorem dX8_number_38 : decode cX8_number 38 = .ok (.getfield 191, 3) := by decide +kernel
theorem dX8_number_41 : decode cX8_number 41 = .ok (.iconst 1, 1) := by decide +kernel
theorem dX8_number_42 : decode cX8_number 42 = .ok (.iadd, 1) := by decide +kernel
theorem dX8_number_43 : decode cX8_number 43 = .ok (.putfield 191, 3) := by decide +kernel
theorem dX8_number_46 : decode cX8_number 46 = .ok (.aload_n 0, 1) := by decide +kernel
theorem dX8_number_47 : decode cX8_number 47 = .ok (.getfield 40, 3) := by decide +kernel
theorem dX8_number_50 : decode cX8_number 50 = .ok (.iload_n 1, 1) := by decide +kernel
theorem dX8_number_51 : decode cX8_number 51 = .ok (.aload_n 0, 1) := by decide +kernel
theorem dX8_number_52 : decode cX8_number 52 = .ok (.getfield 191, 3) := by decide +kernel
theorem dX8_number_55 : decode cX8_number 55 = .ok (.iastore, 1) := by decide +kernel
theorem dX8_number_56 : decode cX8_number 56 = .ok (.aload_n 0, 1) := by decide +kernel
theorem dX8_number_57 : decode cX8_number 57 = .ok (.getfield 43, 3) := by decide +kernel
theorem dX8_number_60 : decode cX8_number 60 = .ok (.iload_n 1, 1) := by decide +kernel
theorem dX8_number_61 : decode cX8_number 61 = .ok (.aload_n 0, 1) := by decide +kernel
theorem dX8_number_62 : decode cX8_number 62 = .ok (.getfield 52, 3) := by decide +kernel
theorem dX8_number_65 : decode cX8_number 65 = .ok (.iconst 0, 1) := by decide +kernel
theorem dX8_number_66 : decode cX8_number 66 = .ok (.iaload, 1) := by decide +kernel
theorem dX8_number_67 : decode cX8_number 67 = .ok (.sipush 405, 3) := by decide +kernel
theorem dX8_number_70 : decode cX8_number 70 = .ok (.irem, 1) := by decide +kernel
theorem dX8_number_71 : decode cX8_number 71 = .ok (.iconst 5, 1) := by decide +kernel
theorem dX8_number_72 : decode cX8_number 72 = .ok (.idiv, 1) := by decide +kernel
theorem dX8_number_73 : decode cX8_number 73 = .ok (.bipush 40, 2) := by decide +kernel
theorem dX8_number_75 : decode cX8_number 75 = .ok (.isub, 1) := by decide +kernel
theorem dX8_number_76 : decode cX8_number 76 = .ok (.iastore, 1) := by decide +kernel
theorem dX8_number_77 : decode cX8_number 77 = .ok (.aload_n 0, 1) := by decide +kernel
theorem dX8_number_78 : decode cX8_number 78 = .ok (.getfield 46, 3) := by decide +kernel
theorem dX8_number_81 : decode cX8_number 81 = .ok (.iload_n 1, 1) := by decide +kernel
theorem dX8_number_82 : decode cX8_number 82 = .ok (.aload_n 0, 1) := by decide +kernel
theorem dX8_number_83 : decode cX8_number 83 = .ok (.getfield 52, 3) := by decide +kernel
theorem dX8_number_86 : decode cX8_number 86 = .ok (.iconst 0, 1) := by decide +kernel
theorem dX8_number_87 : decode cX8_number 87 = .ok (.iaload, 1) := by decide +kernel
theorem dX8_number_88 : decode cX8_number 88 = .ok (.iconst 5, 1) := by decide +kernel
theorem dX8_number_89 : decode cX8_number 89 = .ok (.irem, 1) := by decide +kernel
theorem dX8_number_90 : decode cX8_number 90 = .ok (.iconst 2, 1) := by decide +kernel
theorem dX8_number_91 : decode cX8_number 91 = .ok (.isub, 1) := by decide +kernel
theorem dX8_number_92 : decode cX8_number 92 = .ok (.iastore, 1) := by decide +kernel
theorem dX8_number_93 : decode cX8_number 93 = .ok (.aload_n 0, 1) := by decide +kernel
theorem dX8_number_94 : decode cX8_number 94 = .ok (.getfield 191, 3) := by decide +kernel
theorem dX8_number_97 : decode cX8_number 97 = .ok (.ireturn, 1) := by decide +kernel
theorem dX8_joinedTo_0 : decode cX8_joinedTo 0 = .ok (.iconst 0, 1) := by decide +kernel
theorem dX8_joinedTo_1 : decode cX8_joinedTo 1 = .ok (.istore_n 2, 1) := by decide +kernel
theorem dX8_joinedTo_2 : decode cX8_joinedTo 2 = .ok (.iconst 0, 1) := by decide +kernel
theorem dX8_joinedTo_3 : decode cX8_joinedTo 3 = .ok (.istore_n 3, 1) := by decide +kernel
theorem dX8_joinedTo_4 : decode cX8_joinedTo 4 = .ok (.iload_n 3, 1) := by decide +kernel
theorem dX8_joinedTo_5 : decode cX8_joinedTo 5 = .ok (.aload_n 0, 1) := by decide +kernel
theorem dX8_joinedTo_6 : decode cX8_joinedTo 6 = .ok (.getfield 95, 3) := by decide +kernel
theorem dX8_joinedTo_9 : decode cX8_joinedTo 9 = .ok (.if_icmp .ge 27, 3) := by decide +kernel
theorem dX8_joinedTo_12 : decode cX8_joinedTo 12 = .ok (.iload_n 2, 1) := by decide +kernel
theorem dX8_joinedTo_13 : decode cX8_joinedTo 13 = .ok (.aload_n 0, 1) := by decide +kernel
theorem dX8_joinedTo_14 : decode cX8_joinedTo 14 = .ok (.getfield 34, 3) := by decide +kernel
theorem dX8_joinedTo_17 : decode cX8_joinedTo 17 = .ok (.iload_n 3, 1) := by decide +kernel
theorem dX8_joinedTo_18 : decode cX8_joinedTo 18 = .ok (.iaload, 1) := by decide +kernel
theorem dX8_joinedTo_19 : decode cX8_joinedTo 19 = .ok (.iload_n 1, 1) := by decide +kernel
theorem dX8_joinedTo_20 : decode cX8_joinedTo 20 = .ok (.if_icmp .ne 7, 3) := by decide +kernel
theorem dX8_joinedTo_23 : decode cX8_joinedTo 23 = .ok (.iconst 1, 1) := by decide +kernel
theorem dX8_joinedTo_24 : decode cX8_joinedTo 24 = .ok (.goto 4, 3) := by decide +kernel
theorem dX8_joinedTo_27 : decode cX8_joinedTo 27 = .ok (.iconst 0, 1) := by decide +kernel
theorem dX8_joinedTo_28 : decode cX8_joinedTo 28 = .ok (.iadd, 1) := by decide +kernel
theorem dX8_joinedTo_29 : decode cX8_joinedTo 29 = .ok (.istore_n 2, 1) := by decide +kernel
theorem dX8_joinedTo_30 : decode cX8_joinedTo 30 = .ok (.iinc 3 1, 3) := by decide +kernel
theorem dX8_joinedTo_33 : decode cX8_joinedTo 33 = .ok (.goto (-29), 3) := by decide +kernel
theorem dX8_joinedTo_36 : decode cX8_joinedTo 36 = .ok (.iload_n 2, 1) := by decide +kernel
theorem dX8_joinedTo_37 : decode cX8_joinedTo 37 = .ok (.ireturn, 1) := by decide +kernel
set_option maxRecDepth 20000 in
theorem ggX8_looksOf_X8_lays : GoodIn wsX8_looksOf wsX8_lays := goodIn_r _ [6, 1, 7, 8, 9, 5, 10, 11, 12, 13, 14, 15, 16, 17, 18, 19, 20, 21, 22, 23, 24, 25, 26, 27, 28, 29, 30, 31, 32, 33, 34, 35, 36, 37, 38, 39, 40, 41, 42, 43, 44, 45, 46, 47, 48, 49, 50] (by decide +kernel) (by decide +kernel)
set_option maxRecDepth 20000 in
theorem gX8_looksOf_X8_lays : GoodIn wsX8_looksOf (wsV RX8 154 RX8 yX8_lays wsX8_lays) := goodIn_app (goodIn_of _ (by decide +kernel)) ggX8_looksOf_X8_lays
theorem dX8_looksOf_0 : decode cX8_looksOf 0 = .ok (.aload_n 0, 1) := by decide +kernel
theorem dX8_looksOf_1 : decode cX8_looksOf 1 = .ok (.iload_n 1, 1) := by decide +kernel
theorem dX8_looksOf_2 : decode cX8_looksOf 2 = .ok (.invokevirtual 154, 3) := by decide +kernel
theorem dX8_looksOf_5 : decode cX8_looksOf 5 = .ok (.aload_n 0, 1) := by decide +kernel
theorem dX8_looksOf_6 : decode cX8_looksOf 6 = .ok (.getfield 127, 3) := by decide +kernel
theorem dX8_looksOf_9 : decode cX8_looksOf 9 = .ok (.ireturn, 1) := by decide +kernel
set_option maxRecDepth 20000 in
theorem ggX8_ofBody_X8_isBody : GoodIn wsX8_ofBody wsX8_isBody := goodIn_r _ [9, 10, 11, 12, 8, 13, 56, 57, 58, 59, 60, 61, 62, 63, 64, 65, 66, 67, 68, 69, 70, 71, 72, 73, 74, 75, 76, 77, 78, 79, 80, 81, 82, 83, 84, 85, 86, 87] (by decide +kernel) (by decide +kernel)
set_option maxRecDepth 20000 in
theorem gX8_ofBody_X8_isBody : GoodIn wsX8_ofBody (wsV RX8 164 RX8 yX8_isBody wsX8_isBody) := goodIn_app (goodIn_of _ (by decide +kernel)) ggX8_ofBody_X8_isBody
set_option maxRecDepth 20000 in
theorem ggX8_ofBody_X8_isIn : GoodIn wsX8_ofBody wsX8_isIn := goodIn_r _ [13] (by decide +kernel) (by decide +kernel)
set_option maxRecDepth 20000 in
theorem gX8_ofBody_X8_isIn : GoodIn wsX8_ofBody (va_wsS RX8 88 yX8_isIn wsX8_isIn) := goodIn_app (goodIn_of _ (by decide +kernel)) ggX8_ofBody_X8_isIn
set_option maxRecDepth 20000 in
theorem ggX8_ofBody_X8_can : GoodIn wsX8_ofBody wsX8_can := goodIn_r _ [17, 18, 56, 57, 58, 59, 60, 61, 62, 63, 64, 65, 66, 67, 68, 69, 70, 71, 72, 73, 74, 75, 76, 77, 78, 79, 80, 81, 82, 83, 84, 85, 86, 87] (by decide +kernel) (by decide +kernel)
set_option maxRecDepth 20000 in
theorem gX8_ofBody_X8_can : GoodIn wsX8_ofBody (wsV RX8 101 RX8 yX8_can wsX8_can) := goodIn_app (goodIn_of _ (by decide +kernel)) ggX8_ofBody_X8_can
set_option maxRecDepth 20000 in
theorem ggX8_ofBody_X8_looksOf : GoodIn wsX8_ofBody wsX8_looksOf := goodIn_r _ [22, 23, 24, 25, 26, 8, 27, 28, 29, 30, 31, 32, 33, 34, 35, 36, 37, 38, 1, 56, 57, 58, 59, 60, 61, 62, 63, 64, 65, 66, 67, 68, 69, 70, 71, 72, 73, 74, 75, 76, 77, 78, 79, 80, 81, 82, 83, 84, 85, 86, 87] (by decide +kernel) (by decide +kernel)
set_option maxRecDepth 20000 in
theorem gX8_ofBody_X8_looksOf : GoodIn wsX8_ofBody (wsV RX8 194 RX8 yX8_looksOf wsX8_looksOf) := goodIn_app (goodIn_of _ (by decide +kernel)) ggX8_ofBody_X8_looksOf
set_option maxRecDepth 20000 in
theorem ggX8_ofBody_X8_ownOf : GoodIn wsX8_ofBody wsX8_ownOf := goodIn_r _ [42, 32, 33, 56, 57, 58, 59, 60, 61, 62, 63, 64, 65, 66, 67, 68, 69, 70, 71, 72, 73, 74, 75, 76, 77, 78, 79, 80, 81, 82, 83, 84, 85, 86, 87] (by decide +kernel) (by decide +kernel)
set_option maxRecDepth 20000 in
theorem gX8_ofBody_X8_ownOf : GoodIn wsX8_ofBody (wsV RX8 170 RX8 yX8_ownOf wsX8_ownOf) := goodIn_app (goodIn_of _ (by decide +kernel)) ggX8_ofBody_X8_ownOf
set_option maxRecDepth 20000 in
theorem ggX8_ofBody_X8_firstOf : GoodIn wsX8_ofBody wsX8_firstOf := goodIn_r _ [46, 34, 23, 24, 25, 26, 8, 27, 28, 29, 30, 31, 32, 33, 35, 36, 37, 38, 1, 47, 48, 49, 50, 51, 3, 56, 57, 58, 59, 60, 61, 62, 63, 64, 65, 66, 67, 68, 69, 70, 71, 72, 73, 74, 75, 76, 77, 78, 79, 80, 81, 82, 83, 84, 85, 86, 87] (by decide +kernel) (by decide +kernel)
set_option maxRecDepth 20000 in
theorem gX8_ofBody_X8_firstOf : GoodIn wsX8_ofBody (wsV RX8 173 RX8 yX8_firstOf wsX8_firstOf) := goodIn_app (goodIn_of _ (by decide +kernel)) ggX8_ofBody_X8_firstOf
set_option maxRecDepth 20000 in
theorem ggX8_ofBody_X8_joinedTo : GoodIn wsX8_ofBody wsX8_joinedTo := goodIn_r _ [55, 10, 1, 56, 57, 58, 59, 60, 61, 62, 63, 64, 65, 66, 67, 68, 69, 70, 71, 72, 73, 74, 75, 76, 77, 78, 79, 80, 81, 82, 83, 84, 85, 86, 87] (by decide +kernel) (by decide +kernel)
set_option maxRecDepth 20000 in
theorem gX8_ofBody_X8_joinedTo : GoodIn wsX8_ofBody (wsV RX8 197 RX8 yX8_joinedTo wsX8_joinedTo) := goodIn_app (goodIn_of _ (by decide +kernel)) ggX8_ofBody_X8_joinedTo
theorem dX8_ofBody_0 : decode cX8_ofBody 0 = .ok (.aload_n 0, 1) := by decide +kernel
theorem dX8_ofBody_1 : decode cX8_ofBody 1 = .ok (.aload_n 0, 1) := by decide +kernel
theorem dX8_ofBody_2 : decode cX8_ofBody 2 = .ok (.iload_n 1, 1) := by decide +kernel
theorem dX8_ofBody_3 : decode cX8_ofBody 3 = .ok (.invokevirtual 164, 3) := by decide +kernel
theorem dX8_ofBody_6 : decode cX8_ofBody 6 = .ok (.ifCond .ne 7, 3) := by decide +kernel
theorem dX8_ofBody_9 : decode cX8_ofBody 9 = .ok (.iconst 1, 1) := by decide +kernel
theorem dX8_ofBody_10 : decode cX8_ofBody 10 = .ok (.goto 18, 3) := by decide +kernel
theorem dX8_ofBody_13 : decode cX8_ofBody 13 = .ok (.iload_n 2, 1) := by decide +kernel
theorem dX8_ofBody_14 : decode cX8_ofBody 14 = .ok (.iconst 0, 1) := by decide +kernel
theorem dX8_ofBody_15 : decode cX8_ofBody 15 = .ok (.bipush 6, 2) := by decide +kernel
theorem dX8_ofBody_17 : decode cX8_ofBody 17 = .ok (.invokestatic 88, 3) := by decide +kernel
theorem dX8_ofBody_20 : decode cX8_ofBody 20 = .ok (.ifCond .eq 7, 3) := by decide +kernel
theorem dX8_ofBody_23 : decode cX8_ofBody 23 = .ok (.iconst 0, 1) := by decide +kernel
theorem dX8_ofBody_24 : decode cX8_ofBody 24 = .ok (.goto 4, 3) := by decide +kernel
theorem dX8_ofBody_27 : decode cX8_ofBody 27 = .ok (.iconst 2, 1) := by decide +kernel
theorem dX8_ofBody_28 : decode cX8_ofBody 28 = .ok (.invokevirtual 101, 3) := by decide +kernel
theorem dX8_ofBody_31 : decode cX8_ofBody 31 = .ok (.ifCond .ne 5, 3) := by decide +kernel
theorem dX8_ofBody_34 : decode cX8_ofBody 34 = .ok (.iconst 0, 1) := by decide +kernel
theorem dX8_ofBody_35 : decode cX8_ofBody 35 = .ok (.ireturn, 1) := by decide +kernel
theorem dX8_ofBody_36 : decode cX8_ofBody 36 = .ok (.iload_n 2, 1) := by decide +kernel
theorem dX8_ofBody_37 : decode cX8_ofBody 37 = .ok (.tableswitch 100 0 5 #[39, 45, 51, 58, 74, 80], 39) := by decide +kernel
theorem dX8_ofBody_76 : decode cX8_ofBody 76 = .ok (.aload_n 0, 1) := by decide +kernel
theorem dX8_ofBody_77 : decode cX8_ofBody 77 = .ok (.iload_n 1, 1) := by decide +kernel
theorem dX8_ofBody_78 : decode cX8_ofBody 78 = .ok (.invokevirtual 194, 3) := by decide +kernel
theorem dX8_ofBody_81 : decode cX8_ofBody 81 = .ok (.ireturn, 1) := by decide +kernel
theorem dX8_ofBody_82 : decode cX8_ofBody 82 = .ok (.aload_n 0, 1) := by decide +kernel
theorem dX8_ofBody_83 : decode cX8_ofBody 83 = .ok (.iload_n 1, 1) := by decide +kernel
theorem dX8_ofBody_84 : decode cX8_ofBody 84 = .ok (.invokevirtual 170, 3) := by decide +kernel
theorem dX8_ofBody_87 : decode cX8_ofBody 87 = .ok (.ireturn, 1) := by decide +kernel
theorem dX8_ofBody_88 : decode cX8_ofBody 88 = .ok (.aload_n 0, 1) := by decide +kernel
theorem dX8_ofBody_89 : decode cX8_ofBody 89 = .ok (.getfield 34, 3) := by decide +kernel
theorem dX8_ofBody_92 : decode cX8_ofBody 92 = .ok (.iload_n 1, 1) := by decide +kernel
theorem dX8_ofBody_93 : decode cX8_ofBody 93 = .ok (.iaload, 1) := by decide +kernel
theorem dX8_ofBody_94 : decode cX8_ofBody 94 = .ok (.ireturn, 1) := by decide +kernel
theorem dX8_ofBody_95 : decode cX8_ofBody 95 = .ok (.aload_n 0, 1) := by decide +kernel
theorem dX8_ofBody_96 : decode cX8_ofBody 96 = .ok (.getfield 16, 3) := by decide +kernel
theorem dX8_ofBody_99 : decode cX8_ofBody 99 = .ok (.aload_n 0, 1) := by decide +kernel
theorem dX8_ofBody_100 : decode cX8_ofBody 100 = .ok (.getfield 22, 3) := by decide +kernel
theorem dX8_ofBody_103 : decode cX8_ofBody 103 = .ok (.aload_n 0, 1) := by decide +kernel
theorem dX8_ofBody_104 : decode cX8_ofBody 104 = .ok (.iload_n 1, 1) := by decide +kernel
theorem dX8_ofBody_105 : decode cX8_ofBody 105 = .ok (.invokevirtual 173, 3) := by decide +kernel
theorem dX8_ofBody_108 : decode cX8_ofBody 108 = .ok (.iaload, 1) := by decide +kernel
theorem dX8_ofBody_109 : decode cX8_ofBody 109 = .ok (.iaload, 1) := by decide +kernel
theorem dX8_ofBody_110 : decode cX8_ofBody 110 = .ok (.ireturn, 1) := by decide +kernel
theorem dX8_ofBody_111 : decode cX8_ofBody 111 = .ok (.aload_n 0, 1) := by decide +kernel
theorem dX8_ofBody_112 : decode cX8_ofBody 112 = .ok (.iload_n 1, 1) := by decide +kernel
theorem dX8_ofBody_113 : decode cX8_ofBody 113 = .ok (.invokevirtual 173, 3) := by decide +kernel
theorem dX8_ofBody_116 : decode cX8_ofBody 116 = .ok (.ireturn, 1) := by decide +kernel
theorem dX8_ofBody_117 : decode cX8_ofBody 117 = .ok (.aload_n 0, 1) := by decide +kernel
theorem dX8_ofBody_118 : decode cX8_ofBody 118 = .ok (.getfield 40, 3) := by decide +kernel
theorem dX8_ofBody_121 : decode cX8_ofBody 121 = .ok (.iload_n 1, 1) := by decide +kernel
theorem dX8_ofBody_122 : decode cX8_ofBody 122 = .ok (.iaload, 1) := by decide +kernel
theorem dX8_ofBody_123 : decode cX8_ofBody 123 = .ok (.ifCond .le 12, 3) := by decide +kernel
theorem dX8_ofBody_126 : decode cX8_ofBody 126 = .ok (.aload_n 0, 1) := by decide +kernel
theorem dX8_ofBody_127 : decode cX8_ofBody 127 = .ok (.getfield 40, 3) := by decide +kernel
theorem dX8_ofBody_130 : decode cX8_ofBody 130 = .ok (.iload_n 1, 1) := by decide +kernel
theorem dX8_ofBody_131 : decode cX8_ofBody 131 = .ok (.iaload, 1) := by decide +kernel
theorem dX8_ofBody_132 : decode cX8_ofBody 132 = .ok (.goto 4, 3) := by decide +kernel
theorem dX8_ofBody_135 : decode cX8_ofBody 135 = .ok (.iconst (-1), 1) := by decide +kernel
theorem dX8_ofBody_136 : decode cX8_ofBody 136 = .ok (.ireturn, 1) := by decide +kernel
theorem dX8_ofBody_137 : decode cX8_ofBody 137 = .ok (.aload_n 0, 1) := by decide +kernel
theorem dX8_ofBody_138 : decode cX8_ofBody 138 = .ok (.iload_n 1, 1) := by decide +kernel
theorem dX8_ofBody_139 : decode cX8_ofBody 139 = .ok (.invokevirtual 197, 3) := by decide +kernel
theorem dX8_ofBody_142 : decode cX8_ofBody 142 = .ok (.ireturn, 1) := by decide +kernel
set_option maxRecDepth 20000 in
theorem ggX8_orbitsOf_X8_lays : GoodIn wsX8_orbitsOf wsX8_lays := goodIn_r _ [6, 7, 8, 9, 10, 5, 11, 12, 13, 14, 15, 16, 17, 18, 19, 59, 60, 61, 62, 63, 64, 65, 66, 67, 68, 69, 70, 71, 72, 73, 74, 75, 76, 77, 78, 79, 80, 81, 82, 83, 84, 85, 86, 87, 88, 89, 90] (by decide +kernel) (by decide +kernel)
set_option maxRecDepth 20000 in
theorem gX8_orbitsOf_X8_lays : GoodIn wsX8_orbitsOf (wsV RX8 154 RX8 yX8_lays wsX8_lays) := goodIn_app (goodIn_of _ (by decide +kernel)) ggX8_orbitsOf_X8_lays
set_option maxRecDepth 20000 in
theorem ggX8_orbitsOf_X8_finds : GoodIn wsX8_orbitsOf wsX8_finds := goodIn_r _ [23, 1, 14, 24, 25, 26, 27, 5, 28, 29, 30, 31, 32, 33, 34, 35, 36, 37, 38, 39, 40, 41, 42, 43, 44, 45, 46, 47, 48, 49, 50, 51, 52, 7, 53, 54, 55, 56, 57, 58, 59, 60, 61, 62, 63, 64, 65, 66, 67, 68, 69, 70, 71, 72, 73, 74, 75, 76, 77, 78, 79, 80, 81, 82, 83, 84, 85, 86, 87, 88, 89, 90] (by decide +kernel) (by decide +kernel)
set_option maxRecDepth 20000 in
theorem gX8_orbitsOf_X8_finds : GoodIn wsX8_orbitsOf (wsV RX8 151 RX8 yX8_finds wsX8_finds) := goodIn_app (goodIn_of _ (by decide +kernel)) ggX8_orbitsOf_X8_finds
theorem dX8_orbitsOf_0 : decode cX8_orbitsOf 0 = .ok (.aload_n 0, 1) := by decide +kernel
theorem dX8_orbitsOf_1 : decode cX8_orbitsOf 1 = .ok (.iload_n 1, 1) := by decide +kernel
theorem dX8_orbitsOf_2 : decode cX8_orbitsOf 2 = .ok (.invokevirtual 154, 3) := by decide +kernel
theorem dX8_orbitsOf_5 : decode cX8_orbitsOf 5 = .ok (.aload_n 0, 1) := by decide +kernel
theorem dX8_orbitsOf_6 : decode cX8_orbitsOf 6 = .ok (.invokevirtual 151, 3) := by decide +kernel
theorem dX8_orbitsOf_9 : decode cX8_orbitsOf 9 = .ok (.aload_n 0, 1) := by decide +kernel
theorem dX8_orbitsOf_10 : decode cX8_orbitsOf 10 = .ok (.getfield 145, 3) := by decide +kernel
theorem dX8_orbitsOf_13 : decode cX8_orbitsOf 13 = .ok (.ireturn, 1) := by decide +kernel
set_option maxRecDepth 20000 in
theorem ggX8_orbits_X8_isBody : GoodIn wsX8_orbits wsX8_isBody := goodIn_r _ [5, 6, 7, 8, 4, 9, 76, 77, 78, 79, 80, 81, 82, 83, 84, 85, 86, 87, 88, 89, 90, 91, 92, 93, 94, 95, 96, 97, 98, 99, 100, 101, 102, 103, 104, 105, 106, 107] (by decide +kernel) (by decide +kernel)
set_option maxRecDepth 20000 in
theorem gX8_orbits_X8_isBody : GoodIn wsX8_orbits (wsV RX8 164 RX8 yX8_isBody wsX8_isBody) := goodIn_app (goodIn_of _ (by decide +kernel)) ggX8_orbits_X8_isBody
set_option maxRecDepth 20000 in
theorem ggX8_orbits_X8_can : GoodIn wsX8_orbits wsX8_can := goodIn_r _ [13, 14, 76, 77, 78, 79, 80, 81, 82, 83, 84, 85, 86, 87, 88, 89, 90, 91, 92, 93, 94, 95, 96, 97, 98, 99, 100, 101, 102, 103, 104, 105, 106, 107] (by decide +kernel) (by decide +kernel)
set_option maxRecDepth 20000 in
theorem gX8_orbits_X8_can : GoodIn wsX8_orbits (wsV RX8 101 RX8 yX8_can wsX8_can) := goodIn_app (goodIn_of _ (by decide +kernel)) ggX8_orbits_X8_can
set_option maxRecDepth 20000 in
theorem ggX8_orbits_X8_orbitsOf : GoodIn wsX8_orbits wsX8_orbitsOf := goodIn_r _ [18, 19, 20, 21, 22, 4, 23, 24, 25, 26, 27, 28, 29, 30, 31, 32, 33, 34, 35, 36, 37, 38, 39, 40, 41, 42, 43, 44, 45, 46, 47, 48, 49, 50, 51, 52, 53, 54, 55, 56, 57, 58, 59, 60, 61, 62, 63, 64, 65, 66, 67, 68, 69, 70, 71, 72, 73, 74, 75, 76, 77, 78, 79, 80, 81, 82, 83, 84, 85, 86, 87, 88, 89, 90, 91, 92, 93, 94, 95, 96, 97, 98, 99, 100, 101, 102, 103, 104, 105, 106, 107] (by decide +kernel) (by decide +kernel)
set_option maxRecDepth 20000 in
theorem gX8_orbits_X8_orbitsOf : GoodIn wsX8_orbits (wsV RX8 200 RX8 yX8_orbitsOf wsX8_orbitsOf) := goodIn_app (goodIn_of _ (by decide +kernel)) ggX8_orbits_X8_orbitsOf
theorem dX8_orbits_0 : decode cX8_orbits 0 = .ok (.aload_n 0, 1) := by decide +kernel
theorem dX8_orbits_1 : decode cX8_orbits 1 = .ok (.aload_n 0, 1) := by decide +kernel
theorem dX8_orbits_2 : decode cX8_orbits 2 = .ok (.iload_n 1, 1) := by decide +kernel
theorem dX8_orbits_3 : decode cX8_orbits 3 = .ok (.invokevirtual 164, 3) := by decide +kernel
theorem dX8_orbits_6 : decode cX8_orbits 6 = .ok (.ifCond .eq 7, 3) := by decide +kernel
theorem dX8_orbits_9 : decode cX8_orbits 9 = .ok (.iconst 0, 1) := by decide +kernel
theorem dX8_orbits_10 : decode cX8_orbits 10 = .ok (.goto 4, 3) := by decide +kernel
theorem dX8_orbits_13 : decode cX8_orbits 13 = .ok (.iconst 1, 1) := by decide +kernel
theorem dX8_orbits_14 : decode cX8_orbits 14 = .ok (.invokevirtual 101, 3) := by decide +kernel
theorem dX8_orbits_17 : decode cX8_orbits 17 = .ok (.ifCond .eq 11, 3) := by decide +kernel
theorem dX8_orbits_20 : decode cX8_orbits 20 = .ok (.aload_n 0, 1) := by decide +kernel
theorem dX8_orbits_21 : decode cX8_orbits 21 = .ok (.iload_n 1, 1) := by decide +kernel
theorem dX8_orbits_22 : decode cX8_orbits 22 = .ok (.invokevirtual 200, 3) := by decide +kernel
theorem dX8_orbits_25 : decode cX8_orbits 25 = .ok (.goto 4, 3) := by decide +kernel
theorem dX8_orbits_28 : decode cX8_orbits 28 = .ok (.iconst 0, 1) := by decide +kernel
theorem dX8_orbits_29 : decode cX8_orbits 29 = .ok (.ireturn, 1) := by decide +kernel
set_option maxRecDepth 20000 in
theorem ggX8_orbitsAnew_X8_isBody : GoodIn wsX8_orbitsAnew wsX8_isBody := goodIn_r _ [5, 6, 7, 8, 4, 9, 76, 77, 78, 79, 80, 81, 82, 83, 84, 85, 86, 87, 88, 89, 90, 91, 92, 93, 94, 95, 96, 97, 98, 99, 100, 101, 102, 103, 104, 105, 106, 107] (by decide +kernel) (by decide +kernel)
set_option maxRecDepth 20000 in
theorem gX8_orbitsAnew_X8_isBody : GoodIn wsX8_orbitsAnew (wsV RX8 164 RX8 yX8_isBody wsX8_isBody) := goodIn_app (goodIn_of _ (by decide +kernel)) ggX8_orbitsAnew_X8_isBody
set_option maxRecDepth 20000 in
theorem ggX8_orbitsAnew_X8_can : GoodIn wsX8_orbitsAnew wsX8_can := goodIn_r _ [13, 14, 76, 77, 78, 79, 80, 81, 82, 83, 84, 85, 86, 87, 88, 89, 90, 91, 92, 93, 94, 95, 96, 97, 98, 99, 100, 101, 102, 103, 104, 105, 106, 107] (by decide +kernel) (by decide +kernel)
set_option maxRecDepth 20000 in
theorem gX8_orbitsAnew_X8_can : GoodIn wsX8_orbitsAnew (wsV RX8 101 RX8 yX8_can wsX8_can) := goodIn_app (goodIn_of _ (by decide +kernel)) ggX8_orbitsAnew_X8_can
set_option maxRecDepth 20000 in
theorem ggX8_orbitsAnew_X8_orbitsOf : GoodIn wsX8_orbitsAnew wsX8_orbitsOf := goodIn_r _ [18, 19, 20, 21, 22, 4, 23, 24, 25, 26, 27, 28, 29, 30, 31, 32, 33, 34, 35, 36, 37, 38, 39, 40, 41, 42, 43, 44, 45, 46, 47, 48, 49, 50, 51, 52, 53, 54, 55, 56, 57, 58, 59, 60, 61, 62, 63, 64, 65, 66, 67, 68, 69, 70, 71, 72, 73, 74, 75, 76, 77, 78, 79, 80, 81, 82, 83, 84, 85, 86, 87, 88, 89, 90, 91, 92, 93, 94, 95, 96, 97, 98, 99, 100, 101, 102, 103, 104, 105, 106, 107] (by decide +kernel) (by decide +kernel)
set_option maxRecDepth 20000 in
theorem gX8_orbitsAnew_X8_orbitsOf : GoodIn wsX8_orbitsAnew (wsV RX8 200 RX8 yX8_orbitsOf wsX8_orbitsOf) := goodIn_app (goodIn_of _ (by decide +kernel)) ggX8_orbitsAnew_X8_orbitsOf
theorem dX8_orbitsAnew_0 : decode cX8_orbitsAnew 0 = .ok (.aload_n 0, 1) := by decide +kernel
theorem dX8_orbitsAnew_1 : decode cX8_orbitsAnew 1 = .ok (.aload_n 0, 1) := by decide +kernel
theorem dX8_orbitsAnew_2 : decode cX8_orbitsAnew 2 = .ok (.iload_n 1, 1) := by decide +kernel
theorem dX8_orbitsAnew_3 : decode cX8_orbitsAnew 3 = .ok (.invokevirtual 164, 3) := by decide +kernel
theorem dX8_orbitsAnew_6 : decode cX8_orbitsAnew 6 = .ok (.ifCond .eq 7, 3) := by decide +kernel
theorem dX8_orbitsAnew_9 : decode cX8_orbitsAnew 9 = .ok (.iconst 0, 1) := by decide +kernel
theorem dX8_orbitsAnew_10 : decode cX8_orbitsAnew 10 = .ok (.goto 4, 3) := by decide +kernel
theorem dX8_orbitsAnew_13 : decode cX8_orbitsAnew 13 = .ok (.iconst 1, 1) := by decide +kernel
theorem dX8_orbitsAnew_14 : decode cX8_orbitsAnew 14 = .ok (.invokevirtual 101, 3) := by decide +kernel
theorem dX8_orbitsAnew_17 : decode cX8_orbitsAnew 17 = .ok (.ifCond .eq 11, 3) := by decide +kernel
theorem dX8_orbitsAnew_20 : decode cX8_orbitsAnew 20 = .ok (.aload_n 0, 1) := by decide +kernel
theorem dX8_orbitsAnew_21 : decode cX8_orbitsAnew 21 = .ok (.iload_n 1, 1) := by decide +kernel
theorem dX8_orbitsAnew_22 : decode cX8_orbitsAnew 22 = .ok (.invokevirtual 200, 3) := by decide +kernel
theorem dX8_orbitsAnew_25 : decode cX8_orbitsAnew 25 = .ok (.goto 4, 3) := by decide +kernel
theorem dX8_orbitsAnew_28 : decode cX8_orbitsAnew 28 = .ok (.iconst 0, 1) := by decide +kernel
theorem dX8_orbitsAnew_29 : decode cX8_orbitsAnew 29 = .ok (.ireturn, 1) := by decide +kernel
theorem dX8_keyAt_0 : decode cX8_keyAt 0 = .ok (.iconst 0, 1) := by decide +kernel
theorem dX8_keyAt_1 : decode cX8_keyAt 1 = .ok (.istore_n 2, 1) := by decide +kernel
theorem dX8_keyAt_2 : decode cX8_keyAt 2 = .ok (.ldc 203, 2) := by decide +kernel
theorem dX8_keyAt_4 : decode cX8_keyAt 4 = .ok (.istore_n 3, 1) := by decide +kernel
theorem dX8_keyAt_5 : decode cX8_keyAt 5 = .ok (.iload_n 2, 1) := by decide +kernel
theorem dX8_keyAt_6 : decode cX8_keyAt 6 = .ok (.iload_n 3, 1) := by decide +kernel
theorem dX8_keyAt_7 : decode cX8_keyAt 7 = .ok (.if_icmp .ge 84, 3) := by decide +kernel
theorem dX8_keyAt_10 : decode cX8_keyAt 10 = .ok (.iload_n 2, 1) := by decide +kernel
theorem dX8_keyAt_11 : decode cX8_keyAt 11 = .ok (.iload_n 3, 1) := by decide +kernel
theorem dX8_keyAt_12 : decode cX8_keyAt 12 = .ok (.iadd, 1) := by decide +kernel
theorem dX8_keyAt_13 : decode cX8_keyAt 13 = .ok (.iconst 2, 1) := by decide +kernel
theorem dX8_keyAt_14 : decode cX8_keyAt 14 = .ok (.idiv, 1) := by decide +kernel
theorem dX8_keyAt_15 : decode cX8_keyAt 15 = .ok (.istore 4, 2) := by decide +kernel
theorem dX8_keyAt_17 : decode cX8_keyAt 17 = .ok (.iconst 0, 1) := by decide +kernel
theorem dX8_keyAt_18 : decode cX8_keyAt 18 = .ok (.istore 5, 2) := by decide +kernel
theorem dX8_keyAt_20 : decode cX8_keyAt 20 = .ok (.iconst 0, 1) := by decide +kernel
theorem dX8_keyAt_21 : decode cX8_keyAt 21 = .ok (.istore 6, 2) := by decide +kernel
theorem dX8_keyAt_23 : decode cX8_keyAt 23 = .ok (.iload 6, 2) := by decide +kernel
theorem dX8_keyAt_25 : decode cX8_keyAt 25 = .ok (.aload_n 0, 1) := by decide +kernel
theorem dX8_keyAt_26 : decode cX8_keyAt 26 = .ok (.getfield 145, 3) := by decide +kernel
theorem dX8_keyAt_29 : decode cX8_keyAt 29 = .ok (.if_icmp .ge 31, 3) := by decide +kernel
theorem dX8_keyAt_32 : decode cX8_keyAt 32 = .ok (.iload 5, 2) := by decide +kernel
theorem dX8_keyAt_34 : decode cX8_keyAt 34 = .ok (.aload_n 0, 1) := by decide +kernel
theorem dX8_keyAt_35 : decode cX8_keyAt 35 = .ok (.getfield 52, 3) := by decide +kernel
theorem dX8_keyAt_38 : decode cX8_keyAt 38 = .ok (.iload 6, 2) := by decide +kernel
theorem dX8_keyAt_40 : decode cX8_keyAt 40 = .ok (.iaload, 1) := by decide +kernel
theorem dX8_keyAt_41 : decode cX8_keyAt 41 = .ok (.iload 4, 2) := by decide +kernel
theorem dX8_keyAt_43 : decode cX8_keyAt 43 = .ok (.if_icmp .gt 7, 3) := by decide +kernel
theorem dX8_keyAt_46 : decode cX8_keyAt 46 = .ok (.iconst 1, 1) := by decide +kernel
theorem dX8_keyAt_47 : decode cX8_keyAt 47 = .ok (.goto 4, 3) := by decide +kernel
theorem dX8_keyAt_50 : decode cX8_keyAt 50 = .ok (.iconst 0, 1) := by decide +kernel
theorem dX8_keyAt_51 : decode cX8_keyAt 51 = .ok (.iadd, 1) := by decide +kernel
theorem dX8_keyAt_52 : decode cX8_keyAt 52 = .ok (.istore 5, 2) := by decide +kernel
theorem dX8_keyAt_54 : decode cX8_keyAt 54 = .ok (.iinc 6 1, 3) := by decide +kernel
theorem dX8_keyAt_57 : decode cX8_keyAt 57 = .ok (.goto (-34), 3) := by decide +kernel
theorem dX8_keyAt_60 : decode cX8_keyAt 60 = .ok (.iload 5, 2) := by decide +kernel
theorem dX8_keyAt_62 : decode cX8_keyAt 62 = .ok (.iload_n 1, 1) := by decide +kernel
theorem dX8_keyAt_63 : decode cX8_keyAt 63 = .ok (.if_icmp .le 7, 3) := by decide +kernel
theorem dX8_keyAt_66 : decode cX8_keyAt 66 = .ok (.iload_n 2, 1) := by decide +kernel
theorem dX8_keyAt_67 : decode cX8_keyAt 67 = .ok (.goto 7, 3) := by decide +kernel
theorem dX8_keyAt_70 : decode cX8_keyAt 70 = .ok (.iload 4, 2) := by decide +kernel
theorem dX8_keyAt_72 : decode cX8_keyAt 72 = .ok (.iconst 1, 1) := by decide +kernel
theorem dX8_keyAt_73 : decode cX8_keyAt 73 = .ok (.iadd, 1) := by decide +kernel
theorem dX8_keyAt_74 : decode cX8_keyAt 74 = .ok (.istore_n 2, 1) := by decide +kernel
theorem dX8_keyAt_75 : decode cX8_keyAt 75 = .ok (.iload 5, 2) := by decide +kernel
theorem dX8_keyAt_77 : decode cX8_keyAt 77 = .ok (.iload_n 1, 1) := by decide +kernel
theorem dX8_keyAt_78 : decode cX8_keyAt 78 = .ok (.if_icmp .le 8, 3) := by decide +kernel
theorem dX8_keyAt_81 : decode cX8_keyAt 81 = .ok (.iload 4, 2) := by decide +kernel
theorem dX8_keyAt_83 : decode cX8_keyAt 83 = .ok (.goto 4, 3) := by decide +kernel
theorem dX8_keyAt_86 : decode cX8_keyAt 86 = .ok (.iload_n 3, 1) := by decide +kernel
theorem dX8_keyAt_87 : decode cX8_keyAt 87 = .ok (.istore_n 3, 1) := by decide +kernel
theorem dX8_keyAt_88 : decode cX8_keyAt 88 = .ok (.goto (-83), 3) := by decide +kernel
theorem dX8_keyAt_91 : decode cX8_keyAt 91 = .ok (.iload_n 2, 1) := by decide +kernel
theorem dX8_keyAt_92 : decode cX8_keyAt 92 = .ok (.ireturn, 1) := by decide +kernel
set_option maxRecDepth 20000 in
theorem ggX8_orbit_X8_isBody : GoodIn wsX8_orbit wsX8_isBody := goodIn_r _ [5, 6, 7, 8, 4, 9, 81, 82, 83, 84, 85, 86, 87, 88, 89, 90, 91, 92, 93, 94, 95, 96, 97, 98, 99, 100, 101, 102, 103, 104, 105, 106, 107, 108, 109, 110, 111, 112] (by decide +kernel) (by decide +kernel)
set_option maxRecDepth 20000 in
theorem gX8_orbit_X8_isBody : GoodIn wsX8_orbit (wsV RX8 164 RX8 yX8_isBody wsX8_isBody) := goodIn_app (goodIn_of _ (by decide +kernel)) ggX8_orbit_X8_isBody
set_option maxRecDepth 20000 in
theorem ggX8_orbit_X8_orbitsOf : GoodIn wsX8_orbit wsX8_orbitsOf := goodIn_r _ [13, 14, 15, 16, 17, 4, 18, 19, 20, 21, 22, 23, 24, 25, 26, 27, 28, 29, 30, 31, 32, 33, 34, 35, 36, 37, 38, 39, 40, 41, 42, 43, 44, 45, 46, 47, 48, 49, 50, 51, 52, 53, 54, 55, 56, 57, 58, 59, 60, 61, 62, 63, 64, 65, 66, 67, 68, 69, 70, 81, 82, 83, 84, 85, 86, 87, 88, 89, 90, 91, 92, 93, 94, 95, 96, 97, 98, 99, 100, 101, 102, 103, 104, 105, 106, 107, 108, 109, 110, 111, 112] (by decide +kernel) (by decide +kernel)
set_option maxRecDepth 20000 in
theorem gX8_orbit_X8_orbitsOf : GoodIn wsX8_orbit (wsV RX8 200 RX8 yX8_orbitsOf wsX8_orbitsOf) := goodIn_app (goodIn_of _ (by decide +kernel)) ggX8_orbit_X8_orbitsOf
set_option maxRecDepth 20000 in
theorem ggX8_orbit_X8_isIn : GoodIn wsX8_orbit wsX8_isIn := goodIn_r _ [9] (by decide +kernel) (by decide +kernel)
set_option maxRecDepth 20000 in
theorem gX8_orbit_X8_isIn : GoodIn wsX8_orbit (va_wsS RX8 88 yX8_isIn wsX8_isIn) := goodIn_app (goodIn_of _ (by decide +kernel)) ggX8_orbit_X8_isIn
set_option maxRecDepth 20000 in
theorem ggX8_orbit_X8_can : GoodIn wsX8_orbit wsX8_can := goodIn_r _ [74, 75, 81, 82, 83, 84, 85, 86, 87, 88, 89, 90, 91, 92, 93, 94, 95, 96, 97, 98, 99, 100, 101, 102, 103, 104, 105, 106, 107, 108, 109, 110, 111, 112] (by decide +kernel) (by decide +kernel)
set_option maxRecDepth 20000 in
theorem gX8_orbit_X8_can : GoodIn wsX8_orbit (wsV RX8 101 RX8 yX8_can wsX8_can) := goodIn_app (goodIn_of _ (by decide +kernel)) ggX8_orbit_X8_can
set_option maxRecDepth 20000 in
theorem ggX8_orbit_X8_keyAt : GoodIn wsX8_orbit wsX8_keyAt := goodIn_r _ [79, 80, 14, 36, 81, 82, 83, 84, 85, 86, 87, 88, 89, 90, 91, 92, 93, 94, 95, 96, 97, 98, 99, 100, 101, 102, 103, 104, 105, 106, 107, 108, 109, 110, 111, 112] (by decide +kernel) (by decide +kernel)
set_option maxRecDepth 20000 in
theorem gX8_orbit_X8_keyAt : GoodIn wsX8_orbit (wsV RX8 204 RX8 yX8_keyAt wsX8_keyAt) := goodIn_app (goodIn_of _ (by decide +kernel)) ggX8_orbit_X8_keyAt
theorem dX8_orbit_0 : decode cX8_orbit 0 = .ok (.aload_n 0, 1) := by decide +kernel
theorem dX8_orbit_1 : decode cX8_orbit 1 = .ok (.iload_n 1, 1) := by decide +kernel
theorem dX8_orbit_2 : decode cX8_orbit 2 = .ok (.invokevirtual 164, 3) := by decide +kernel
theorem dX8_orbit_5 : decode cX8_orbit 5 = .ok (.ifCond .eq 22, 3) := by decide +kernel
theorem dX8_orbit_8 : decode cX8_orbit 8 = .ok (.iload_n 2, 1) := by decide +kernel
theorem dX8_orbit_9 : decode cX8_orbit 9 = .ok (.iconst 0, 1) := by decide +kernel
theorem dX8_orbit_10 : decode cX8_orbit 10 = .ok (.aload_n 0, 1) := by decide +kernel
theorem dX8_orbit_11 : decode cX8_orbit 11 = .ok (.iload_n 1, 1) := by decide +kernel
theorem dX8_orbit_12 : decode cX8_orbit 12 = .ok (.invokevirtual 200, 3) := by decide +kernel
theorem dX8_orbit_15 : decode cX8_orbit 15 = .ok (.iconst 1, 1) := by decide +kernel
theorem dX8_orbit_16 : decode cX8_orbit 16 = .ok (.isub, 1) := by decide +kernel
theorem dX8_orbit_17 : decode cX8_orbit 17 = .ok (.invokestatic 88, 3) := by decide +kernel
theorem dX8_orbit_20 : decode cX8_orbit 20 = .ok (.ifCond .eq 7, 3) := by decide +kernel
theorem dX8_orbit_23 : decode cX8_orbit 23 = .ok (.iconst 1, 1) := by decide +kernel
theorem dX8_orbit_24 : decode cX8_orbit 24 = .ok (.goto 4, 3) := by decide +kernel
theorem dX8_orbit_27 : decode cX8_orbit 27 = .ok (.iconst 0, 1) := by decide +kernel
theorem dX8_orbit_28 : decode cX8_orbit 28 = .ok (.istore 4, 2) := by decide +kernel
theorem dX8_orbit_30 : decode cX8_orbit 30 = .ok (.aload_n 0, 1) := by decide +kernel
theorem dX8_orbit_31 : decode cX8_orbit 31 = .ok (.iload 4, 2) := by decide +kernel
theorem dX8_orbit_33 : decode cX8_orbit 33 = .ok (.ifCond .ne 7, 3) := by decide +kernel
theorem dX8_orbit_36 : decode cX8_orbit 36 = .ok (.iconst 1, 1) := by decide +kernel
theorem dX8_orbit_37 : decode cX8_orbit 37 = .ok (.goto 17, 3) := by decide +kernel
theorem dX8_orbit_40 : decode cX8_orbit 40 = .ok (.iload_n 3, 1) := by decide +kernel
theorem dX8_orbit_41 : decode cX8_orbit 41 = .ok (.iconst 0, 1) := by decide +kernel
theorem dX8_orbit_42 : decode cX8_orbit 42 = .ok (.iconst 2, 1) := by decide +kernel
theorem dX8_orbit_43 : decode cX8_orbit 43 = .ok (.invokestatic 88, 3) := by decide +kernel
theorem dX8_orbit_46 : decode cX8_orbit 46 = .ok (.ifCond .eq 7, 3) := by decide +kernel
theorem dX8_orbit_49 : decode cX8_orbit 49 = .ok (.iconst 0, 1) := by decide +kernel
theorem dX8_orbit_50 : decode cX8_orbit 50 = .ok (.goto 4, 3) := by decide +kernel
theorem dX8_orbit_53 : decode cX8_orbit 53 = .ok (.iconst 2, 1) := by decide +kernel
theorem dX8_orbit_54 : decode cX8_orbit 54 = .ok (.invokevirtual 101, 3) := by decide +kernel
theorem dX8_orbit_57 : decode cX8_orbit 57 = .ok (.ifCond .ne 5, 3) := by decide +kernel
theorem dX8_orbit_60 : decode cX8_orbit 60 = .ok (.iconst 0, 1) := by decide +kernel
theorem dX8_orbit_61 : decode cX8_orbit 61 = .ok (.ireturn, 1) := by decide +kernel
theorem dX8_orbit_62 : decode cX8_orbit 62 = .ok (.aload_n 0, 1) := by decide +kernel
theorem dX8_orbit_63 : decode cX8_orbit 63 = .ok (.iload_n 2, 1) := by decide +kernel
theorem dX8_orbit_64 : decode cX8_orbit 64 = .ok (.invokevirtual 204, 3) := by decide +kernel
theorem dX8_orbit_67 : decode cX8_orbit 67 = .ok (.istore 5, 2) := by decide +kernel
theorem dX8_orbit_69 : decode cX8_orbit 69 = .ok (.iload_n 3, 1) := by decide +kernel
theorem dX8_orbit_70 : decode cX8_orbit 70 = .ok (.ifCond .ne 12, 3) := by decide +kernel
theorem dX8_orbit_73 : decode cX8_orbit 73 = .ok (.iload 5, 2) := by decide +kernel
theorem dX8_orbit_75 : decode cX8_orbit 75 = .ok (.sipush 405, 3) := by decide +kernel
theorem dX8_orbit_78 : decode cX8_orbit 78 = .ok (.idiv, 1) := by decide +kernel
theorem dX8_orbit_79 : decode cX8_orbit 79 = .ok (.goto 28, 3) := by decide +kernel
theorem dX8_orbit_82 : decode cX8_orbit 82 = .ok (.iload_n 3, 1) := by decide +kernel
theorem dX8_orbit_83 : decode cX8_orbit 83 = .ok (.iconst 1, 1) := by decide +kernel
theorem dX8_orbit_84 : decode cX8_orbit 84 = .ok (.if_icmp .ne 17, 3) := by decide +kernel
theorem dX8_orbit_87 : decode cX8_orbit 87 = .ok (.iload 5, 2) := by decide +kernel
theorem dX8_orbit_89 : decode cX8_orbit 89 = .ok (.sipush 405, 3) := by decide +kernel
theorem dX8_orbit_92 : decode cX8_orbit 92 = .ok (.irem, 1) := by decide +kernel
theorem dX8_orbit_93 : decode cX8_orbit 93 = .ok (.iconst 5, 1) := by decide +kernel
theorem dX8_orbit_94 : decode cX8_orbit 94 = .ok (.idiv, 1) := by decide +kernel
theorem dX8_orbit_95 : decode cX8_orbit 95 = .ok (.bipush 40, 2) := by decide +kernel
theorem dX8_orbit_97 : decode cX8_orbit 97 = .ok (.isub, 1) := by decide +kernel
theorem dX8_orbit_98 : decode cX8_orbit 98 = .ok (.goto 9, 3) := by decide +kernel
theorem dX8_orbit_101 : decode cX8_orbit 101 = .ok (.iload 5, 2) := by decide +kernel
theorem dX8_orbit_103 : decode cX8_orbit 103 = .ok (.iconst 5, 1) := by decide +kernel
theorem dX8_orbit_104 : decode cX8_orbit 104 = .ok (.irem, 1) := by decide +kernel
theorem dX8_orbit_105 : decode cX8_orbit 105 = .ok (.iconst 2, 1) := by decide +kernel
theorem dX8_orbit_106 : decode cX8_orbit 106 = .ok (.isub, 1) := by decide +kernel
theorem dX8_orbit_107 : decode cX8_orbit 107 = .ok (.ireturn, 1) := by decide +kernel
set_option maxRecDepth 20000 in
theorem ggX8_placeBy_X8_moves : GoodIn wsX8_placeBy wsX8_moves := goodIn_r _ [4] (by decide +kernel) (by decide +kernel)
set_option maxRecDepth 20000 in
theorem gX8_placeBy_X8_moves : GoodIn wsX8_placeBy (va_wsS RX8 134 yX8_moves wsX8_moves) := goodIn_app (goodIn_of _ (by decide +kernel)) ggX8_placeBy_X8_moves
set_option maxRecDepth 20000 in
theorem ggX8_placeBy_X8_round : GoodIn wsX8_placeBy wsX8_round := goodIn_r _ [7] (by decide +kernel) (by decide +kernel)
set_option maxRecDepth 20000 in
theorem gX8_placeBy_X8_round : GoodIn wsX8_placeBy (va_wsS RX8 111 yX8_round wsX8_round) := goodIn_app (goodIn_of _ (by decide +kernel)) ggX8_placeBy_X8_round
theorem dX8_placeBy_0 : decode cX8_placeBy 0 = .ok (.iload_n 1, 1) := by decide +kernel
theorem dX8_placeBy_1 : decode cX8_placeBy 1 = .ok (.sipush 405, 3) := by decide +kernel
theorem dX8_placeBy_4 : decode cX8_placeBy 4 = .ok (.idiv, 1) := by decide +kernel
theorem dX8_placeBy_5 : decode cX8_placeBy 5 = .ok (.iload_n 1, 1) := by decide +kernel
theorem dX8_placeBy_6 : decode cX8_placeBy 6 = .ok (.sipush 405, 3) := by decide +kernel
theorem dX8_placeBy_9 : decode cX8_placeBy 9 = .ok (.irem, 1) := by decide +kernel
theorem dX8_placeBy_10 : decode cX8_placeBy 10 = .ok (.iconst 5, 1) := by decide +kernel
theorem dX8_placeBy_11 : decode cX8_placeBy 11 = .ok (.idiv, 1) := by decide +kernel
theorem dX8_placeBy_12 : decode cX8_placeBy 12 = .ok (.bipush 40, 2) := by decide +kernel
theorem dX8_placeBy_14 : decode cX8_placeBy 14 = .ok (.isub, 1) := by decide +kernel
theorem dX8_placeBy_15 : decode cX8_placeBy 15 = .ok (.iload_n 1, 1) := by decide +kernel
theorem dX8_placeBy_16 : decode cX8_placeBy 16 = .ok (.iconst 5, 1) := by decide +kernel
theorem dX8_placeBy_17 : decode cX8_placeBy 17 = .ok (.irem, 1) := by decide +kernel
theorem dX8_placeBy_18 : decode cX8_placeBy 18 = .ok (.iconst 2, 1) := by decide +kernel
theorem dX8_placeBy_19 : decode cX8_placeBy 19 = .ok (.isub, 1) := by decide +kernel
theorem dX8_placeBy_20 : decode cX8_placeBy 20 = .ok (.iload_n 2, 1) := by decide +kernel
theorem dX8_placeBy_21 : decode cX8_placeBy 21 = .ok (.invokestatic 134, 3) := by decide +kernel
theorem dX8_placeBy_24 : decode cX8_placeBy 24 = .ok (.iadd, 1) := by decide +kernel
theorem dX8_placeBy_25 : decode cX8_placeBy 25 = .ok (.invokestatic 111, 3) := by decide +kernel
theorem dX8_placeBy_28 : decode cX8_placeBy 28 = .ok (.ireturn, 1) := by decide +kernel
set_option maxRecDepth 20000 in
theorem ggX8_spreads_X8_orbitsOf : GoodIn wsX8_spreads wsX8_orbitsOf := goodIn_r _ [7, 8, 9, 10, 11, 6, 12, 13, 14, 15, 16, 17, 18, 19, 20, 21, 22, 23, 24, 25, 26, 27, 28, 29, 2, 30, 31, 32, 33, 34, 35, 36, 37, 38, 39, 40, 41, 42, 43, 44, 45, 46, 47, 48, 49, 50, 51, 52, 53, 54, 55, 56, 57, 58, 59, 60, 61, 62, 63, 68, 69, 70, 71, 72, 73, 74, 75, 76, 77, 78, 79, 80, 81, 82, 83, 84, 85, 86, 87, 88, 89, 90, 91, 92, 93, 94, 95, 96, 97, 98, 99] (by decide +kernel) (by decide +kernel)
set_option maxRecDepth 20000 in
theorem gX8_spreads_X8_orbitsOf : GoodIn wsX8_spreads (wsV RX8 200 RX8 yX8_orbitsOf wsX8_orbitsOf) := goodIn_app (goodIn_of _ (by decide +kernel)) ggX8_spreads_X8_orbitsOf
set_option maxRecDepth 20000 in
theorem ggX8_spreads_X8_placeBy : GoodIn wsX8_spreads wsX8_placeBy := goodIn_r _ [67, 51, 52, 6, 53, 43, 44, 45] (by decide +kernel) (by decide +kernel)
set_option maxRecDepth 20000 in
theorem gX8_spreads_X8_placeBy : GoodIn wsX8_spreads (wsV RX8 207 RX8 yX8_placeBy wsX8_placeBy) := goodIn_app (goodIn_of _ (by decide +kernel)) ggX8_spreads_X8_placeBy
theorem dX8_spreads_0 : decode cX8_spreads 0 = .ok (.iconst 0, 1) := by decide +kernel
theorem dX8_spreads_1 : decode cX8_spreads 1 = .ok (.istore_n 3, 1) := by decide +kernel
theorem dX8_spreads_2 : decode cX8_spreads 2 = .ok (.iload_n 3, 1) := by decide +kernel
theorem dX8_spreads_3 : decode cX8_spreads 3 = .ok (.sipush 3600, 3) := by decide +kernel
theorem dX8_spreads_6 : decode cX8_spreads 6 = .ok (.if_icmp .ge 16, 3) := by decide +kernel
theorem dX8_spreads_9 : decode cX8_spreads 9 = .ok (.aload_n 0, 1) := by decide +kernel
theorem dX8_spreads_10 : decode cX8_spreads 10 = .ok (.getfield 55, 3) := by decide +kernel
theorem dX8_spreads_13 : decode cX8_spreads 13 = .ok (.iload_n 3, 1) := by decide +kernel
theorem dX8_spreads_14 : decode cX8_spreads 14 = .ok (.iconst 0, 1) := by decide +kernel
theorem dX8_spreads_15 : decode cX8_spreads 15 = .ok (.iastore, 1) := by decide +kernel
theorem dX8_spreads_16 : decode cX8_spreads 16 = .ok (.iinc 3 1, 3) := by decide +kernel
theorem dX8_spreads_19 : decode cX8_spreads 19 = .ok (.goto (-17), 3) := by decide +kernel
theorem dX8_spreads_22 : decode cX8_spreads 22 = .ok (.aload_n 0, 1) := by decide +kernel
theorem dX8_spreads_23 : decode cX8_spreads 23 = .ok (.iload_n 1, 1) := by decide +kernel
theorem dX8_spreads_24 : decode cX8_spreads 24 = .ok (.invokevirtual 200, 3) := by decide +kernel
theorem dX8_spreads_27 : decode cX8_spreads 27 = .ok (.istore_n 3, 1) := by decide +kernel
theorem dX8_spreads_28 : decode cX8_spreads 28 = .ok (.iconst 0, 1) := by decide +kernel
theorem dX8_spreads_29 : decode cX8_spreads 29 = .ok (.istore 4, 2) := by decide +kernel
theorem dX8_spreads_31 : decode cX8_spreads 31 = .ok (.iload 4, 2) := by decide +kernel
theorem dX8_spreads_33 : decode cX8_spreads 33 = .ok (.iload_n 3, 1) := by decide +kernel
theorem dX8_spreads_34 : decode cX8_spreads 34 = .ok (.if_icmp .ge 30, 3) := by decide +kernel
theorem dX8_spreads_37 : decode cX8_spreads 37 = .ok (.aload_n 0, 1) := by decide +kernel
theorem dX8_spreads_38 : decode cX8_spreads 38 = .ok (.getfield 55, 3) := by decide +kernel
theorem dX8_spreads_41 : decode cX8_spreads 41 = .ok (.aload_n 0, 1) := by decide +kernel
theorem dX8_spreads_42 : decode cX8_spreads 42 = .ok (.aload_n 0, 1) := by decide +kernel
theorem dX8_spreads_43 : decode cX8_spreads 43 = .ok (.getfield 52, 3) := by decide +kernel
theorem dX8_spreads_46 : decode cX8_spreads 46 = .ok (.iload 4, 2) := by decide +kernel
theorem dX8_spreads_48 : decode cX8_spreads 48 = .ok (.iaload, 1) := by decide +kernel
theorem dX8_spreads_49 : decode cX8_spreads 49 = .ok (.iload_n 2, 1) := by decide +kernel
theorem dX8_spreads_50 : decode cX8_spreads 50 = .ok (.invokevirtual 207, 3) := by decide +kernel
theorem dX8_spreads_53 : decode cX8_spreads 53 = .ok (.dup2, 1) := by decide +kernel
theorem dX8_spreads_54 : decode cX8_spreads 54 = .ok (.iaload, 1) := by decide +kernel
theorem dX8_spreads_55 : decode cX8_spreads 55 = .ok (.iconst 1, 1) := by decide +kernel
theorem dX8_spreads_56 : decode cX8_spreads 56 = .ok (.iadd, 1) := by decide +kernel
theorem dX8_spreads_57 : decode cX8_spreads 57 = .ok (.iastore, 1) := by decide +kernel
theorem dX8_spreads_58 : decode cX8_spreads 58 = .ok (.iinc 4 1, 3) := by decide +kernel
theorem dX8_spreads_61 : decode cX8_spreads 61 = .ok (.goto (-30), 3) := by decide +kernel
theorem dX8_spreads_64 : decode cX8_spreads 64 = .ok (.return_, 1) := by decide +kernel
set_option maxRecDepth 20000 in
theorem ggX8_spreadOf_X8_spreads : GoodIn wsX8_spreadOf wsX8_spreads := goodIn_r _ [6, 1, 7, 8, 9, 10, 5, 11, 12, 13, 14, 15, 16, 17, 18, 19, 20, 21, 22, 23, 24, 25, 26, 27, 28, 29, 30, 31, 32, 33, 34, 35, 36, 37, 38, 39, 40, 41, 42, 43, 44, 45, 46, 47, 48, 49, 50, 51, 52, 53, 54, 55, 56, 57, 58, 59, 60, 61, 62, 63, 64, 65, 66, 67, 68, 69, 70, 71, 72, 73, 74, 75, 76, 77, 78, 79, 80, 81, 82, 83, 84, 85, 86, 87, 88, 89, 90, 91, 92, 93, 94, 95, 96, 97, 98, 99, 100, 101, 102, 103] (by decide +kernel) (by decide +kernel)
set_option maxRecDepth 20000 in
theorem gX8_spreadOf_X8_spreads : GoodIn wsX8_spreadOf (wsV RX8 210 RX8 yX8_spreads wsX8_spreads) := goodIn_app (goodIn_of _ (by decide +kernel)) ggX8_spreadOf_X8_spreads
theorem dX8_spreadOf_0 : decode cX8_spreadOf 0 = .ok (.aload_n 0, 1) := by decide +kernel
theorem dX8_spreadOf_1 : decode cX8_spreadOf 1 = .ok (.iload_n 1, 1) := by decide +kernel
theorem dX8_spreadOf_2 : decode cX8_spreadOf 2 = .ok (.iload_n 2, 1) := by decide +kernel
theorem dX8_spreadOf_3 : decode cX8_spreadOf 3 = .ok (.invokevirtual 210, 3) := by decide +kernel
theorem dX8_spreadOf_6 : decode cX8_spreadOf 6 = .ok (.iconst 0, 1) := by decide +kernel
theorem dX8_spreadOf_7 : decode cX8_spreadOf 7 = .ok (.istore_n 3, 1) := by decide +kernel
theorem dX8_spreadOf_8 : decode cX8_spreadOf 8 = .ok (.iconst 0, 1) := by decide +kernel
theorem dX8_spreadOf_9 : decode cX8_spreadOf 9 = .ok (.istore 4, 2) := by decide +kernel
theorem dX8_spreadOf_11 : decode cX8_spreadOf 11 = .ok (.iload 4, 2) := by decide +kernel
theorem dX8_spreadOf_13 : decode cX8_spreadOf 13 = .ok (.sipush 3600, 3) := by decide +kernel
theorem dX8_spreadOf_16 : decode cX8_spreadOf 16 = .ok (.if_icmp .ge 27, 3) := by decide +kernel
theorem dX8_spreadOf_19 : decode cX8_spreadOf 19 = .ok (.iload_n 3, 1) := by decide +kernel
theorem dX8_spreadOf_20 : decode cX8_spreadOf 20 = .ok (.aload_n 0, 1) := by decide +kernel
theorem dX8_spreadOf_21 : decode cX8_spreadOf 21 = .ok (.getfield 55, 3) := by decide +kernel
theorem dX8_spreadOf_24 : decode cX8_spreadOf 24 = .ok (.iload 4, 2) := by decide +kernel
theorem dX8_spreadOf_26 : decode cX8_spreadOf 26 = .ok (.iaload, 1) := by decide +kernel
theorem dX8_spreadOf_27 : decode cX8_spreadOf 27 = .ok (.ifCond .le 7, 3) := by decide +kernel
theorem dX8_spreadOf_30 : decode cX8_spreadOf 30 = .ok (.iconst 1, 1) := by decide +kernel
theorem dX8_spreadOf_31 : decode cX8_spreadOf 31 = .ok (.goto 4, 3) := by decide +kernel
theorem dX8_spreadOf_34 : decode cX8_spreadOf 34 = .ok (.iconst 0, 1) := by decide +kernel
theorem dX8_spreadOf_35 : decode cX8_spreadOf 35 = .ok (.iadd, 1) := by decide +kernel
theorem dX8_spreadOf_36 : decode cX8_spreadOf 36 = .ok (.istore_n 3, 1) := by decide +kernel
theorem dX8_spreadOf_37 : decode cX8_spreadOf 37 = .ok (.iinc 4 1, 3) := by decide +kernel
theorem dX8_spreadOf_40 : decode cX8_spreadOf 40 = .ok (.goto (-29), 3) := by decide +kernel
theorem dX8_spreadOf_43 : decode cX8_spreadOf 43 = .ok (.iload_n 3, 1) := by decide +kernel
theorem dX8_spreadOf_44 : decode cX8_spreadOf 44 = .ok (.ireturn, 1) := by decide +kernel
set_option maxRecDepth 20000 in
theorem ggX8_spread_X8_isBody : GoodIn wsX8_spread wsX8_isBody := goodIn_r _ [5, 6, 7, 8, 4, 9, 92, 93, 94, 95, 96, 97, 98, 99, 100, 101, 102, 103, 104, 105, 106, 107, 108, 109, 110, 111, 112, 113, 114, 115, 116, 117, 118, 119, 120, 121, 122, 123] (by decide +kernel) (by decide +kernel)
set_option maxRecDepth 20000 in
theorem gX8_spread_X8_isBody : GoodIn wsX8_spread (wsV RX8 164 RX8 yX8_isBody wsX8_isBody) := goodIn_app (goodIn_of _ (by decide +kernel)) ggX8_spread_X8_isBody
set_option maxRecDepth 20000 in
theorem ggX8_spread_X8_isNight : GoodIn wsX8_spread wsX8_isNight := goodIn_r _ [12, 7, 8, 4, 9] (by decide +kernel) (by decide +kernel)
set_option maxRecDepth 20000 in
theorem gX8_spread_X8_isNight : GoodIn wsX8_spread (va_wsS RX8 105 yX8_isNight wsX8_isNight) := goodIn_app (goodIn_of _ (by decide +kernel)) ggX8_spread_X8_isNight
set_option maxRecDepth 20000 in
theorem ggX8_spread_X8_can : GoodIn wsX8_spread wsX8_can := goodIn_r _ [16, 17, 92, 93, 94, 95, 96, 97, 98, 99, 100, 101, 102, 103, 104, 105, 106, 107, 108, 109, 110, 111, 112, 113, 114, 115, 116, 117, 118, 119, 120, 121, 122, 123] (by decide +kernel) (by decide +kernel)
set_option maxRecDepth 20000 in
theorem gX8_spread_X8_can : GoodIn wsX8_spread (wsV RX8 101 RX8 yX8_can wsX8_can) := goodIn_app (goodIn_of _ (by decide +kernel)) ggX8_spread_X8_can
set_option maxRecDepth 20000 in
theorem ggX8_spread_X8_spreadOf : GoodIn wsX8_spread wsX8_spreadOf := goodIn_r _ [21, 22, 23, 24, 25, 4, 26, 27, 28, 29, 30, 31, 32, 33, 34, 35, 36, 37, 38, 39, 40, 41, 42, 43, 44, 45, 46, 47, 48, 49, 50, 51, 52, 53, 54, 55, 56, 57, 58, 59, 60, 61, 62, 63, 64, 65, 66, 67, 68, 69, 70, 71, 72, 73, 74, 75, 76, 77, 78, 79, 80, 81, 82, 83, 84, 85, 86, 87, 88, 89, 90, 91, 92, 93, 94, 95, 96, 97, 98, 99, 100, 101, 102, 103, 104, 105, 106, 107, 108, 109, 110, 111, 112, 113, 114, 115, 116, 117, 118, 119, 120, 121, 122, 123] (by decide +kernel) (by decide +kernel)
set_option maxRecDepth 20000 in
theorem gX8_spread_X8_spreadOf : GoodIn wsX8_spread (wsV RX8 214 RX8 yX8_spreadOf wsX8_spreadOf) := goodIn_app (goodIn_of _ (by decide +kernel)) ggX8_spread_X8_spreadOf
theorem dX8_spread_0 : decode cX8_spread 0 = .ok (.aload_n 0, 1) := by decide +kernel
theorem dX8_spread_1 : decode cX8_spread 1 = .ok (.aload_n 0, 1) := by decide +kernel
theorem dX8_spread_2 : decode cX8_spread 2 = .ok (.iload_n 1, 1) := by decide +kernel
theorem dX8_spread_3 : decode cX8_spread 3 = .ok (.invokevirtual 164, 3) := by decide +kernel
theorem dX8_spread_6 : decode cX8_spread 6 = .ok (.ifCond .ne 7, 3) := by decide +kernel
theorem dX8_spread_9 : decode cX8_spread 9 = .ok (.iconst 1, 1) := by decide +kernel
theorem dX8_spread_10 : decode cX8_spread 10 = .ok (.goto 15, 3) := by decide +kernel
theorem dX8_spread_13 : decode cX8_spread 13 = .ok (.iload_n 2, 1) := by decide +kernel
theorem dX8_spread_14 : decode cX8_spread 14 = .ok (.invokestatic 105, 3) := by decide +kernel
theorem dX8_spread_17 : decode cX8_spread 17 = .ok (.ifCond .eq 7, 3) := by decide +kernel
theorem dX8_spread_20 : decode cX8_spread 20 = .ok (.iconst 0, 1) := by decide +kernel
theorem dX8_spread_21 : decode cX8_spread 21 = .ok (.goto 4, 3) := by decide +kernel
theorem dX8_spread_24 : decode cX8_spread 24 = .ok (.iconst 2, 1) := by decide +kernel
theorem dX8_spread_25 : decode cX8_spread 25 = .ok (.invokevirtual 101, 3) := by decide +kernel
theorem dX8_spread_28 : decode cX8_spread 28 = .ok (.ifCond .eq 12, 3) := by decide +kernel
theorem dX8_spread_31 : decode cX8_spread 31 = .ok (.aload_n 0, 1) := by decide +kernel
theorem dX8_spread_32 : decode cX8_spread 32 = .ok (.iload_n 1, 1) := by decide +kernel
theorem dX8_spread_33 : decode cX8_spread 33 = .ok (.iload_n 2, 1) := by decide +kernel
theorem dX8_spread_34 : decode cX8_spread 34 = .ok (.invokevirtual 214, 3) := by decide +kernel
theorem dX8_spread_37 : decode cX8_spread 37 = .ok (.goto 4, 3) := by decide +kernel
theorem dX8_spread_40 : decode cX8_spread 40 = .ok (.iconst 0, 1) := by decide +kernel
theorem dX8_spread_41 : decode cX8_spread 41 = .ok (.ireturn, 1) := by decide +kernel
set_option maxRecDepth 20000 in
theorem ggX8_placeAt_X8_spreads : GoodIn wsX8_placeAt wsX8_spreads := goodIn_r _ [6, 1, 7, 8, 9, 10, 5, 11, 12, 13, 14, 15, 16, 17, 18, 19, 20, 21, 22, 23, 24, 25, 26, 27, 28, 29, 30, 31, 32, 33, 34, 35, 36, 37, 38, 39, 40, 41, 42, 43, 44, 45, 46, 47, 48, 49, 50, 51, 52, 53, 54, 55, 56, 57, 58, 59, 60, 61, 62, 63, 64, 65, 66, 67, 68, 69, 70, 71, 72, 73, 74, 75, 76, 77, 78, 79, 80, 81, 82, 83, 84, 85, 86, 87, 88, 89, 90, 91, 92, 93, 94, 95, 96, 97, 98, 99, 100, 101, 102, 103] (by decide +kernel) (by decide +kernel)
set_option maxRecDepth 20000 in
theorem gX8_placeAt_X8_spreads : GoodIn wsX8_placeAt (wsV RX8 210 RX8 yX8_spreads wsX8_spreads) := goodIn_app (goodIn_of _ (by decide +kernel)) ggX8_placeAt_X8_spreads
theorem dX8_placeAt_0 : decode cX8_placeAt 0 = .ok (.aload_n 0, 1) := by decide +kernel
theorem dX8_placeAt_1 : decode cX8_placeAt 1 = .ok (.iload_n 1, 1) := by decide +kernel
theorem dX8_placeAt_2 : decode cX8_placeAt 2 = .ok (.iload_n 2, 1) := by decide +kernel
theorem dX8_placeAt_3 : decode cX8_placeAt 3 = .ok (.invokevirtual 210, 3) := by decide +kernel
theorem dX8_placeAt_6 : decode cX8_placeAt 6 = .ok (.iload_n 3, 1) := by decide +kernel
theorem dX8_placeAt_7 : decode cX8_placeAt 7 = .ok (.istore 4, 2) := by decide +kernel
theorem dX8_placeAt_9 : decode cX8_placeAt 9 = .ok (.iconst 0, 1) := by decide +kernel
theorem dX8_placeAt_10 : decode cX8_placeAt 10 = .ok (.istore 5, 2) := by decide +kernel
theorem dX8_placeAt_12 : decode cX8_placeAt 12 = .ok (.iload 5, 2) := by decide +kernel
theorem dX8_placeAt_14 : decode cX8_placeAt 14 = .ok (.sipush 3600, 3) := by decide +kernel
theorem dX8_placeAt_17 : decode cX8_placeAt 17 = .ok (.if_icmp .ge 30, 3) := by decide +kernel
theorem dX8_placeAt_20 : decode cX8_placeAt 20 = .ok (.aload_n 0, 1) := by decide +kernel
theorem dX8_placeAt_21 : decode cX8_placeAt 21 = .ok (.getfield 55, 3) := by decide +kernel
theorem dX8_placeAt_24 : decode cX8_placeAt 24 = .ok (.iload 5, 2) := by decide +kernel
theorem dX8_placeAt_26 : decode cX8_placeAt 26 = .ok (.iaload, 1) := by decide +kernel
theorem dX8_placeAt_27 : decode cX8_placeAt 27 = .ok (.ifCond .le 14, 3) := by decide +kernel
theorem dX8_placeAt_30 : decode cX8_placeAt 30 = .ok (.iload 4, 2) := by decide +kernel
theorem dX8_placeAt_32 : decode cX8_placeAt 32 = .ok (.ifCond .ne 6, 3) := by decide +kernel
theorem dX8_placeAt_35 : decode cX8_placeAt 35 = .ok (.iload 5, 2) := by decide +kernel
theorem dX8_placeAt_37 : decode cX8_placeAt 37 = .ok (.ireturn, 1) := by decide +kernel
theorem dX8_placeAt_38 : decode cX8_placeAt 38 = .ok (.iinc 4 (-1), 3) := by decide +kernel
theorem dX8_placeAt_41 : decode cX8_placeAt 41 = .ok (.iinc 5 1, 3) := by decide +kernel
theorem dX8_placeAt_44 : decode cX8_placeAt 44 = .ok (.goto (-32), 3) := by decide +kernel
theorem dX8_placeAt_47 : decode cX8_placeAt 47 = .ok (.iconst (-1), 1) := by decide +kernel
theorem dX8_placeAt_48 : decode cX8_placeAt 48 = .ok (.ireturn, 1) := by decide +kernel
set_option maxRecDepth 20000 in
theorem ggX8_where_X8_isNight : GoodIn wsX8_where wsX8_isNight := goodIn_r _ [4, 5, 6, 3, 7] (by decide +kernel) (by decide +kernel)
set_option maxRecDepth 20000 in
theorem gX8_where_X8_isNight : GoodIn wsX8_where (va_wsS RX8 105 yX8_isNight wsX8_isNight) := goodIn_app (goodIn_of _ (by decide +kernel)) ggX8_where_X8_isNight
set_option maxRecDepth 20000 in
theorem ggX8_where_X8_isBody : GoodIn wsX8_where wsX8_isBody := goodIn_r _ [11, 12, 5, 6, 3, 7, 92, 93, 94, 95, 96, 97, 98, 99, 100, 101, 102, 103, 104, 105, 106, 107, 108, 109, 110, 111, 112, 113, 114, 115, 116, 117, 118, 119, 120, 121, 122, 123] (by decide +kernel) (by decide +kernel)
set_option maxRecDepth 20000 in
theorem gX8_where_X8_isBody : GoodIn wsX8_where (wsV RX8 164 RX8 yX8_isBody wsX8_isBody) := goodIn_app (goodIn_of _ (by decide +kernel)) ggX8_where_X8_isBody
set_option maxRecDepth 20000 in
theorem ggX8_where_X8_can : GoodIn wsX8_where wsX8_can := goodIn_r _ [16, 17, 92, 93, 94, 95, 96, 97, 98, 99, 100, 101, 102, 103, 104, 105, 106, 107, 108, 109, 110, 111, 112, 113, 114, 115, 116, 117, 118, 119, 120, 121, 122, 123] (by decide +kernel) (by decide +kernel)
set_option maxRecDepth 20000 in
theorem gX8_where_X8_can : GoodIn wsX8_where (wsV RX8 101 RX8 yX8_can wsX8_can) := goodIn_app (goodIn_of _ (by decide +kernel)) ggX8_where_X8_can
set_option maxRecDepth 20000 in
theorem ggX8_where_X8_placeAt : GoodIn wsX8_where wsX8_placeAt := goodIn_r _ [21, 22, 23, 24, 25, 3, 26, 27, 28, 29, 30, 31, 32, 33, 34, 35, 36, 37, 38, 39, 40, 41, 42, 43, 44, 45, 46, 47, 48, 49, 50, 51, 52, 53, 54, 55, 56, 57, 58, 59, 60, 61, 62, 63, 64, 65, 66, 67, 68, 69, 70, 71, 72, 73, 74, 75, 76, 77, 78, 79, 80, 81, 82, 83, 84, 85, 86, 87, 88, 89, 90, 91, 92, 93, 94, 95, 96, 97, 98, 99, 100, 101, 102, 103, 104, 105, 106, 107, 108, 109, 110, 111, 112, 113, 114, 115, 116, 117, 118, 119, 120, 121, 122, 123] (by decide +kernel) (by decide +kernel)
set_option maxRecDepth 20000 in
theorem gX8_where_X8_placeAt : GoodIn wsX8_where (wsV RX8 217 RX8 yX8_placeAt wsX8_placeAt) := goodIn_app (goodIn_of _ (by decide +kernel)) ggX8_where_X8_placeAt
theorem dX8_where_0 : decode cX8_where 0 = .ok (.iload_n 2, 1) := by decide +kernel
theorem dX8_where_1 : decode cX8_where 1 = .ok (.invokestatic 105, 3) := by decide +kernel
theorem dX8_where_4 : decode cX8_where 4 = .ok (.ifCond .eq 11, 3) := by decide +kernel
theorem dX8_where_7 : decode cX8_where 7 = .ok (.iload_n 3, 1) := by decide +kernel
theorem dX8_where_8 : decode cX8_where 8 = .ok (.ifCond .lt 7, 3) := by decide +kernel
theorem dX8_where_11 : decode cX8_where 11 = .ok (.iconst 1, 1) := by decide +kernel
theorem dX8_where_12 : decode cX8_where 12 = .ok (.goto 4, 3) := by decide +kernel
theorem dX8_where_15 : decode cX8_where 15 = .ok (.iconst 0, 1) := by decide +kernel
theorem dX8_where_16 : decode cX8_where 16 = .ok (.istore 4, 2) := by decide +kernel
theorem dX8_where_18 : decode cX8_where 18 = .ok (.aload_n 0, 1) := by decide +kernel
theorem dX8_where_19 : decode cX8_where 19 = .ok (.aload_n 0, 1) := by decide +kernel
theorem dX8_where_20 : decode cX8_where 20 = .ok (.iload_n 1, 1) := by decide +kernel
theorem dX8_where_21 : decode cX8_where 21 = .ok (.invokevirtual 164, 3) := by decide +kernel
theorem dX8_where_24 : decode cX8_where 24 = .ok (.ifCond .ne 7, 3) := by decide +kernel
theorem dX8_where_27 : decode cX8_where 27 = .ok (.iconst 1, 1) := by decide +kernel
theorem dX8_where_28 : decode cX8_where 28 = .ok (.goto 13, 3) := by decide +kernel
theorem dX8_where_31 : decode cX8_where 31 = .ok (.iload 4, 2) := by decide +kernel
theorem dX8_where_33 : decode cX8_where 33 = .ok (.ifCond .eq 7, 3) := by decide +kernel
theorem dX8_where_36 : decode cX8_where 36 = .ok (.iconst 0, 1) := by decide +kernel
theorem dX8_where_37 : decode cX8_where 37 = .ok (.goto 4, 3) := by decide +kernel
theorem dX8_where_40 : decode cX8_where 40 = .ok (.iconst 2, 1) := by decide +kernel
theorem dX8_where_41 : decode cX8_where 41 = .ok (.invokevirtual 101, 3) := by decide +kernel
theorem dX8_where_44 : decode cX8_where 44 = .ok (.ifCond .eq 13, 3) := by decide +kernel
theorem dX8_where_47 : decode cX8_where 47 = .ok (.aload_n 0, 1) := by decide +kernel
theorem dX8_where_48 : decode cX8_where 48 = .ok (.iload_n 1, 1) := by decide +kernel
theorem dX8_where_49 : decode cX8_where 49 = .ok (.iload_n 2, 1) := by decide +kernel
theorem dX8_where_50 : decode cX8_where 50 = .ok (.iload_n 3, 1) := by decide +kernel
theorem dX8_where_51 : decode cX8_where 51 = .ok (.invokevirtual 217, 3) := by decide +kernel
theorem dX8_where_54 : decode cX8_where 54 = .ok (.goto 4, 3) := by decide +kernel
theorem dX8_where_57 : decode cX8_where 57 = .ok (.iconst 0, 1) := by decide +kernel
theorem dX8_where_58 : decode cX8_where 58 = .ok (.ireturn, 1) := by decide +kernel
set_option maxRecDepth 20000 in
theorem ggX8_candidatesOf_X8_canLink : GoodIn wsX8_candidatesOf wsX8_canLink := goodIn_r _ [6, 7, 8, 9, 10, 11, 12, 13, 14, 5, 15, 16, 17, 18, 19, 1, 20, 21, 22, 23, 24, 25, 26, 27, 28, 29, 30, 31, 32, 33, 34, 35, 36, 37, 38, 39, 40, 41, 42, 43, 44, 45, 46, 47, 48, 49, 50, 51, 52, 53, 54, 55, 56, 57, 58, 59, 60, 61, 62, 63, 64, 65, 66, 67, 68, 69, 70, 71, 72, 73, 74, 75, 76, 77, 78, 79, 80, 81, 82, 83, 84, 85, 86, 87, 88, 89, 90, 91, 92, 93, 94, 95, 96, 97, 98, 99, 100, 101, 102] (by decide +kernel) (by decide +kernel)
set_option maxRecDepth 20000 in
theorem gX8_candidatesOf_X8_canLink : GoodIn wsX8_candidatesOf (wsV RX8 167 RX8 yX8_canLink wsX8_canLink) := goodIn_app (goodIn_of _ (by decide +kernel)) ggX8_candidatesOf_X8_canLink
theorem dX8_candidatesOf_0 : decode cX8_candidatesOf 0 = .ok (.iconst 0, 1) := by decide +kernel
theorem dX8_candidatesOf_1 : decode cX8_candidatesOf 1 = .ok (.istore_n 2, 1) := by decide +kernel
theorem dX8_candidatesOf_2 : decode cX8_candidatesOf 2 = .ok (.iconst 0, 1) := by decide +kernel
theorem dX8_candidatesOf_3 : decode cX8_candidatesOf 3 = .ok (.istore_n 3, 1) := by decide +kernel
theorem dX8_candidatesOf_4 : decode cX8_candidatesOf 4 = .ok (.iload_n 3, 1) := by decide +kernel
theorem dX8_candidatesOf_5 : decode cX8_candidatesOf 5 = .ok (.aload_n 0, 1) := by decide +kernel
theorem dX8_candidatesOf_6 : decode cX8_candidatesOf 6 = .ok (.getfield 92, 3) := by decide +kernel
theorem dX8_candidatesOf_9 : decode cX8_candidatesOf 9 = .ok (.if_icmp .ge 26, 3) := by decide +kernel
theorem dX8_candidatesOf_12 : decode cX8_candidatesOf 12 = .ok (.iload_n 2, 1) := by decide +kernel
theorem dX8_candidatesOf_13 : decode cX8_candidatesOf 13 = .ok (.aload_n 0, 1) := by decide +kernel
theorem dX8_candidatesOf_14 : decode cX8_candidatesOf 14 = .ok (.iload_n 1, 1) := by decide +kernel
theorem dX8_candidatesOf_15 : decode cX8_candidatesOf 15 = .ok (.iload_n 3, 1) := by decide +kernel
theorem dX8_candidatesOf_16 : decode cX8_candidatesOf 16 = .ok (.invokevirtual 167, 3) := by decide +kernel
theorem dX8_candidatesOf_19 : decode cX8_candidatesOf 19 = .ok (.ifCond .eq 7, 3) := by decide +kernel
theorem dX8_candidatesOf_22 : decode cX8_candidatesOf 22 = .ok (.iconst 1, 1) := by decide +kernel
theorem dX8_candidatesOf_23 : decode cX8_candidatesOf 23 = .ok (.goto 4, 3) := by decide +kernel
theorem dX8_candidatesOf_26 : decode cX8_candidatesOf 26 = .ok (.iconst 0, 1) := by decide +kernel
theorem dX8_candidatesOf_27 : decode cX8_candidatesOf 27 = .ok (.iadd, 1) := by decide +kernel
theorem dX8_candidatesOf_28 : decode cX8_candidatesOf 28 = .ok (.istore_n 2, 1) := by decide +kernel
theorem dX8_candidatesOf_29 : decode cX8_candidatesOf 29 = .ok (.iinc 3 1, 3) := by decide +kernel
theorem dX8_candidatesOf_32 : decode cX8_candidatesOf 32 = .ok (.goto (-28), 3) := by decide +kernel
theorem dX8_candidatesOf_35 : decode cX8_candidatesOf 35 = .ok (.iload_n 2, 1) := by decide +kernel
theorem dX8_candidatesOf_36 : decode cX8_candidatesOf 36 = .ok (.ireturn, 1) := by decide +kernel
set_option maxRecDepth 20000 in
theorem ggX8_candidates_X8_isBody : GoodIn wsX8_candidates wsX8_isBody := goodIn_r _ [5, 6, 7, 8, 4, 9, 88, 89, 90, 91, 92, 93, 94, 95, 96, 97, 98, 99, 100, 101, 102, 103, 104, 105, 106, 107, 108, 109, 110, 111, 112, 113, 114, 115, 116, 117, 118, 119] (by decide +kernel) (by decide +kernel)
set_option maxRecDepth 20000 in
theorem gX8_candidates_X8_isBody : GoodIn wsX8_candidates (wsV RX8 164 RX8 yX8_isBody wsX8_isBody) := goodIn_app (goodIn_of _ (by decide +kernel)) ggX8_candidates_X8_isBody
set_option maxRecDepth 20000 in
theorem ggX8_candidates_X8_can : GoodIn wsX8_candidates wsX8_can := goodIn_r _ [13, 14, 88, 89, 90, 91, 92, 93, 94, 95, 96, 97, 98, 99, 100, 101, 102, 103, 104, 105, 106, 107, 108, 109, 110, 111, 112, 113, 114, 115, 116, 117, 118, 119] (by decide +kernel) (by decide +kernel)
set_option maxRecDepth 20000 in
theorem gX8_candidates_X8_can : GoodIn wsX8_candidates (wsV RX8 101 RX8 yX8_can wsX8_can) := goodIn_app (goodIn_of _ (by decide +kernel)) ggX8_candidates_X8_can
set_option maxRecDepth 20000 in
theorem ggX8_candidates_X8_candidatesOf : GoodIn wsX8_candidates wsX8_candidatesOf := goodIn_r _ [18, 19, 20, 21, 22, 4, 23, 24, 25, 26, 27, 28, 29, 30, 31, 32, 33, 34, 35, 36, 37, 38, 39, 40, 41, 42, 43, 44, 45, 46, 47, 48, 49, 50, 51, 52, 53, 54, 55, 56, 57, 58, 59, 60, 61, 62, 63, 64, 65, 66, 67, 68, 69, 70, 71, 72, 73, 74, 75, 76, 77, 78, 79, 80, 81, 82, 83, 84, 85, 86, 87, 88, 89, 90, 91, 92, 93, 94, 95, 96, 97, 98, 99, 100, 101, 102, 103, 104, 105, 106, 107, 108, 109, 110, 111, 112, 113, 114, 115, 116, 117, 118, 119] (by decide +kernel) (by decide +kernel)
set_option maxRecDepth 20000 in
theorem gX8_candidates_X8_candidatesOf : GoodIn wsX8_candidates (wsV RX8 220 RX8 yX8_candidatesOf wsX8_candidatesOf) := goodIn_app (goodIn_of _ (by decide +kernel)) ggX8_candidates_X8_candidatesOf
theorem dX8_candidates_0 : decode cX8_candidates 0 = .ok (.aload_n 0, 1) := by decide +kernel
theorem dX8_candidates_1 : decode cX8_candidates 1 = .ok (.aload_n 0, 1) := by decide +kernel
theorem dX8_candidates_2 : decode cX8_candidates 2 = .ok (.iload_n 1, 1) := by decide +kernel
theorem dX8_candidates_3 : decode cX8_candidates 3 = .ok (.invokevirtual 164, 3) := by decide +kernel
theorem dX8_candidates_6 : decode cX8_candidates 6 = .ok (.ifCond .eq 7, 3) := by decide +kernel
theorem dX8_candidates_9 : decode cX8_candidates 9 = .ok (.iconst 0, 1) := by decide +kernel
theorem dX8_candidates_10 : decode cX8_candidates 10 = .ok (.goto 4, 3) := by decide +kernel
theorem dX8_candidates_13 : decode cX8_candidates 13 = .ok (.iconst 1, 1) := by decide +kernel
theorem dX8_candidates_14 : decode cX8_candidates 14 = .ok (.invokevirtual 101, 3) := by decide +kernel
theorem dX8_candidates_17 : decode cX8_candidates 17 = .ok (.ifCond .eq 11, 3) := by decide +kernel
theorem dX8_candidates_20 : decode cX8_candidates 20 = .ok (.aload_n 0, 1) := by decide +kernel
theorem dX8_candidates_21 : decode cX8_candidates 21 = .ok (.iload_n 1, 1) := by decide +kernel
theorem dX8_candidates_22 : decode cX8_candidates 22 = .ok (.invokevirtual 220, 3) := by decide +kernel
theorem dX8_candidates_25 : decode cX8_candidates 25 = .ok (.goto 4, 3) := by decide +kernel
theorem dX8_candidates_28 : decode cX8_candidates 28 = .ok (.iconst 0, 1) := by decide +kernel
theorem dX8_candidates_29 : decode cX8_candidates 29 = .ok (.ireturn, 1) := by decide +kernel
set_option maxRecDepth 20000 in
theorem ggX8_isNear_X8_placeBy : GoodIn wsX8_isNear wsX8_placeBy := goodIn_r _ [5, 6, 7, 4, 8, 9, 10, 11] (by decide +kernel) (by decide +kernel)
set_option maxRecDepth 20000 in
theorem gX8_isNear_X8_placeBy : GoodIn wsX8_isNear (wsV RX8 207 RX8 yX8_placeBy wsX8_placeBy) := goodIn_app (goodIn_of _ (by decide +kernel)) ggX8_isNear_X8_placeBy
set_option maxRecDepth 20000 in
theorem ggX8_isNear_X8_apart : GoodIn wsX8_isNear wsX8_apart := goodIn_r _ [14, 15, 16, 4, 17] (by decide +kernel) (by decide +kernel)
set_option maxRecDepth 20000 in
theorem gX8_isNear_X8_apart : GoodIn wsX8_isNear (va_wsS RX8 138 yX8_apart wsX8_apart) := goodIn_app (goodIn_of _ (by decide +kernel)) ggX8_isNear_X8_apart
theorem dX8_isNear_0 : decode cX8_isNear 0 = .ok (.iconst 0, 1) := by decide +kernel
theorem dX8_isNear_1 : decode cX8_isNear 1 = .ok (.istore 4, 2) := by decide +kernel
theorem dX8_isNear_3 : decode cX8_isNear 3 = .ok (.iload_n 2, 1) := by decide +kernel
theorem dX8_isNear_4 : decode cX8_isNear 4 = .ok (.istore 5, 2) := by decide +kernel
theorem dX8_isNear_6 : decode cX8_isNear 6 = .ok (.iload 5, 2) := by decide +kernel
theorem dX8_isNear_8 : decode cX8_isNear 8 = .ok (.iload_n 2, 1) := by decide +kernel
theorem dX8_isNear_9 : decode cX8_isNear 9 = .ok (.iload_n 3, 1) := by decide +kernel
theorem dX8_isNear_10 : decode cX8_isNear 10 = .ok (.iadd, 1) := by decide +kernel
theorem dX8_isNear_11 : decode cX8_isNear 11 = .ok (.if_icmp .ge 44, 3) := by decide +kernel
theorem dX8_isNear_14 : decode cX8_isNear 14 = .ok (.iload 4, 2) := by decide +kernel
theorem dX8_isNear_16 : decode cX8_isNear 16 = .ok (.ifCond .ne 39, 3) := by decide +kernel
theorem dX8_isNear_19 : decode cX8_isNear 19 = .ok (.aload_n 0, 1) := by decide +kernel
theorem dX8_isNear_20 : decode cX8_isNear 20 = .ok (.iload_n 1, 1) := by decide +kernel
theorem dX8_isNear_21 : decode cX8_isNear 21 = .ok (.iload 5, 2) := by decide +kernel
theorem dX8_isNear_23 : decode cX8_isNear 23 = .ok (.invokevirtual 207, 3) := by decide +kernel
theorem dX8_isNear_26 : decode cX8_isNear 26 = .ok (.bipush 10, 2) := by decide +kernel
theorem dX8_isNear_28 : decode cX8_isNear 28 = .ok (.iload 5, 2) := by decide +kernel
theorem dX8_isNear_30 : decode cX8_isNear 30 = .ok (.imul, 1) := by decide +kernel
theorem dX8_isNear_31 : decode cX8_isNear 31 = .ok (.sipush 3600, 3) := by decide +kernel
theorem dX8_isNear_34 : decode cX8_isNear 34 = .ok (.irem, 1) := by decide +kernel
theorem dX8_isNear_35 : decode cX8_isNear 35 = .ok (.invokestatic 138, 3) := by decide +kernel
theorem dX8_isNear_38 : decode cX8_isNear 38 = .ok (.iconst 2, 1) := by decide +kernel
theorem dX8_isNear_39 : decode cX8_isNear 39 = .ok (.if_icmp .gt 7, 3) := by decide +kernel
theorem dX8_isNear_42 : decode cX8_isNear 42 = .ok (.iconst 1, 1) := by decide +kernel
theorem dX8_isNear_43 : decode cX8_isNear 43 = .ok (.goto 4, 3) := by decide +kernel
theorem dX8_isNear_46 : decode cX8_isNear 46 = .ok (.iconst 0, 1) := by decide +kernel
theorem dX8_isNear_47 : decode cX8_isNear 47 = .ok (.istore 4, 2) := by decide +kernel
theorem dX8_isNear_49 : decode cX8_isNear 49 = .ok (.iinc 5 1, 3) := by decide +kernel
theorem dX8_isNear_52 : decode cX8_isNear 52 = .ok (.goto (-46), 3) := by decide +kernel
theorem dX8_isNear_55 : decode cX8_isNear 55 = .ok (.iload 4, 2) := by decide +kernel
theorem dX8_isNear_57 : decode cX8_isNear 57 = .ok (.ireturn, 1) := by decide +kernel
set_option maxRecDepth 20000 in
theorem ggX8_paths_X8_placeBy : GoodIn wsX8_paths wsX8_placeBy := goodIn_r _ [11, 12, 13, 10, 14, 15, 16, 17] (by decide +kernel) (by decide +kernel)
set_option maxRecDepth 20000 in
theorem gX8_paths_X8_placeBy : GoodIn wsX8_paths (wsV RX8 207 RX8 yX8_placeBy wsX8_placeBy) := goodIn_app (goodIn_of _ (by decide +kernel)) ggX8_paths_X8_placeBy
set_option maxRecDepth 20000 in
theorem ggX8_paths_X8_isNear : GoodIn wsX8_paths wsX8_isNear := goodIn_r _ [21, 7, 8, 9, 10, 11, 12, 13, 14, 15, 16, 17, 22, 23, 24, 25, 26, 27] (by decide +kernel) (by decide +kernel)
set_option maxRecDepth 20000 in
theorem gX8_paths_X8_isNear : GoodIn wsX8_paths (wsV RX8 223 RX8 yX8_isNear wsX8_isNear) := goodIn_app (goodIn_of _ (by decide +kernel)) ggX8_paths_X8_isNear
theorem dX8_paths_0 : decode cX8_paths 0 = .ok (.iconst 0, 1) := by decide +kernel
theorem dX8_paths_1 : decode cX8_paths 1 = .ok (.istore_n 3, 1) := by decide +kernel
theorem dX8_paths_2 : decode cX8_paths 2 = .ok (.iconst 0, 1) := by decide +kernel
theorem dX8_paths_3 : decode cX8_paths 3 = .ok (.istore 4, 2) := by decide +kernel
theorem dX8_paths_5 : decode cX8_paths 5 = .ok (.iload 4, 2) := by decide +kernel
theorem dX8_paths_7 : decode cX8_paths 7 = .ok (.sipush 3600, 3) := by decide +kernel
theorem dX8_paths_10 : decode cX8_paths 10 = .ok (.if_icmp .ge 17, 3) := by decide +kernel
theorem dX8_paths_13 : decode cX8_paths 13 = .ok (.aload_n 0, 1) := by decide +kernel
theorem dX8_paths_14 : decode cX8_paths 14 = .ok (.getfield 58, 3) := by decide +kernel
theorem dX8_paths_17 : decode cX8_paths 17 = .ok (.iload 4, 2) := by decide +kernel
theorem dX8_paths_19 : decode cX8_paths 19 = .ok (.iconst (-1), 1) := by decide +kernel
theorem dX8_paths_20 : decode cX8_paths 20 = .ok (.iastore, 1) := by decide +kernel
theorem dX8_paths_21 : decode cX8_paths 21 = .ok (.iinc 4 1, 3) := by decide +kernel
theorem dX8_paths_24 : decode cX8_paths 24 = .ok (.goto (-19), 3) := by decide +kernel
theorem dX8_paths_27 : decode cX8_paths 27 = .ok (.iconst 0, 1) := by decide +kernel
theorem dX8_paths_28 : decode cX8_paths 28 = .ok (.istore 4, 2) := by decide +kernel
theorem dX8_paths_30 : decode cX8_paths 30 = .ok (.iload 4, 2) := by decide +kernel
theorem dX8_paths_32 : decode cX8_paths 32 = .ok (.aload_n 0, 1) := by decide +kernel
theorem dX8_paths_33 : decode cX8_paths 33 = .ok (.getfield 145, 3) := by decide +kernel
theorem dX8_paths_36 : decode cX8_paths 36 = .ok (.if_icmp .ge 214, 3) := by decide +kernel
theorem dX8_paths_39 : decode cX8_paths 39 = .ok (.aload_n 0, 1) := by decide +kernel
theorem dX8_paths_40 : decode cX8_paths 40 = .ok (.aload_n 0, 1) := by decide +kernel
theorem dX8_paths_41 : decode cX8_paths 41 = .ok (.getfield 52, 3) := by decide +kernel
theorem dX8_paths_44 : decode cX8_paths 44 = .ok (.iload 4, 2) := by decide +kernel
theorem dX8_paths_46 : decode cX8_paths 46 = .ok (.iaload, 1) := by decide +kernel
theorem dX8_paths_47 : decode cX8_paths 47 = .ok (.iload_n 1, 1) := by decide +kernel
theorem dX8_paths_48 : decode cX8_paths 48 = .ok (.invokevirtual 207, 3) := by decide +kernel
theorem dX8_paths_51 : decode cX8_paths 51 = .ok (.istore 5, 2) := by decide +kernel
theorem dX8_paths_53 : decode cX8_paths 53 = .ok (.iload_n 2, 1) := by decide +kernel
theorem dX8_paths_54 : decode cX8_paths 54 = .ok (.iconst 1, 1) := by decide +kernel
theorem dX8_paths_55 : decode cX8_paths 55 = .ok (.if_icmp .ne 7, 3) := by decide +kernel
theorem dX8_paths_58 : decode cX8_paths 58 = .ok (.iconst 0, 1) := by decide +kernel
theorem dX8_paths_59 : decode cX8_paths 59 = .ok (.goto 17, 3) := by decide +kernel
theorem dX8_paths_62 : decode cX8_paths 62 = .ok (.aload_n 0, 1) := by decide +kernel
theorem dX8_paths_63 : decode cX8_paths 63 = .ok (.aload_n 0, 1) := by decide +kernel
theorem dX8_paths_64 : decode cX8_paths 64 = .ok (.getfield 52, 3) := by decide +kernel
theorem dX8_paths_67 : decode cX8_paths 67 = .ok (.iload 4, 2) := by decide +kernel
theorem dX8_paths_69 : decode cX8_paths 69 = .ok (.iaload, 1) := by decide +kernel
theorem dX8_paths_70 : decode cX8_paths 70 = .ok (.iload_n 1, 1) := by decide +kernel
theorem dX8_paths_71 : decode cX8_paths 71 = .ok (.iconst 1, 1) := by decide +kernel
theorem dX8_paths_72 : decode cX8_paths 72 = .ok (.iadd, 1) := by decide +kernel
theorem dX8_paths_73 : decode cX8_paths 73 = .ok (.invokevirtual 207, 3) := by decide +kernel
theorem dX8_paths_76 : decode cX8_paths 76 = .ok (.istore 6, 2) := by decide +kernel
theorem dX8_paths_78 : decode cX8_paths 78 = .ok (.iload_n 2, 1) := by decide +kernel
theorem dX8_paths_79 : decode cX8_paths 79 = .ok (.iconst 3, 1) := by decide +kernel
theorem dX8_paths_80 : decode cX8_paths 80 = .ok (.if_icmp .ge 7, 3) := by decide +kernel
theorem dX8_paths_83 : decode cX8_paths 83 = .ok (.iconst 0, 1) := by decide +kernel
theorem dX8_paths_84 : decode cX8_paths 84 = .ok (.goto 17, 3) := by decide +kernel
theorem dX8_paths_87 : decode cX8_paths 87 = .ok (.aload_n 0, 1) := by decide +kernel
theorem dX8_paths_88 : decode cX8_paths 88 = .ok (.aload_n 0, 1) := by decide +kernel
theorem dX8_paths_89 : decode cX8_paths 89 = .ok (.getfield 52, 3) := by decide +kernel
theorem dX8_paths_92 : decode cX8_paths 92 = .ok (.iload 4, 2) := by decide +kernel
theorem dX8_paths_94 : decode cX8_paths 94 = .ok (.iaload, 1) := by decide +kernel
theorem dX8_paths_95 : decode cX8_paths 95 = .ok (.iload_n 1, 1) := by decide +kernel
theorem dX8_paths_96 : decode cX8_paths 96 = .ok (.iconst 2, 1) := by decide +kernel
theorem dX8_paths_97 : decode cX8_paths 97 = .ok (.iadd, 1) := by decide +kernel
theorem dX8_paths_98 : decode cX8_paths 98 = .ok (.invokevirtual 207, 3) := by decide +kernel
theorem dX8_paths_101 : decode cX8_paths 101 = .ok (.istore 7, 2) := by decide +kernel
theorem dX8_paths_103 : decode cX8_paths 103 = .ok (.iconst 0, 1) := by decide +kernel
theorem dX8_paths_104 : decode cX8_paths 104 = .ok (.istore 8, 2) := by decide +kernel
theorem dX8_paths_106 : decode cX8_paths 106 = .ok (.aload_n 0, 1) := by decide +kernel
theorem dX8_paths_107 : decode cX8_paths 107 = .ok (.getfield 58, 3) := by decide +kernel
theorem dX8_paths_110 : decode cX8_paths 110 = .ok (.iload 5, 2) := by decide +kernel
theorem dX8_paths_112 : decode cX8_paths 112 = .ok (.iaload, 1) := by decide +kernel
theorem dX8_paths_113 : decode cX8_paths 113 = .ok (.istore 9, 2) := by decide +kernel
theorem dX8_paths_115 : decode cX8_paths 115 = .ok (.iload 9, 2) := by decide +kernel
theorem dX8_paths_117 : decode cX8_paths 117 = .ok (.iconst (-1), 1) := by decide +kernel
theorem dX8_paths_118 : decode cX8_paths 118 = .ok (.if_icmp .eq 46, 3) := by decide +kernel
theorem dX8_paths_121 : decode cX8_paths 121 = .ok (.iload 8, 2) := by decide +kernel
theorem dX8_paths_123 : decode cX8_paths 123 = .ok (.ifCond .ne 22, 3) := by decide +kernel
theorem dX8_paths_126 : decode cX8_paths 126 = .ok (.aload_n 0, 1) := by decide +kernel
theorem dX8_paths_127 : decode cX8_paths 127 = .ok (.getfield 64, 3) := by decide +kernel
theorem dX8_paths_130 : decode cX8_paths 130 = .ok (.iload 9, 2) := by decide +kernel
theorem dX8_paths_132 : decode cX8_paths 132 = .ok (.iaload, 1) := by decide +kernel
theorem dX8_paths_133 : decode cX8_paths 133 = .ok (.sipush 3600, 3) := by decide +kernel
theorem dX8_paths_136 : decode cX8_paths 136 = .ok (.iload 6, 2) := by decide +kernel
theorem dX8_paths_138 : decode cX8_paths 138 = .ok (.imul, 1) := by decide +kernel
theorem dX8_paths_139 : decode cX8_paths 139 = .ok (.iload 7, 2) := by decide +kernel
theorem dX8_paths_141 : decode cX8_paths 141 = .ok (.iadd, 1) := by decide +kernel
theorem dX8_paths_142 : decode cX8_paths 142 = .ok (.if_icmp .ne 7, 3) := by decide +kernel
theorem dX8_paths_145 : decode cX8_paths 145 = .ok (.iconst 1, 1) := by decide +kernel
theorem dX8_paths_146 : decode cX8_paths 146 = .ok (.goto 4, 3) := by decide +kernel
theorem dX8_paths_149 : decode cX8_paths 149 = .ok (.iconst 0, 1) := by decide +kernel
theorem dX8_paths_150 : decode cX8_paths 150 = .ok (.istore 8, 2) := by decide +kernel
theorem dX8_paths_152 : decode cX8_paths 152 = .ok (.aload_n 0, 1) := by decide +kernel
theorem dX8_paths_153 : decode cX8_paths 153 = .ok (.getfield 61, 3) := by decide +kernel
theorem dX8_paths_156 : decode cX8_paths 156 = .ok (.iload 9, 2) := by decide +kernel
theorem dX8_paths_158 : decode cX8_paths 158 = .ok (.iaload, 1) := by decide +kernel
theorem dX8_paths_159 : decode cX8_paths 159 = .ok (.istore 9, 2) := by decide +kernel
theorem dX8_paths_161 : decode cX8_paths 161 = .ok (.goto (-46), 3) := by decide +kernel
theorem dX8_paths_164 : decode cX8_paths 164 = .ok (.aload_n 0, 1) := by decide +kernel
theorem dX8_paths_165 : decode cX8_paths 165 = .ok (.getfield 64, 3) := by decide +kernel
theorem dX8_paths_168 : decode cX8_paths 168 = .ok (.iload 4, 2) := by decide +kernel
theorem dX8_paths_170 : decode cX8_paths 170 = .ok (.sipush 3600, 3) := by decide +kernel
theorem dX8_paths_173 : decode cX8_paths 173 = .ok (.iload 6, 2) := by decide +kernel
theorem dX8_paths_175 : decode cX8_paths 175 = .ok (.imul, 1) := by decide +kernel
theorem dX8_paths_176 : decode cX8_paths 176 = .ok (.iload 7, 2) := by decide +kernel
theorem dX8_paths_178 : decode cX8_paths 178 = .ok (.iadd, 1) := by decide +kernel
theorem dX8_paths_179 : decode cX8_paths 179 = .ok (.iastore, 1) := by decide +kernel
theorem dX8_paths_180 : decode cX8_paths 180 = .ok (.aload_n 0, 1) := by decide +kernel
theorem dX8_paths_181 : decode cX8_paths 181 = .ok (.getfield 67, 3) := by decide +kernel
theorem dX8_paths_184 : decode cX8_paths 184 = .ok (.iload 4, 2) := by decide +kernel
theorem dX8_paths_186 : decode cX8_paths 186 = .ok (.iload 8, 2) := by decide +kernel
theorem dX8_paths_188 : decode cX8_paths 188 = .ok (.ifCond .ne 23, 3) := by decide +kernel
theorem dX8_paths_191 : decode cX8_paths 191 = .ok (.aload_n 0, 1) := by decide +kernel
theorem dX8_paths_192 : decode cX8_paths 192 = .ok (.aload_n 0, 1) := by decide +kernel
theorem dX8_paths_193 : decode cX8_paths 193 = .ok (.getfield 52, 3) := by decide +kernel
theorem dX8_paths_196 : decode cX8_paths 196 = .ok (.iload 4, 2) := by decide +kernel
theorem dX8_paths_198 : decode cX8_paths 198 = .ok (.iaload, 1) := by decide +kernel
theorem dX8_paths_199 : decode cX8_paths 199 = .ok (.iload_n 1, 1) := by decide +kernel
theorem dX8_paths_200 : decode cX8_paths 200 = .ok (.iload_n 2, 1) := by decide +kernel
theorem dX8_paths_201 : decode cX8_paths 201 = .ok (.invokevirtual 223, 3) := by decide +kernel
theorem dX8_paths_204 : decode cX8_paths 204 = .ok (.ifCond .eq 7, 3) := by decide +kernel
theorem dX8_paths_207 : decode cX8_paths 207 = .ok (.iconst 1, 1) := by decide +kernel
theorem dX8_paths_208 : decode cX8_paths 208 = .ok (.goto 4, 3) := by decide +kernel
theorem dX8_paths_211 : decode cX8_paths 211 = .ok (.iconst 0, 1) := by decide +kernel
theorem dX8_paths_212 : decode cX8_paths 212 = .ok (.bastore, 1) := by decide +kernel
theorem dX8_paths_213 : decode cX8_paths 213 = .ok (.iload 8, 2) := by decide +kernel
theorem dX8_paths_215 : decode cX8_paths 215 = .ok (.ifCond .ne 29, 3) := by decide +kernel
theorem dX8_paths_218 : decode cX8_paths 218 = .ok (.aload_n 0, 1) := by decide +kernel
theorem dX8_paths_219 : decode cX8_paths 219 = .ok (.getfield 61, 3) := by decide +kernel
theorem dX8_paths_222 : decode cX8_paths 222 = .ok (.iload 4, 2) := by decide +kernel
theorem dX8_paths_224 : decode cX8_paths 224 = .ok (.aload_n 0, 1) := by decide +kernel
theorem dX8_paths_225 : decode cX8_paths 225 = .ok (.getfield 58, 3) := by decide +kernel
theorem dX8_paths_228 : decode cX8_paths 228 = .ok (.iload 5, 2) := by decide +kernel
theorem dX8_paths_230 : decode cX8_paths 230 = .ok (.iaload, 1) := by decide +kernel
theorem dX8_paths_231 : decode cX8_paths 231 = .ok (.iastore, 1) := by decide +kernel
theorem dX8_paths_232 : decode cX8_paths 232 = .ok (.aload_n 0, 1) := by decide +kernel
theorem dX8_paths_233 : decode cX8_paths 233 = .ok (.getfield 58, 3) := by decide +kernel
theorem dX8_paths_236 : decode cX8_paths 236 = .ok (.iload 5, 2) := by decide +kernel
theorem dX8_paths_238 : decode cX8_paths 238 = .ok (.iload 4, 2) := by decide +kernel
theorem dX8_paths_240 : decode cX8_paths 240 = .ok (.iastore, 1) := by decide +kernel
theorem dX8_paths_241 : decode cX8_paths 241 = .ok (.iinc 3 1, 3) := by decide +kernel
theorem dX8_paths_244 : decode cX8_paths 244 = .ok (.iinc 4 1, 3) := by decide +kernel
theorem dX8_paths_247 : decode cX8_paths 247 = .ok (.goto (-217), 3) := by decide +kernel
theorem dX8_paths_250 : decode cX8_paths 250 = .ok (.iload_n 3, 1) := by decide +kernel
theorem dX8_paths_251 : decode cX8_paths 251 = .ok (.ireturn, 1) := by decide +kernel
theorem dX8_common_0 : decode cX8_common 0 = .ok (.iload_n 0, 1) := by decide +kernel
theorem dX8_common_1 : decode cX8_common 1 = .ok (.istore_n 2, 1) := by decide +kernel
theorem dX8_common_2 : decode cX8_common 2 = .ok (.iload_n 1, 1) := by decide +kernel
theorem dX8_common_3 : decode cX8_common 3 = .ok (.istore_n 3, 1) := by decide +kernel
theorem dX8_common_4 : decode cX8_common 4 = .ok (.iload_n 3, 1) := by decide +kernel
theorem dX8_common_5 : decode cX8_common 5 = .ok (.ifCond .eq 16, 3) := by decide +kernel
theorem dX8_common_8 : decode cX8_common 8 = .ok (.iload_n 2, 1) := by decide +kernel
theorem dX8_common_9 : decode cX8_common 9 = .ok (.iload_n 3, 1) := by decide +kernel
theorem dX8_common_10 : decode cX8_common 10 = .ok (.irem, 1) := by decide +kernel
theorem dX8_common_11 : decode cX8_common 11 = .ok (.istore 4, 2) := by decide +kernel
theorem dX8_common_13 : decode cX8_common 13 = .ok (.iload_n 3, 1) := by decide +kernel
theorem dX8_common_14 : decode cX8_common 14 = .ok (.istore_n 2, 1) := by decide +kernel
theorem dX8_common_15 : decode cX8_common 15 = .ok (.iload 4, 2) := by decide +kernel
theorem dX8_common_17 : decode cX8_common 17 = .ok (.istore_n 3, 1) := by decide +kernel
theorem dX8_common_18 : decode cX8_common 18 = .ok (.goto (-14), 3) := by decide +kernel
theorem dX8_common_21 : decode cX8_common 21 = .ok (.iload_n 2, 1) := by decide +kernel
theorem dX8_common_22 : decode cX8_common 22 = .ok (.ireturn, 1) := by decide +kernel
set_option maxRecDepth 20000 in
theorem ggX8_chanceOf_X8_orbitsOf : GoodIn wsX8_chanceOf wsX8_orbitsOf := goodIn_r _ [7, 1, 8, 9, 10, 6, 11, 12, 13, 14, 15, 16, 17, 18, 19, 20, 21, 22, 23, 24, 25, 26, 27, 28, 29, 30, 31, 32, 33, 34, 35, 36, 37, 38, 39, 40, 41, 42, 43, 44, 45, 46, 47, 48, 49, 50, 51, 52, 53, 54, 55, 56, 57, 58, 59, 60, 61, 62, 63, 82, 83, 84, 85, 86, 87, 88, 89, 90, 91, 92, 93, 94, 95, 96, 97, 98, 99, 100, 101, 102, 103, 104, 105, 106, 107, 108, 109, 110, 111, 112, 113] (by decide +kernel) (by decide +kernel)
set_option maxRecDepth 20000 in
theorem gX8_chanceOf_X8_orbitsOf : GoodIn wsX8_chanceOf (wsV RX8 200 RX8 yX8_orbitsOf wsX8_orbitsOf) := goodIn_app (goodIn_of _ (by decide +kernel)) ggX8_chanceOf_X8_orbitsOf
set_option maxRecDepth 20000 in
theorem ggX8_chanceOf_X8_paths : GoodIn wsX8_chanceOf wsX8_paths := goodIn_r _ [67, 68, 1, 29, 69, 70, 2, 71, 72, 73, 6, 74, 51, 52, 53, 43, 44, 45, 75, 76, 77, 78, 58, 59, 60, 61, 62, 63, 82, 83, 84, 85, 86, 87, 88, 89, 90, 91, 92, 93, 94, 95, 96, 97, 98, 99, 100, 101, 102, 103, 104, 105, 106, 107, 108, 109, 110, 111, 112, 113] (by decide +kernel) (by decide +kernel)
set_option maxRecDepth 20000 in
theorem gX8_chanceOf_X8_paths : GoodIn wsX8_chanceOf (wsV RX8 226 RX8 yX8_paths wsX8_paths) := goodIn_app (goodIn_of _ (by decide +kernel)) ggX8_chanceOf_X8_paths
set_option maxRecDepth 20000 in
theorem ggX8_chanceOf_X8_common : GoodIn wsX8_chanceOf wsX8_common := goodIn_r _ [81] (by decide +kernel) (by decide +kernel)
set_option maxRecDepth 20000 in
theorem gX8_chanceOf_X8_common : GoodIn wsX8_chanceOf (va_wsS RX8 229 yX8_common wsX8_common) := goodIn_app (goodIn_of _ (by decide +kernel)) ggX8_chanceOf_X8_common
theorem dX8_chanceOf_0 : decode cX8_chanceOf 0 = .ok (.aload_n 0, 1) := by decide +kernel
theorem dX8_chanceOf_1 : decode cX8_chanceOf 1 = .ok (.iload_n 1, 1) := by decide +kernel
theorem dX8_chanceOf_2 : decode cX8_chanceOf 2 = .ok (.invokevirtual 200, 3) := by decide +kernel
theorem dX8_chanceOf_5 : decode cX8_chanceOf 5 = .ok (.ifCond .ne 7, 3) := by decide +kernel
theorem dX8_chanceOf_8 : decode cX8_chanceOf 8 = .ok (.iconst 0, 1) := by decide +kernel
theorem dX8_chanceOf_9 : decode cX8_chanceOf 9 = .ok (.goto 9, 3) := by decide +kernel
theorem dX8_chanceOf_12 : decode cX8_chanceOf 12 = .ok (.aload_n 0, 1) := by decide +kernel
theorem dX8_chanceOf_13 : decode cX8_chanceOf 13 = .ok (.iload_n 2, 1) := by decide +kernel
theorem dX8_chanceOf_14 : decode cX8_chanceOf 14 = .ok (.iload_n 3, 1) := by decide +kernel
theorem dX8_chanceOf_15 : decode cX8_chanceOf 15 = .ok (.invokevirtual 226, 3) := by decide +kernel
theorem dX8_chanceOf_18 : decode cX8_chanceOf 18 = .ok (.istore 5, 2) := by decide +kernel
theorem dX8_chanceOf_20 : decode cX8_chanceOf 20 = .ok (.iconst 0, 1) := by decide +kernel
theorem dX8_chanceOf_21 : decode cX8_chanceOf 21 = .ok (.istore 6, 2) := by decide +kernel
theorem dX8_chanceOf_23 : decode cX8_chanceOf 23 = .ok (.iconst 0, 1) := by decide +kernel
theorem dX8_chanceOf_24 : decode cX8_chanceOf 24 = .ok (.istore 7, 2) := by decide +kernel
theorem dX8_chanceOf_26 : decode cX8_chanceOf 26 = .ok (.iload 7, 2) := by decide +kernel
theorem dX8_chanceOf_28 : decode cX8_chanceOf 28 = .ok (.aload_n 0, 1) := by decide +kernel
theorem dX8_chanceOf_29 : decode cX8_chanceOf 29 = .ok (.getfield 145, 3) := by decide +kernel
theorem dX8_chanceOf_32 : decode cX8_chanceOf 32 = .ok (.if_icmp .ge 29, 3) := by decide +kernel
theorem dX8_chanceOf_35 : decode cX8_chanceOf 35 = .ok (.iload 6, 2) := by decide +kernel
theorem dX8_chanceOf_37 : decode cX8_chanceOf 37 = .ok (.aload_n 0, 1) := by decide +kernel
theorem dX8_chanceOf_38 : decode cX8_chanceOf 38 = .ok (.getfield 67, 3) := by decide +kernel
theorem dX8_chanceOf_41 : decode cX8_chanceOf 41 = .ok (.iload 7, 2) := by decide +kernel
theorem dX8_chanceOf_43 : decode cX8_chanceOf 43 = .ok (.baload, 1) := by decide +kernel
theorem dX8_chanceOf_44 : decode cX8_chanceOf 44 = .ok (.ifCond .eq 7, 3) := by decide +kernel
theorem dX8_chanceOf_47 : decode cX8_chanceOf 47 = .ok (.iconst 1, 1) := by decide +kernel
theorem dX8_chanceOf_48 : decode cX8_chanceOf 48 = .ok (.goto 4, 3) := by decide +kernel
theorem dX8_chanceOf_51 : decode cX8_chanceOf 51 = .ok (.iconst 0, 1) := by decide +kernel
theorem dX8_chanceOf_52 : decode cX8_chanceOf 52 = .ok (.iadd, 1) := by decide +kernel
theorem dX8_chanceOf_53 : decode cX8_chanceOf 53 = .ok (.istore 6, 2) := by decide +kernel
theorem dX8_chanceOf_55 : decode cX8_chanceOf 55 = .ok (.iinc 7 1, 3) := by decide +kernel
theorem dX8_chanceOf_58 : decode cX8_chanceOf 58 = .ok (.goto (-32), 3) := by decide +kernel
theorem dX8_chanceOf_61 : decode cX8_chanceOf 61 = .ok (.iload 5, 2) := by decide +kernel
theorem dX8_chanceOf_63 : decode cX8_chanceOf 63 = .ok (.ifCond .ne 7, 3) := by decide +kernel
theorem dX8_chanceOf_66 : decode cX8_chanceOf 66 = .ok (.iconst 1, 1) := by decide +kernel
theorem dX8_chanceOf_67 : decode cX8_chanceOf 67 = .ok (.goto 10, 3) := by decide +kernel
theorem dX8_chanceOf_70 : decode cX8_chanceOf 70 = .ok (.iload 5, 2) := by decide +kernel
theorem dX8_chanceOf_72 : decode cX8_chanceOf 72 = .ok (.iload 6, 2) := by decide +kernel
theorem dX8_chanceOf_74 : decode cX8_chanceOf 74 = .ok (.invokestatic 229, 3) := by decide +kernel
theorem dX8_chanceOf_77 : decode cX8_chanceOf 77 = .ok (.istore 7, 2) := by decide +kernel
theorem dX8_chanceOf_79 : decode cX8_chanceOf 79 = .ok (.iload 4, 2) := by decide +kernel
theorem dX8_chanceOf_81 : decode cX8_chanceOf 81 = .ok (.ifCond .eq 11, 3) := by decide +kernel
theorem dX8_chanceOf_84 : decode cX8_chanceOf 84 = .ok (.iload 5, 2) := by decide +kernel
theorem dX8_chanceOf_86 : decode cX8_chanceOf 86 = .ok (.iload 7, 2) := by decide +kernel
theorem dX8_chanceOf_88 : decode cX8_chanceOf 88 = .ok (.idiv, 1) := by decide +kernel
theorem dX8_chanceOf_89 : decode cX8_chanceOf 89 = .ok (.goto 8, 3) := by decide +kernel
theorem dX8_chanceOf_92 : decode cX8_chanceOf 92 = .ok (.iload 6, 2) := by decide +kernel
theorem dX8_chanceOf_94 : decode cX8_chanceOf 94 = .ok (.iload 7, 2) := by decide +kernel
theorem dX8_chanceOf_96 : decode cX8_chanceOf 96 = .ok (.idiv, 1) := by decide +kernel
theorem dX8_chanceOf_97 : decode cX8_chanceOf 97 = .ok (.ireturn, 1) := by decide +kernel
set_option maxRecDepth 20000 in
theorem ggX8_chance_X8_isNight : GoodIn wsX8_chance wsX8_isNight := goodIn_r _ [4, 5, 6, 3, 7] (by decide +kernel) (by decide +kernel)
set_option maxRecDepth 20000 in
theorem gX8_chance_X8_isNight : GoodIn wsX8_chance (va_wsS RX8 105 yX8_isNight wsX8_isNight) := goodIn_app (goodIn_of _ (by decide +kernel)) ggX8_chance_X8_isNight
set_option maxRecDepth 20000 in
theorem ggX8_chance_X8_isIn : GoodIn wsX8_chance wsX8_isIn := goodIn_r _ [7] (by decide +kernel) (by decide +kernel)
set_option maxRecDepth 20000 in
theorem gX8_chance_X8_isIn : GoodIn wsX8_chance (va_wsS RX8 88 yX8_isIn wsX8_isIn) := goodIn_app (goodIn_of _ (by decide +kernel)) ggX8_chance_X8_isIn
set_option maxRecDepth 20000 in
theorem ggX8_chance_X8_isBody : GoodIn wsX8_chance wsX8_isBody := goodIn_r _ [11, 12, 5, 6, 3, 7, 102, 103, 104, 105, 106, 107, 108, 109, 110, 111, 112, 113, 114, 115, 116, 117, 118, 119, 120, 121, 122, 123, 124, 125, 126, 127, 128, 129, 130, 131, 132, 133] (by decide +kernel) (by decide +kernel)
set_option maxRecDepth 20000 in
theorem gX8_chance_X8_isBody : GoodIn wsX8_chance (wsV RX8 164 RX8 yX8_isBody wsX8_isBody) := goodIn_app (goodIn_of _ (by decide +kernel)) ggX8_chance_X8_isBody
set_option maxRecDepth 20000 in
theorem ggX8_chance_X8_can : GoodIn wsX8_chance wsX8_can := goodIn_r _ [16, 17, 102, 103, 104, 105, 106, 107, 108, 109, 110, 111, 112, 113, 114, 115, 116, 117, 118, 119, 120, 121, 122, 123, 124, 125, 126, 127, 128, 129, 130, 131, 132, 133] (by decide +kernel) (by decide +kernel)
set_option maxRecDepth 20000 in
theorem gX8_chance_X8_can : GoodIn wsX8_chance (wsV RX8 101 RX8 yX8_can wsX8_can) := goodIn_app (goodIn_of _ (by decide +kernel)) ggX8_chance_X8_can
set_option maxRecDepth 20000 in
theorem ggX8_chance_X8_chanceOf : GoodIn wsX8_chance wsX8_chanceOf := goodIn_r _ [21, 22, 23, 24, 25, 26, 3, 27, 28, 29, 30, 31, 32, 33, 34, 35, 36, 37, 38, 39, 40, 41, 42, 43, 44, 45, 46, 47, 48, 49, 50, 51, 52, 53, 54, 55, 56, 57, 58, 59, 60, 61, 62, 63, 64, 65, 66, 67, 68, 69, 70, 71, 72, 73, 74, 75, 76, 77, 78, 79, 80, 81, 82, 83, 84, 85, 86, 87, 88, 89, 90, 91, 92, 93, 94, 95, 96, 97, 98, 99, 100, 101, 102, 103, 104, 105, 106, 107, 108, 109, 110, 111, 112, 113, 114, 115, 116, 117, 118, 119, 120, 121, 122, 123, 124, 125, 126, 127, 128, 129, 130, 131, 132, 133] (by decide +kernel) (by decide +kernel)
set_option maxRecDepth 20000 in
theorem gX8_chance_X8_chanceOf : GoodIn wsX8_chance (wsV RX8 232 RX8 yX8_chanceOf wsX8_chanceOf) := goodIn_app (goodIn_of _ (by decide +kernel)) ggX8_chance_X8_chanceOf
theorem dX8_chance_0 : decode cX8_chance 0 = .ok (.iload_n 2, 1) := by decide +kernel
theorem dX8_chance_1 : decode cX8_chance 1 = .ok (.invokestatic 105, 3) := by decide +kernel
theorem dX8_chance_4 : decode cX8_chance 4 = .ok (.ifCond .eq 26, 3) := by decide +kernel
theorem dX8_chance_7 : decode cX8_chance 7 = .ok (.iload_n 3, 1) := by decide +kernel
theorem dX8_chance_8 : decode cX8_chance 8 = .ok (.iconst 1, 1) := by decide +kernel
theorem dX8_chance_9 : decode cX8_chance 9 = .ok (.bipush 60, 2) := by decide +kernel
theorem dX8_chance_11 : decode cX8_chance 11 = .ok (.invokestatic 88, 3) := by decide +kernel
theorem dX8_chance_14 : decode cX8_chance 14 = .ok (.ifCond .eq 16, 3) := by decide +kernel
theorem dX8_chance_17 : decode cX8_chance 17 = .ok (.iload_n 2, 1) := by decide +kernel
theorem dX8_chance_18 : decode cX8_chance 18 = .ok (.iload_n 3, 1) := by decide +kernel
theorem dX8_chance_19 : decode cX8_chance 19 = .ok (.iadd, 1) := by decide +kernel
theorem dX8_chance_20 : decode cX8_chance 20 = .ok (.sipush 1000, 3) := by decide +kernel
theorem dX8_chance_23 : decode cX8_chance 23 = .ok (.if_icmp .gt 7, 3) := by decide +kernel
theorem dX8_chance_26 : decode cX8_chance 26 = .ok (.iconst 1, 1) := by decide +kernel
theorem dX8_chance_27 : decode cX8_chance 27 = .ok (.goto 4, 3) := by decide +kernel
theorem dX8_chance_30 : decode cX8_chance 30 = .ok (.iconst 0, 1) := by decide +kernel
theorem dX8_chance_31 : decode cX8_chance 31 = .ok (.istore 5, 2) := by decide +kernel
theorem dX8_chance_33 : decode cX8_chance 33 = .ok (.aload_n 0, 1) := by decide +kernel
theorem dX8_chance_34 : decode cX8_chance 34 = .ok (.aload_n 0, 1) := by decide +kernel
theorem dX8_chance_35 : decode cX8_chance 35 = .ok (.iload_n 1, 1) := by decide +kernel
theorem dX8_chance_36 : decode cX8_chance 36 = .ok (.invokevirtual 164, 3) := by decide +kernel
theorem dX8_chance_39 : decode cX8_chance 39 = .ok (.ifCond .ne 7, 3) := by decide +kernel
theorem dX8_chance_42 : decode cX8_chance 42 = .ok (.iconst 1, 1) := by decide +kernel
theorem dX8_chance_43 : decode cX8_chance 43 = .ok (.goto 13, 3) := by decide +kernel
theorem dX8_chance_46 : decode cX8_chance 46 = .ok (.iload 5, 2) := by decide +kernel
theorem dX8_chance_48 : decode cX8_chance 48 = .ok (.ifCond .eq 7, 3) := by decide +kernel
theorem dX8_chance_51 : decode cX8_chance 51 = .ok (.iconst 0, 1) := by decide +kernel
theorem dX8_chance_52 : decode cX8_chance 52 = .ok (.goto 4, 3) := by decide +kernel
theorem dX8_chance_55 : decode cX8_chance 55 = .ok (.iconst 2, 1) := by decide +kernel
theorem dX8_chance_56 : decode cX8_chance 56 = .ok (.invokevirtual 101, 3) := by decide +kernel
theorem dX8_chance_59 : decode cX8_chance 59 = .ok (.ifCond .eq 15, 3) := by decide +kernel
theorem dX8_chance_62 : decode cX8_chance 62 = .ok (.aload_n 0, 1) := by decide +kernel
theorem dX8_chance_63 : decode cX8_chance 63 = .ok (.iload_n 1, 1) := by decide +kernel
theorem dX8_chance_64 : decode cX8_chance 64 = .ok (.iload_n 2, 1) := by decide +kernel
theorem dX8_chance_65 : decode cX8_chance 65 = .ok (.iload_n 3, 1) := by decide +kernel
theorem dX8_chance_66 : decode cX8_chance 66 = .ok (.iload 4, 2) := by decide +kernel
theorem dX8_chance_68 : decode cX8_chance 68 = .ok (.invokevirtual 232, 3) := by decide +kernel
theorem dX8_chance_71 : decode cX8_chance 71 = .ok (.goto 4, 3) := by decide +kernel
theorem dX8_chance_74 : decode cX8_chance 74 = .ok (.iconst 0, 1) := by decide +kernel
theorem dX8_chance_75 : decode cX8_chance 75 = .ok (.ireturn, 1) := by decide +kernel
set_option maxRecDepth 20000 in
theorem ggX8_areAkin_X8_size : GoodIn wsX8_areAkin wsX8_size := goodIn_r _ [7] (by decide +kernel) (by decide +kernel)
set_option maxRecDepth 20000 in
theorem gX8_areAkin_X8_size : GoodIn wsX8_areAkin (va_wsS RX8 84 yX8_size wsX8_size) := goodIn_app (goodIn_of _ (by decide +kernel)) ggX8_areAkin_X8_size
theorem dX8_areAkin_0 : decode cX8_areAkin 0 = .ok (.aload_n 0, 1) := by decide +kernel
theorem dX8_areAkin_1 : decode cX8_areAkin 1 = .ok (.getfield 40, 3) := by decide +kernel
theorem dX8_areAkin_4 : decode cX8_areAkin 4 = .ok (.iload_n 1, 1) := by decide +kernel
theorem dX8_areAkin_5 : decode cX8_areAkin 5 = .ok (.iaload, 1) := by decide +kernel
theorem dX8_areAkin_6 : decode cX8_areAkin 6 = .ok (.ifCond .le 55, 3) := by decide +kernel
theorem dX8_areAkin_9 : decode cX8_areAkin 9 = .ok (.aload_n 0, 1) := by decide +kernel
theorem dX8_areAkin_10 : decode cX8_areAkin 10 = .ok (.getfield 40, 3) := by decide +kernel
theorem dX8_areAkin_13 : decode cX8_areAkin 13 = .ok (.iload_n 2, 1) := by decide +kernel
theorem dX8_areAkin_14 : decode cX8_areAkin 14 = .ok (.iaload, 1) := by decide +kernel
theorem dX8_areAkin_15 : decode cX8_areAkin 15 = .ok (.ifCond .le 46, 3) := by decide +kernel
theorem dX8_areAkin_18 : decode cX8_areAkin 18 = .ok (.aload_n 0, 1) := by decide +kernel
theorem dX8_areAkin_19 : decode cX8_areAkin 19 = .ok (.getfield 43, 3) := by decide +kernel
theorem dX8_areAkin_22 : decode cX8_areAkin 22 = .ok (.iload_n 1, 1) := by decide +kernel
theorem dX8_areAkin_23 : decode cX8_areAkin 23 = .ok (.iaload, 1) := by decide +kernel
theorem dX8_areAkin_24 : decode cX8_areAkin 24 = .ok (.aload_n 0, 1) := by decide +kernel
theorem dX8_areAkin_25 : decode cX8_areAkin 25 = .ok (.getfield 43, 3) := by decide +kernel
theorem dX8_areAkin_28 : decode cX8_areAkin 28 = .ok (.iload_n 2, 1) := by decide +kernel
theorem dX8_areAkin_29 : decode cX8_areAkin 29 = .ok (.iaload, 1) := by decide +kernel
theorem dX8_areAkin_30 : decode cX8_areAkin 30 = .ok (.isub, 1) := by decide +kernel
theorem dX8_areAkin_31 : decode cX8_areAkin 31 = .ok (.invokestatic 84, 3) := by decide +kernel
theorem dX8_areAkin_34 : decode cX8_areAkin 34 = .ok (.iconst 5, 1) := by decide +kernel
theorem dX8_areAkin_35 : decode cX8_areAkin 35 = .ok (.aload_n 0, 1) := by decide +kernel
theorem dX8_areAkin_36 : decode cX8_areAkin 36 = .ok (.getfield 46, 3) := by decide +kernel
theorem dX8_areAkin_39 : decode cX8_areAkin 39 = .ok (.iload_n 1, 1) := by decide +kernel
theorem dX8_areAkin_40 : decode cX8_areAkin 40 = .ok (.iaload, 1) := by decide +kernel
theorem dX8_areAkin_41 : decode cX8_areAkin 41 = .ok (.aload_n 0, 1) := by decide +kernel
theorem dX8_areAkin_42 : decode cX8_areAkin 42 = .ok (.getfield 46, 3) := by decide +kernel
theorem dX8_areAkin_45 : decode cX8_areAkin 45 = .ok (.iload_n 2, 1) := by decide +kernel
theorem dX8_areAkin_46 : decode cX8_areAkin 46 = .ok (.iaload, 1) := by decide +kernel
theorem dX8_areAkin_47 : decode cX8_areAkin 47 = .ok (.isub, 1) := by decide +kernel
theorem dX8_areAkin_48 : decode cX8_areAkin 48 = .ok (.invokestatic 84, 3) := by decide +kernel
theorem dX8_areAkin_51 : decode cX8_areAkin 51 = .ok (.imul, 1) := by decide +kernel
theorem dX8_areAkin_52 : decode cX8_areAkin 52 = .ok (.iadd, 1) := by decide +kernel
theorem dX8_areAkin_53 : decode cX8_areAkin 53 = .ok (.iload_n 3, 1) := by decide +kernel
theorem dX8_areAkin_54 : decode cX8_areAkin 54 = .ok (.if_icmp .gt 7, 3) := by decide +kernel
theorem dX8_areAkin_57 : decode cX8_areAkin 57 = .ok (.iconst 1, 1) := by decide +kernel
theorem dX8_areAkin_58 : decode cX8_areAkin 58 = .ok (.goto 4, 3) := by decide +kernel
theorem dX8_areAkin_61 : decode cX8_areAkin 61 = .ok (.iconst 0, 1) := by decide +kernel
theorem dX8_areAkin_62 : decode cX8_areAkin 62 = .ok (.ireturn, 1) := by decide +kernel
set_option maxRecDepth 20000 in
theorem ggX8_reaches_X8_areAkin : GoodIn wsX8_reaches wsX8_areAkin := goodIn_r _ [8, 3, 9, 10, 11, 12, 7, 13, 14, 15, 16, 17, 18, 19, 20, 21, 22, 23, 24, 25, 26, 27, 28, 29, 30, 31, 32, 33, 34, 35, 36, 37, 38, 39, 40, 41, 42, 43, 44, 45] (by decide +kernel) (by decide +kernel)
set_option maxRecDepth 20000 in
theorem gX8_reaches_X8_areAkin : GoodIn wsX8_reaches (wsV RX8 236 RX8 yX8_areAkin wsX8_areAkin) := goodIn_app (goodIn_of _ (by decide +kernel)) ggX8_reaches_X8_areAkin
theorem dX8_reaches_0 : decode cX8_reaches 0 = .ok (.iconst 0, 1) := by decide +kernel
theorem dX8_reaches_1 : decode cX8_reaches 1 = .ok (.istore_n 2, 1) := by decide +kernel
theorem dX8_reaches_2 : decode cX8_reaches 2 = .ok (.iload_n 2, 1) := by decide +kernel
theorem dX8_reaches_3 : decode cX8_reaches 3 = .ok (.aload_n 0, 1) := by decide +kernel
theorem dX8_reaches_4 : decode cX8_reaches 4 = .ok (.getfield 95, 3) := by decide +kernel
theorem dX8_reaches_7 : decode cX8_reaches 7 = .ok (.if_icmp .ge 29, 3) := by decide +kernel
theorem dX8_reaches_10 : decode cX8_reaches 10 = .ok (.aload_n 0, 1) := by decide +kernel
theorem dX8_reaches_11 : decode cX8_reaches 11 = .ok (.getfield 77, 3) := by decide +kernel
theorem dX8_reaches_14 : decode cX8_reaches 14 = .ok (.iload_n 2, 1) := by decide +kernel
theorem dX8_reaches_15 : decode cX8_reaches 15 = .ok (.aload_n 0, 1) := by decide +kernel
theorem dX8_reaches_16 : decode cX8_reaches 16 = .ok (.getfield 40, 3) := by decide +kernel
theorem dX8_reaches_19 : decode cX8_reaches 19 = .ok (.iload_n 2, 1) := by decide +kernel
theorem dX8_reaches_20 : decode cX8_reaches 20 = .ok (.iaload, 1) := by decide +kernel
theorem dX8_reaches_21 : decode cX8_reaches 21 = .ok (.ifCond .le 7, 3) := by decide +kernel
theorem dX8_reaches_24 : decode cX8_reaches 24 = .ok (.iload_n 2, 1) := by decide +kernel
theorem dX8_reaches_25 : decode cX8_reaches 25 = .ok (.goto 4, 3) := by decide +kernel
theorem dX8_reaches_28 : decode cX8_reaches 28 = .ok (.iconst (-1), 1) := by decide +kernel
theorem dX8_reaches_29 : decode cX8_reaches 29 = .ok (.iastore, 1) := by decide +kernel
theorem dX8_reaches_30 : decode cX8_reaches 30 = .ok (.iinc 2 1, 3) := by decide +kernel
theorem dX8_reaches_33 : decode cX8_reaches 33 = .ok (.goto (-31), 3) := by decide +kernel
theorem dX8_reaches_36 : decode cX8_reaches 36 = .ok (.iconst 0, 1) := by decide +kernel
theorem dX8_reaches_37 : decode cX8_reaches 37 = .ok (.istore_n 2, 1) := by decide +kernel
theorem dX8_reaches_38 : decode cX8_reaches 38 = .ok (.iload_n 2, 1) := by decide +kernel
theorem dX8_reaches_39 : decode cX8_reaches 39 = .ok (.aload_n 0, 1) := by decide +kernel
theorem dX8_reaches_40 : decode cX8_reaches 40 = .ok (.getfield 95, 3) := by decide +kernel
theorem dX8_reaches_43 : decode cX8_reaches 43 = .ok (.if_icmp .ge 121, 3) := by decide +kernel
theorem dX8_reaches_46 : decode cX8_reaches 46 = .ok (.iconst 0, 1) := by decide +kernel
theorem dX8_reaches_47 : decode cX8_reaches 47 = .ok (.istore_n 3, 1) := by decide +kernel
theorem dX8_reaches_48 : decode cX8_reaches 48 = .ok (.iload_n 3, 1) := by decide +kernel
theorem dX8_reaches_49 : decode cX8_reaches 49 = .ok (.aload_n 0, 1) := by decide +kernel
theorem dX8_reaches_50 : decode cX8_reaches 50 = .ok (.getfield 95, 3) := by decide +kernel
theorem dX8_reaches_53 : decode cX8_reaches 53 = .ok (.aload_n 0, 1) := by decide +kernel
theorem dX8_reaches_54 : decode cX8_reaches 54 = .ok (.getfield 95, 3) := by decide +kernel
theorem dX8_reaches_57 : decode cX8_reaches 57 = .ok (.imul, 1) := by decide +kernel
theorem dX8_reaches_58 : decode cX8_reaches 58 = .ok (.if_icmp .ge 100, 3) := by decide +kernel
theorem dX8_reaches_61 : decode cX8_reaches 61 = .ok (.iload_n 3, 1) := by decide +kernel
theorem dX8_reaches_62 : decode cX8_reaches 62 = .ok (.aload_n 0, 1) := by decide +kernel
theorem dX8_reaches_63 : decode cX8_reaches 63 = .ok (.getfield 95, 3) := by decide +kernel
theorem dX8_reaches_66 : decode cX8_reaches 66 = .ok (.idiv, 1) := by decide +kernel
theorem dX8_reaches_67 : decode cX8_reaches 67 = .ok (.istore 4, 2) := by decide +kernel
theorem dX8_reaches_69 : decode cX8_reaches 69 = .ok (.iload_n 3, 1) := by decide +kernel
theorem dX8_reaches_70 : decode cX8_reaches 70 = .ok (.aload_n 0, 1) := by decide +kernel
theorem dX8_reaches_71 : decode cX8_reaches 71 = .ok (.getfield 95, 3) := by decide +kernel
theorem dX8_reaches_74 : decode cX8_reaches 74 = .ok (.irem, 1) := by decide +kernel
theorem dX8_reaches_75 : decode cX8_reaches 75 = .ok (.istore 5, 2) := by decide +kernel
theorem dX8_reaches_77 : decode cX8_reaches 77 = .ok (.aload_n 0, 1) := by decide +kernel
theorem dX8_reaches_78 : decode cX8_reaches 78 = .ok (.iload 4, 2) := by decide +kernel
theorem dX8_reaches_80 : decode cX8_reaches 80 = .ok (.iload 5, 2) := by decide +kernel
theorem dX8_reaches_82 : decode cX8_reaches 82 = .ok (.iload_n 1, 1) := by decide +kernel
theorem dX8_reaches_83 : decode cX8_reaches 83 = .ok (.invokevirtual 236, 3) := by decide +kernel
theorem dX8_reaches_86 : decode cX8_reaches 86 = .ok (.ifCond .eq 34, 3) := by decide +kernel
theorem dX8_reaches_89 : decode cX8_reaches 89 = .ok (.aload_n 0, 1) := by decide +kernel
theorem dX8_reaches_90 : decode cX8_reaches 90 = .ok (.getfield 40, 3) := by decide +kernel
theorem dX8_reaches_93 : decode cX8_reaches 93 = .ok (.aload_n 0, 1) := by decide +kernel
theorem dX8_reaches_94 : decode cX8_reaches 94 = .ok (.getfield 77, 3) := by decide +kernel
theorem dX8_reaches_97 : decode cX8_reaches 97 = .ok (.iload 5, 2) := by decide +kernel
theorem dX8_reaches_99 : decode cX8_reaches 99 = .ok (.iaload, 1) := by decide +kernel
theorem dX8_reaches_100 : decode cX8_reaches 100 = .ok (.iaload, 1) := by decide +kernel
theorem dX8_reaches_101 : decode cX8_reaches 101 = .ok (.aload_n 0, 1) := by decide +kernel
theorem dX8_reaches_102 : decode cX8_reaches 102 = .ok (.getfield 40, 3) := by decide +kernel
theorem dX8_reaches_105 : decode cX8_reaches 105 = .ok (.aload_n 0, 1) := by decide +kernel
theorem dX8_reaches_106 : decode cX8_reaches 106 = .ok (.getfield 77, 3) := by decide +kernel
theorem dX8_reaches_109 : decode cX8_reaches 109 = .ok (.iload 4, 2) := by decide +kernel
theorem dX8_reaches_111 : decode cX8_reaches 111 = .ok (.iaload, 1) := by decide +kernel
theorem dX8_reaches_112 : decode cX8_reaches 112 = .ok (.iaload, 1) := by decide +kernel
theorem dX8_reaches_113 : decode cX8_reaches 113 = .ok (.if_icmp .ge 7, 3) := by decide +kernel
theorem dX8_reaches_116 : decode cX8_reaches 116 = .ok (.iconst 1, 1) := by decide +kernel
theorem dX8_reaches_117 : decode cX8_reaches 117 = .ok (.goto 4, 3) := by decide +kernel
theorem dX8_reaches_120 : decode cX8_reaches 120 = .ok (.iconst 0, 1) := by decide +kernel
theorem dX8_reaches_121 : decode cX8_reaches 121 = .ok (.istore 6, 2) := by decide +kernel
theorem dX8_reaches_123 : decode cX8_reaches 123 = .ok (.aload_n 0, 1) := by decide +kernel
theorem dX8_reaches_124 : decode cX8_reaches 124 = .ok (.getfield 77, 3) := by decide +kernel
theorem dX8_reaches_127 : decode cX8_reaches 127 = .ok (.iload 4, 2) := by decide +kernel
theorem dX8_reaches_129 : decode cX8_reaches 129 = .ok (.iload 6, 2) := by decide +kernel
theorem dX8_reaches_131 : decode cX8_reaches 131 = .ok (.ifCond .eq 13, 3) := by decide +kernel
theorem dX8_reaches_134 : decode cX8_reaches 134 = .ok (.aload_n 0, 1) := by decide +kernel
theorem dX8_reaches_135 : decode cX8_reaches 135 = .ok (.getfield 77, 3) := by decide +kernel
theorem dX8_reaches_138 : decode cX8_reaches 138 = .ok (.iload 5, 2) := by decide +kernel
theorem dX8_reaches_140 : decode cX8_reaches 140 = .ok (.iaload, 1) := by decide +kernel
theorem dX8_reaches_141 : decode cX8_reaches 141 = .ok (.goto 10, 3) := by decide +kernel
theorem dX8_reaches_144 : decode cX8_reaches 144 = .ok (.aload_n 0, 1) := by decide +kernel
theorem dX8_reaches_145 : decode cX8_reaches 145 = .ok (.getfield 77, 3) := by decide +kernel
theorem dX8_reaches_148 : decode cX8_reaches 148 = .ok (.iload 4, 2) := by decide +kernel
theorem dX8_reaches_150 : decode cX8_reaches 150 = .ok (.iaload, 1) := by decide +kernel
theorem dX8_reaches_151 : decode cX8_reaches 151 = .ok (.iastore, 1) := by decide +kernel
theorem dX8_reaches_152 : decode cX8_reaches 152 = .ok (.iinc 3 1, 3) := by decide +kernel
theorem dX8_reaches_155 : decode cX8_reaches 155 = .ok (.goto (-107), 3) := by decide +kernel
theorem dX8_reaches_158 : decode cX8_reaches 158 = .ok (.iinc 2 1, 3) := by decide +kernel
theorem dX8_reaches_161 : decode cX8_reaches 161 = .ok (.goto (-123), 3) := by decide +kernel
theorem dX8_reaches_164 : decode cX8_reaches 164 = .ok (.return_, 1) := by decide +kernel
set_option maxRecDepth 20000 in
theorem ggX8_families_X8_isIn : GoodIn wsX8_families wsX8_isIn := goodIn_r _ [6] (by decide +kernel) (by decide +kernel)
set_option maxRecDepth 20000 in
theorem gX8_families_X8_isIn : GoodIn wsX8_families (va_wsS RX8 88 yX8_isIn wsX8_isIn) := goodIn_app (goodIn_of _ (by decide +kernel)) ggX8_families_X8_isIn
set_option maxRecDepth 20000 in
theorem ggX8_families_X8_can : GoodIn wsX8_families wsX8_can := goodIn_r _ [10, 11, 26, 27, 28, 29, 30, 31, 32, 33, 34, 35, 36, 37, 38, 39, 40, 41, 42, 43, 44, 45, 46, 47, 48, 49, 50, 51, 52, 53, 54, 55, 56, 57] (by decide +kernel) (by decide +kernel)
set_option maxRecDepth 20000 in
theorem gX8_families_X8_can : GoodIn wsX8_families (wsV RX8 101 RX8 yX8_can wsX8_can) := goodIn_app (goodIn_of _ (by decide +kernel)) ggX8_families_X8_can
set_option maxRecDepth 20000 in
theorem ggX8_families_X8_reaches : GoodIn wsX8_families wsX8_reaches := goodIn_r _ [15, 1, 2, 16, 17, 18, 19, 5, 20, 21, 22, 23, 24, 25, 26, 27, 28, 29, 30, 31, 32, 33, 34, 35, 36, 37, 38, 39, 40, 41, 42, 43, 44, 45, 46, 47, 48, 49, 50, 51, 52, 53, 54, 55, 56, 57] (by decide +kernel) (by decide +kernel)
set_option maxRecDepth 20000 in
theorem gX8_families_X8_reaches : GoodIn wsX8_families (wsV RX8 239 RX8 yX8_reaches wsX8_reaches) := goodIn_app (goodIn_of _ (by decide +kernel)) ggX8_families_X8_reaches
theorem dX8_families_0 : decode cX8_families 0 = .ok (.aload_n 0, 1) := by decide +kernel
theorem dX8_families_1 : decode cX8_families 1 = .ok (.iload_n 1, 1) := by decide +kernel
theorem dX8_families_2 : decode cX8_families 2 = .ok (.iconst 0, 1) := by decide +kernel
theorem dX8_families_3 : decode cX8_families 3 = .ok (.bipush 90, 2) := by decide +kernel
theorem dX8_families_5 : decode cX8_families 5 = .ok (.invokestatic 88, 3) := by decide +kernel
theorem dX8_families_8 : decode cX8_families 8 = .ok (.ifCond .eq 7, 3) := by decide +kernel
theorem dX8_families_11 : decode cX8_families 11 = .ok (.iconst 0, 1) := by decide +kernel
theorem dX8_families_12 : decode cX8_families 12 = .ok (.goto 4, 3) := by decide +kernel
theorem dX8_families_15 : decode cX8_families 15 = .ok (.iconst 1, 1) := by decide +kernel
theorem dX8_families_16 : decode cX8_families 16 = .ok (.invokevirtual 101, 3) := by decide +kernel
theorem dX8_families_19 : decode cX8_families 19 = .ok (.ifCond .ne 5, 3) := by decide +kernel
theorem dX8_families_22 : decode cX8_families 22 = .ok (.iconst 0, 1) := by decide +kernel
theorem dX8_families_23 : decode cX8_families 23 = .ok (.ireturn, 1) := by decide +kernel
theorem dX8_families_24 : decode cX8_families 24 = .ok (.aload_n 0, 1) := by decide +kernel
theorem dX8_families_25 : decode cX8_families 25 = .ok (.iload_n 1, 1) := by decide +kernel
theorem dX8_families_26 : decode cX8_families 26 = .ok (.invokevirtual 239, 3) := by decide +kernel
theorem dX8_families_29 : decode cX8_families 29 = .ok (.iconst 0, 1) := by decide +kernel
theorem dX8_families_30 : decode cX8_families 30 = .ok (.istore_n 2, 1) := by decide +kernel
theorem dX8_families_31 : decode cX8_families 31 = .ok (.iconst 0, 1) := by decide +kernel
theorem dX8_families_32 : decode cX8_families 32 = .ok (.istore_n 3, 1) := by decide +kernel
theorem dX8_families_33 : decode cX8_families 33 = .ok (.iload_n 3, 1) := by decide +kernel
theorem dX8_families_34 : decode cX8_families 34 = .ok (.aload_n 0, 1) := by decide +kernel
theorem dX8_families_35 : decode cX8_families 35 = .ok (.getfield 95, 3) := by decide +kernel
theorem dX8_families_38 : decode cX8_families 38 = .ok (.if_icmp .ge 27, 3) := by decide +kernel
theorem dX8_families_41 : decode cX8_families 41 = .ok (.iload_n 2, 1) := by decide +kernel
theorem dX8_families_42 : decode cX8_families 42 = .ok (.aload_n 0, 1) := by decide +kernel
theorem dX8_families_43 : decode cX8_families 43 = .ok (.getfield 77, 3) := by decide +kernel
theorem dX8_families_46 : decode cX8_families 46 = .ok (.iload_n 3, 1) := by decide +kernel
theorem dX8_families_47 : decode cX8_families 47 = .ok (.iaload, 1) := by decide +kernel
theorem dX8_families_48 : decode cX8_families 48 = .ok (.iload_n 3, 1) := by decide +kernel
theorem dX8_families_49 : decode cX8_families 49 = .ok (.if_icmp .ne 7, 3) := by decide +kernel
theorem dX8_families_52 : decode cX8_families 52 = .ok (.iconst 1, 1) := by decide +kernel
theorem dX8_families_53 : decode cX8_families 53 = .ok (.goto 4, 3) := by decide +kernel
theorem dX8_families_56 : decode cX8_families 56 = .ok (.iconst 0, 1) := by decide +kernel
theorem dX8_families_57 : decode cX8_families 57 = .ok (.iadd, 1) := by decide +kernel
theorem dX8_families_58 : decode cX8_families 58 = .ok (.istore_n 2, 1) := by decide +kernel
theorem dX8_families_59 : decode cX8_families 59 = .ok (.iinc 3 1, 3) := by decide +kernel
theorem dX8_families_62 : decode cX8_families 62 = .ok (.goto (-29), 3) := by decide +kernel
theorem dX8_families_65 : decode cX8_families 65 = .ok (.iload_n 2, 1) := by decide +kernel
theorem dX8_families_66 : decode cX8_families 66 = .ok (.ireturn, 1) := by decide +kernel
set_option maxRecDepth 20000 in
theorem ggX8_familyOf_X8_reaches : GoodIn wsX8_familyOf wsX8_reaches := goodIn_r _ [6, 7, 1, 8, 9, 10, 11, 5, 12, 13, 14, 15, 16, 17, 18, 19, 20, 21, 22, 23, 24, 25, 26, 27, 28, 29, 30, 31, 32, 33, 34, 35, 36, 37, 38, 39, 40, 41, 42, 43, 44, 45, 46, 47, 48, 49] (by decide +kernel) (by decide +kernel)
set_option maxRecDepth 20000 in
theorem gX8_familyOf_X8_reaches : GoodIn wsX8_familyOf (wsV RX8 239 RX8 yX8_reaches wsX8_reaches) := goodIn_app (goodIn_of _ (by decide +kernel)) ggX8_familyOf_X8_reaches
theorem dX8_familyOf_0 : decode cX8_familyOf 0 = .ok (.aload_n 0, 1) := by decide +kernel
theorem dX8_familyOf_1 : decode cX8_familyOf 1 = .ok (.iload_n 2, 1) := by decide +kernel
theorem dX8_familyOf_2 : decode cX8_familyOf 2 = .ok (.invokevirtual 239, 3) := by decide +kernel
theorem dX8_familyOf_5 : decode cX8_familyOf 5 = .ok (.aload_n 0, 1) := by decide +kernel
theorem dX8_familyOf_6 : decode cX8_familyOf 6 = .ok (.getfield 77, 3) := by decide +kernel
theorem dX8_familyOf_9 : decode cX8_familyOf 9 = .ok (.iload_n 1, 1) := by decide +kernel
theorem dX8_familyOf_10 : decode cX8_familyOf 10 = .ok (.iaload, 1) := by decide +kernel
theorem dX8_familyOf_11 : decode cX8_familyOf 11 = .ok (.ireturn, 1) := by decide +kernel
set_option maxRecDepth 20000 in
theorem ggX8_family_X8_isBody : GoodIn wsX8_family wsX8_isBody := goodIn_r _ [5, 6, 7, 8, 4, 9, 34, 35, 36, 37, 38, 39, 40, 41, 42, 43, 44, 45, 46, 47, 48, 49, 50, 51, 52, 53, 54, 55, 56, 57, 58, 59, 60, 61, 62, 63, 64, 65] (by decide +kernel) (by decide +kernel)
set_option maxRecDepth 20000 in
theorem gX8_family_X8_isBody : GoodIn wsX8_family (wsV RX8 164 RX8 yX8_isBody wsX8_isBody) := goodIn_app (goodIn_of _ (by decide +kernel)) ggX8_family_X8_isBody
set_option maxRecDepth 20000 in
theorem ggX8_family_X8_isIn : GoodIn wsX8_family wsX8_isIn := goodIn_r _ [9] (by decide +kernel) (by decide +kernel)
set_option maxRecDepth 20000 in
theorem gX8_family_X8_isIn : GoodIn wsX8_family (va_wsS RX8 88 yX8_isIn wsX8_isIn) := goodIn_app (goodIn_of _ (by decide +kernel)) ggX8_family_X8_isIn
set_option maxRecDepth 20000 in
theorem ggX8_family_X8_can : GoodIn wsX8_family wsX8_can := goodIn_r _ [13, 14, 34, 35, 36, 37, 38, 39, 40, 41, 42, 43, 44, 45, 46, 47, 48, 49, 50, 51, 52, 53, 54, 55, 56, 57, 58, 59, 60, 61, 62, 63, 64, 65] (by decide +kernel) (by decide +kernel)
set_option maxRecDepth 20000 in
theorem gX8_family_X8_can : GoodIn wsX8_family (wsV RX8 101 RX8 yX8_can wsX8_can) := goodIn_app (goodIn_of _ (by decide +kernel)) ggX8_family_X8_can
set_option maxRecDepth 20000 in
theorem ggX8_family_X8_familyOf : GoodIn wsX8_family wsX8_familyOf := goodIn_r _ [18, 19, 20, 21, 22, 4, 23, 6, 24, 25, 26, 27, 28, 29, 30, 31, 32, 33, 34, 35, 36, 37, 38, 39, 40, 41, 42, 43, 44, 45, 46, 47, 48, 49, 50, 51, 52, 53, 54, 55, 56, 57, 58, 59, 60, 61, 62, 63, 64, 65] (by decide +kernel) (by decide +kernel)
set_option maxRecDepth 20000 in
theorem gX8_family_X8_familyOf : GoodIn wsX8_family (wsV RX8 242 RX8 yX8_familyOf wsX8_familyOf) := goodIn_app (goodIn_of _ (by decide +kernel)) ggX8_family_X8_familyOf
theorem dX8_family_0 : decode cX8_family 0 = .ok (.aload_n 0, 1) := by decide +kernel
theorem dX8_family_1 : decode cX8_family 1 = .ok (.aload_n 0, 1) := by decide +kernel
theorem dX8_family_2 : decode cX8_family 2 = .ok (.iload_n 1, 1) := by decide +kernel
theorem dX8_family_3 : decode cX8_family 3 = .ok (.invokevirtual 164, 3) := by decide +kernel
theorem dX8_family_6 : decode cX8_family 6 = .ok (.ifCond .ne 7, 3) := by decide +kernel
theorem dX8_family_9 : decode cX8_family 9 = .ok (.iconst 1, 1) := by decide +kernel
theorem dX8_family_10 : decode cX8_family 10 = .ok (.goto 18, 3) := by decide +kernel
theorem dX8_family_13 : decode cX8_family 13 = .ok (.iload_n 2, 1) := by decide +kernel
theorem dX8_family_14 : decode cX8_family 14 = .ok (.iconst 0, 1) := by decide +kernel
theorem dX8_family_15 : decode cX8_family 15 = .ok (.bipush 90, 2) := by decide +kernel
theorem dX8_family_17 : decode cX8_family 17 = .ok (.invokestatic 88, 3) := by decide +kernel
theorem dX8_family_20 : decode cX8_family 20 = .ok (.ifCond .eq 7, 3) := by decide +kernel
theorem dX8_family_23 : decode cX8_family 23 = .ok (.iconst 0, 1) := by decide +kernel
theorem dX8_family_24 : decode cX8_family 24 = .ok (.goto 4, 3) := by decide +kernel
theorem dX8_family_27 : decode cX8_family 27 = .ok (.iconst 2, 1) := by decide +kernel
theorem dX8_family_28 : decode cX8_family 28 = .ok (.invokevirtual 101, 3) := by decide +kernel
theorem dX8_family_31 : decode cX8_family 31 = .ok (.ifCond .eq 12, 3) := by decide +kernel
theorem dX8_family_34 : decode cX8_family 34 = .ok (.aload_n 0, 1) := by decide +kernel
theorem dX8_family_35 : decode cX8_family 35 = .ok (.iload_n 1, 1) := by decide +kernel
theorem dX8_family_36 : decode cX8_family 36 = .ok (.iload_n 2, 1) := by decide +kernel
theorem dX8_family_37 : decode cX8_family 37 = .ok (.invokevirtual 242, 3) := by decide +kernel
theorem dX8_family_40 : decode cX8_family 40 = .ok (.goto 4, 3) := by decide +kernel
theorem dX8_family_43 : decode cX8_family 43 = .ok (.iconst 0, 1) := by decide +kernel
theorem dX8_family_44 : decode cX8_family 44 = .ok (.ireturn, 1) := by decide +kernel
set_option maxRecDepth 20000 in
theorem ggX8_fault_X8_nightOf : GoodIn wsX8_fault wsX8_nightOf := goodIn_r _ [10, 11, 12, 13, 14, 15, 16, 17, 18, 19, 20, 21, 22, 23, 24, 25, 26, 27, 28, 29, 30, 31, 32, 33, 34, 35, 36, 37, 38, 39, 40, 41, 42, 43, 44] (by decide +kernel) (by decide +kernel)
set_option maxRecDepth 20000 in
theorem gX8_fault_X8_nightOf : GoodIn wsX8_fault (wsV RX8 117 RX8 yX8_nightOf wsX8_nightOf) := goodIn_app (goodIn_of _ (by decide +kernel)) ggX8_fault_X8_nightOf
theorem dX8_fault_0 : decode cX8_fault 0 = .ok (.iconst 0, 1) := by decide +kernel
theorem dX8_fault_1 : decode cX8_fault 1 = .ok (.istore_n 2, 1) := by decide +kernel
theorem dX8_fault_2 : decode cX8_fault 2 = .ok (.iload_n 2, 1) := by decide +kernel
theorem dX8_fault_3 : decode cX8_fault 3 = .ok (.iload_n 1, 1) := by decide +kernel
theorem dX8_fault_4 : decode cX8_fault 4 = .ok (.if_icmp .ge 24, 3) := by decide +kernel
theorem dX8_fault_7 : decode cX8_fault 7 = .ok (.aload_n 0, 1) := by decide +kernel
theorem dX8_fault_8 : decode cX8_fault 8 = .ok (.getfield 71, 3) := by decide +kernel
theorem dX8_fault_11 : decode cX8_fault 11 = .ok (.iload_n 2, 1) := by decide +kernel
theorem dX8_fault_12 : decode cX8_fault 12 = .ok (.bipush 100, 2) := by decide +kernel
theorem dX8_fault_14 : decode cX8_fault 14 = .ok (.iastore, 1) := by decide +kernel
theorem dX8_fault_15 : decode cX8_fault 15 = .ok (.aload_n 0, 1) := by decide +kernel
theorem dX8_fault_16 : decode cX8_fault 16 = .ok (.getfield 74, 3) := by decide +kernel
theorem dX8_fault_19 : decode cX8_fault 19 = .ok (.iload_n 2, 1) := by decide +kernel
theorem dX8_fault_20 : decode cX8_fault 20 = .ok (.iconst 0, 1) := by decide +kernel
theorem dX8_fault_21 : decode cX8_fault 21 = .ok (.iastore, 1) := by decide +kernel
theorem dX8_fault_22 : decode cX8_fault 22 = .ok (.iinc 2 1, 3) := by decide +kernel
theorem dX8_fault_25 : decode cX8_fault 25 = .ok (.goto (-23), 3) := by decide +kernel
theorem dX8_fault_28 : decode cX8_fault 28 = .ok (.iconst 0, 1) := by decide +kernel
theorem dX8_fault_29 : decode cX8_fault 29 = .ok (.istore_n 2, 1) := by decide +kernel
theorem dX8_fault_30 : decode cX8_fault 30 = .ok (.iload_n 2, 1) := by decide +kernel
theorem dX8_fault_31 : decode cX8_fault 31 = .ok (.aload_n 0, 1) := by decide +kernel
theorem dX8_fault_32 : decode cX8_fault 32 = .ok (.getfield 127, 3) := by decide +kernel
theorem dX8_fault_35 : decode cX8_fault 35 = .ok (.if_icmp .ge 114, 3) := by decide +kernel
theorem dX8_fault_38 : decode cX8_fault 38 = .ok (.aload_n 0, 1) := by decide +kernel
theorem dX8_fault_39 : decode cX8_fault 39 = .ok (.aload_n 0, 1) := by decide +kernel
theorem dX8_fault_40 : decode cX8_fault 40 = .ok (.getfield 49, 3) := by decide +kernel
theorem dX8_fault_43 : decode cX8_fault 43 = .ok (.iload_n 2, 1) := by decide +kernel
theorem dX8_fault_44 : decode cX8_fault 44 = .ok (.iaload, 1) := by decide +kernel
theorem dX8_fault_45 : decode cX8_fault 45 = .ok (.invokevirtual 117, 3) := by decide +kernel
theorem dX8_fault_48 : decode cX8_fault 48 = .ok (.iload_n 1, 1) := by decide +kernel
theorem dX8_fault_49 : decode cX8_fault 49 = .ok (.irem, 1) := by decide +kernel
theorem dX8_fault_50 : decode cX8_fault 50 = .ok (.istore_n 3, 1) := by decide +kernel
theorem dX8_fault_51 : decode cX8_fault 51 = .ok (.aload_n 0, 1) := by decide +kernel
theorem dX8_fault_52 : decode cX8_fault 52 = .ok (.getfield 71, 3) := by decide +kernel
theorem dX8_fault_55 : decode cX8_fault 55 = .ok (.iload_n 3, 1) := by decide +kernel
theorem dX8_fault_56 : decode cX8_fault 56 = .ok (.aload_n 0, 1) := by decide +kernel
theorem dX8_fault_57 : decode cX8_fault 57 = .ok (.getfield 28, 3) := by decide +kernel
theorem dX8_fault_60 : decode cX8_fault 60 = .ok (.aload_n 0, 1) := by decide +kernel
theorem dX8_fault_61 : decode cX8_fault 61 = .ok (.getfield 49, 3) := by decide +kernel
theorem dX8_fault_64 : decode cX8_fault 64 = .ok (.iload_n 2, 1) := by decide +kernel
theorem dX8_fault_65 : decode cX8_fault 65 = .ok (.iaload, 1) := by decide +kernel
theorem dX8_fault_66 : decode cX8_fault 66 = .ok (.iaload, 1) := by decide +kernel
theorem dX8_fault_67 : decode cX8_fault 67 = .ok (.aload_n 0, 1) := by decide +kernel
theorem dX8_fault_68 : decode cX8_fault 68 = .ok (.getfield 71, 3) := by decide +kernel
theorem dX8_fault_71 : decode cX8_fault 71 = .ok (.iload_n 3, 1) := by decide +kernel
theorem dX8_fault_72 : decode cX8_fault 72 = .ok (.iaload, 1) := by decide +kernel
theorem dX8_fault_73 : decode cX8_fault 73 = .ok (.if_icmp .ge 17, 3) := by decide +kernel
theorem dX8_fault_76 : decode cX8_fault 76 = .ok (.aload_n 0, 1) := by decide +kernel
theorem dX8_fault_77 : decode cX8_fault 77 = .ok (.getfield 28, 3) := by decide +kernel
theorem dX8_fault_80 : decode cX8_fault 80 = .ok (.aload_n 0, 1) := by decide +kernel
theorem dX8_fault_81 : decode cX8_fault 81 = .ok (.getfield 49, 3) := by decide +kernel
theorem dX8_fault_84 : decode cX8_fault 84 = .ok (.iload_n 2, 1) := by decide +kernel
theorem dX8_fault_85 : decode cX8_fault 85 = .ok (.iaload, 1) := by decide +kernel
theorem dX8_fault_86 : decode cX8_fault 86 = .ok (.iaload, 1) := by decide +kernel
theorem dX8_fault_87 : decode cX8_fault 87 = .ok (.goto 9, 3) := by decide +kernel
theorem dX8_fault_90 : decode cX8_fault 90 = .ok (.aload_n 0, 1) := by decide +kernel
theorem dX8_fault_91 : decode cX8_fault 91 = .ok (.getfield 71, 3) := by decide +kernel
theorem dX8_fault_94 : decode cX8_fault 94 = .ok (.iload_n 3, 1) := by decide +kernel
theorem dX8_fault_95 : decode cX8_fault 95 = .ok (.iaload, 1) := by decide +kernel
theorem dX8_fault_96 : decode cX8_fault 96 = .ok (.iastore, 1) := by decide +kernel
theorem dX8_fault_97 : decode cX8_fault 97 = .ok (.aload_n 0, 1) := by decide +kernel
theorem dX8_fault_98 : decode cX8_fault 98 = .ok (.getfield 74, 3) := by decide +kernel
theorem dX8_fault_101 : decode cX8_fault 101 = .ok (.iload_n 3, 1) := by decide +kernel
theorem dX8_fault_102 : decode cX8_fault 102 = .ok (.aload_n 0, 1) := by decide +kernel
theorem dX8_fault_103 : decode cX8_fault 103 = .ok (.getfield 28, 3) := by decide +kernel
theorem dX8_fault_106 : decode cX8_fault 106 = .ok (.aload_n 0, 1) := by decide +kernel
theorem dX8_fault_107 : decode cX8_fault 107 = .ok (.getfield 49, 3) := by decide +kernel
theorem dX8_fault_110 : decode cX8_fault 110 = .ok (.iload_n 2, 1) := by decide +kernel
theorem dX8_fault_111 : decode cX8_fault 111 = .ok (.iaload, 1) := by decide +kernel
theorem dX8_fault_112 : decode cX8_fault 112 = .ok (.iaload, 1) := by decide +kernel
theorem dX8_fault_113 : decode cX8_fault 113 = .ok (.aload_n 0, 1) := by decide +kernel
theorem dX8_fault_114 : decode cX8_fault 114 = .ok (.getfield 74, 3) := by decide +kernel
theorem dX8_fault_117 : decode cX8_fault 117 = .ok (.iload_n 3, 1) := by decide +kernel
theorem dX8_fault_118 : decode cX8_fault 118 = .ok (.iaload, 1) := by decide +kernel
theorem dX8_fault_119 : decode cX8_fault 119 = .ok (.if_icmp .le 17, 3) := by decide +kernel
theorem dX8_fault_122 : decode cX8_fault 122 = .ok (.aload_n 0, 1) := by decide +kernel
theorem dX8_fault_123 : decode cX8_fault 123 = .ok (.getfield 28, 3) := by decide +kernel
theorem dX8_fault_126 : decode cX8_fault 126 = .ok (.aload_n 0, 1) := by decide +kernel
theorem dX8_fault_127 : decode cX8_fault 127 = .ok (.getfield 49, 3) := by decide +kernel
theorem dX8_fault_130 : decode cX8_fault 130 = .ok (.iload_n 2, 1) := by decide +kernel
theorem dX8_fault_131 : decode cX8_fault 131 = .ok (.iaload, 1) := by decide +kernel
theorem dX8_fault_132 : decode cX8_fault 132 = .ok (.iaload, 1) := by decide +kernel
theorem dX8_fault_133 : decode cX8_fault 133 = .ok (.goto 9, 3) := by decide +kernel
theorem dX8_fault_136 : decode cX8_fault 136 = .ok (.aload_n 0, 1) := by decide +kernel
theorem dX8_fault_137 : decode cX8_fault 137 = .ok (.getfield 74, 3) := by decide +kernel
theorem dX8_fault_140 : decode cX8_fault 140 = .ok (.iload_n 3, 1) := by decide +kernel
theorem dX8_fault_141 : decode cX8_fault 141 = .ok (.iaload, 1) := by decide +kernel
theorem dX8_fault_142 : decode cX8_fault 142 = .ok (.iastore, 1) := by decide +kernel
theorem dX8_fault_143 : decode cX8_fault 143 = .ok (.iinc 2 1, 3) := by decide +kernel
theorem dX8_fault_146 : decode cX8_fault 146 = .ok (.goto (-116), 3) := by decide +kernel
theorem dX8_fault_149 : decode cX8_fault 149 = .ok (.iconst 0, 1) := by decide +kernel
theorem dX8_fault_150 : decode cX8_fault 150 = .ok (.istore_n 2, 1) := by decide +kernel
theorem dX8_fault_151 : decode cX8_fault 151 = .ok (.iconst 0, 1) := by decide +kernel
theorem dX8_fault_152 : decode cX8_fault 152 = .ok (.istore_n 3, 1) := by decide +kernel
theorem dX8_fault_153 : decode cX8_fault 153 = .ok (.iload_n 3, 1) := by decide +kernel
theorem dX8_fault_154 : decode cX8_fault 154 = .ok (.iload_n 1, 1) := by decide +kernel
theorem dX8_fault_155 : decode cX8_fault 155 = .ok (.if_icmp .ge 40, 3) := by decide +kernel
theorem dX8_fault_158 : decode cX8_fault 158 = .ok (.iload_n 2, 1) := by decide +kernel
theorem dX8_fault_159 : decode cX8_fault 159 = .ok (.aload_n 0, 1) := by decide +kernel
theorem dX8_fault_160 : decode cX8_fault 160 = .ok (.getfield 71, 3) := by decide +kernel
theorem dX8_fault_163 : decode cX8_fault 163 = .ok (.iload_n 3, 1) := by decide +kernel
theorem dX8_fault_164 : decode cX8_fault 164 = .ok (.iaload, 1) := by decide +kernel
theorem dX8_fault_165 : decode cX8_fault 165 = .ok (.bipush 100, 2) := by decide +kernel
theorem dX8_fault_167 : decode cX8_fault 167 = .ok (.if_icmp .ge 19, 3) := by decide +kernel
theorem dX8_fault_170 : decode cX8_fault 170 = .ok (.aload_n 0, 1) := by decide +kernel
theorem dX8_fault_171 : decode cX8_fault 171 = .ok (.getfield 74, 3) := by decide +kernel
theorem dX8_fault_174 : decode cX8_fault 174 = .ok (.iload_n 3, 1) := by decide +kernel
theorem dX8_fault_175 : decode cX8_fault 175 = .ok (.iaload, 1) := by decide +kernel
theorem dX8_fault_176 : decode cX8_fault 176 = .ok (.aload_n 0, 1) := by decide +kernel
theorem dX8_fault_177 : decode cX8_fault 177 = .ok (.getfield 71, 3) := by decide +kernel
theorem dX8_fault_180 : decode cX8_fault 180 = .ok (.iload_n 3, 1) := by decide +kernel
theorem dX8_fault_181 : decode cX8_fault 181 = .ok (.iaload, 1) := by decide +kernel
theorem dX8_fault_182 : decode cX8_fault 182 = .ok (.isub, 1) := by decide +kernel
theorem dX8_fault_183 : decode cX8_fault 183 = .ok (.goto 4, 3) := by decide +kernel
theorem dX8_fault_186 : decode cX8_fault 186 = .ok (.iconst 0, 1) := by decide +kernel
theorem dX8_fault_187 : decode cX8_fault 187 = .ok (.iadd, 1) := by decide +kernel
theorem dX8_fault_188 : decode cX8_fault 188 = .ok (.istore_n 2, 1) := by decide +kernel
theorem dX8_fault_189 : decode cX8_fault 189 = .ok (.iinc 3 1, 3) := by decide +kernel
theorem dX8_fault_192 : decode cX8_fault 192 = .ok (.goto (-39), 3) := by decide +kernel
theorem dX8_fault_195 : decode cX8_fault 195 = .ok (.iload_n 2, 1) := by decide +kernel
theorem dX8_fault_196 : decode cX8_fault 196 = .ok (.ireturn, 1) := by decide +kernel
set_option maxRecDepth 20000 in
theorem ggX8_turnOf_X8_lays : GoodIn wsX8_turnOf wsX8_lays := goodIn_r _ [6, 1, 7, 8, 9, 5, 10, 11, 12, 13, 14, 15, 16, 17, 18, 32, 33, 34, 35, 36, 37, 38, 39, 40, 41, 42, 43, 44, 45, 46, 47, 48, 49, 50, 51, 52, 53, 54, 55, 56, 57, 58, 59, 60, 61, 62, 63] (by decide +kernel) (by decide +kernel)
set_option maxRecDepth 20000 in
theorem gX8_turnOf_X8_lays : GoodIn wsX8_turnOf (wsV RX8 154 RX8 yX8_lays wsX8_lays) := goodIn_app (goodIn_of _ (by decide +kernel)) ggX8_turnOf_X8_lays
set_option maxRecDepth 20000 in
theorem ggX8_turnOf_X8_fault : GoodIn wsX8_turnOf wsX8_fault := goodIn_r _ [22, 23, 24, 1, 13, 25, 26, 27, 28, 5, 29, 30, 31, 32, 33, 34, 35, 36, 37, 38, 39, 40, 41, 42, 43, 44, 45, 46, 47, 48, 49, 50, 51, 52, 53, 54, 55, 56, 57, 58, 59, 60, 61, 62, 63] (by decide +kernel) (by decide +kernel)
set_option maxRecDepth 20000 in
theorem gX8_turnOf_X8_fault : GoodIn wsX8_turnOf (wsV RX8 245 RX8 yX8_fault wsX8_fault) := goodIn_app (goodIn_of _ (by decide +kernel)) ggX8_turnOf_X8_fault
theorem dX8_turnOf_0 : decode cX8_turnOf 0 = .ok (.aload_n 0, 1) := by decide +kernel
theorem dX8_turnOf_1 : decode cX8_turnOf 1 = .ok (.iload_n 1, 1) := by decide +kernel
theorem dX8_turnOf_2 : decode cX8_turnOf 2 = .ok (.invokevirtual 154, 3) := by decide +kernel
theorem dX8_turnOf_5 : decode cX8_turnOf 5 = .ok (.aload_n 0, 1) := by decide +kernel
theorem dX8_turnOf_6 : decode cX8_turnOf 6 = .ok (.getfield 127, 3) := by decide +kernel
theorem dX8_turnOf_9 : decode cX8_turnOf 9 = .ok (.iconst 4, 1) := by decide +kernel
theorem dX8_turnOf_10 : decode cX8_turnOf 10 = .ok (.if_icmp .ge 5, 3) := by decide +kernel
theorem dX8_turnOf_13 : decode cX8_turnOf 13 = .ok (.iconst (-1), 1) := by decide +kernel
theorem dX8_turnOf_14 : decode cX8_turnOf 14 = .ok (.ireturn, 1) := by decide +kernel
theorem dX8_turnOf_15 : decode cX8_turnOf 15 = .ok (.iconst 2, 1) := by decide +kernel
theorem dX8_turnOf_16 : decode cX8_turnOf 16 = .ok (.istore_n 3, 1) := by decide +kernel
theorem dX8_turnOf_17 : decode cX8_turnOf 17 = .ok (.iconst 3, 1) := by decide +kernel
theorem dX8_turnOf_18 : decode cX8_turnOf 18 = .ok (.istore 4, 2) := by decide +kernel
theorem dX8_turnOf_20 : decode cX8_turnOf 20 = .ok (.iload 4, 2) := by decide +kernel
theorem dX8_turnOf_22 : decode cX8_turnOf 22 = .ok (.bipush 21, 2) := by decide +kernel
theorem dX8_turnOf_24 : decode cX8_turnOf 24 = .ok (.if_icmp .ge 30, 3) := by decide +kernel
theorem dX8_turnOf_27 : decode cX8_turnOf 27 = .ok (.aload_n 0, 1) := by decide +kernel
theorem dX8_turnOf_28 : decode cX8_turnOf 28 = .ok (.iload 4, 2) := by decide +kernel
theorem dX8_turnOf_30 : decode cX8_turnOf 30 = .ok (.invokevirtual 245, 3) := by decide +kernel
theorem dX8_turnOf_33 : decode cX8_turnOf 33 = .ok (.aload_n 0, 1) := by decide +kernel
theorem dX8_turnOf_34 : decode cX8_turnOf 34 = .ok (.iload_n 3, 1) := by decide +kernel
theorem dX8_turnOf_35 : decode cX8_turnOf 35 = .ok (.invokevirtual 245, 3) := by decide +kernel
theorem dX8_turnOf_38 : decode cX8_turnOf 38 = .ok (.if_icmp .ge 8, 3) := by decide +kernel
theorem dX8_turnOf_41 : decode cX8_turnOf 41 = .ok (.iload 4, 2) := by decide +kernel
theorem dX8_turnOf_43 : decode cX8_turnOf 43 = .ok (.goto 4, 3) := by decide +kernel
theorem dX8_turnOf_46 : decode cX8_turnOf 46 = .ok (.iload_n 3, 1) := by decide +kernel
theorem dX8_turnOf_47 : decode cX8_turnOf 47 = .ok (.istore_n 3, 1) := by decide +kernel
theorem dX8_turnOf_48 : decode cX8_turnOf 48 = .ok (.iinc 4 1, 3) := by decide +kernel
theorem dX8_turnOf_51 : decode cX8_turnOf 51 = .ok (.goto (-31), 3) := by decide +kernel
theorem dX8_turnOf_54 : decode cX8_turnOf 54 = .ok (.iload_n 2, 1) := by decide +kernel
theorem dX8_turnOf_55 : decode cX8_turnOf 55 = .ok (.ifCond .eq 11, 3) := by decide +kernel
theorem dX8_turnOf_58 : decode cX8_turnOf 58 = .ok (.aload_n 0, 1) := by decide +kernel
theorem dX8_turnOf_59 : decode cX8_turnOf 59 = .ok (.iload_n 3, 1) := by decide +kernel
theorem dX8_turnOf_60 : decode cX8_turnOf 60 = .ok (.invokevirtual 245, 3) := by decide +kernel
theorem dX8_turnOf_63 : decode cX8_turnOf 63 = .ok (.goto 4, 3) := by decide +kernel
theorem dX8_turnOf_66 : decode cX8_turnOf 66 = .ok (.iload_n 3, 1) := by decide +kernel
theorem dX8_turnOf_67 : decode cX8_turnOf 67 = .ok (.ireturn, 1) := by decide +kernel
set_option maxRecDepth 20000 in
theorem ggX8_turn_X8_isBody : GoodIn wsX8_turn wsX8_isBody := goodIn_r _ [5, 6, 7, 8, 4, 9, 49, 50, 51, 52, 53, 54, 55, 56, 57, 58, 59, 60, 61, 62, 63, 64, 65, 66, 67, 68, 69, 70, 71, 72, 73, 74, 75, 76, 77, 78, 79, 80] (by decide +kernel) (by decide +kernel)
set_option maxRecDepth 20000 in
theorem gX8_turn_X8_isBody : GoodIn wsX8_turn (wsV RX8 164 RX8 yX8_isBody wsX8_isBody) := goodIn_app (goodIn_of _ (by decide +kernel)) ggX8_turn_X8_isBody
set_option maxRecDepth 20000 in
theorem ggX8_turn_X8_can : GoodIn wsX8_turn wsX8_can := goodIn_r _ [13, 14, 49, 50, 51, 52, 53, 54, 55, 56, 57, 58, 59, 60, 61, 62, 63, 64, 65, 66, 67, 68, 69, 70, 71, 72, 73, 74, 75, 76, 77, 78, 79, 80] (by decide +kernel) (by decide +kernel)
set_option maxRecDepth 20000 in
theorem gX8_turn_X8_can : GoodIn wsX8_turn (wsV RX8 101 RX8 yX8_can wsX8_can) := goodIn_app (goodIn_of _ (by decide +kernel)) ggX8_turn_X8_can
set_option maxRecDepth 20000 in
theorem ggX8_turn_X8_turnOf : GoodIn wsX8_turn wsX8_turnOf := goodIn_r _ [18, 19, 20, 21, 22, 4, 23, 24, 25, 26, 27, 28, 29, 30, 31, 32, 33, 34, 35, 36, 37, 38, 39, 40, 41, 42, 43, 44, 45, 46, 47, 48, 49, 50, 51, 52, 53, 54, 55, 56, 57, 58, 59, 60, 61, 62, 63, 64, 65, 66, 67, 68, 69, 70, 71, 72, 73, 74, 75, 76, 77, 78, 79, 80] (by decide +kernel) (by decide +kernel)
set_option maxRecDepth 20000 in
theorem gX8_turn_X8_turnOf : GoodIn wsX8_turn (wsV RX8 248 RX8 yX8_turnOf wsX8_turnOf) := goodIn_app (goodIn_of _ (by decide +kernel)) ggX8_turn_X8_turnOf
theorem dX8_turn_0 : decode cX8_turn 0 = .ok (.aload_n 0, 1) := by decide +kernel
theorem dX8_turn_1 : decode cX8_turn 1 = .ok (.aload_n 0, 1) := by decide +kernel
theorem dX8_turn_2 : decode cX8_turn 2 = .ok (.iload_n 1, 1) := by decide +kernel
theorem dX8_turn_3 : decode cX8_turn 3 = .ok (.invokevirtual 164, 3) := by decide +kernel
theorem dX8_turn_6 : decode cX8_turn 6 = .ok (.ifCond .eq 7, 3) := by decide +kernel
theorem dX8_turn_9 : decode cX8_turn 9 = .ok (.iconst 0, 1) := by decide +kernel
theorem dX8_turn_10 : decode cX8_turn 10 = .ok (.goto 4, 3) := by decide +kernel
theorem dX8_turn_13 : decode cX8_turn 13 = .ok (.iconst 1, 1) := by decide +kernel
theorem dX8_turn_14 : decode cX8_turn 14 = .ok (.invokevirtual 101, 3) := by decide +kernel
theorem dX8_turn_17 : decode cX8_turn 17 = .ok (.ifCond .eq 12, 3) := by decide +kernel
theorem dX8_turn_20 : decode cX8_turn 20 = .ok (.aload_n 0, 1) := by decide +kernel
theorem dX8_turn_21 : decode cX8_turn 21 = .ok (.iload_n 1, 1) := by decide +kernel
theorem dX8_turn_22 : decode cX8_turn 22 = .ok (.iload_n 2, 1) := by decide +kernel
theorem dX8_turn_23 : decode cX8_turn 23 = .ok (.invokevirtual 248, 3) := by decide +kernel
theorem dX8_turn_26 : decode cX8_turn 26 = .ok (.goto 4, 3) := by decide +kernel
theorem dX8_turn_29 : decode cX8_turn 29 = .ok (.iconst 0, 1) := by decide +kernel
theorem dX8_turn_30 : decode cX8_turn 30 = .ok (.ireturn, 1) := by decide +kernel
