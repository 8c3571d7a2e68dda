set_option maxRecDepth 20000 in
theorem ggX13_best_X13_put : GoodIn wsX13_best wsX13_put := goodIn_r _ [78, 4, 2, 64, 65, 66, 8, 67, 3, 68, 69, 70, 79, 80, 81, 82, 83, 84, 85, 86, 87, 88, 89, 90, 91, 92, 93, 94, 95, 96, 97, 98, 99, 100, 101, 102, 103, 104, 105, 106, 107, 108, 109, 110, 111, 112, 113, 114, 115, 116, 117, 118, 119, 120, 121, 122, 123, 124, 125, 126, 127, 128, 129, 130, 131, 132, 133, 134, 135, 136, 137, 138, 139, 140, 141, 142, 143, 144, 145] rfl (by decide +kernel)
set_option maxRecDepth 20000 in
theorem gX13_best_X13_put : GoodIn wsX13_best (wsV RX13 396 RX13 yX13_put wsX13_put) := goodIn_app (goodIn_of _ (by decide +kernel)) ggX13_best_X13_put
theorem dX13_best_0 : decode cX13_best 0 = .ok (.aload_n 0, 1) := by decide +kernel
theorem dX13_best_1 : decode cX13_best 1 = .ok (.iconst 0, 1) := by decide +kernel
theorem dX13_best_2 : decode cX13_best 2 = .ok (.putfield 173, 3) := by decide +kernel
theorem dX13_best_5 : decode cX13_best 5 = .ok (.iload_n 1, 1) := by decide +kernel
theorem dX13_best_6 : decode cX13_best 6 = .ok (.ifCond .lt 8, 3) := by decide +kernel
theorem dX13_best_9 : decode cX13_best 9 = .ok (.iload_n 1, 1) := by decide +kernel
theorem dX13_best_10 : decode cX13_best 10 = .ok (.iconst 2, 1) := by decide +kernel
theorem dX13_best_11 : decode cX13_best 11 = .ok (.if_icmp .le 9, 3) := by decide +kernel
theorem dX13_best_14 : decode cX13_best 14 = .ok (.aload_n 0, 1) := by decide +kernel
theorem dX13_best_15 : decode cX13_best 15 = .ok (.iconst 1, 1) := by decide +kernel
theorem dX13_best_16 : decode cX13_best 16 = .ok (.invokevirtual 318, 3) := by decide +kernel
theorem dX13_best_19 : decode cX13_best 19 = .ok (.ireturn, 1) := by decide +kernel
theorem dX13_best_20 : decode cX13_best 20 = .ok (.iconst (-1), 1) := by decide +kernel
theorem dX13_best_21 : decode cX13_best 21 = .ok (.istore_n 2, 1) := by decide +kernel
theorem dX13_best_22 : decode cX13_best 22 = .ok (.iconst (-1), 1) := by decide +kernel
theorem dX13_best_23 : decode cX13_best 23 = .ok (.istore_n 3, 1) := by decide +kernel
theorem dX13_best_24 : decode cX13_best 24 = .ok (.aload_n 0, 1) := by decide +kernel
theorem dX13_best_25 : decode cX13_best 25 = .ok (.invokevirtual 400, 3) := by decide +kernel
theorem dX13_best_28 : decode cX13_best 28 = .ok (.istore 4, 2) := by decide +kernel
theorem dX13_best_30 : decode cX13_best 30 = .ok (.aload_n 0, 1) := by decide +kernel
theorem dX13_best_31 : decode cX13_best 31 = .ok (.getfield 331, 3) := by decide +kernel
theorem dX13_best_34 : decode cX13_best 34 = .ok (.istore 5, 2) := by decide +kernel
theorem dX13_best_36 : decode cX13_best 36 = .ok (.iconst 0, 1) := by decide +kernel
theorem dX13_best_37 : decode cX13_best 37 = .ok (.istore 6, 2) := by decide +kernel
theorem dX13_best_39 : decode cX13_best 39 = .ok (.iload 6, 2) := by decide +kernel
theorem dX13_best_41 : decode cX13_best 41 = .ok (.aload_n 0, 1) := by decide +kernel
theorem dX13_best_42 : decode cX13_best 42 = .ok (.getfield 40, 3) := by decide +kernel
theorem dX13_best_45 : decode cX13_best 45 = .ok (.iconst 2, 1) := by decide +kernel
theorem dX13_best_46 : decode cX13_best 46 = .ok (.iaload, 1) := by decide +kernel
theorem dX13_best_47 : decode cX13_best 47 = .ok (.if_icmp .ge 97, 3) := by decide +kernel
theorem dX13_best_50 : decode cX13_best 50 = .ok (.aload_n 0, 1) := by decide +kernel
theorem dX13_best_51 : decode cX13_best 51 = .ok (.getfield 84, 3) := by decide +kernel
theorem dX13_best_54 : decode cX13_best 54 = .ok (.iload 6, 2) := by decide +kernel
theorem dX13_best_56 : decode cX13_best 56 = .ok (.iaload, 1) := by decide +kernel
theorem dX13_best_57 : decode cX13_best 57 = .ok (.istore 7, 2) := by decide +kernel
theorem dX13_best_59 : decode cX13_best 59 = .ok (.iconst 0, 1) := by decide +kernel
theorem dX13_best_60 : decode cX13_best 60 = .ok (.istore 8, 2) := by decide +kernel
theorem dX13_best_62 : decode cX13_best 62 = .ok (.iload 8, 2) := by decide +kernel
theorem dX13_best_64 : decode cX13_best 64 = .ok (.bipush 22, 2) := by decide +kernel
theorem dX13_best_66 : decode cX13_best 66 = .ok (.if_icmp .gt 72, 3) := by decide +kernel
theorem dX13_best_69 : decode cX13_best 69 = .ok (.aload_n 0, 1) := by decide +kernel
theorem dX13_best_70 : decode cX13_best 70 = .ok (.iload 6, 2) := by decide +kernel
theorem dX13_best_72 : decode cX13_best 72 = .ok (.iload 8, 2) := by decide +kernel
theorem dX13_best_74 : decode cX13_best 74 = .ok (.invokevirtual 387, 3) := by decide +kernel
theorem dX13_best_77 : decode cX13_best 77 = .ok (.ifCond .ne 6, 3) := by decide +kernel
theorem dX13_best_80 : decode cX13_best 80 = .ok (.goto 52, 3) := by decide +kernel
theorem dX13_best_83 : decode cX13_best 83 = .ok (.aload_n 0, 1) := by decide +kernel
theorem dX13_best_84 : decode cX13_best 84 = .ok (.iload 6, 2) := by decide +kernel
theorem dX13_best_86 : decode cX13_best 86 = .ok (.iload 8, 2) := by decide +kernel
theorem dX13_best_88 : decode cX13_best 88 = .ok (.invokevirtual 396, 3) := by decide +kernel
theorem dX13_best_91 : decode cX13_best 91 = .ok (.aload_n 0, 1) := by decide +kernel
theorem dX13_best_92 : decode cX13_best 92 = .ok (.invokevirtual 400, 3) := by decide +kernel
theorem dX13_best_95 : decode cX13_best 95 = .ok (.istore 9, 2) := by decide +kernel
theorem dX13_best_97 : decode cX13_best 97 = .ok (.aload_n 0, 1) := by decide +kernel
theorem dX13_best_98 : decode cX13_best 98 = .ok (.getfield 84, 3) := by decide +kernel
theorem dX13_best_101 : decode cX13_best 101 = .ok (.iload 6, 2) := by decide +kernel
theorem dX13_best_103 : decode cX13_best 103 = .ok (.iload 7, 2) := by decide +kernel
theorem dX13_best_105 : decode cX13_best 105 = .ok (.iastore, 1) := by decide +kernel
theorem dX13_best_106 : decode cX13_best 106 = .ok (.aload_n 0, 1) := by decide +kernel
theorem dX13_best_107 : decode cX13_best 107 = .ok (.iload 5, 2) := by decide +kernel
theorem dX13_best_109 : decode cX13_best 109 = .ok (.putfield 331, 3) := by decide +kernel
theorem dX13_best_112 : decode cX13_best 112 = .ok (.iload 9, 2) := by decide +kernel
theorem dX13_best_114 : decode cX13_best 114 = .ok (.iload 4, 2) := by decide +kernel
theorem dX13_best_116 : decode cX13_best 116 = .ok (.if_icmp .lt 6, 3) := by decide +kernel
theorem dX13_best_119 : decode cX13_best 119 = .ok (.goto 13, 3) := by decide +kernel
theorem dX13_best_122 : decode cX13_best 122 = .ok (.iload 6, 2) := by decide +kernel
theorem dX13_best_124 : decode cX13_best 124 = .ok (.istore_n 2, 1) := by decide +kernel
theorem dX13_best_125 : decode cX13_best 125 = .ok (.iload 8, 2) := by decide +kernel
theorem dX13_best_127 : decode cX13_best 127 = .ok (.istore_n 3, 1) := by decide +kernel
theorem dX13_best_128 : decode cX13_best 128 = .ok (.iload 9, 2) := by decide +kernel
theorem dX13_best_130 : decode cX13_best 130 = .ok (.istore 4, 2) := by decide +kernel
theorem dX13_best_132 : decode cX13_best 132 = .ok (.iinc 8 1, 3) := by decide +kernel
theorem dX13_best_135 : decode cX13_best 135 = .ok (.goto (-73), 3) := by decide +kernel
theorem dX13_best_138 : decode cX13_best 138 = .ok (.iinc 6 1, 3) := by decide +kernel
theorem dX13_best_141 : decode cX13_best 141 = .ok (.goto (-102), 3) := by decide +kernel
theorem dX13_best_144 : decode cX13_best 144 = .ok (.iload_n 2, 1) := by decide +kernel
theorem dX13_best_145 : decode cX13_best 145 = .ok (.iconst (-1), 1) := by decide +kernel
theorem dX13_best_146 : decode cX13_best 146 = .ok (.if_icmp .ne 7, 3) := by decide +kernel
theorem dX13_best_149 : decode cX13_best 149 = .ok (.iconst (-1), 1) := by decide +kernel
theorem dX13_best_150 : decode cX13_best 150 = .ok (.goto 22, 3) := by decide +kernel
theorem dX13_best_153 : decode cX13_best 153 = .ok (.iload_n 1, 1) := by decide +kernel
theorem dX13_best_154 : decode cX13_best 154 = .ok (.ifCond .ne 7, 3) := by decide +kernel
theorem dX13_best_157 : decode cX13_best 157 = .ok (.iload_n 2, 1) := by decide +kernel
theorem dX13_best_158 : decode cX13_best 158 = .ok (.goto 14, 3) := by decide +kernel
theorem dX13_best_161 : decode cX13_best 161 = .ok (.iload_n 1, 1) := by decide +kernel
theorem dX13_best_162 : decode cX13_best 162 = .ok (.iconst 1, 1) := by decide +kernel
theorem dX13_best_163 : decode cX13_best 163 = .ok (.if_icmp .ne 7, 3) := by decide +kernel
theorem dX13_best_166 : decode cX13_best 166 = .ok (.iload_n 3, 1) := by decide +kernel
theorem dX13_best_167 : decode cX13_best 167 = .ok (.goto 5, 3) := by decide +kernel
theorem dX13_best_170 : decode cX13_best 170 = .ok (.iload 4, 2) := by decide +kernel
theorem dX13_best_172 : decode cX13_best 172 = .ok (.ireturn, 1) := by decide +kernel
set_option maxRecDepth 20000 in
theorem ggX13_counter_X13_fail : GoodIn wsX13_counter wsX13_fail := goodIn_r _ [11, 1, 58, 59, 60, 61, 62, 63, 64, 65, 66, 67, 68, 69, 70, 71, 72, 73, 74, 75, 76, 77, 78, 79, 80, 81, 82, 83, 84, 85, 86, 87, 88, 89, 90, 91, 92, 93, 94, 95, 96, 97, 98, 99, 100, 101, 102, 103, 104, 105, 106, 107, 108, 109, 110, 111, 112, 113, 114, 115, 116, 117, 118, 119, 120, 121, 122, 123, 124] rfl (by decide +kernel)
set_option maxRecDepth 20000 in
theorem gX13_counter_X13_fail : GoodIn wsX13_counter (wsV RX13 318 RX13 yX13_fail wsX13_fail) := goodIn_app (goodIn_of _ (by decide +kernel)) ggX13_counter_X13_fail
set_option maxRecDepth 20000 in
theorem ggX13_counter_X13_isIn : GoodIn wsX13_counter wsX13_isIn := goodIn_r _ [14] rfl (by decide +kernel)
set_option maxRecDepth 20000 in
theorem gX13_counter_X13_isIn : GoodIn wsX13_counter (va_wsS RX13 176 yX13_isIn wsX13_isIn) := goodIn_app (goodIn_of _ (by decide +kernel)) ggX13_counter_X13_isIn
set_option maxRecDepth 20000 in
theorem ggX13_counter_X13_isCase : GoodIn wsX13_counter wsX13_isCase := goodIn_r _ [18, 3, 12, 13, 10, 14, 58, 59, 60, 61, 62, 63, 64, 65, 66, 67, 68, 69, 70, 71, 72, 73, 74, 75, 76, 77, 78, 79, 80, 81, 82, 83, 84, 85, 86, 87, 88, 89, 90, 91, 92, 93, 94, 95, 96, 97, 98, 99, 100, 101, 102, 103, 104, 105, 106, 107, 108, 109, 110, 111, 112, 113, 114, 115, 116, 117, 118, 119, 120, 121, 122, 123, 124] rfl (by decide +kernel)
set_option maxRecDepth 20000 in
theorem gX13_counter_X13_isCase : GoodIn wsX13_counter (wsV RX13 363 RX13 yX13_isCase wsX13_isCase) := goodIn_app (goodIn_of _ (by decide +kernel)) ggX13_counter_X13_isCase
set_option maxRecDepth 20000 in
theorem ggX13_counter_X13_mayBe : GoodIn wsX13_counter wsX13_mayBe := goodIn_r _ [22, 5, 23, 24, 25, 26, 27, 28, 29, 15, 16, 17, 10, 18, 3, 12, 13, 14, 30, 31, 32, 33, 34, 35, 36, 37, 38, 39, 40, 41, 42, 43, 44, 58, 59, 60, 61, 62, 63, 64, 65, 66, 67, 68, 69, 70, 71, 72, 73, 74, 75, 76, 77, 78, 79, 80, 81, 82, 83, 84, 85, 86, 87, 88, 89, 90, 91, 92, 93, 94, 95, 96, 97, 98, 99, 100, 101, 102, 103, 104, 105, 106, 107, 108, 109, 110, 111, 112, 113, 114, 115, 116, 117, 118, 119, 120, 121, 122, 123, 124] rfl (by decide +kernel)
set_option maxRecDepth 20000 in
theorem gX13_counter_X13_mayBe : GoodIn wsX13_counter (wsV RX13 387 RX13 yX13_mayBe wsX13_mayBe) := goodIn_app (goodIn_of _ (by decide +kernel)) ggX13_counter_X13_mayBe
set_option maxRecDepth 20000 in
theorem ggX13_counter_X13_allGo : GoodIn wsX13_counter wsX13_allGo := goodIn_r _ [48, 3, 49, 50, 51, 10, 52, 53, 54, 55, 56, 57, 30, 31, 32, 33, 5, 25, 34, 23, 27, 58, 59, 60, 61, 62, 63, 64, 65, 66, 67, 68, 69, 70, 71, 72, 73, 74, 75, 76, 77, 78, 79, 80, 81, 82, 83, 84, 85, 86, 87, 88, 89, 90, 91, 92, 93, 94, 95, 96, 97, 98, 99, 100, 101, 102, 103, 104, 105, 106, 107, 108, 109, 110, 111, 112, 113, 114, 115, 116, 117, 118, 119, 120, 121, 122, 123, 124] rfl (by decide +kernel)
set_option maxRecDepth 20000 in
theorem gX13_counter_X13_allGo : GoodIn wsX13_counter (wsV RX13 471 RX13 yX13_allGo wsX13_allGo) := goodIn_app (goodIn_of _ (by decide +kernel)) ggX13_counter_X13_allGo
theorem dX13_counter_0 : decode cX13_counter 0 = .ok (.aload_n 0, 1) := by decide +kernel
theorem dX13_counter_1 : decode cX13_counter 1 = .ok (.iconst 0, 1) := by decide +kernel
theorem dX13_counter_2 : decode cX13_counter 2 = .ok (.putfield 173, 3) := by decide +kernel
theorem dX13_counter_5 : decode cX13_counter 5 = .ok (.iload_n 3, 1) := by decide +kernel
theorem dX13_counter_6 : decode cX13_counter 6 = .ok (.ifCond .lt 8, 3) := by decide +kernel
theorem dX13_counter_9 : decode cX13_counter 9 = .ok (.iload_n 3, 1) := by decide +kernel
theorem dX13_counter_10 : decode cX13_counter 10 = .ok (.iconst 1, 1) := by decide +kernel
theorem dX13_counter_11 : decode cX13_counter 11 = .ok (.if_icmp .le 9, 3) := by decide +kernel
theorem dX13_counter_14 : decode cX13_counter 14 = .ok (.aload_n 0, 1) := by decide +kernel
theorem dX13_counter_15 : decode cX13_counter 15 = .ok (.iconst 1, 1) := by decide +kernel
theorem dX13_counter_16 : decode cX13_counter 16 = .ok (.invokevirtual 318, 3) := by decide +kernel
theorem dX13_counter_19 : decode cX13_counter 19 = .ok (.ireturn, 1) := by decide +kernel
theorem dX13_counter_20 : decode cX13_counter 20 = .ok (.iload_n 2, 1) := by decide +kernel
theorem dX13_counter_21 : decode cX13_counter 21 = .ok (.i2l, 1) := by decide +kernel
theorem dX13_counter_22 : decode cX13_counter 22 = .ok (.lconst 0, 1) := by decide +kernel
theorem dX13_counter_23 : decode cX13_counter 23 = .ok (.ldc2_w 462, 3) := by decide +kernel
theorem dX13_counter_26 : decode cX13_counter 26 = .ok (.invokestatic 176, 3) := by decide +kernel
theorem dX13_counter_29 : decode cX13_counter 29 = .ok (.ifCond .ne 9, 3) := by decide +kernel
theorem dX13_counter_32 : decode cX13_counter 32 = .ok (.aload_n 0, 1) := by decide +kernel
theorem dX13_counter_33 : decode cX13_counter 33 = .ok (.iconst 2, 1) := by decide +kernel
theorem dX13_counter_34 : decode cX13_counter 34 = .ok (.invokevirtual 318, 3) := by decide +kernel
theorem dX13_counter_37 : decode cX13_counter 37 = .ok (.ireturn, 1) := by decide +kernel
theorem dX13_counter_38 : decode cX13_counter 38 = .ok (.iconst 0, 1) := by decide +kernel
theorem dX13_counter_39 : decode cX13_counter 39 = .ok (.istore 4, 2) := by decide +kernel
theorem dX13_counter_41 : decode cX13_counter 41 = .ok (.iload 4, 2) := by decide +kernel
theorem dX13_counter_43 : decode cX13_counter 43 = .ok (.aload_n 0, 1) := by decide +kernel
theorem dX13_counter_44 : decode cX13_counter 44 = .ok (.getfield 40, 3) := by decide +kernel
theorem dX13_counter_47 : decode cX13_counter 47 = .ok (.iconst 2, 1) := by decide +kernel
theorem dX13_counter_48 : decode cX13_counter 48 = .ok (.iaload, 1) := by decide +kernel
theorem dX13_counter_49 : decode cX13_counter 49 = .ok (.if_icmp .ge 23, 3) := by decide +kernel
theorem dX13_counter_52 : decode cX13_counter 52 = .ok (.aload_n 0, 1) := by decide +kernel
theorem dX13_counter_53 : decode cX13_counter 53 = .ok (.getfield 121, 3) := by decide +kernel
theorem dX13_counter_56 : decode cX13_counter 56 = .ok (.iload 4, 2) := by decide +kernel
theorem dX13_counter_58 : decode cX13_counter 58 = .ok (.aload_n 0, 1) := by decide +kernel
theorem dX13_counter_59 : decode cX13_counter 59 = .ok (.getfield 84, 3) := by decide +kernel
theorem dX13_counter_62 : decode cX13_counter 62 = .ok (.iload 4, 2) := by decide +kernel
theorem dX13_counter_64 : decode cX13_counter 64 = .ok (.iaload, 1) := by decide +kernel
theorem dX13_counter_65 : decode cX13_counter 65 = .ok (.iastore, 1) := by decide +kernel
theorem dX13_counter_66 : decode cX13_counter 66 = .ok (.iinc 4 1, 3) := by decide +kernel
theorem dX13_counter_69 : decode cX13_counter 69 = .ok (.goto (-28), 3) := by decide +kernel
theorem dX13_counter_72 : decode cX13_counter 72 = .ok (.iload_n 1, 1) := by decide +kernel
theorem dX13_counter_73 : decode cX13_counter 73 = .ok (.istore 4, 2) := by decide +kernel
theorem dX13_counter_75 : decode cX13_counter 75 = .ok (.iconst 0, 1) := by decide +kernel
theorem dX13_counter_76 : decode cX13_counter 76 = .ok (.istore 5, 2) := by decide +kernel
theorem dX13_counter_78 : decode cX13_counter 78 = .ok (.iconst 0, 1) := by decide +kernel
theorem dX13_counter_79 : decode cX13_counter 79 = .ok (.istore 6, 2) := by decide +kernel
theorem dX13_counter_81 : decode cX13_counter 81 = .ok (.iconst 0, 1) := by decide +kernel
theorem dX13_counter_82 : decode cX13_counter 82 = .ok (.istore 7, 2) := by decide +kernel
theorem dX13_counter_84 : decode cX13_counter 84 = .ok (.iload 7, 2) := by decide +kernel
theorem dX13_counter_86 : decode cX13_counter 86 = .ok (.iload_n 2, 1) := by decide +kernel
theorem dX13_counter_87 : decode cX13_counter 87 = .ok (.if_icmp .ge 141, 3) := by decide +kernel
theorem dX13_counter_90 : decode cX13_counter 90 = .ok (.aload_n 0, 1) := by decide +kernel
theorem dX13_counter_91 : decode cX13_counter 91 = .ok (.getfield 40, 3) := by decide +kernel
theorem dX13_counter_94 : decode cX13_counter 94 = .ok (.iconst 2, 1) := by decide +kernel
theorem dX13_counter_95 : decode cX13_counter 95 = .ok (.iaload, 1) := by decide +kernel
theorem dX13_counter_96 : decode cX13_counter 96 = .ok (.ifCond .le 132, 3) := by decide +kernel
theorem dX13_counter_99 : decode cX13_counter 99 = .ok (.aload_n 0, 1) := by decide +kernel
theorem dX13_counter_100 : decode cX13_counter 100 = .ok (.getfield 40, 3) := by decide +kernel
theorem dX13_counter_103 : decode cX13_counter 103 = .ok (.iconst 1, 1) := by decide +kernel
theorem dX13_counter_104 : decode cX13_counter 104 = .ok (.iaload, 1) := by decide +kernel
theorem dX13_counter_105 : decode cX13_counter 105 = .ok (.ifCond .le 123, 3) := by decide +kernel
theorem dX13_counter_108 : decode cX13_counter 108 = .ok (.iload 4, 2) := by decide +kernel
theorem dX13_counter_110 : decode cX13_counter 110 = .ok (.ldc_w 470, 3) := by decide +kernel
theorem dX13_counter_113 : decode cX13_counter 113 = .ok (.imul, 1) := by decide +kernel
theorem dX13_counter_114 : decode cX13_counter 114 = .ok (.sipush 12345, 3) := by decide +kernel
theorem dX13_counter_117 : decode cX13_counter 117 = .ok (.iadd, 1) := by decide +kernel
theorem dX13_counter_118 : decode cX13_counter 118 = .ok (.istore 4, 2) := by decide +kernel
theorem dX13_counter_120 : decode cX13_counter 120 = .ok (.iload 4, 2) := by decide +kernel
theorem dX13_counter_122 : decode cX13_counter 122 = .ok (.bipush 16, 2) := by decide +kernel
theorem dX13_counter_124 : decode cX13_counter 124 = .ok (.ishr, 1) := by decide +kernel
theorem dX13_counter_125 : decode cX13_counter 125 = .ok (.sipush 32767, 3) := by decide +kernel
theorem dX13_counter_128 : decode cX13_counter 128 = .ok (.iand, 1) := by decide +kernel
theorem dX13_counter_129 : decode cX13_counter 129 = .ok (.aload_n 0, 1) := by decide +kernel
theorem dX13_counter_130 : decode cX13_counter 130 = .ok (.getfield 40, 3) := by decide +kernel
theorem dX13_counter_133 : decode cX13_counter 133 = .ok (.iconst 2, 1) := by decide +kernel
theorem dX13_counter_134 : decode cX13_counter 134 = .ok (.iaload, 1) := by decide +kernel
theorem dX13_counter_135 : decode cX13_counter 135 = .ok (.irem, 1) := by decide +kernel
theorem dX13_counter_136 : decode cX13_counter 136 = .ok (.istore 8, 2) := by decide +kernel
theorem dX13_counter_138 : decode cX13_counter 138 = .ok (.iload 4, 2) := by decide +kernel
theorem dX13_counter_140 : decode cX13_counter 140 = .ok (.ldc_w 470, 3) := by decide +kernel
theorem dX13_counter_143 : decode cX13_counter 143 = .ok (.imul, 1) := by decide +kernel
theorem dX13_counter_144 : decode cX13_counter 144 = .ok (.sipush 12345, 3) := by decide +kernel
theorem dX13_counter_147 : decode cX13_counter 147 = .ok (.iadd, 1) := by decide +kernel
theorem dX13_counter_148 : decode cX13_counter 148 = .ok (.istore 4, 2) := by decide +kernel
theorem dX13_counter_150 : decode cX13_counter 150 = .ok (.iload 4, 2) := by decide +kernel
theorem dX13_counter_152 : decode cX13_counter 152 = .ok (.bipush 16, 2) := by decide +kernel
theorem dX13_counter_154 : decode cX13_counter 154 = .ok (.ishr, 1) := by decide +kernel
theorem dX13_counter_155 : decode cX13_counter 155 = .ok (.sipush 32767, 3) := by decide +kernel
theorem dX13_counter_158 : decode cX13_counter 158 = .ok (.iand, 1) := by decide +kernel
theorem dX13_counter_159 : decode cX13_counter 159 = .ok (.aload_n 0, 1) := by decide +kernel
theorem dX13_counter_160 : decode cX13_counter 160 = .ok (.getfield 40, 3) := by decide +kernel
theorem dX13_counter_163 : decode cX13_counter 163 = .ok (.iconst 1, 1) := by decide +kernel
theorem dX13_counter_164 : decode cX13_counter 164 = .ok (.iaload, 1) := by decide +kernel
theorem dX13_counter_165 : decode cX13_counter 165 = .ok (.irem, 1) := by decide +kernel
theorem dX13_counter_166 : decode cX13_counter 166 = .ok (.istore 9, 2) := by decide +kernel
theorem dX13_counter_168 : decode cX13_counter 168 = .ok (.aload_n 0, 1) := by decide +kernel
theorem dX13_counter_169 : decode cX13_counter 169 = .ok (.aload_n 0, 1) := by decide +kernel
theorem dX13_counter_170 : decode cX13_counter 170 = .ok (.getfield 84, 3) := by decide +kernel
theorem dX13_counter_173 : decode cX13_counter 173 = .ok (.iload 8, 2) := by decide +kernel
theorem dX13_counter_175 : decode cX13_counter 175 = .ok (.iaload, 1) := by decide +kernel
theorem dX13_counter_176 : decode cX13_counter 176 = .ok (.invokevirtual 363, 3) := by decide +kernel
theorem dX13_counter_179 : decode cX13_counter 179 = .ok (.ifCond .eq 26, 3) := by decide +kernel
theorem dX13_counter_182 : decode cX13_counter 182 = .ok (.aload_n 0, 1) := by decide +kernel
theorem dX13_counter_183 : decode cX13_counter 183 = .ok (.iload 8, 2) := by decide +kernel
theorem dX13_counter_185 : decode cX13_counter 185 = .ok (.iload 9, 2) := by decide +kernel
theorem dX13_counter_187 : decode cX13_counter 187 = .ok (.invokevirtual 387, 3) := by decide +kernel
theorem dX13_counter_190 : decode cX13_counter 190 = .ok (.ifCond .eq 15, 3) := by decide +kernel
theorem dX13_counter_193 : decode cX13_counter 193 = .ok (.aload_n 0, 1) := by decide +kernel
theorem dX13_counter_194 : decode cX13_counter 194 = .ok (.getfield 84, 3) := by decide +kernel
theorem dX13_counter_197 : decode cX13_counter 197 = .ok (.iload 8, 2) := by decide +kernel
theorem dX13_counter_199 : decode cX13_counter 199 = .ok (.iload 9, 2) := by decide +kernel
theorem dX13_counter_201 : decode cX13_counter 201 = .ok (.iastore, 1) := by decide +kernel
theorem dX13_counter_202 : decode cX13_counter 202 = .ok (.iinc 5 1, 3) := by decide +kernel
theorem dX13_counter_205 : decode cX13_counter 205 = .ok (.iload 6, 2) := by decide +kernel
theorem dX13_counter_207 : decode cX13_counter 207 = .ok (.aload_n 0, 1) := by decide +kernel
theorem dX13_counter_208 : decode cX13_counter 208 = .ok (.invokevirtual 471, 3) := by decide +kernel
theorem dX13_counter_211 : decode cX13_counter 211 = .ok (.ifCond .eq 7, 3) := by decide +kernel
theorem dX13_counter_214 : decode cX13_counter 214 = .ok (.iconst 1, 1) := by decide +kernel
theorem dX13_counter_215 : decode cX13_counter 215 = .ok (.goto 4, 3) := by decide +kernel
theorem dX13_counter_218 : decode cX13_counter 218 = .ok (.iconst 0, 1) := by decide +kernel
theorem dX13_counter_219 : decode cX13_counter 219 = .ok (.iadd, 1) := by decide +kernel
theorem dX13_counter_220 : decode cX13_counter 220 = .ok (.istore 6, 2) := by decide +kernel
theorem dX13_counter_222 : decode cX13_counter 222 = .ok (.iinc 7 1, 3) := by decide +kernel
theorem dX13_counter_225 : decode cX13_counter 225 = .ok (.goto (-141), 3) := by decide +kernel
theorem dX13_counter_228 : decode cX13_counter 228 = .ok (.iconst 0, 1) := by decide +kernel
theorem dX13_counter_229 : decode cX13_counter 229 = .ok (.istore 7, 2) := by decide +kernel
theorem dX13_counter_231 : decode cX13_counter 231 = .ok (.iload 7, 2) := by decide +kernel
theorem dX13_counter_233 : decode cX13_counter 233 = .ok (.aload_n 0, 1) := by decide +kernel
theorem dX13_counter_234 : decode cX13_counter 234 = .ok (.getfield 40, 3) := by decide +kernel
theorem dX13_counter_237 : decode cX13_counter 237 = .ok (.iconst 2, 1) := by decide +kernel
theorem dX13_counter_238 : decode cX13_counter 238 = .ok (.iaload, 1) := by decide +kernel
theorem dX13_counter_239 : decode cX13_counter 239 = .ok (.if_icmp .ge 23, 3) := by decide +kernel
theorem dX13_counter_242 : decode cX13_counter 242 = .ok (.aload_n 0, 1) := by decide +kernel
theorem dX13_counter_243 : decode cX13_counter 243 = .ok (.getfield 84, 3) := by decide +kernel
theorem dX13_counter_246 : decode cX13_counter 246 = .ok (.iload 7, 2) := by decide +kernel
theorem dX13_counter_248 : decode cX13_counter 248 = .ok (.aload_n 0, 1) := by decide +kernel
theorem dX13_counter_249 : decode cX13_counter 249 = .ok (.getfield 121, 3) := by decide +kernel
theorem dX13_counter_252 : decode cX13_counter 252 = .ok (.iload 7, 2) := by decide +kernel
theorem dX13_counter_254 : decode cX13_counter 254 = .ok (.iaload, 1) := by decide +kernel
theorem dX13_counter_255 : decode cX13_counter 255 = .ok (.iastore, 1) := by decide +kernel
theorem dX13_counter_256 : decode cX13_counter 256 = .ok (.iinc 7 1, 3) := by decide +kernel
theorem dX13_counter_259 : decode cX13_counter 259 = .ok (.goto (-28), 3) := by decide +kernel
theorem dX13_counter_262 : decode cX13_counter 262 = .ok (.iload_n 3, 1) := by decide +kernel
theorem dX13_counter_263 : decode cX13_counter 263 = .ok (.ifCond .ne 8, 3) := by decide +kernel
theorem dX13_counter_266 : decode cX13_counter 266 = .ok (.iload 5, 2) := by decide +kernel
theorem dX13_counter_268 : decode cX13_counter 268 = .ok (.goto 5, 3) := by decide +kernel
theorem dX13_counter_271 : decode cX13_counter 271 = .ok (.iload 6, 2) := by decide +kernel
theorem dX13_counter_273 : decode cX13_counter 273 = .ok (.ireturn, 1) := by decide +kernel
theorem dX13_be_0 : decode cX13_be 0 = .ok (.iconst 0, 1) := by decide +kernel
theorem dX13_be_1 : decode cX13_be 1 = .ok (.istore_n 2, 1) := by decide +kernel
theorem dX13_be_2 : decode cX13_be 2 = .ok (.iload_n 2, 1) := by decide +kernel
theorem dX13_be_3 : decode cX13_be 3 = .ok (.aload_n 0, 1) := by decide +kernel
theorem dX13_be_4 : decode cX13_be 4 = .ok (.arraylength, 1) := by decide +kernel
theorem dX13_be_5 : decode cX13_be 5 = .ok (.if_icmp .ge 15, 3) := by decide +kernel
theorem dX13_be_8 : decode cX13_be 8 = .ok (.aload_n 0, 1) := by decide +kernel
theorem dX13_be_9 : decode cX13_be 9 = .ok (.iload_n 2, 1) := by decide +kernel
theorem dX13_be_10 : decode cX13_be 10 = .ok (.aload_n 1, 1) := by decide +kernel
theorem dX13_be_11 : decode cX13_be 11 = .ok (.iload_n 2, 1) := by decide +kernel
theorem dX13_be_12 : decode cX13_be 12 = .ok (.iaload, 1) := by decide +kernel
theorem dX13_be_13 : decode cX13_be 13 = .ok (.iastore, 1) := by decide +kernel
theorem dX13_be_14 : decode cX13_be 14 = .ok (.iinc 2 1, 3) := by decide +kernel
theorem dX13_be_17 : decode cX13_be 17 = .ok (.goto (-15), 3) := by decide +kernel
theorem dX13_be_20 : decode cX13_be 20 = .ok (.return_, 1) := by decide +kernel
set_option maxRecDepth 20000 in
theorem ggX13_image_X13_be : GoodIn wsX13_image wsX13_be := goodIn_r _ [26] rfl (by decide +kernel)
set_option maxRecDepth 20000 in
theorem gX13_image_X13_be : GoodIn wsX13_image (va_wsS RX13 483 yX13_be wsX13_be) := goodIn_app (goodIn_of _ (by decide +kernel)) ggX13_image_X13_be
theorem dX13_image_0 : decode cX13_image 0 = .ok (.aload_n 0, 1) := by decide +kernel
theorem dX13_image_1 : decode cX13_image 1 = .ok (.iconst 0, 1) := by decide +kernel
theorem dX13_image_2 : decode cX13_image 2 = .ok (.putfield 173, 3) := by decide +kernel
theorem dX13_image_5 : decode cX13_image 5 = .ok (.aload_n 0, 1) := by decide +kernel
theorem dX13_image_6 : decode cX13_image 6 = .ok (.iconst 1, 1) := by decide +kernel
theorem dX13_image_7 : decode cX13_image 7 = .ok (.putfield 344, 3) := by decide +kernel
theorem dX13_image_10 : decode cX13_image 10 = .ok (.aload_n 0, 1) := by decide +kernel
theorem dX13_image_11 : decode cX13_image 11 = .ok (.aload_n 0, 1) := by decide +kernel
theorem dX13_image_12 : decode cX13_image 12 = .ok (.getfield 331, 3) := by decide +kernel
theorem dX13_image_15 : decode cX13_image 15 = .ok (.putfield 474, 3) := by decide +kernel
theorem dX13_image_18 : decode cX13_image 18 = .ok (.aload_n 0, 1) := by decide +kernel
theorem dX13_image_19 : decode cX13_image 19 = .ok (.aload_n 0, 1) := by decide +kernel
theorem dX13_image_20 : decode cX13_image 20 = .ok (.getfield 334, 3) := by decide +kernel
theorem dX13_image_23 : decode cX13_image 23 = .ok (.putfield 477, 3) := by decide +kernel
theorem dX13_image_26 : decode cX13_image 26 = .ok (.aload_n 0, 1) := by decide +kernel
theorem dX13_image_27 : decode cX13_image 27 = .ok (.aload_n 0, 1) := by decide +kernel
theorem dX13_image_28 : decode cX13_image 28 = .ok (.getfield 337, 3) := by decide +kernel
theorem dX13_image_31 : decode cX13_image 31 = .ok (.putfield 480, 3) := by decide +kernel
theorem dX13_image_34 : decode cX13_image 34 = .ok (.aload_n 0, 1) := by decide +kernel
theorem dX13_image_35 : decode cX13_image 35 = .ok (.getfield 152, 3) := by decide +kernel
theorem dX13_image_38 : decode cX13_image 38 = .ok (.aload_n 0, 1) := by decide +kernel
theorem dX13_image_39 : decode cX13_image 39 = .ok (.getfield 84, 3) := by decide +kernel
theorem dX13_image_42 : decode cX13_image 42 = .ok (.invokestatic 483, 3) := by decide +kernel
theorem dX13_image_45 : decode cX13_image 45 = .ok (.aload_n 0, 1) := by decide +kernel
theorem dX13_image_46 : decode cX13_image 46 = .ok (.getfield 155, 3) := by decide +kernel
theorem dX13_image_49 : decode cX13_image 49 = .ok (.aload_n 0, 1) := by decide +kernel
theorem dX13_image_50 : decode cX13_image 50 = .ok (.getfield 112, 3) := by decide +kernel
theorem dX13_image_53 : decode cX13_image 53 = .ok (.invokestatic 483, 3) := by decide +kernel
theorem dX13_image_56 : decode cX13_image 56 = .ok (.aload_n 0, 1) := by decide +kernel
theorem dX13_image_57 : decode cX13_image 57 = .ok (.getfield 158, 3) := by decide +kernel
theorem dX13_image_60 : decode cX13_image 60 = .ok (.aload_n 0, 1) := by decide +kernel
theorem dX13_image_61 : decode cX13_image 61 = .ok (.getfield 115, 3) := by decide +kernel
theorem dX13_image_64 : decode cX13_image 64 = .ok (.invokestatic 483, 3) := by decide +kernel
theorem dX13_image_67 : decode cX13_image 67 = .ok (.aload_n 0, 1) := by decide +kernel
theorem dX13_image_68 : decode cX13_image 68 = .ok (.getfield 161, 3) := by decide +kernel
theorem dX13_image_71 : decode cX13_image 71 = .ok (.aload_n 0, 1) := by decide +kernel
theorem dX13_image_72 : decode cX13_image 72 = .ok (.getfield 118, 3) := by decide +kernel
theorem dX13_image_75 : decode cX13_image 75 = .ok (.invokestatic 483, 3) := by decide +kernel
theorem dX13_image_78 : decode cX13_image 78 = .ok (.aload_n 0, 1) := by decide +kernel
theorem dX13_image_79 : decode cX13_image 79 = .ok (.getfield 164, 3) := by decide +kernel
theorem dX13_image_82 : decode cX13_image 82 = .ok (.aload_n 0, 1) := by decide +kernel
theorem dX13_image_83 : decode cX13_image 83 = .ok (.getfield 146, 3) := by decide +kernel
theorem dX13_image_86 : decode cX13_image 86 = .ok (.invokestatic 483, 3) := by decide +kernel
theorem dX13_image_89 : decode cX13_image 89 = .ok (.aload_n 0, 1) := by decide +kernel
theorem dX13_image_90 : decode cX13_image 90 = .ok (.getfield 167, 3) := by decide +kernel
theorem dX13_image_93 : decode cX13_image 93 = .ok (.aload_n 0, 1) := by decide +kernel
theorem dX13_image_94 : decode cX13_image 94 = .ok (.getfield 149, 3) := by decide +kernel
theorem dX13_image_97 : decode cX13_image 97 = .ok (.invokestatic 483, 3) := by decide +kernel
theorem dX13_image_100 : decode cX13_image 100 = .ok (.aload_n 0, 1) := by decide +kernel
theorem dX13_image_101 : decode cX13_image 101 = .ok (.getfield 170, 3) := by decide +kernel
theorem dX13_image_104 : decode cX13_image 104 = .ok (.aload_n 0, 1) := by decide +kernel
theorem dX13_image_105 : decode cX13_image 105 = .ok (.getfield 96, 3) := by decide +kernel
theorem dX13_image_108 : decode cX13_image 108 = .ok (.invokestatic 483, 3) := by decide +kernel
theorem dX13_image_111 : decode cX13_image 111 = .ok (.return_, 1) := by decide +kernel
set_option maxRecDepth 20000 in
theorem ggX13_restore_X13_be : GoodIn wsX13_restore wsX13_be := goodIn_r _ [26] rfl (by decide +kernel)
set_option maxRecDepth 20000 in
theorem gX13_restore_X13_be : GoodIn wsX13_restore (va_wsS RX13 483 yX13_be wsX13_be) := goodIn_app (goodIn_of _ (by decide +kernel)) ggX13_restore_X13_be
theorem dX13_restore_0 : decode cX13_restore 0 = .ok (.aload_n 0, 1) := by decide +kernel
theorem dX13_restore_1 : decode cX13_restore 1 = .ok (.iconst 0, 1) := by decide +kernel
theorem dX13_restore_2 : decode cX13_restore 2 = .ok (.putfield 173, 3) := by decide +kernel
theorem dX13_restore_5 : decode cX13_restore 5 = .ok (.aload_n 0, 1) := by decide +kernel
theorem dX13_restore_6 : decode cX13_restore 6 = .ok (.getfield 344, 3) := by decide +kernel
theorem dX13_restore_9 : decode cX13_restore 9 = .ok (.ifCond .ne 5, 3) := by decide +kernel
theorem dX13_restore_12 : decode cX13_restore 12 = .ok (.iconst 0, 1) := by decide +kernel
theorem dX13_restore_13 : decode cX13_restore 13 = .ok (.ireturn, 1) := by decide +kernel
theorem dX13_restore_14 : decode cX13_restore 14 = .ok (.aload_n 0, 1) := by decide +kernel
theorem dX13_restore_15 : decode cX13_restore 15 = .ok (.aload_n 0, 1) := by decide +kernel
theorem dX13_restore_16 : decode cX13_restore 16 = .ok (.getfield 474, 3) := by decide +kernel
theorem dX13_restore_19 : decode cX13_restore 19 = .ok (.putfield 331, 3) := by decide +kernel
theorem dX13_restore_22 : decode cX13_restore 22 = .ok (.aload_n 0, 1) := by decide +kernel
theorem dX13_restore_23 : decode cX13_restore 23 = .ok (.aload_n 0, 1) := by decide +kernel
theorem dX13_restore_24 : decode cX13_restore 24 = .ok (.getfield 477, 3) := by decide +kernel
theorem dX13_restore_27 : decode cX13_restore 27 = .ok (.putfield 334, 3) := by decide +kernel
theorem dX13_restore_30 : decode cX13_restore 30 = .ok (.aload_n 0, 1) := by decide +kernel
theorem dX13_restore_31 : decode cX13_restore 31 = .ok (.aload_n 0, 1) := by decide +kernel
theorem dX13_restore_32 : decode cX13_restore 32 = .ok (.getfield 480, 3) := by decide +kernel
theorem dX13_restore_35 : decode cX13_restore 35 = .ok (.putfield 337, 3) := by decide +kernel
theorem dX13_restore_38 : decode cX13_restore 38 = .ok (.aload_n 0, 1) := by decide +kernel
theorem dX13_restore_39 : decode cX13_restore 39 = .ok (.getfield 84, 3) := by decide +kernel
theorem dX13_restore_42 : decode cX13_restore 42 = .ok (.aload_n 0, 1) := by decide +kernel
theorem dX13_restore_43 : decode cX13_restore 43 = .ok (.getfield 152, 3) := by decide +kernel
theorem dX13_restore_46 : decode cX13_restore 46 = .ok (.invokestatic 483, 3) := by decide +kernel
theorem dX13_restore_49 : decode cX13_restore 49 = .ok (.aload_n 0, 1) := by decide +kernel
theorem dX13_restore_50 : decode cX13_restore 50 = .ok (.getfield 112, 3) := by decide +kernel
theorem dX13_restore_53 : decode cX13_restore 53 = .ok (.aload_n 0, 1) := by decide +kernel
theorem dX13_restore_54 : decode cX13_restore 54 = .ok (.getfield 155, 3) := by decide +kernel
theorem dX13_restore_57 : decode cX13_restore 57 = .ok (.invokestatic 483, 3) := by decide +kernel
theorem dX13_restore_60 : decode cX13_restore 60 = .ok (.aload_n 0, 1) := by decide +kernel
theorem dX13_restore_61 : decode cX13_restore 61 = .ok (.getfield 115, 3) := by decide +kernel
theorem dX13_restore_64 : decode cX13_restore 64 = .ok (.aload_n 0, 1) := by decide +kernel
theorem dX13_restore_65 : decode cX13_restore 65 = .ok (.getfield 158, 3) := by decide +kernel
theorem dX13_restore_68 : decode cX13_restore 68 = .ok (.invokestatic 483, 3) := by decide +kernel
theorem dX13_restore_71 : decode cX13_restore 71 = .ok (.aload_n 0, 1) := by decide +kernel
theorem dX13_restore_72 : decode cX13_restore 72 = .ok (.getfield 118, 3) := by decide +kernel
theorem dX13_restore_75 : decode cX13_restore 75 = .ok (.aload_n 0, 1) := by decide +kernel
theorem dX13_restore_76 : decode cX13_restore 76 = .ok (.getfield 161, 3) := by decide +kernel
theorem dX13_restore_79 : decode cX13_restore 79 = .ok (.invokestatic 483, 3) := by decide +kernel
theorem dX13_restore_82 : decode cX13_restore 82 = .ok (.aload_n 0, 1) := by decide +kernel
theorem dX13_restore_83 : decode cX13_restore 83 = .ok (.getfield 146, 3) := by decide +kernel
theorem dX13_restore_86 : decode cX13_restore 86 = .ok (.aload_n 0, 1) := by decide +kernel
theorem dX13_restore_87 : decode cX13_restore 87 = .ok (.getfield 164, 3) := by decide +kernel
theorem dX13_restore_90 : decode cX13_restore 90 = .ok (.invokestatic 483, 3) := by decide +kernel
theorem dX13_restore_93 : decode cX13_restore 93 = .ok (.aload_n 0, 1) := by decide +kernel
theorem dX13_restore_94 : decode cX13_restore 94 = .ok (.getfield 149, 3) := by decide +kernel
theorem dX13_restore_97 : decode cX13_restore 97 = .ok (.aload_n 0, 1) := by decide +kernel
theorem dX13_restore_98 : decode cX13_restore 98 = .ok (.getfield 167, 3) := by decide +kernel
theorem dX13_restore_101 : decode cX13_restore 101 = .ok (.invokestatic 483, 3) := by decide +kernel
theorem dX13_restore_104 : decode cX13_restore 104 = .ok (.aload_n 0, 1) := by decide +kernel
theorem dX13_restore_105 : decode cX13_restore 105 = .ok (.getfield 96, 3) := by decide +kernel
theorem dX13_restore_108 : decode cX13_restore 108 = .ok (.aload_n 0, 1) := by decide +kernel
theorem dX13_restore_109 : decode cX13_restore 109 = .ok (.getfield 170, 3) := by decide +kernel
theorem dX13_restore_112 : decode cX13_restore 112 = .ok (.invokestatic 483, 3) := by decide +kernel
theorem dX13_restore_115 : decode cX13_restore 115 = .ok (.iconst 1, 1) := by decide +kernel
theorem dX13_restore_116 : decode cX13_restore 116 = .ok (.ireturn, 1) := by decide +kernel
