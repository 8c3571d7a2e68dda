theorem dX13_box_19 : decode cX13_box 19 = .ok (.iload_n 2, 1) := by decide +kernel
theorem dX13_box_20 : decode cX13_box 20 = .ok (.tableswitch 124 0 9 #[56, 63, 70, 77, 84, 91, 98, 105, 111, 117], 56) := by decide +kernel
theorem dX13_box_76 : decode cX13_box 76 = .ok (.aload_n 0, 1) := by decide +kernel
theorem dX13_box_77 : decode cX13_box 77 = .ok (.getfield 53, 3) := by decide +kernel
theorem dX13_box_80 : decode cX13_box 80 = .ok (.iload_n 1, 1) := by decide +kernel
theorem dX13_box_81 : decode cX13_box 81 = .ok (.iaload, 1) := by decide +kernel
theorem dX13_box_82 : decode cX13_box 82 = .ok (.ireturn, 1) := by decide +kernel
theorem dX13_box_83 : decode cX13_box 83 = .ok (.aload_n 0, 1) := by decide +kernel
theorem dX13_box_84 : decode cX13_box 84 = .ok (.getfield 56, 3) := by decide +kernel
theorem dX13_box_87 : decode cX13_box 87 = .ok (.iload_n 1, 1) := by decide +kernel
theorem dX13_box_88 : decode cX13_box 88 = .ok (.iaload, 1) := by decide +kernel
theorem dX13_box_89 : decode cX13_box 89 = .ok (.ireturn, 1) := by decide +kernel
theorem dX13_box_90 : decode cX13_box 90 = .ok (.aload_n 0, 1) := by decide +kernel
theorem dX13_box_91 : decode cX13_box 91 = .ok (.getfield 58, 3) := by decide +kernel
theorem dX13_box_94 : decode cX13_box 94 = .ok (.iload_n 1, 1) := by decide +kernel
theorem dX13_box_95 : decode cX13_box 95 = .ok (.iaload, 1) := by decide +kernel
theorem dX13_box_96 : decode cX13_box 96 = .ok (.ireturn, 1) := by decide +kernel
theorem dX13_box_97 : decode cX13_box 97 = .ok (.aload_n 0, 1) := by decide +kernel
theorem dX13_box_98 : decode cX13_box 98 = .ok (.getfield 61, 3) := by decide +kernel
theorem dX13_box_101 : decode cX13_box 101 = .ok (.iload_n 1, 1) := by decide +kernel
theorem dX13_box_102 : decode cX13_box 102 = .ok (.iaload, 1) := by decide +kernel
theorem dX13_box_103 : decode cX13_box 103 = .ok (.ireturn, 1) := by decide +kernel
theorem dX13_box_104 : decode cX13_box 104 = .ok (.aload_n 0, 1) := by decide +kernel
theorem dX13_box_105 : decode cX13_box 105 = .ok (.getfield 64, 3) := by decide +kernel
theorem dX13_box_108 : decode cX13_box 108 = .ok (.iload_n 1, 1) := by decide +kernel
theorem dX13_box_109 : decode cX13_box 109 = .ok (.iaload, 1) := by decide +kernel
theorem dX13_box_110 : decode cX13_box 110 = .ok (.ireturn, 1) := by decide +kernel
theorem dX13_box_111 : decode cX13_box 111 = .ok (.aload_n 0, 1) := by decide +kernel
theorem dX13_box_112 : decode cX13_box 112 = .ok (.iload_n 1, 1) := by decide +kernel
theorem dX13_box_113 : decode cX13_box 113 = .ok (.iconst 1, 1) := by decide +kernel
theorem dX13_box_114 : decode cX13_box 114 = .ok (.invokevirtual 351, 3) := by decide +kernel
theorem dX13_box_117 : decode cX13_box 117 = .ok (.ireturn, 1) := by decide +kernel
theorem dX13_box_118 : decode cX13_box 118 = .ok (.aload_n 0, 1) := by decide +kernel
theorem dX13_box_119 : decode cX13_box 119 = .ok (.iload_n 1, 1) := by decide +kernel
theorem dX13_box_120 : decode cX13_box 120 = .ok (.iconst 2, 1) := by decide +kernel
theorem dX13_box_121 : decode cX13_box 121 = .ok (.invokevirtual 351, 3) := by decide +kernel
theorem dX13_box_124 : decode cX13_box 124 = .ok (.ireturn, 1) := by decide +kernel
theorem dX13_box_125 : decode cX13_box 125 = .ok (.aload_n 0, 1) := by decide +kernel
theorem dX13_box_126 : decode cX13_box 126 = .ok (.iload_n 1, 1) := by decide +kernel
theorem dX13_box_127 : decode cX13_box 127 = .ok (.invokevirtual 375, 3) := by decide +kernel
theorem dX13_box_130 : decode cX13_box 130 = .ok (.ireturn, 1) := by decide +kernel
theorem dX13_box_131 : decode cX13_box 131 = .ok (.aload_n 0, 1) := by decide +kernel
theorem dX13_box_132 : decode cX13_box 132 = .ok (.iload_n 1, 1) := by decide +kernel
theorem dX13_box_133 : decode cX13_box 133 = .ok (.invokevirtual 372, 3) := by decide +kernel
theorem dX13_box_136 : decode cX13_box 136 = .ok (.ireturn, 1) := by decide +kernel
theorem dX13_box_137 : decode cX13_box 137 = .ok (.aload_n 0, 1) := by decide +kernel
theorem dX13_box_138 : decode cX13_box 138 = .ok (.iload_n 1, 1) := by decide +kernel
theorem dX13_box_139 : decode cX13_box 139 = .ok (.iconst 5, 1) := by decide +kernel
theorem dX13_box_140 : decode cX13_box 140 = .ok (.invokevirtual 351, 3) := by decide +kernel
theorem dX13_box_143 : decode cX13_box 143 = .ok (.ireturn, 1) := by decide +kernel
theorem dX13_box_144 : decode cX13_box 144 = .ok (.aload_n 0, 1) := by decide +kernel
theorem dX13_box_145 : decode cX13_box 145 = .ok (.iconst 1, 1) := by decide +kernel
theorem dX13_box_146 : decode cX13_box 146 = .ok (.invokevirtual 318, 3) := by decide +kernel
theorem dX13_box_149 : decode cX13_box 149 = .ok (.ireturn, 1) := by decide +kernel
set_option maxRecDepth 20000 in
theorem ggX13_thing_X13_isThing : GoodIn wsX13_thing wsX13_isThing := goodIn_r _ [13, 14, 15, 16, 12, 17, 28, 29, 30, 31, 32, 33, 34, 35, 36, 37, 38, 39, 40, 41, 42, 43, 44, 45, 46, 47, 48, 49, 50, 51, 52, 53, 54, 55, 56, 57, 58, 59, 60, 61, 62, 63, 64, 65, 66, 67, 68, 69, 70, 71, 72, 73, 74, 75, 76, 77, 78, 79, 80, 81, 82, 83, 84, 85, 86, 87, 88, 89, 90, 91, 92, 93, 94] rfl (by decide +kernel)
set_option maxRecDepth 20000 in
theorem gX13_thing_X13_isThing : GoodIn wsX13_thing (wsV RX13 384 RX13 yX13_isThing wsX13_isThing) := goodIn_app (goodIn_of _ (by decide +kernel)) ggX13_thing_X13_isThing
set_option maxRecDepth 20000 in
theorem ggX13_thing_X13_fail : GoodIn wsX13_thing wsX13_fail := goodIn_r _ [21, 1, 28, 29, 30, 31, 32, 33, 34, 35, 36, 37, 38, 39, 40, 41, 42, 43, 44, 45, 46, 47, 48, 49, 50, 51, 52, 53, 54, 55, 56, 57, 58, 59, 60, 61, 62, 63, 64, 65, 66, 67, 68, 69, 70, 71, 72, 73, 74, 75, 76, 77, 78, 79, 80, 81, 82, 83, 84, 85, 86, 87, 88, 89, 90, 91, 92, 93, 94] rfl (by decide +kernel)
set_option maxRecDepth 20000 in
theorem gX13_thing_X13_fail : GoodIn wsX13_thing (wsV RX13 318 RX13 yX13_fail wsX13_fail) := goodIn_app (goodIn_of _ (by decide +kernel)) ggX13_thing_X13_fail
set_option maxRecDepth 20000 in
theorem ggX13_thing_X13_priceOf : GoodIn wsX13_thing wsX13_priceOf := goodIn_r _ [25, 14, 3, 26, 27, 28, 29, 30, 31, 32, 33, 34, 35, 36, 37, 38, 39, 40, 41, 42, 43, 44, 45, 46, 47, 48, 49, 50, 51, 52, 53, 54, 55, 56, 57, 58, 59, 60, 61, 62, 63, 64, 65, 66, 67, 68, 69, 70, 71, 72, 73, 74, 75, 76, 77, 78, 79, 80, 81, 82, 83, 84, 85, 86, 87, 88, 89, 90, 91, 92, 93, 94] rfl (by decide +kernel)
set_option maxRecDepth 20000 in
theorem gX13_thing_X13_priceOf : GoodIn wsX13_thing (wsV RX13 369 RX13 yX13_priceOf wsX13_priceOf) := goodIn_app (goodIn_of _ (by decide +kernel)) ggX13_thing_X13_priceOf
theorem dX13_thing_0 : decode cX13_thing 0 = .ok (.aload_n 0, 1) := by decide +kernel
theorem dX13_thing_1 : decode cX13_thing 1 = .ok (.iconst 0, 1) := by decide +kernel
theorem dX13_thing_2 : decode cX13_thing 2 = .ok (.putfield 173, 3) := by decide +kernel
theorem dX13_thing_5 : decode cX13_thing 5 = .ok (.aload_n 0, 1) := by decide +kernel
theorem dX13_thing_6 : decode cX13_thing 6 = .ok (.iload_n 1, 1) := by decide +kernel
theorem dX13_thing_7 : decode cX13_thing 7 = .ok (.invokevirtual 384, 3) := by decide +kernel
theorem dX13_thing_10 : decode cX13_thing 10 = .ok (.ifCond .ne 9, 3) := by decide +kernel
theorem dX13_thing_13 : decode cX13_thing 13 = .ok (.aload_n 0, 1) := by decide +kernel
theorem dX13_thing_14 : decode cX13_thing 14 = .ok (.iconst 1, 1) := by decide +kernel
theorem dX13_thing_15 : decode cX13_thing 15 = .ok (.invokevirtual 318, 3) := by decide +kernel
theorem dX13_thing_18 : decode cX13_thing 18 = .ok (.ireturn, 1) := by decide +kernel
theorem dX13_thing_19 : decode cX13_thing 19 = .ok (.iload_n 2, 1) := by decide +kernel
theorem dX13_thing_20 : decode cX13_thing 20 = .ok (.tableswitch 103 0 7 #[48, 55, 62, 69, 76, 83, 90, 97], 48) := by decide +kernel
theorem dX13_thing_68 : decode cX13_thing 68 = .ok (.aload_n 0, 1) := by decide +kernel
theorem dX13_thing_69 : decode cX13_thing 69 = .ok (.getfield 66, 3) := by decide +kernel
theorem dX13_thing_72 : decode cX13_thing 72 = .ok (.iload_n 1, 1) := by decide +kernel
theorem dX13_thing_73 : decode cX13_thing 73 = .ok (.iaload, 1) := by decide +kernel
theorem dX13_thing_74 : decode cX13_thing 74 = .ok (.ireturn, 1) := by decide +kernel
theorem dX13_thing_75 : decode cX13_thing 75 = .ok (.aload_n 0, 1) := by decide +kernel
theorem dX13_thing_76 : decode cX13_thing 76 = .ok (.getfield 69, 3) := by decide +kernel
theorem dX13_thing_79 : decode cX13_thing 79 = .ok (.iload_n 1, 1) := by decide +kernel
theorem dX13_thing_80 : decode cX13_thing 80 = .ok (.iaload, 1) := by decide +kernel
theorem dX13_thing_81 : decode cX13_thing 81 = .ok (.ireturn, 1) := by decide +kernel
theorem dX13_thing_82 : decode cX13_thing 82 = .ok (.aload_n 0, 1) := by decide +kernel
theorem dX13_thing_83 : decode cX13_thing 83 = .ok (.getfield 72, 3) := by decide +kernel
theorem dX13_thing_86 : decode cX13_thing 86 = .ok (.iload_n 1, 1) := by decide +kernel
theorem dX13_thing_87 : decode cX13_thing 87 = .ok (.iaload, 1) := by decide +kernel
theorem dX13_thing_88 : decode cX13_thing 88 = .ok (.ireturn, 1) := by decide +kernel
theorem dX13_thing_89 : decode cX13_thing 89 = .ok (.aload_n 0, 1) := by decide +kernel
theorem dX13_thing_90 : decode cX13_thing 90 = .ok (.getfield 75, 3) := by decide +kernel
theorem dX13_thing_93 : decode cX13_thing 93 = .ok (.iload_n 1, 1) := by decide +kernel
theorem dX13_thing_94 : decode cX13_thing 94 = .ok (.iaload, 1) := by decide +kernel
theorem dX13_thing_95 : decode cX13_thing 95 = .ok (.ireturn, 1) := by decide +kernel
theorem dX13_thing_96 : decode cX13_thing 96 = .ok (.aload_n 0, 1) := by decide +kernel
theorem dX13_thing_97 : decode cX13_thing 97 = .ok (.getfield 78, 3) := by decide +kernel
theorem dX13_thing_100 : decode cX13_thing 100 = .ok (.iload_n 1, 1) := by decide +kernel
theorem dX13_thing_101 : decode cX13_thing 101 = .ok (.iaload, 1) := by decide +kernel
theorem dX13_thing_102 : decode cX13_thing 102 = .ok (.ireturn, 1) := by decide +kernel
theorem dX13_thing_103 : decode cX13_thing 103 = .ok (.aload_n 0, 1) := by decide +kernel
theorem dX13_thing_104 : decode cX13_thing 104 = .ok (.getfield 84, 3) := by decide +kernel
theorem dX13_thing_107 : decode cX13_thing 107 = .ok (.iload_n 1, 1) := by decide +kernel
theorem dX13_thing_108 : decode cX13_thing 108 = .ok (.iaload, 1) := by decide +kernel
theorem dX13_thing_109 : decode cX13_thing 109 = .ok (.ireturn, 1) := by decide +kernel
theorem dX13_thing_110 : decode cX13_thing 110 = .ok (.aload_n 0, 1) := by decide +kernel
theorem dX13_thing_111 : decode cX13_thing 111 = .ok (.getfield 81, 3) := by decide +kernel
theorem dX13_thing_114 : decode cX13_thing 114 = .ok (.iload_n 1, 1) := by decide +kernel
theorem dX13_thing_115 : decode cX13_thing 115 = .ok (.iaload, 1) := by decide +kernel
theorem dX13_thing_116 : decode cX13_thing 116 = .ok (.ireturn, 1) := by decide +kernel
theorem dX13_thing_117 : decode cX13_thing 117 = .ok (.aload_n 0, 1) := by decide +kernel
theorem dX13_thing_118 : decode cX13_thing 118 = .ok (.iload_n 1, 1) := by decide +kernel
theorem dX13_thing_119 : decode cX13_thing 119 = .ok (.invokevirtual 369, 3) := by decide +kernel
theorem dX13_thing_122 : decode cX13_thing 122 = .ok (.ireturn, 1) := by decide +kernel
theorem dX13_thing_123 : decode cX13_thing 123 = .ok (.aload_n 0, 1) := by decide +kernel
theorem dX13_thing_124 : decode cX13_thing 124 = .ok (.iconst 1, 1) := by decide +kernel
theorem dX13_thing_125 : decode cX13_thing 125 = .ok (.invokevirtual 318, 3) := by decide +kernel
theorem dX13_thing_128 : decode cX13_thing 128 = .ok (.ireturn, 1) := by decide +kernel
set_option maxRecDepth 20000 in
theorem ggX13_may_X13_isThing : GoodIn wsX13_may wsX13_isThing := goodIn_r _ [6, 7, 8, 9, 5, 10, 42, 43, 44, 45, 46, 47, 48, 49, 50, 51, 52, 53, 54, 55, 56, 57, 58, 59, 60, 61, 62, 63, 64, 65, 66, 67, 68, 69, 70, 71, 72, 73, 74, 75, 76, 77, 78, 79, 80, 81, 82, 83, 84, 85, 86, 87, 88, 89, 90, 91, 92, 93, 94, 95, 96, 97, 98, 99, 100, 101, 102, 103, 104, 105, 106, 107, 108] rfl (by decide +kernel)
set_option maxRecDepth 20000 in
theorem gX13_may_X13_isThing : GoodIn wsX13_may (wsV RX13 384 RX13 yX13_isThing wsX13_isThing) := goodIn_app (goodIn_of _ (by decide +kernel)) ggX13_may_X13_isThing
set_option maxRecDepth 20000 in
theorem ggX13_may_X13_mayBe : GoodIn wsX13_may wsX13_mayBe := goodIn_r _ [14, 15, 16, 17, 18, 19, 20, 21, 22, 23, 24, 25, 5, 26, 7, 8, 9, 10, 27, 28, 29, 30, 31, 32, 33, 34, 35, 36, 37, 38, 39, 40, 41, 42, 43, 44, 45, 46, 47, 48, 49, 50, 51, 52, 53, 54, 55, 56, 57, 58, 59, 60, 61, 62, 63, 64, 65, 66, 67, 68, 69, 70, 71, 72, 73, 74, 75, 76, 77, 78, 79, 80, 81, 82, 83, 84, 85, 86, 87, 88, 89, 90, 91, 92, 93, 94, 95, 96, 97, 98, 99, 100, 101, 102, 103, 104, 105, 106, 107, 108] rfl (by decide +kernel)
set_option maxRecDepth 20000 in
theorem gX13_may_X13_mayBe : GoodIn wsX13_may (wsV RX13 387 RX13 yX13_mayBe wsX13_mayBe) := goodIn_app (goodIn_of _ (by decide +kernel)) ggX13_may_X13_mayBe
theorem dX13_may_0 : decode cX13_may 0 = .ok (.aload_n 0, 1) := by decide +kernel
theorem dX13_may_1 : decode cX13_may 1 = .ok (.iconst 0, 1) := by decide +kernel
theorem dX13_may_2 : decode cX13_may 2 = .ok (.putfield 173, 3) := by decide +kernel
theorem dX13_may_5 : decode cX13_may 5 = .ok (.aload_n 0, 1) := by decide +kernel
theorem dX13_may_6 : decode cX13_may 6 = .ok (.iload_n 1, 1) := by decide +kernel
theorem dX13_may_7 : decode cX13_may 7 = .ok (.invokevirtual 384, 3) := by decide +kernel
theorem dX13_may_10 : decode cX13_may 10 = .ok (.ifCond .ne 10, 3) := by decide +kernel
theorem dX13_may_13 : decode cX13_may 13 = .ok (.aload_n 0, 1) := by decide +kernel
theorem dX13_may_14 : decode cX13_may 14 = .ok (.iconst 1, 1) := by decide +kernel
theorem dX13_may_15 : decode cX13_may 15 = .ok (.putfield 173, 3) := by decide +kernel
theorem dX13_may_18 : decode cX13_may 18 = .ok (.iconst 0, 1) := by decide +kernel
theorem dX13_may_19 : decode cX13_may 19 = .ok (.ireturn, 1) := by decide +kernel
theorem dX13_may_20 : decode cX13_may 20 = .ok (.aload_n 0, 1) := by decide +kernel
theorem dX13_may_21 : decode cX13_may 21 = .ok (.iload_n 1, 1) := by decide +kernel
theorem dX13_may_22 : decode cX13_may 22 = .ok (.iload_n 2, 1) := by decide +kernel
theorem dX13_may_23 : decode cX13_may 23 = .ok (.invokevirtual 387, 3) := by decide +kernel
theorem dX13_may_26 : decode cX13_may 26 = .ok (.ireturn, 1) := by decide +kernel
theorem dX13_refuse_0 : decode cX13_refuse 0 = .ok (.aload_n 0, 1) := by decide +kernel
theorem dX13_refuse_1 : decode cX13_refuse 1 = .ok (.getfield 96, 3) := by decide +kernel
theorem dX13_refuse_4 : decode cX13_refuse 4 = .ok (.iload_n 1, 1) := by decide +kernel
theorem dX13_refuse_5 : decode cX13_refuse 5 = .ok (.dup2, 1) := by decide +kernel
theorem dX13_refuse_6 : decode cX13_refuse 6 = .ok (.iaload, 1) := by decide +kernel
theorem dX13_refuse_7 : decode cX13_refuse 7 = .ok (.iconst 1, 1) := by decide +kernel
theorem dX13_refuse_8 : decode cX13_refuse 8 = .ok (.iadd, 1) := by decide +kernel
theorem dX13_refuse_9 : decode cX13_refuse 9 = .ok (.iastore, 1) := by decide +kernel
theorem dX13_refuse_10 : decode cX13_refuse 10 = .ok (.iconst (-1), 1) := by decide +kernel
theorem dX13_refuse_11 : decode cX13_refuse 11 = .ok (.ireturn, 1) := by decide +kernel
theorem dX13_keep_0 : decode cX13_keep 0 = .ok (.aload_n 0, 1) := by decide +kernel
theorem dX13_keep_1 : decode cX13_keep 1 = .ok (.getfield 334, 3) := by decide +kernel
theorem dX13_keep_4 : decode cX13_keep 4 = .ok (.bipush 40, 2) := by decide +kernel
theorem dX13_keep_6 : decode cX13_keep 6 = .ok (.if_icmp .ne 69, 3) := by decide +kernel
theorem dX13_keep_9 : decode cX13_keep 9 = .ok (.iconst 1, 1) := by decide +kernel
theorem dX13_keep_10 : decode cX13_keep 10 = .ok (.istore_n 2, 1) := by decide +kernel
theorem dX13_keep_11 : decode cX13_keep 11 = .ok (.iload_n 2, 1) := by decide +kernel
theorem dX13_keep_12 : decode cX13_keep 12 = .ok (.bipush 40, 2) := by decide +kernel
theorem dX13_keep_14 : decode cX13_keep 14 = .ok (.if_icmp .ge 51, 3) := by decide +kernel
theorem dX13_keep_17 : decode cX13_keep 17 = .ok (.aload_n 0, 1) := by decide +kernel
theorem dX13_keep_18 : decode cX13_keep 18 = .ok (.getfield 112, 3) := by decide +kernel
theorem dX13_keep_21 : decode cX13_keep 21 = .ok (.iload_n 2, 1) := by decide +kernel
theorem dX13_keep_22 : decode cX13_keep 22 = .ok (.iconst 1, 1) := by decide +kernel
theorem dX13_keep_23 : decode cX13_keep 23 = .ok (.isub, 1) := by decide +kernel
theorem dX13_keep_24 : decode cX13_keep 24 = .ok (.aload_n 0, 1) := by decide +kernel
theorem dX13_keep_25 : decode cX13_keep 25 = .ok (.getfield 112, 3) := by decide +kernel
theorem dX13_keep_28 : decode cX13_keep 28 = .ok (.iload_n 2, 1) := by decide +kernel
theorem dX13_keep_29 : decode cX13_keep 29 = .ok (.iaload, 1) := by decide +kernel
theorem dX13_keep_30 : decode cX13_keep 30 = .ok (.iastore, 1) := by decide +kernel
theorem dX13_keep_31 : decode cX13_keep 31 = .ok (.aload_n 0, 1) := by decide +kernel
theorem dX13_keep_32 : decode cX13_keep 32 = .ok (.getfield 115, 3) := by decide +kernel
theorem dX13_keep_35 : decode cX13_keep 35 = .ok (.iload_n 2, 1) := by decide +kernel
theorem dX13_keep_36 : decode cX13_keep 36 = .ok (.iconst 1, 1) := by decide +kernel
theorem dX13_keep_37 : decode cX13_keep 37 = .ok (.isub, 1) := by decide +kernel
theorem dX13_keep_38 : decode cX13_keep 38 = .ok (.aload_n 0, 1) := by decide +kernel
theorem dX13_keep_39 : decode cX13_keep 39 = .ok (.getfield 115, 3) := by decide +kernel
theorem dX13_keep_42 : decode cX13_keep 42 = .ok (.iload_n 2, 1) := by decide +kernel
theorem dX13_keep_43 : decode cX13_keep 43 = .ok (.iaload, 1) := by decide +kernel
theorem dX13_keep_44 : decode cX13_keep 44 = .ok (.iastore, 1) := by decide +kernel
theorem dX13_keep_45 : decode cX13_keep 45 = .ok (.aload_n 0, 1) := by decide +kernel
theorem dX13_keep_46 : decode cX13_keep 46 = .ok (.getfield 118, 3) := by decide +kernel
theorem dX13_keep_49 : decode cX13_keep 49 = .ok (.iload_n 2, 1) := by decide +kernel
theorem dX13_keep_50 : decode cX13_keep 50 = .ok (.iconst 1, 1) := by decide +kernel
theorem dX13_keep_51 : decode cX13_keep 51 = .ok (.isub, 1) := by decide +kernel
theorem dX13_keep_52 : decode cX13_keep 52 = .ok (.aload_n 0, 1) := by decide +kernel
theorem dX13_keep_53 : decode cX13_keep 53 = .ok (.getfield 118, 3) := by decide +kernel
theorem dX13_keep_56 : decode cX13_keep 56 = .ok (.iload_n 2, 1) := by decide +kernel
theorem dX13_keep_57 : decode cX13_keep 57 = .ok (.iaload, 1) := by decide +kernel
theorem dX13_keep_58 : decode cX13_keep 58 = .ok (.iastore, 1) := by decide +kernel
theorem dX13_keep_59 : decode cX13_keep 59 = .ok (.iinc 2 1, 3) := by decide +kernel
theorem dX13_keep_62 : decode cX13_keep 62 = .ok (.goto (-51), 3) := by decide +kernel
theorem dX13_keep_65 : decode cX13_keep 65 = .ok (.aload_n 0, 1) := by decide +kernel
theorem dX13_keep_66 : decode cX13_keep 66 = .ok (.dup, 1) := by decide +kernel
theorem dX13_keep_67 : decode cX13_keep 67 = .ok (.getfield 334, 3) := by decide +kernel
theorem dX13_keep_70 : decode cX13_keep 70 = .ok (.iconst 1, 1) := by decide +kernel
theorem dX13_keep_71 : decode cX13_keep 71 = .ok (.isub, 1) := by decide +kernel
theorem dX13_keep_72 : decode cX13_keep 72 = .ok (.putfield 334, 3) := by decide +kernel
theorem dX13_keep_75 : decode cX13_keep 75 = .ok (.aload_n 0, 1) := by decide +kernel
theorem dX13_keep_76 : decode cX13_keep 76 = .ok (.getfield 112, 3) := by decide +kernel
theorem dX13_keep_79 : decode cX13_keep 79 = .ok (.aload_n 0, 1) := by decide +kernel
theorem dX13_keep_80 : decode cX13_keep 80 = .ok (.getfield 334, 3) := by decide +kernel
theorem dX13_keep_83 : decode cX13_keep 83 = .ok (.iload_n 1, 1) := by decide +kernel
theorem dX13_keep_84 : decode cX13_keep 84 = .ok (.iastore, 1) := by decide +kernel
theorem dX13_keep_85 : decode cX13_keep 85 = .ok (.aload_n 0, 1) := by decide +kernel
theorem dX13_keep_86 : decode cX13_keep 86 = .ok (.getfield 115, 3) := by decide +kernel
theorem dX13_keep_89 : decode cX13_keep 89 = .ok (.aload_n 0, 1) := by decide +kernel
theorem dX13_keep_90 : decode cX13_keep 90 = .ok (.getfield 334, 3) := by decide +kernel
theorem dX13_keep_93 : decode cX13_keep 93 = .ok (.aload_n 0, 1) := by decide +kernel
theorem dX13_keep_94 : decode cX13_keep 94 = .ok (.getfield 84, 3) := by decide +kernel
theorem dX13_keep_97 : decode cX13_keep 97 = .ok (.iload_n 1, 1) := by decide +kernel
theorem dX13_keep_98 : decode cX13_keep 98 = .ok (.iaload, 1) := by decide +kernel
theorem dX13_keep_99 : decode cX13_keep 99 = .ok (.iastore, 1) := by decide +kernel
theorem dX13_keep_100 : decode cX13_keep 100 = .ok (.aload_n 0, 1) := by decide +kernel
theorem dX13_keep_101 : decode cX13_keep 101 = .ok (.getfield 118, 3) := by decide +kernel
theorem dX13_keep_104 : decode cX13_keep 104 = .ok (.aload_n 0, 1) := by decide +kernel
theorem dX13_keep_105 : decode cX13_keep 105 = .ok (.getfield 334, 3) := by decide +kernel
theorem dX13_keep_108 : decode cX13_keep 108 = .ok (.aload_n 0, 1) := by decide +kernel
theorem dX13_keep_109 : decode cX13_keep 109 = .ok (.getfield 331, 3) := by decide +kernel
theorem dX13_keep_112 : decode cX13_keep 112 = .ok (.iastore, 1) := by decide +kernel
theorem dX13_keep_113 : decode cX13_keep 113 = .ok (.aload_n 0, 1) := by decide +kernel
theorem dX13_keep_114 : decode cX13_keep 114 = .ok (.dup, 1) := by decide +kernel
theorem dX13_keep_115 : decode cX13_keep 115 = .ok (.getfield 334, 3) := by decide +kernel
theorem dX13_keep_118 : decode cX13_keep 118 = .ok (.iconst 1, 1) := by decide +kernel
theorem dX13_keep_119 : decode cX13_keep 119 = .ok (.iadd, 1) := by decide +kernel
theorem dX13_keep_120 : decode cX13_keep 120 = .ok (.putfield 334, 3) := by decide +kernel
theorem dX13_keep_123 : decode cX13_keep 123 = .ok (.return_, 1) := by decide +kernel
set_option maxRecDepth 20000 in
theorem ggX13_put_X13_isCase : GoodIn wsX13_put wsX13_isCase := goodIn_r _ [7, 8, 9, 10, 6, 11, 12, 13, 14, 15, 16, 17, 18, 19, 20, 21, 22, 23, 24, 25, 26, 27, 28, 29, 30, 31, 32, 33, 34, 35, 36, 37, 38, 39, 40, 41, 42, 43, 44, 45, 46, 47, 48, 49, 50, 51, 52, 53, 54, 55, 56, 57, 58, 59, 60, 61, 62, 63, 64, 65, 66, 67, 68, 69, 70, 71, 72, 73, 74, 75, 76, 77, 78] rfl (by decide +kernel)
set_option maxRecDepth 20000 in
theorem gX13_put_X13_isCase : GoodIn wsX13_put (wsV RX13 363 RX13 yX13_isCase wsX13_isCase) := goodIn_app (goodIn_of _ (by decide +kernel)) ggX13_put_X13_isCase
theorem dX13_put_0 : decode cX13_put 0 = .ok (.aload_n 0, 1) := by decide +kernel
theorem dX13_put_1 : decode cX13_put 1 = .ok (.aload_n 0, 1) := by decide +kernel
theorem dX13_put_2 : decode cX13_put 2 = .ok (.getfield 84, 3) := by decide +kernel
theorem dX13_put_5 : decode cX13_put 5 = .ok (.iload_n 1, 1) := by decide +kernel
theorem dX13_put_6 : decode cX13_put 6 = .ok (.iaload, 1) := by decide +kernel
theorem dX13_put_7 : decode cX13_put 7 = .ok (.invokevirtual 363, 3) := by decide +kernel
theorem dX13_put_10 : decode cX13_put 10 = .ok (.ifCond .eq 20, 3) := by decide +kernel
theorem dX13_put_13 : decode cX13_put 13 = .ok (.aload_n 0, 1) := by decide +kernel
theorem dX13_put_14 : decode cX13_put 14 = .ok (.dup, 1) := by decide +kernel
theorem dX13_put_15 : decode cX13_put 15 = .ok (.getfield 331, 3) := by decide +kernel
theorem dX13_put_18 : decode cX13_put 18 = .ok (.iconst 1, 1) := by decide +kernel
theorem dX13_put_19 : decode cX13_put 19 = .ok (.aload_n 0, 1) := by decide +kernel
theorem dX13_put_20 : decode cX13_put 20 = .ok (.getfield 84, 3) := by decide +kernel
theorem dX13_put_23 : decode cX13_put 23 = .ok (.iload_n 1, 1) := by decide +kernel
theorem dX13_put_24 : decode cX13_put 24 = .ok (.iaload, 1) := by decide +kernel
theorem dX13_put_25 : decode cX13_put 25 = .ok (.ishl, 1) := by decide +kernel
theorem dX13_put_26 : decode cX13_put 26 = .ok (.ior, 1) := by decide +kernel
theorem dX13_put_27 : decode cX13_put 27 = .ok (.putfield 331, 3) := by decide +kernel
theorem dX13_put_30 : decode cX13_put 30 = .ok (.aload_n 0, 1) := by decide +kernel
theorem dX13_put_31 : decode cX13_put 31 = .ok (.iload_n 2, 1) := by decide +kernel
theorem dX13_put_32 : decode cX13_put 32 = .ok (.invokevirtual 363, 3) := by decide +kernel
theorem dX13_put_35 : decode cX13_put 35 = .ok (.ifCond .eq 15, 3) := by decide +kernel
theorem dX13_put_38 : decode cX13_put 38 = .ok (.aload_n 0, 1) := by decide +kernel
theorem dX13_put_39 : decode cX13_put 39 = .ok (.dup, 1) := by decide +kernel
theorem dX13_put_40 : decode cX13_put 40 = .ok (.getfield 331, 3) := by decide +kernel
theorem dX13_put_43 : decode cX13_put 43 = .ok (.iconst 1, 1) := by decide +kernel
theorem dX13_put_44 : decode cX13_put 44 = .ok (.iload_n 2, 1) := by decide +kernel
theorem dX13_put_45 : decode cX13_put 45 = .ok (.ishl, 1) := by decide +kernel
theorem dX13_put_46 : decode cX13_put 46 = .ok (.ior, 1) := by decide +kernel
theorem dX13_put_47 : decode cX13_put 47 = .ok (.putfield 331, 3) := by decide +kernel
theorem dX13_put_50 : decode cX13_put 50 = .ok (.aload_n 0, 1) := by decide +kernel
theorem dX13_put_51 : decode cX13_put 51 = .ok (.getfield 84, 3) := by decide +kernel
theorem dX13_put_54 : decode cX13_put 54 = .ok (.iload_n 1, 1) := by decide +kernel
theorem dX13_put_55 : decode cX13_put 55 = .ok (.iload_n 2, 1) := by decide +kernel
theorem dX13_put_56 : decode cX13_put 56 = .ok (.iastore, 1) := by decide +kernel
theorem dX13_put_57 : decode cX13_put 57 = .ok (.return_, 1) := by decide +kernel
set_option maxRecDepth 20000 in
theorem ggX13_shift_X13_isThing : GoodIn wsX13_shift wsX13_isThing := goodIn_r _ [7, 8, 9, 10, 6, 11, 64, 65, 66, 67, 68, 69, 70, 71, 72, 73, 74, 75, 76, 77, 78, 79, 80, 81, 82, 83, 84, 85, 86, 87, 88, 89, 90, 91, 92, 93, 94, 95, 96, 97, 98, 99, 100, 101, 102, 103, 104, 105, 106, 107, 108, 109, 110, 111, 112, 113, 114, 115, 116, 117, 118, 119, 120, 121, 122, 123, 124, 125, 126, 127, 128, 129, 130] rfl (by decide +kernel)
set_option maxRecDepth 20000 in
theorem gX13_shift_X13_isThing : GoodIn wsX13_shift (wsV RX13 384 RX13 yX13_isThing wsX13_isThing) := goodIn_app (goodIn_of _ (by decide +kernel)) ggX13_shift_X13_isThing
set_option maxRecDepth 20000 in
theorem ggX13_shift_X13_fail : GoodIn wsX13_shift wsX13_fail := goodIn_r _ [15, 1, 64, 65, 66, 67, 68, 69, 70, 71, 72, 73, 74, 75, 76, 77, 78, 79, 80, 81, 82, 83, 84, 85, 86, 87, 88, 89, 90, 91, 92, 93, 94, 95, 96, 97, 98, 99, 100, 101, 102, 103, 104, 105, 106, 107, 108, 109, 110, 111, 112, 113, 114, 115, 116, 117, 118, 119, 120, 121, 122, 123, 124, 125, 126, 127, 128, 129, 130] rfl (by decide +kernel)
set_option maxRecDepth 20000 in
theorem gX13_shift_X13_fail : GoodIn wsX13_shift (wsV RX13 318 RX13 yX13_fail wsX13_fail) := goodIn_app (goodIn_of _ (by decide +kernel)) ggX13_shift_X13_fail
set_option maxRecDepth 20000 in
theorem ggX13_shift_X13_mayBe : GoodIn wsX13_shift wsX13_mayBe := goodIn_r _ [19, 2, 20, 21, 22, 23, 24, 25, 26, 27, 28, 29, 6, 30, 8, 9, 10, 11, 31, 32, 33, 34, 35, 36, 37, 38, 39, 40, 41, 42, 43, 44, 45, 64, 65, 66, 67, 68, 69, 70, 71, 72, 73, 74, 75, 76, 77, 78, 79, 80, 81, 82, 83, 84, 85, 86, 87, 88, 89, 90, 91, 92, 93, 94, 95, 96, 97, 98, 99, 100, 101, 102, 103, 104, 105, 106, 107, 108, 109, 110, 111, 112, 113, 114, 115, 116, 117, 118, 119, 120, 121, 122, 123, 124, 125, 126, 127, 128, 129, 130] rfl (by decide +kernel)
set_option maxRecDepth 20000 in
theorem gX13_shift_X13_mayBe : GoodIn wsX13_shift (wsV RX13 387 RX13 yX13_mayBe wsX13_mayBe) := goodIn_app (goodIn_of _ (by decide +kernel)) ggX13_shift_X13_mayBe
set_option maxRecDepth 20000 in
theorem ggX13_shift_X13_refuse : GoodIn wsX13_shift wsX13_refuse := goodIn_r _ [49, 50, 64, 65, 66, 67, 68, 69, 70, 71, 72, 73, 74, 75, 76, 77, 78, 79, 80, 81, 82, 83, 84, 85, 86, 87, 88, 89, 90, 91, 92, 93, 94, 95, 96, 97, 98, 99, 100, 101, 102, 103, 104, 105, 106, 107, 108, 109, 110, 111, 112, 113, 114, 115, 116, 117, 118, 119, 120, 121, 122, 123, 124, 125, 126, 127, 128, 129, 130] rfl (by decide +kernel)
set_option maxRecDepth 20000 in
theorem gX13_shift_X13_refuse : GoodIn wsX13_shift (wsV RX13 390 RX13 yX13_refuse wsX13_refuse) := goodIn_app (goodIn_of _ (by decide +kernel)) ggX13_shift_X13_refuse
set_option maxRecDepth 20000 in
theorem ggX13_shift_X13_keep : GoodIn wsX13_shift wsX13_keep := goodIn_r _ [54, 55, 56, 57, 58, 2, 59, 64, 65, 66, 67, 68, 69, 70, 71, 72, 73, 74, 75, 76, 77, 78, 79, 80, 81, 82, 83, 84, 85, 86, 87, 88, 89, 90, 91, 92, 93, 94, 95, 96, 97, 98, 99, 100, 101, 102, 103, 104, 105, 106, 107, 108, 109, 110, 111, 112, 113, 114, 115, 116, 117, 118, 119, 120, 121, 122, 123, 124, 125, 126, 127, 128, 129, 130] rfl (by decide +kernel)
set_option maxRecDepth 20000 in
theorem gX13_shift_X13_keep : GoodIn wsX13_shift (wsV RX13 393 RX13 yX13_keep wsX13_keep) := goodIn_app (goodIn_of _ (by decide +kernel)) ggX13_shift_X13_keep
set_option maxRecDepth 20000 in
theorem ggX13_shift_X13_put : GoodIn wsX13_shift wsX13_put := goodIn_r _ [63, 2, 59, 27, 28, 29, 6, 30, 8, 9, 10, 11, 64, 65, 66, 67, 68, 69, 70, 71, 72, 73, 74, 75, 76, 77, 78, 79, 80, 81, 82, 83, 84, 85, 86, 87, 88, 89, 90, 91, 92, 93, 94, 95, 96, 97, 98, 99, 100, 101, 102, 103, 104, 105, 106, 107, 108, 109, 110, 111, 112, 113, 114, 115, 116, 117, 118, 119, 120, 121, 122, 123, 124, 125, 126, 127, 128, 129, 130] rfl (by decide +kernel)
set_option maxRecDepth 20000 in
theorem gX13_shift_X13_put : GoodIn wsX13_shift (wsV RX13 396 RX13 yX13_put wsX13_put) := goodIn_app (goodIn_of _ (by decide +kernel)) ggX13_shift_X13_put
theorem dX13_shift_0 : decode cX13_shift 0 = .ok (.aload_n 0, 1) := by decide +kernel
theorem dX13_shift_1 : decode cX13_shift 1 = .ok (.iconst 0, 1) := by decide +kernel
theorem dX13_shift_2 : decode cX13_shift 2 = .ok (.putfield 173, 3) := by decide +kernel
theorem dX13_shift_5 : decode cX13_shift 5 = .ok (.aload_n 0, 1) := by decide +kernel
theorem dX13_shift_6 : decode cX13_shift 6 = .ok (.iload_n 1, 1) := by decide +kernel
theorem dX13_shift_7 : decode cX13_shift 7 = .ok (.invokevirtual 384, 3) := by decide +kernel
theorem dX13_shift_10 : decode cX13_shift 10 = .ok (.ifCond .ne 9, 3) := by decide +kernel
theorem dX13_shift_13 : decode cX13_shift 13 = .ok (.aload_n 0, 1) := by decide +kernel
theorem dX13_shift_14 : decode cX13_shift 14 = .ok (.iconst 1, 1) := by decide +kernel
theorem dX13_shift_15 : decode cX13_shift 15 = .ok (.invokevirtual 318, 3) := by decide +kernel
theorem dX13_shift_18 : decode cX13_shift 18 = .ok (.ireturn, 1) := by decide +kernel
theorem dX13_shift_19 : decode cX13_shift 19 = .ok (.aload_n 0, 1) := by decide +kernel
theorem dX13_shift_20 : decode cX13_shift 20 = .ok (.iload_n 1, 1) := by decide +kernel
theorem dX13_shift_21 : decode cX13_shift 21 = .ok (.iload_n 2, 1) := by decide +kernel
theorem dX13_shift_22 : decode cX13_shift 22 = .ok (.invokevirtual 387, 3) := by decide +kernel
theorem dX13_shift_25 : decode cX13_shift 25 = .ok (.ifCond .ne 9, 3) := by decide +kernel
theorem dX13_shift_28 : decode cX13_shift 28 = .ok (.aload_n 0, 1) := by decide +kernel
theorem dX13_shift_29 : decode cX13_shift 29 = .ok (.iconst 1, 1) := by decide +kernel
theorem dX13_shift_30 : decode cX13_shift 30 = .ok (.invokevirtual 390, 3) := by decide +kernel
theorem dX13_shift_33 : decode cX13_shift 33 = .ok (.ireturn, 1) := by decide +kernel
theorem dX13_shift_34 : decode cX13_shift 34 = .ok (.aload_n 0, 1) := by decide +kernel
theorem dX13_shift_35 : decode cX13_shift 35 = .ok (.iload_n 1, 1) := by decide +kernel
theorem dX13_shift_36 : decode cX13_shift 36 = .ok (.invokevirtual 393, 3) := by decide +kernel
theorem dX13_shift_39 : decode cX13_shift 39 = .ok (.aload_n 0, 1) := by decide +kernel
theorem dX13_shift_40 : decode cX13_shift 40 = .ok (.getfield 84, 3) := by decide +kernel
theorem dX13_shift_43 : decode cX13_shift 43 = .ok (.iload_n 1, 1) := by decide +kernel
theorem dX13_shift_44 : decode cX13_shift 44 = .ok (.iaload, 1) := by decide +kernel
theorem dX13_shift_45 : decode cX13_shift 45 = .ok (.istore_n 3, 1) := by decide +kernel
theorem dX13_shift_46 : decode cX13_shift 46 = .ok (.aload_n 0, 1) := by decide +kernel
theorem dX13_shift_47 : decode cX13_shift 47 = .ok (.iload_n 1, 1) := by decide +kernel
theorem dX13_shift_48 : decode cX13_shift 48 = .ok (.iload_n 2, 1) := by decide +kernel
theorem dX13_shift_49 : decode cX13_shift 49 = .ok (.invokevirtual 396, 3) := by decide +kernel
theorem dX13_shift_52 : decode cX13_shift 52 = .ok (.iload_n 3, 1) := by decide +kernel
theorem dX13_shift_53 : decode cX13_shift 53 = .ok (.ireturn, 1) := by decide +kernel
theorem dX13_undo_0 : decode cX13_undo 0 = .ok (.aload_n 0, 1) := by decide +kernel
theorem dX13_undo_1 : decode cX13_undo 1 = .ok (.iconst 0, 1) := by decide +kernel
theorem dX13_undo_2 : decode cX13_undo 2 = .ok (.putfield 173, 3) := by decide +kernel
theorem dX13_undo_5 : decode cX13_undo 5 = .ok (.aload_n 0, 1) := by decide +kernel
theorem dX13_undo_6 : decode cX13_undo 6 = .ok (.getfield 334, 3) := by decide +kernel
theorem dX13_undo_9 : decode cX13_undo 9 = .ok (.ifCond .ne 5, 3) := by decide +kernel
theorem dX13_undo_12 : decode cX13_undo 12 = .ok (.iconst (-1), 1) := by decide +kernel
theorem dX13_undo_13 : decode cX13_undo 13 = .ok (.ireturn, 1) := by decide +kernel
theorem dX13_undo_14 : decode cX13_undo 14 = .ok (.aload_n 0, 1) := by decide +kernel
theorem dX13_undo_15 : decode cX13_undo 15 = .ok (.dup, 1) := by decide +kernel
theorem dX13_undo_16 : decode cX13_undo 16 = .ok (.getfield 334, 3) := by decide +kernel
theorem dX13_undo_19 : decode cX13_undo 19 = .ok (.iconst 1, 1) := by decide +kernel
theorem dX13_undo_20 : decode cX13_undo 20 = .ok (.isub, 1) := by decide +kernel
theorem dX13_undo_21 : decode cX13_undo 21 = .ok (.putfield 334, 3) := by decide +kernel
theorem dX13_undo_24 : decode cX13_undo 24 = .ok (.aload_n 0, 1) := by decide +kernel
theorem dX13_undo_25 : decode cX13_undo 25 = .ok (.getfield 84, 3) := by decide +kernel
theorem dX13_undo_28 : decode cX13_undo 28 = .ok (.aload_n 0, 1) := by decide +kernel
theorem dX13_undo_29 : decode cX13_undo 29 = .ok (.getfield 112, 3) := by decide +kernel
theorem dX13_undo_32 : decode cX13_undo 32 = .ok (.aload_n 0, 1) := by decide +kernel
theorem dX13_undo_33 : decode cX13_undo 33 = .ok (.getfield 334, 3) := by decide +kernel
theorem dX13_undo_36 : decode cX13_undo 36 = .ok (.iaload, 1) := by decide +kernel
theorem dX13_undo_37 : decode cX13_undo 37 = .ok (.aload_n 0, 1) := by decide +kernel
theorem dX13_undo_38 : decode cX13_undo 38 = .ok (.getfield 115, 3) := by decide +kernel
theorem dX13_undo_41 : decode cX13_undo 41 = .ok (.aload_n 0, 1) := by decide +kernel
theorem dX13_undo_42 : decode cX13_undo 42 = .ok (.getfield 334, 3) := by decide +kernel
theorem dX13_undo_45 : decode cX13_undo 45 = .ok (.iaload, 1) := by decide +kernel
theorem dX13_undo_46 : decode cX13_undo 46 = .ok (.iastore, 1) := by decide +kernel
theorem dX13_undo_47 : decode cX13_undo 47 = .ok (.aload_n 0, 1) := by decide +kernel
theorem dX13_undo_48 : decode cX13_undo 48 = .ok (.aload_n 0, 1) := by decide +kernel
theorem dX13_undo_49 : decode cX13_undo 49 = .ok (.getfield 118, 3) := by decide +kernel
theorem dX13_undo_52 : decode cX13_undo 52 = .ok (.aload_n 0, 1) := by decide +kernel
theorem dX13_undo_53 : decode cX13_undo 53 = .ok (.getfield 334, 3) := by decide +kernel
theorem dX13_undo_56 : decode cX13_undo 56 = .ok (.iaload, 1) := by decide +kernel
theorem dX13_undo_57 : decode cX13_undo 57 = .ok (.putfield 331, 3) := by decide +kernel
theorem dX13_undo_60 : decode cX13_undo 60 = .ok (.aload_n 0, 1) := by decide +kernel
theorem dX13_undo_61 : decode cX13_undo 61 = .ok (.getfield 334, 3) := by decide +kernel
theorem dX13_undo_64 : decode cX13_undo 64 = .ok (.ireturn, 1) := by decide +kernel
set_option maxRecDepth 20000 in
theorem ggX13_bill_X13_billNow : GoodIn wsX13_bill wsX13_billNow := goodIn_r _ [6, 7, 8, 9, 10, 11, 12, 13, 14, 5, 15, 16, 17, 18, 19, 20, 21, 22, 23, 24, 25, 26, 27, 28, 29, 30, 31, 32, 33, 34, 35, 36, 37, 38, 39, 40, 41, 42, 43, 44, 45, 46, 47, 48, 49, 50, 51, 52, 53, 54, 55, 56, 57, 58, 59, 60, 61, 62, 63, 64, 65, 66, 67, 68, 69, 70, 71, 72, 73, 74, 75, 76, 77, 78, 79, 80, 81, 82, 83, 84, 85, 86, 87, 88, 89, 90, 91, 92, 93, 94, 95, 96, 97, 98, 99, 100, 101, 102, 103, 104, 105, 106, 107, 108, 109, 110, 111, 112, 113, 114, 115, 116, 117, 118, 119] rfl (by decide +kernel)
set_option maxRecDepth 20000 in
theorem gX13_bill_X13_billNow : GoodIn wsX13_bill (wsV RX13 400 RX13 yX13_billNow wsX13_billNow) := goodIn_app (goodIn_of _ (by decide +kernel)) ggX13_bill_X13_billNow
theorem dX13_bill_0 : decode cX13_bill 0 = .ok (.aload_n 0, 1) := by decide +kernel
theorem dX13_bill_1 : decode cX13_bill 1 = .ok (.iconst 0, 1) := by decide +kernel
theorem dX13_bill_2 : decode cX13_bill 2 = .ok (.putfield 173, 3) := by decide +kernel
theorem dX13_bill_5 : decode cX13_bill 5 = .ok (.aload_n 0, 1) := by decide +kernel
theorem dX13_bill_6 : decode cX13_bill 6 = .ok (.invokevirtual 400, 3) := by decide +kernel
theorem dX13_bill_9 : decode cX13_bill 9 = .ok (.ireturn, 1) := by decide +kernel
set_option maxRecDepth 20000 in
theorem ggX13_lawful_X13_overOf : GoodIn wsX13_lawful wsX13_overOf := goodIn_r _ [9, 10, 11, 12, 13, 14, 15, 16, 17, 8, 18, 2, 3, 4, 19, 20, 21, 22, 23, 24, 25, 26, 27, 28, 29, 30, 31, 32, 33, 34, 35, 36, 37, 38, 39, 40, 41, 42, 43, 44, 45, 46, 47, 48, 49, 50, 51, 52, 53, 54, 55, 56, 57, 58, 59, 60, 61, 62, 63, 64, 65, 66, 67, 68, 69, 70, 71, 72, 73, 74, 75, 76, 77, 78, 79, 80, 81, 82, 83, 84, 85, 86, 87, 88] rfl (by decide +kernel)
set_option maxRecDepth 20000 in
theorem gX13_lawful_X13_overOf : GoodIn wsX13_lawful (wsV RX13 375 RX13 yX13_overOf wsX13_overOf) := goodIn_app (goodIn_of _ (by decide +kernel)) ggX13_lawful_X13_overOf
theorem dX13_lawful_0 : decode cX13_lawful 0 = .ok (.aload_n 0, 1) := by decide +kernel
theorem dX13_lawful_1 : decode cX13_lawful 1 = .ok (.iconst 0, 1) := by decide +kernel
theorem dX13_lawful_2 : decode cX13_lawful 2 = .ok (.putfield 173, 3) := by decide +kernel
theorem dX13_lawful_5 : decode cX13_lawful 5 = .ok (.iconst 0, 1) := by decide +kernel
theorem dX13_lawful_6 : decode cX13_lawful 6 = .ok (.istore_n 1, 1) := by decide +kernel
theorem dX13_lawful_7 : decode cX13_lawful 7 = .ok (.iload_n 1, 1) := by decide +kernel
theorem dX13_lawful_8 : decode cX13_lawful 8 = .ok (.aload_n 0, 1) := by decide +kernel
theorem dX13_lawful_9 : decode cX13_lawful 9 = .ok (.getfield 40, 3) := by decide +kernel
theorem dX13_lawful_12 : decode cX13_lawful 12 = .ok (.iconst 1, 1) := by decide +kernel
theorem dX13_lawful_13 : decode cX13_lawful 13 = .ok (.iaload, 1) := by decide +kernel
theorem dX13_lawful_14 : decode cX13_lawful 14 = .ok (.if_icmp .ge 22, 3) := by decide +kernel
theorem dX13_lawful_17 : decode cX13_lawful 17 = .ok (.aload_n 0, 1) := by decide +kernel
theorem dX13_lawful_18 : decode cX13_lawful 18 = .ok (.iload_n 1, 1) := by decide +kernel
theorem dX13_lawful_19 : decode cX13_lawful 19 = .ok (.invokevirtual 375, 3) := by decide +kernel
theorem dX13_lawful_22 : decode cX13_lawful 22 = .ok (.ifCond .le 8, 3) := by decide +kernel
theorem dX13_lawful_25 : decode cX13_lawful 25 = .ok (.bipush 20, 2) := by decide +kernel
theorem dX13_lawful_27 : decode cX13_lawful 27 = .ok (.iload_n 1, 1) := by decide +kernel
theorem dX13_lawful_28 : decode cX13_lawful 28 = .ok (.iadd, 1) := by decide +kernel
theorem dX13_lawful_29 : decode cX13_lawful 29 = .ok (.ireturn, 1) := by decide +kernel
theorem dX13_lawful_30 : decode cX13_lawful 30 = .ok (.iinc 1 1, 3) := by decide +kernel
theorem dX13_lawful_33 : decode cX13_lawful 33 = .ok (.goto (-26), 3) := by decide +kernel
theorem dX13_lawful_36 : decode cX13_lawful 36 = .ok (.iconst 0, 1) := by decide +kernel
theorem dX13_lawful_37 : decode cX13_lawful 37 = .ok (.istore_n 1, 1) := by decide +kernel
theorem dX13_lawful_38 : decode cX13_lawful 38 = .ok (.iload_n 1, 1) := by decide +kernel
theorem dX13_lawful_39 : decode cX13_lawful 39 = .ok (.aload_n 0, 1) := by decide +kernel
theorem dX13_lawful_40 : decode cX13_lawful 40 = .ok (.getfield 40, 3) := by decide +kernel
theorem dX13_lawful_43 : decode cX13_lawful 43 = .ok (.iconst 1, 1) := by decide +kernel
theorem dX13_lawful_44 : decode cX13_lawful 44 = .ok (.iaload, 1) := by decide +kernel
theorem dX13_lawful_45 : decode cX13_lawful 45 = .ok (.if_icmp .ge 113, 3) := by decide +kernel
theorem dX13_lawful_48 : decode cX13_lawful 48 = .ok (.iconst 0, 1) := by decide +kernel
theorem dX13_lawful_49 : decode cX13_lawful 49 = .ok (.istore_n 2, 1) := by decide +kernel
theorem dX13_lawful_50 : decode cX13_lawful 50 = .ok (.iconst 0, 1) := by decide +kernel
theorem dX13_lawful_51 : decode cX13_lawful 51 = .ok (.istore_n 3, 1) := by decide +kernel
theorem dX13_lawful_52 : decode cX13_lawful 52 = .ok (.iconst 0, 1) := by decide +kernel
theorem dX13_lawful_53 : decode cX13_lawful 53 = .ok (.istore 4, 2) := by decide +kernel
theorem dX13_lawful_55 : decode cX13_lawful 55 = .ok (.iload 4, 2) := by decide +kernel
theorem dX13_lawful_57 : decode cX13_lawful 57 = .ok (.aload_n 0, 1) := by decide +kernel
theorem dX13_lawful_58 : decode cX13_lawful 58 = .ok (.getfield 40, 3) := by decide +kernel
theorem dX13_lawful_61 : decode cX13_lawful 61 = .ok (.iconst 2, 1) := by decide +kernel
theorem dX13_lawful_62 : decode cX13_lawful 62 = .ok (.iaload, 1) := by decide +kernel
theorem dX13_lawful_63 : decode cX13_lawful 63 = .ok (.if_icmp .ge 76, 3) := by decide +kernel
theorem dX13_lawful_66 : decode cX13_lawful 66 = .ok (.aload_n 0, 1) := by decide +kernel
theorem dX13_lawful_67 : decode cX13_lawful 67 = .ok (.getfield 84, 3) := by decide +kernel
theorem dX13_lawful_70 : decode cX13_lawful 70 = .ok (.iload 4, 2) := by decide +kernel
theorem dX13_lawful_72 : decode cX13_lawful 72 = .ok (.iaload, 1) := by decide +kernel
theorem dX13_lawful_73 : decode cX13_lawful 73 = .ok (.iload_n 1, 1) := by decide +kernel
theorem dX13_lawful_74 : decode cX13_lawful 74 = .ok (.if_icmp .eq 6, 3) := by decide +kernel
theorem dX13_lawful_77 : decode cX13_lawful 77 = .ok (.goto 56, 3) := by decide +kernel
theorem dX13_lawful_80 : decode cX13_lawful 80 = .ok (.iload_n 2, 1) := by decide +kernel
theorem dX13_lawful_81 : decode cX13_lawful 81 = .ok (.ifCond .ne 14, 3) := by decide +kernel
theorem dX13_lawful_84 : decode cX13_lawful 84 = .ok (.aload_n 0, 1) := by decide +kernel
theorem dX13_lawful_85 : decode cX13_lawful 85 = .ok (.getfield 66, 3) := by decide +kernel
theorem dX13_lawful_88 : decode cX13_lawful 88 = .ok (.iload 4, 2) := by decide +kernel
theorem dX13_lawful_90 : decode cX13_lawful 90 = .ok (.iaload, 1) := by decide +kernel
theorem dX13_lawful_91 : decode cX13_lawful 91 = .ok (.iconst 3, 1) := by decide +kernel
theorem dX13_lawful_92 : decode cX13_lawful 92 = .ok (.if_icmp .ne 7, 3) := by decide +kernel
theorem dX13_lawful_95 : decode cX13_lawful 95 = .ok (.iconst 1, 1) := by decide +kernel
theorem dX13_lawful_96 : decode cX13_lawful 96 = .ok (.goto 4, 3) := by decide +kernel
theorem dX13_lawful_99 : decode cX13_lawful 99 = .ok (.iconst 0, 1) := by decide +kernel
theorem dX13_lawful_100 : decode cX13_lawful 100 = .ok (.istore_n 2, 1) := by decide +kernel
theorem dX13_lawful_101 : decode cX13_lawful 101 = .ok (.iload_n 3, 1) := by decide +kernel
theorem dX13_lawful_102 : decode cX13_lawful 102 = .ok (.ifCond .ne 25, 3) := by decide +kernel
theorem dX13_lawful_105 : decode cX13_lawful 105 = .ok (.aload_n 0, 1) := by decide +kernel
theorem dX13_lawful_106 : decode cX13_lawful 106 = .ok (.getfield 66, 3) := by decide +kernel
theorem dX13_lawful_109 : decode cX13_lawful 109 = .ok (.iload 4, 2) := by decide +kernel
theorem dX13_lawful_111 : decode cX13_lawful 111 = .ok (.iaload, 1) := by decide +kernel
theorem dX13_lawful_112 : decode cX13_lawful 112 = .ok (.iconst 1, 1) := by decide +kernel
theorem dX13_lawful_113 : decode cX13_lawful 113 = .ok (.if_icmp .eq 14, 3) := by decide +kernel
theorem dX13_lawful_116 : decode cX13_lawful 116 = .ok (.aload_n 0, 1) := by decide +kernel
theorem dX13_lawful_117 : decode cX13_lawful 117 = .ok (.getfield 66, 3) := by decide +kernel
theorem dX13_lawful_120 : decode cX13_lawful 120 = .ok (.iload 4, 2) := by decide +kernel
theorem dX13_lawful_122 : decode cX13_lawful 122 = .ok (.iaload, 1) := by decide +kernel
theorem dX13_lawful_123 : decode cX13_lawful 123 = .ok (.iconst 5, 1) := by decide +kernel
theorem dX13_lawful_124 : decode cX13_lawful 124 = .ok (.if_icmp .ne 7, 3) := by decide +kernel
theorem dX13_lawful_127 : decode cX13_lawful 127 = .ok (.iconst 1, 1) := by decide +kernel
theorem dX13_lawful_128 : decode cX13_lawful 128 = .ok (.goto 4, 3) := by decide +kernel
theorem dX13_lawful_131 : decode cX13_lawful 131 = .ok (.iconst 0, 1) := by decide +kernel
theorem dX13_lawful_132 : decode cX13_lawful 132 = .ok (.istore_n 3, 1) := by decide +kernel
theorem dX13_lawful_133 : decode cX13_lawful 133 = .ok (.iinc 4 1, 3) := by decide +kernel
theorem dX13_lawful_136 : decode cX13_lawful 136 = .ok (.goto (-81), 3) := by decide +kernel
theorem dX13_lawful_139 : decode cX13_lawful 139 = .ok (.iload_n 2, 1) := by decide +kernel
theorem dX13_lawful_140 : decode cX13_lawful 140 = .ok (.ifCond .eq 12, 3) := by decide +kernel
theorem dX13_lawful_143 : decode cX13_lawful 143 = .ok (.iload_n 3, 1) := by decide +kernel
theorem dX13_lawful_144 : decode cX13_lawful 144 = .ok (.ifCond .ne 8, 3) := by decide +kernel
theorem dX13_lawful_147 : decode cX13_lawful 147 = .ok (.bipush 10, 2) := by decide +kernel
theorem dX13_lawful_149 : decode cX13_lawful 149 = .ok (.iload_n 1, 1) := by decide +kernel
theorem dX13_lawful_150 : decode cX13_lawful 150 = .ok (.iadd, 1) := by decide +kernel
theorem dX13_lawful_151 : decode cX13_lawful 151 = .ok (.ireturn, 1) := by decide +kernel
theorem dX13_lawful_152 : decode cX13_lawful 152 = .ok (.iinc 1 1, 3) := by decide +kernel
theorem dX13_lawful_155 : decode cX13_lawful 155 = .ok (.goto (-117), 3) := by decide +kernel
theorem dX13_lawful_158 : decode cX13_lawful 158 = .ok (.iconst 0, 1) := by decide +kernel
theorem dX13_lawful_159 : decode cX13_lawful 159 = .ok (.ireturn, 1) := by decide +kernel
theorem dX13_bitsOf_0 : decode cX13_bitsOf 0 = .ok (.iconst 0, 1) := by decide +kernel
theorem dX13_bitsOf_1 : decode cX13_bitsOf 1 = .ok (.istore_n 1, 1) := by decide +kernel
theorem dX13_bitsOf_2 : decode cX13_bitsOf 2 = .ok (.iload_n 0, 1) := by decide +kernel
theorem dX13_bitsOf_3 : decode cX13_bitsOf 3 = .ok (.istore_n 2, 1) := by decide +kernel
theorem dX13_bitsOf_4 : decode cX13_bitsOf 4 = .ok (.iload_n 2, 1) := by decide +kernel
theorem dX13_bitsOf_5 : decode cX13_bitsOf 5 = .ok (.ifCond .eq 15, 3) := by decide +kernel
theorem dX13_bitsOf_8 : decode cX13_bitsOf 8 = .ok (.iinc 1 1, 3) := by decide +kernel
theorem dX13_bitsOf_11 : decode cX13_bitsOf 11 = .ok (.iload_n 2, 1) := by decide +kernel
theorem dX13_bitsOf_12 : decode cX13_bitsOf 12 = .ok (.iload_n 2, 1) := by decide +kernel
theorem dX13_bitsOf_13 : decode cX13_bitsOf 13 = .ok (.iconst 1, 1) := by decide +kernel
theorem dX13_bitsOf_14 : decode cX13_bitsOf 14 = .ok (.isub, 1) := by decide +kernel
theorem dX13_bitsOf_15 : decode cX13_bitsOf 15 = .ok (.iand, 1) := by decide +kernel
theorem dX13_bitsOf_16 : decode cX13_bitsOf 16 = .ok (.istore_n 2, 1) := by decide +kernel
theorem dX13_bitsOf_17 : decode cX13_bitsOf 17 = .ok (.goto (-13), 3) := by decide +kernel
theorem dX13_bitsOf_20 : decode cX13_bitsOf 20 = .ok (.iload_n 1, 1) := by decide +kernel
theorem dX13_bitsOf_21 : decode cX13_bitsOf 21 = .ok (.ireturn, 1) := by decide +kernel
theorem dX13_isRight_0 : decode cX13_isRight 0 = .ok (.iconst 0, 1) := by decide +kernel
theorem dX13_isRight_1 : decode cX13_isRight 1 = .ok (.istore_n 3, 1) := by decide +kernel
theorem dX13_isRight_2 : decode cX13_isRight 2 = .ok (.iconst 0, 1) := by decide +kernel
theorem dX13_isRight_3 : decode cX13_isRight 3 = .ok (.istore 4, 2) := by decide +kernel
theorem dX13_isRight_5 : decode cX13_isRight 5 = .ok (.iconst 0, 1) := by decide +kernel
theorem dX13_isRight_6 : decode cX13_isRight 6 = .ok (.istore 5, 2) := by decide +kernel
theorem dX13_isRight_8 : decode cX13_isRight 8 = .ok (.iload 5, 2) := by decide +kernel
theorem dX13_isRight_10 : decode cX13_isRight 10 = .ok (.aload_n 0, 1) := by decide +kernel
theorem dX13_isRight_11 : decode cX13_isRight 11 = .ok (.getfield 40, 3) := by decide +kernel
theorem dX13_isRight_14 : decode cX13_isRight 14 = .ok (.iconst 2, 1) := by decide +kernel
theorem dX13_isRight_15 : decode cX13_isRight 15 = .ok (.iaload, 1) := by decide +kernel
theorem dX13_isRight_16 : decode cX13_isRight 16 = .ok (.if_icmp .ge 66, 3) := by decide +kernel
theorem dX13_isRight_19 : decode cX13_isRight 19 = .ok (.iload_n 2, 1) := by decide +kernel
theorem dX13_isRight_20 : decode cX13_isRight 20 = .ok (.iload 5, 2) := by decide +kernel
theorem dX13_isRight_22 : decode cX13_isRight 22 = .ok (.ishr, 1) := by decide +kernel
theorem dX13_isRight_23 : decode cX13_isRight 23 = .ok (.iconst 1, 1) := by decide +kernel
theorem dX13_isRight_24 : decode cX13_isRight 24 = .ok (.iand, 1) := by decide +kernel
theorem dX13_isRight_25 : decode cX13_isRight 25 = .ok (.ifCond .ne 6, 3) := by decide +kernel
theorem dX13_isRight_28 : decode cX13_isRight 28 = .ok (.goto 48, 3) := by decide +kernel
theorem dX13_isRight_31 : decode cX13_isRight 31 = .ok (.iload_n 3, 1) := by decide +kernel
theorem dX13_isRight_32 : decode cX13_isRight 32 = .ok (.aload_n 0, 1) := by decide +kernel
theorem dX13_isRight_33 : decode cX13_isRight 33 = .ok (.getfield 69, 3) := by decide +kernel
theorem dX13_isRight_36 : decode cX13_isRight 36 = .ok (.iload 5, 2) := by decide +kernel
theorem dX13_isRight_38 : decode cX13_isRight 38 = .ok (.iaload, 1) := by decide +kernel
theorem dX13_isRight_39 : decode cX13_isRight 39 = .ok (.iadd, 1) := by decide +kernel
theorem dX13_isRight_40 : decode cX13_isRight 40 = .ok (.istore_n 3, 1) := by decide +kernel
theorem dX13_isRight_41 : decode cX13_isRight 41 = .ok (.iload 4, 2) := by decide +kernel
theorem dX13_isRight_43 : decode cX13_isRight 43 = .ok (.aload_n 0, 1) := by decide +kernel
theorem dX13_isRight_44 : decode cX13_isRight 44 = .ok (.getfield 75, 3) := by decide +kernel
theorem dX13_isRight_47 : decode cX13_isRight 47 = .ok (.iload 5, 2) := by decide +kernel
theorem dX13_isRight_49 : decode cX13_isRight 49 = .ok (.iaload, 1) := by decide +kernel
theorem dX13_isRight_50 : decode cX13_isRight 50 = .ok (.iadd, 1) := by decide +kernel
theorem dX13_isRight_51 : decode cX13_isRight 51 = .ok (.istore 4, 2) := by decide +kernel
theorem dX13_isRight_53 : decode cX13_isRight 53 = .ok (.aload_n 0, 1) := by decide +kernel
theorem dX13_isRight_54 : decode cX13_isRight 54 = .ok (.getfield 66, 3) := by decide +kernel
theorem dX13_isRight_57 : decode cX13_isRight 57 = .ok (.iload 5, 2) := by decide +kernel
theorem dX13_isRight_59 : decode cX13_isRight 59 = .ok (.iaload, 1) := by decide +kernel
theorem dX13_isRight_60 : decode cX13_isRight 60 = .ok (.iconst 2, 1) := by decide +kernel
theorem dX13_isRight_61 : decode cX13_isRight 61 = .ok (.if_icmp .ne 15, 3) := by decide +kernel
theorem dX13_isRight_64 : decode cX13_isRight 64 = .ok (.aload_n 0, 1) := by decide +kernel
theorem dX13_isRight_65 : decode cX13_isRight 65 = .ok (.getfield 64, 3) := by decide +kernel
theorem dX13_isRight_68 : decode cX13_isRight 68 = .ok (.iload_n 1, 1) := by decide +kernel
theorem dX13_isRight_69 : decode cX13_isRight 69 = .ok (.iaload, 1) := by decide +kernel
theorem dX13_isRight_70 : decode cX13_isRight 70 = .ok (.iconst 1, 1) := by decide +kernel
theorem dX13_isRight_71 : decode cX13_isRight 71 = .ok (.if_icmp .ne 5, 3) := by decide +kernel
theorem dX13_isRight_74 : decode cX13_isRight 74 = .ok (.iconst 0, 1) := by decide +kernel
theorem dX13_isRight_75 : decode cX13_isRight 75 = .ok (.ireturn, 1) := by decide +kernel
theorem dX13_isRight_76 : decode cX13_isRight 76 = .ok (.iinc 5 1, 3) := by decide +kernel
theorem dX13_isRight_79 : decode cX13_isRight 79 = .ok (.goto (-71), 3) := by decide +kernel
theorem dX13_isRight_82 : decode cX13_isRight 82 = .ok (.iload_n 3, 1) := by decide +kernel
theorem dX13_isRight_83 : decode cX13_isRight 83 = .ok (.aload_n 0, 1) := by decide +kernel
theorem dX13_isRight_84 : decode cX13_isRight 84 = .ok (.getfield 56, 3) := by decide +kernel
theorem dX13_isRight_87 : decode cX13_isRight 87 = .ok (.iload_n 1, 1) := by decide +kernel
theorem dX13_isRight_88 : decode cX13_isRight 88 = .ok (.iaload, 1) := by decide +kernel
theorem dX13_isRight_89 : decode cX13_isRight 89 = .ok (.if_icmp .gt 18, 3) := by decide +kernel
theorem dX13_isRight_92 : decode cX13_isRight 92 = .ok (.iload 4, 2) := by decide +kernel
theorem dX13_isRight_94 : decode cX13_isRight 94 = .ok (.aload_n 0, 1) := by decide +kernel
theorem dX13_isRight_95 : decode cX13_isRight 95 = .ok (.getfield 58, 3) := by decide +kernel
theorem dX13_isRight_98 : decode cX13_isRight 98 = .ok (.iload_n 1, 1) := by decide +kernel
theorem dX13_isRight_99 : decode cX13_isRight 99 = .ok (.iaload, 1) := by decide +kernel
theorem dX13_isRight_100 : decode cX13_isRight 100 = .ok (.if_icmp .gt 7, 3) := by decide +kernel
theorem dX13_isRight_103 : decode cX13_isRight 103 = .ok (.iconst 1, 1) := by decide +kernel
theorem dX13_isRight_104 : decode cX13_isRight 104 = .ok (.goto 4, 3) := by decide +kernel
theorem dX13_isRight_107 : decode cX13_isRight 107 = .ok (.iconst 0, 1) := by decide +kernel
theorem dX13_isRight_108 : decode cX13_isRight 108 = .ok (.ireturn, 1) := by decide +kernel
set_option maxRecDepth 20000 in
theorem ggX13_two_X13_isCase : GoodIn wsX13_two wsX13_isCase := goodIn_r _ [7, 2, 8, 9, 6, 10, 34, 35, 36, 37, 38, 39, 40, 41, 42, 43, 44, 45, 46, 47, 48, 49, 50, 51, 52, 53, 54, 55, 56, 57, 58, 59, 60, 61, 62, 63, 64, 65, 66, 67, 68, 69, 70, 71, 72, 73, 74, 75, 76, 77, 78, 79, 80, 81, 82, 83, 84, 85, 86, 87, 88, 89, 90, 91, 92, 93, 94, 95, 96, 97, 98, 99, 100] rfl (by decide +kernel)
set_option maxRecDepth 20000 in
theorem gX13_two_X13_isCase : GoodIn wsX13_two (wsV RX13 363 RX13 yX13_isCase wsX13_isCase) := goodIn_app (goodIn_of _ (by decide +kernel)) ggX13_two_X13_isCase
set_option maxRecDepth 20000 in
theorem ggX13_two_X13_fail : GoodIn wsX13_two wsX13_fail := goodIn_r _ [14, 1, 34, 35, 36, 37, 38, 39, 40, 41, 42, 43, 44, 45, 46, 47, 48, 49, 50, 51, 52, 53, 54, 55, 56, 57, 58, 59, 60, 61, 62, 63, 64, 65, 66, 67, 68, 69, 70, 71, 72, 73, 74, 75, 76, 77, 78, 79, 80, 81, 82, 83, 84, 85, 86, 87, 88, 89, 90, 91, 92, 93, 94, 95, 96, 97, 98, 99, 100] rfl (by decide +kernel)
set_option maxRecDepth 20000 in
theorem gX13_two_X13_fail : GoodIn wsX13_two (wsV RX13 318 RX13 yX13_fail wsX13_fail) := goodIn_app (goodIn_of _ (by decide +kernel)) ggX13_two_X13_fail
set_option maxRecDepth 20000 in
theorem ggX13_two_X13_sumAt : GoodIn wsX13_two wsX13_sumAt := goodIn_r _ [18, 2, 19, 20, 21, 22, 23, 34, 35, 36, 37, 38, 39, 40, 41, 42, 43, 44, 45, 46, 47, 48, 49, 50, 51, 52, 53, 54, 55, 56, 57, 58, 59, 60, 61, 62, 63, 64, 65, 66, 67, 68, 69, 70, 71, 72, 73, 74, 75, 76, 77, 78, 79, 80, 81, 82, 83, 84, 85, 86, 87, 88, 89, 90, 91, 92, 93, 94, 95, 96, 97, 98, 99, 100] rfl (by decide +kernel)
set_option maxRecDepth 20000 in
theorem gX13_two_X13_sumAt : GoodIn wsX13_two (wsV RX13 351 RX13 yX13_sumAt wsX13_sumAt) := goodIn_app (goodIn_of _ (by decide +kernel)) ggX13_two_X13_sumAt
set_option maxRecDepth 20000 in
theorem ggX13_two_X13_bitsOf : GoodIn wsX13_two wsX13_bitsOf := goodIn_r _ [26] rfl (by decide +kernel)
set_option maxRecDepth 20000 in
theorem gX13_two_X13_bitsOf : GoodIn wsX13_two (va_wsS RX13 403 yX13_bitsOf wsX13_bitsOf) := goodIn_app (goodIn_of _ (by decide +kernel)) ggX13_two_X13_bitsOf
set_option maxRecDepth 20000 in
theorem ggX13_two_X13_isRight : GoodIn wsX13_two wsX13_isRight := goodIn_r _ [30, 2, 21, 22, 20, 31, 32, 33, 34, 35, 36, 37, 38, 39, 40, 41, 42, 43, 44, 45, 46, 47, 48, 49, 50, 51, 52, 53, 54, 55, 56, 57, 58, 59, 60, 61, 62, 63, 64, 65, 66, 67, 68, 69, 70, 71, 72, 73, 74, 75, 76, 77, 78, 79, 80, 81, 82, 83, 84, 85, 86, 87, 88, 89, 90, 91, 92, 93, 94, 95, 96, 97, 98, 99, 100] rfl (by decide +kernel)
set_option maxRecDepth 20000 in
theorem gX13_two_X13_isRight : GoodIn wsX13_two (wsV RX13 406 RX13 yX13_isRight wsX13_isRight) := goodIn_app (goodIn_of _ (by decide +kernel)) ggX13_two_X13_isRight
theorem dX13_two_0 : decode cX13_two 0 = .ok (.aload_n 0, 1) := by decide +kernel
theorem dX13_two_1 : decode cX13_two 1 = .ok (.iconst 0, 1) := by decide +kernel
theorem dX13_two_2 : decode cX13_two 2 = .ok (.putfield 173, 3) := by decide +kernel
theorem dX13_two_5 : decode cX13_two 5 = .ok (.aload_n 0, 1) := by decide +kernel
theorem dX13_two_6 : decode cX13_two 6 = .ok (.iload_n 1, 1) := by decide +kernel
theorem dX13_two_7 : decode cX13_two 7 = .ok (.invokevirtual 363, 3) := by decide +kernel
theorem dX13_two_10 : decode cX13_two 10 = .ok (.ifCond .eq 11, 3) := by decide +kernel
theorem dX13_two_13 : decode cX13_two 13 = .ok (.aload_n 0, 1) := by decide +kernel
theorem dX13_two_14 : decode cX13_two 14 = .ok (.iload_n 2, 1) := by decide +kernel
theorem dX13_two_15 : decode cX13_two 15 = .ok (.invokevirtual 363, 3) := by decide +kernel
theorem dX13_two_18 : decode cX13_two 18 = .ok (.ifCond .ne 9, 3) := by decide +kernel
theorem dX13_two_21 : decode cX13_two 21 = .ok (.aload_n 0, 1) := by decide +kernel
theorem dX13_two_22 : decode cX13_two 22 = .ok (.iconst 1, 1) := by decide +kernel
theorem dX13_two_23 : decode cX13_two 23 = .ok (.invokevirtual 318, 3) := by decide +kernel
theorem dX13_two_26 : decode cX13_two 26 = .ok (.ireturn, 1) := by decide +kernel
theorem dX13_two_27 : decode cX13_two 27 = .ok (.iload_n 1, 1) := by decide +kernel
theorem dX13_two_28 : decode cX13_two 28 = .ok (.iload_n 2, 1) := by decide +kernel
theorem dX13_two_29 : decode cX13_two 29 = .ok (.if_icmp .ne 9, 3) := by decide +kernel
theorem dX13_two_32 : decode cX13_two 32 = .ok (.aload_n 0, 1) := by decide +kernel
theorem dX13_two_33 : decode cX13_two 33 = .ok (.iconst 2, 1) := by decide +kernel
theorem dX13_two_34 : decode cX13_two 34 = .ok (.invokevirtual 318, 3) := by decide +kernel
theorem dX13_two_37 : decode cX13_two 37 = .ok (.ireturn, 1) := by decide +kernel
theorem dX13_two_38 : decode cX13_two 38 = .ok (.aload_n 0, 1) := by decide +kernel
theorem dX13_two_39 : decode cX13_two 39 = .ok (.iload_n 1, 1) := by decide +kernel
theorem dX13_two_40 : decode cX13_two 40 = .ok (.iconst 5, 1) := by decide +kernel
theorem dX13_two_41 : decode cX13_two 41 = .ok (.invokevirtual 351, 3) := by decide +kernel
theorem dX13_two_44 : decode cX13_two 44 = .ok (.istore_n 3, 1) := by decide +kernel
theorem dX13_two_45 : decode cX13_two 45 = .ok (.aload_n 0, 1) := by decide +kernel
theorem dX13_two_46 : decode cX13_two 46 = .ok (.iload_n 2, 1) := by decide +kernel
theorem dX13_two_47 : decode cX13_two 47 = .ok (.iconst 5, 1) := by decide +kernel
theorem dX13_two_48 : decode cX13_two 48 = .ok (.invokevirtual 351, 3) := by decide +kernel
theorem dX13_two_51 : decode cX13_two 51 = .ok (.istore 4, 2) := by decide +kernel
theorem dX13_two_53 : decode cX13_two 53 = .ok (.iconst (-1), 1) := by decide +kernel
theorem dX13_two_54 : decode cX13_two 54 = .ok (.istore 5, 2) := by decide +kernel
theorem dX13_two_56 : decode cX13_two 56 = .ok (.iconst 0, 1) := by decide +kernel
theorem dX13_two_57 : decode cX13_two 57 = .ok (.istore 6, 2) := by decide +kernel
theorem dX13_two_59 : decode cX13_two 59 = .ok (.iload 6, 2) := by decide +kernel
theorem dX13_two_61 : decode cX13_two 61 = .ok (.iconst 1, 1) := by decide +kernel
theorem dX13_two_62 : decode cX13_two 62 = .ok (.aload_n 0, 1) := by decide +kernel
theorem dX13_two_63 : decode cX13_two 63 = .ok (.getfield 40, 3) := by decide +kernel
theorem dX13_two_66 : decode cX13_two 66 = .ok (.iconst 2, 1) := by decide +kernel
theorem dX13_two_67 : decode cX13_two 67 = .ok (.iaload, 1) := by decide +kernel
theorem dX13_two_68 : decode cX13_two 68 = .ok (.ishl, 1) := by decide +kernel
theorem dX13_two_69 : decode cX13_two 69 = .ok (.if_icmp .ge 87, 3) := by decide +kernel
theorem dX13_two_72 : decode cX13_two 72 = .ok (.iload 6, 2) := by decide +kernel
theorem dX13_two_74 : decode cX13_two 74 = .ok (.iload_n 3, 1) := by decide +kernel
theorem dX13_two_75 : decode cX13_two 75 = .ok (.iload 4, 2) := by decide +kernel
theorem dX13_two_77 : decode cX13_two 77 = .ok (.ior, 1) := by decide +kernel
theorem dX13_two_78 : decode cX13_two 78 = .ok (.iconst (-1), 1) := by decide +kernel
theorem dX13_two_79 : decode cX13_two 79 = .ok (.ixor, 1) := by decide +kernel
theorem dX13_two_80 : decode cX13_two 80 = .ok (.iand, 1) := by decide +kernel
theorem dX13_two_81 : decode cX13_two 81 = .ok (.ifCond .ne 69, 3) := by decide +kernel
theorem dX13_two_84 : decode cX13_two 84 = .ok (.iload 5, 2) := by decide +kernel
theorem dX13_two_86 : decode cX13_two 86 = .ok (.iconst (-1), 1) := by decide +kernel
theorem dX13_two_87 : decode cX13_two 87 = .ok (.if_icmp .eq 19, 3) := by decide +kernel
theorem dX13_two_90 : decode cX13_two 90 = .ok (.iload 6, 2) := by decide +kernel
theorem dX13_two_92 : decode cX13_two 92 = .ok (.invokestatic 403, 3) := by decide +kernel
theorem dX13_two_95 : decode cX13_two 95 = .ok (.iload 5, 2) := by decide +kernel
theorem dX13_two_97 : decode cX13_two 97 = .ok (.invokestatic 403, 3) := by decide +kernel
theorem dX13_two_100 : decode cX13_two 100 = .ok (.if_icmp .lt 6, 3) := by decide +kernel
theorem dX13_two_103 : decode cX13_two 103 = .ok (.goto 47, 3) := by decide +kernel
theorem dX13_two_106 : decode cX13_two 106 = .ok (.aload_n 0, 1) := by decide +kernel
theorem dX13_two_107 : decode cX13_two 107 = .ok (.iload_n 1, 1) := by decide +kernel
theorem dX13_two_108 : decode cX13_two 108 = .ok (.iload_n 3, 1) := by decide +kernel
theorem dX13_two_109 : decode cX13_two 109 = .ok (.iload 6, 2) := by decide +kernel
theorem dX13_two_111 : decode cX13_two 111 = .ok (.iconst (-1), 1) := by decide +kernel
theorem dX13_two_112 : decode cX13_two 112 = .ok (.ixor, 1) := by decide +kernel
theorem dX13_two_113 : decode cX13_two 113 = .ok (.iand, 1) := by decide +kernel
theorem dX13_two_114 : decode cX13_two 114 = .ok (.iload 4, 2) := by decide +kernel
theorem dX13_two_116 : decode cX13_two 116 = .ok (.iload 6, 2) := by decide +kernel
theorem dX13_two_118 : decode cX13_two 118 = .ok (.iand, 1) := by decide +kernel
theorem dX13_two_119 : decode cX13_two 119 = .ok (.ior, 1) := by decide +kernel
theorem dX13_two_120 : decode cX13_two 120 = .ok (.invokevirtual 406, 3) := by decide +kernel
theorem dX13_two_123 : decode cX13_two 123 = .ok (.ifCond .eq 27, 3) := by decide +kernel
theorem dX13_two_126 : decode cX13_two 126 = .ok (.aload_n 0, 1) := by decide +kernel
theorem dX13_two_127 : decode cX13_two 127 = .ok (.iload_n 2, 1) := by decide +kernel
theorem dX13_two_128 : decode cX13_two 128 = .ok (.iload 4, 2) := by decide +kernel
theorem dX13_two_130 : decode cX13_two 130 = .ok (.iload 6, 2) := by decide +kernel
theorem dX13_two_132 : decode cX13_two 132 = .ok (.iconst (-1), 1) := by decide +kernel
theorem dX13_two_133 : decode cX13_two 133 = .ok (.ixor, 1) := by decide +kernel
theorem dX13_two_134 : decode cX13_two 134 = .ok (.iand, 1) := by decide +kernel
theorem dX13_two_135 : decode cX13_two 135 = .ok (.iload_n 3, 1) := by decide +kernel
theorem dX13_two_136 : decode cX13_two 136 = .ok (.iload 6, 2) := by decide +kernel
theorem dX13_two_138 : decode cX13_two 138 = .ok (.iand, 1) := by decide +kernel
theorem dX13_two_139 : decode cX13_two 139 = .ok (.ior, 1) := by decide +kernel
theorem dX13_two_140 : decode cX13_two 140 = .ok (.invokevirtual 406, 3) := by decide +kernel
theorem dX13_two_143 : decode cX13_two 143 = .ok (.ifCond .eq 7, 3) := by decide +kernel
theorem dX13_two_146 : decode cX13_two 146 = .ok (.iload 6, 2) := by decide +kernel
theorem dX13_two_148 : decode cX13_two 148 = .ok (.istore 5, 2) := by decide +kernel
theorem dX13_two_150 : decode cX13_two 150 = .ok (.iinc 6 1, 3) := by decide +kernel
theorem dX13_two_153 : decode cX13_two 153 = .ok (.goto (-94), 3) := by decide +kernel
theorem dX13_two_156 : decode cX13_two 156 = .ok (.iload 5, 2) := by decide +kernel
theorem dX13_two_158 : decode cX13_two 158 = .ok (.ireturn, 1) := by decide +kernel
set_option maxRecDepth 20000 in
theorem ggX13_canPut_X13_canPut : GoodIn wsX13_canPut wsX13_canPut := goodIn_r _ [0, 1, 2, 3, 4, 5, 6, 7, 8, 9, 10, 11, 12, 13, 14, 15, 16, 17, 18, 19, 20, 21, 22, 23, 24, 25, 26, 27, 28, 29, 30, 31, 32, 33, 34, 35, 36, 37, 38, 39, 40, 41, 42, 43, 44, 45, 46, 47, 48, 49, 50, 51, 52, 53, 54, 55, 56, 57, 58, 59, 60, 61, 62, 63, 64, 65, 66, 67, 68, 69, 70, 71, 72, 73, 74, 75, 76, 77, 78, 79, 80, 81, 82, 83, 84, 85, 86, 87, 88, 89, 90] rfl (by decide +kernel)
set_option maxRecDepth 20000 in
theorem gX13_canPut_X13_canPut : GoodIn wsX13_canPut (wsV RX13 409 RX13 yX13_canPut wsX13_canPut) := goodIn_app (goodIn_of _ (by decide +kernel)) ggX13_canPut_X13_canPut
set_option maxRecDepth 20000 in
theorem ggX13_canPut_X13_sumAt : GoodIn wsX13_canPut wsX13_sumAt := goodIn_r _ [18, 1, 8, 2, 6, 4, 9, 24, 25, 26, 27, 28, 29, 30, 31, 32, 33, 34, 35, 36, 37, 38, 39, 40, 41, 42, 43, 44, 45, 46, 47, 48, 49, 50, 51, 52, 53, 54, 55, 56, 57, 58, 59, 60, 61, 62, 63, 64, 65, 66, 67, 68, 69, 70, 71, 72, 73, 74, 75, 76, 77, 78, 79, 80, 81, 82, 83, 84, 85, 86, 87, 88, 89, 90] rfl (by decide +kernel)
set_option maxRecDepth 20000 in
theorem gX13_canPut_X13_sumAt : GoodIn wsX13_canPut (wsV RX13 351 RX13 yX13_sumAt wsX13_sumAt) := goodIn_app (goodIn_of _ (by decide +kernel)) ggX13_canPut_X13_sumAt
set_option maxRecDepth 20000 in
theorem ggX13_canPut_X13_ownsOne : GoodIn wsX13_canPut wsX13_ownsOne := goodIn_r _ [22, 1, 23, 24, 25, 26, 27, 28, 29, 30, 31, 32, 33, 34, 35, 36, 37, 38, 39, 40, 41, 42, 43, 44, 45, 46, 47, 48, 49, 50, 51, 52, 53, 54, 55, 56, 57, 58, 59, 60, 61, 62, 63, 64, 65, 66, 67, 68, 69, 70, 71, 72, 73, 74, 75, 76, 77, 78, 79, 80, 81, 82, 83, 84, 85, 86, 87, 88, 89, 90] rfl (by decide +kernel)
set_option maxRecDepth 20000 in
theorem gX13_canPut_X13_ownsOne : GoodIn wsX13_canPut (wsV RX13 413 RX13 yX13_ownsOne wsX13_ownsOne) := goodIn_app (goodIn_of _ (by decide +kernel)) ggX13_canPut_X13_ownsOne
theorem dX13_canPut_0 : decode cX13_canPut 0 = .ok (.iload_n 1, 1) := by decide +kernel
theorem dX13_canPut_1 : decode cX13_canPut 1 = .ok (.aload_n 0, 1) := by decide +kernel
theorem dX13_canPut_2 : decode cX13_canPut 2 = .ok (.getfield 40, 3) := by decide +kernel
theorem dX13_canPut_5 : decode cX13_canPut 5 = .ok (.iconst 2, 1) := by decide +kernel
theorem dX13_canPut_6 : decode cX13_canPut 6 = .ok (.iaload, 1) := by decide +kernel
theorem dX13_canPut_7 : decode cX13_canPut 7 = .ok (.if_icmp .ne 5, 3) := by decide +kernel
theorem dX13_canPut_10 : decode cX13_canPut 10 = .ok (.iconst 1, 1) := by decide +kernel
theorem dX13_canPut_11 : decode cX13_canPut 11 = .ok (.ireturn, 1) := by decide +kernel
theorem dX13_canPut_12 : decode cX13_canPut 12 = .ok (.iload_n 2, 1) := by decide +kernel
theorem dX13_canPut_13 : decode cX13_canPut 13 = .ok (.iload_n 1, 1) := by decide +kernel
theorem dX13_canPut_14 : decode cX13_canPut 14 = .ok (.ishr, 1) := by decide +kernel
theorem dX13_canPut_15 : decode cX13_canPut 15 = .ok (.iconst 1, 1) := by decide +kernel
theorem dX13_canPut_16 : decode cX13_canPut 16 = .ok (.iand, 1) := by decide +kernel
theorem dX13_canPut_17 : decode cX13_canPut 17 = .ok (.ifCond .ne 13, 3) := by decide +kernel
theorem dX13_canPut_20 : decode cX13_canPut 20 = .ok (.aload_n 0, 1) := by decide +kernel
theorem dX13_canPut_21 : decode cX13_canPut 21 = .ok (.iload_n 1, 1) := by decide +kernel
theorem dX13_canPut_22 : decode cX13_canPut 22 = .ok (.iconst 1, 1) := by decide +kernel
theorem dX13_canPut_23 : decode cX13_canPut 23 = .ok (.iadd, 1) := by decide +kernel
theorem dX13_canPut_24 : decode cX13_canPut 24 = .ok (.iload_n 2, 1) := by decide +kernel
theorem dX13_canPut_25 : decode cX13_canPut 25 = .ok (.iload_n 3, 1) := by decide +kernel
theorem dX13_canPut_26 : decode cX13_canPut 26 = .ok (.invokevirtual 409, 3) := by decide +kernel
theorem dX13_canPut_29 : decode cX13_canPut 29 = .ok (.ireturn, 1) := by decide +kernel
theorem dX13_canPut_30 : decode cX13_canPut 30 = .ok (.iconst 0, 1) := by decide +kernel
theorem dX13_canPut_31 : decode cX13_canPut 31 = .ok (.istore 4, 2) := by decide +kernel
theorem dX13_canPut_33 : decode cX13_canPut 33 = .ok (.iload 4, 2) := by decide +kernel
theorem dX13_canPut_35 : decode cX13_canPut 35 = .ok (.aload_n 0, 1) := by decide +kernel
theorem dX13_canPut_36 : decode cX13_canPut 36 = .ok (.getfield 40, 3) := by decide +kernel
theorem dX13_canPut_39 : decode cX13_canPut 39 = .ok (.iconst 1, 1) := by decide +kernel
theorem dX13_canPut_40 : decode cX13_canPut 40 = .ok (.iaload, 1) := by decide +kernel
theorem dX13_canPut_41 : decode cX13_canPut 41 = .ok (.if_icmp .ge 123, 3) := by decide +kernel
theorem dX13_canPut_44 : decode cX13_canPut 44 = .ok (.iload_n 3, 1) := by decide +kernel
theorem dX13_canPut_45 : decode cX13_canPut 45 = .ok (.iload 4, 2) := by decide +kernel
theorem dX13_canPut_47 : decode cX13_canPut 47 = .ok (.ishr, 1) := by decide +kernel
theorem dX13_canPut_48 : decode cX13_canPut 48 = .ok (.iconst 1, 1) := by decide +kernel
theorem dX13_canPut_49 : decode cX13_canPut 49 = .ok (.iand, 1) := by decide +kernel
theorem dX13_canPut_50 : decode cX13_canPut 50 = .ok (.ifCond .eq 108, 3) := by decide +kernel
theorem dX13_canPut_53 : decode cX13_canPut 53 = .ok (.aload_n 0, 1) := by decide +kernel
theorem dX13_canPut_54 : decode cX13_canPut 54 = .ok (.getfield 66, 3) := by decide +kernel
theorem dX13_canPut_57 : decode cX13_canPut 57 = .ok (.iload_n 1, 1) := by decide +kernel
theorem dX13_canPut_58 : decode cX13_canPut 58 = .ok (.iaload, 1) := by decide +kernel
theorem dX13_canPut_59 : decode cX13_canPut 59 = .ok (.iconst 2, 1) := by decide +kernel
theorem dX13_canPut_60 : decode cX13_canPut 60 = .ok (.if_icmp .ne 14, 3) := by decide +kernel
theorem dX13_canPut_63 : decode cX13_canPut 63 = .ok (.aload_n 0, 1) := by decide +kernel
theorem dX13_canPut_64 : decode cX13_canPut 64 = .ok (.getfield 64, 3) := by decide +kernel
theorem dX13_canPut_67 : decode cX13_canPut 67 = .ok (.iload 4, 2) := by decide +kernel
theorem dX13_canPut_69 : decode cX13_canPut 69 = .ok (.iaload, 1) := by decide +kernel
theorem dX13_canPut_70 : decode cX13_canPut 70 = .ok (.iconst 1, 1) := by decide +kernel
theorem dX13_canPut_71 : decode cX13_canPut 71 = .ok (.if_icmp .eq 87, 3) := by decide +kernel
theorem dX13_canPut_74 : decode cX13_canPut 74 = .ok (.aload_n 0, 1) := by decide +kernel
theorem dX13_canPut_75 : decode cX13_canPut 75 = .ok (.iload 4, 2) := by decide +kernel
theorem dX13_canPut_77 : decode cX13_canPut 77 = .ok (.iconst 2, 1) := by decide +kernel
theorem dX13_canPut_78 : decode cX13_canPut 78 = .ok (.invokevirtual 351, 3) := by decide +kernel
theorem dX13_canPut_81 : decode cX13_canPut 81 = .ok (.aload_n 0, 1) := by decide +kernel
theorem dX13_canPut_82 : decode cX13_canPut 82 = .ok (.getfield 75, 3) := by decide +kernel
theorem dX13_canPut_85 : decode cX13_canPut 85 = .ok (.iload_n 1, 1) := by decide +kernel
theorem dX13_canPut_86 : decode cX13_canPut 86 = .ok (.iaload, 1) := by decide +kernel
theorem dX13_canPut_87 : decode cX13_canPut 87 = .ok (.iadd, 1) := by decide +kernel
theorem dX13_canPut_88 : decode cX13_canPut 88 = .ok (.aload_n 0, 1) := by decide +kernel
theorem dX13_canPut_89 : decode cX13_canPut 89 = .ok (.getfield 58, 3) := by decide +kernel
theorem dX13_canPut_92 : decode cX13_canPut 92 = .ok (.iload 4, 2) := by decide +kernel
theorem dX13_canPut_94 : decode cX13_canPut 94 = .ok (.iaload, 1) := by decide +kernel
theorem dX13_canPut_95 : decode cX13_canPut 95 = .ok (.if_icmp .gt 63, 3) := by decide +kernel
theorem dX13_canPut_98 : decode cX13_canPut 98 = .ok (.aload_n 0, 1) := by decide +kernel
theorem dX13_canPut_99 : decode cX13_canPut 99 = .ok (.iload 4, 2) := by decide +kernel
theorem dX13_canPut_101 : decode cX13_canPut 101 = .ok (.iconst 1, 1) := by decide +kernel
theorem dX13_canPut_102 : decode cX13_canPut 102 = .ok (.invokevirtual 351, 3) := by decide +kernel
theorem dX13_canPut_105 : decode cX13_canPut 105 = .ok (.aload_n 0, 1) := by decide +kernel
theorem dX13_canPut_106 : decode cX13_canPut 106 = .ok (.getfield 69, 3) := by decide +kernel
theorem dX13_canPut_109 : decode cX13_canPut 109 = .ok (.iload_n 1, 1) := by decide +kernel
theorem dX13_canPut_110 : decode cX13_canPut 110 = .ok (.iaload, 1) := by decide +kernel
theorem dX13_canPut_111 : decode cX13_canPut 111 = .ok (.iadd, 1) := by decide +kernel
theorem dX13_canPut_112 : decode cX13_canPut 112 = .ok (.aload_n 0, 1) := by decide +kernel
theorem dX13_canPut_113 : decode cX13_canPut 113 = .ok (.getfield 56, 3) := by decide +kernel
theorem dX13_canPut_116 : decode cX13_canPut 116 = .ok (.iload 4, 2) := by decide +kernel
theorem dX13_canPut_118 : decode cX13_canPut 118 = .ok (.iaload, 1) := by decide +kernel
theorem dX13_canPut_119 : decode cX13_canPut 119 = .ok (.if_icmp .le 6, 3) := by decide +kernel
theorem dX13_canPut_122 : decode cX13_canPut 122 = .ok (.goto 36, 3) := by decide +kernel
theorem dX13_canPut_125 : decode cX13_canPut 125 = .ok (.aload_n 0, 1) := by decide +kernel
theorem dX13_canPut_126 : decode cX13_canPut 126 = .ok (.getfield 84, 3) := by decide +kernel
theorem dX13_canPut_129 : decode cX13_canPut 129 = .ok (.iload_n 1, 1) := by decide +kernel
theorem dX13_canPut_130 : decode cX13_canPut 130 = .ok (.iload 4, 2) := by decide +kernel
theorem dX13_canPut_132 : decode cX13_canPut 132 = .ok (.iastore, 1) := by decide +kernel
theorem dX13_canPut_133 : decode cX13_canPut 133 = .ok (.aload_n 0, 1) := by decide +kernel
theorem dX13_canPut_134 : decode cX13_canPut 134 = .ok (.iload_n 1, 1) := by decide +kernel
theorem dX13_canPut_135 : decode cX13_canPut 135 = .ok (.iconst 1, 1) := by decide +kernel
theorem dX13_canPut_136 : decode cX13_canPut 136 = .ok (.iadd, 1) := by decide +kernel
theorem dX13_canPut_137 : decode cX13_canPut 137 = .ok (.iload_n 2, 1) := by decide +kernel
theorem dX13_canPut_138 : decode cX13_canPut 138 = .ok (.iload_n 3, 1) := by decide +kernel
theorem dX13_canPut_139 : decode cX13_canPut 139 = .ok (.invokevirtual 409, 3) := by decide +kernel
theorem dX13_canPut_142 : decode cX13_canPut 142 = .ok (.istore 5, 2) := by decide +kernel
theorem dX13_canPut_144 : decode cX13_canPut 144 = .ok (.aload_n 0, 1) := by decide +kernel
theorem dX13_canPut_145 : decode cX13_canPut 145 = .ok (.getfield 84, 3) := by decide +kernel
theorem dX13_canPut_148 : decode cX13_canPut 148 = .ok (.iload_n 1, 1) := by decide +kernel
theorem dX13_canPut_149 : decode cX13_canPut 149 = .ok (.iconst (-1), 1) := by decide +kernel
theorem dX13_canPut_150 : decode cX13_canPut 150 = .ok (.iastore, 1) := by decide +kernel
theorem dX13_canPut_151 : decode cX13_canPut 151 = .ok (.iload 5, 2) := by decide +kernel
theorem dX13_canPut_153 : decode cX13_canPut 153 = .ok (.ifCond .eq 5, 3) := by decide +kernel
theorem dX13_canPut_156 : decode cX13_canPut 156 = .ok (.iconst 1, 1) := by decide +kernel
theorem dX13_canPut_157 : decode cX13_canPut 157 = .ok (.ireturn, 1) := by decide +kernel
theorem dX13_canPut_158 : decode cX13_canPut 158 = .ok (.iinc 4 1, 3) := by decide +kernel
theorem dX13_canPut_161 : decode cX13_canPut 161 = .ok (.goto (-128), 3) := by decide +kernel
theorem dX13_canPut_164 : decode cX13_canPut 164 = .ok (.iconst 0, 1) := by decide +kernel
theorem dX13_canPut_165 : decode cX13_canPut 165 = .ok (.istore 4, 2) := by decide +kernel
theorem dX13_canPut_167 : decode cX13_canPut 167 = .ok (.iload 4, 2) := by decide +kernel
theorem dX13_canPut_169 : decode cX13_canPut 169 = .ok (.aload_n 0, 1) := by decide +kernel
theorem dX13_canPut_170 : decode cX13_canPut 170 = .ok (.getfield 40, 3) := by decide +kernel
theorem dX13_canPut_173 : decode cX13_canPut 173 = .ok (.iconst 0, 1) := by decide +kernel
theorem dX13_canPut_174 : decode cX13_canPut 174 = .ok (.iaload, 1) := by decide +kernel
theorem dX13_canPut_175 : decode cX13_canPut 175 = .ok (.if_icmp .ge 95, 3) := by decide +kernel
theorem dX13_canPut_178 : decode cX13_canPut 178 = .ok (.aload_n 0, 1) := by decide +kernel
theorem dX13_canPut_179 : decode cX13_canPut 179 = .ok (.getfield 66, 3) := by decide +kernel
theorem dX13_canPut_182 : decode cX13_canPut 182 = .ok (.iload_n 1, 1) := by decide +kernel
theorem dX13_canPut_183 : decode cX13_canPut 183 = .ok (.iaload, 1) := by decide +kernel
theorem dX13_canPut_184 : decode cX13_canPut 184 = .ok (.iconst 1, 1) := by decide +kernel
theorem dX13_canPut_185 : decode cX13_canPut 185 = .ok (.if_icmp .ne 85, 3) := by decide +kernel
theorem dX13_canPut_188 : decode cX13_canPut 188 = .ok (.aload_n 0, 1) := by decide +kernel
theorem dX13_canPut_189 : decode cX13_canPut 189 = .ok (.iload 4, 2) := by decide +kernel
theorem dX13_canPut_191 : decode cX13_canPut 191 = .ok (.iload_n 3, 1) := by decide +kernel
theorem dX13_canPut_192 : decode cX13_canPut 192 = .ok (.invokevirtual 413, 3) := by decide +kernel
theorem dX13_canPut_195 : decode cX13_canPut 195 = .ok (.ifCond .eq 69, 3) := by decide +kernel
theorem dX13_canPut_198 : decode cX13_canPut 198 = .ok (.aload_n 0, 1) := by decide +kernel
theorem dX13_canPut_199 : decode cX13_canPut 199 = .ok (.bipush 10, 2) := by decide +kernel
theorem dX13_canPut_201 : decode cX13_canPut 201 = .ok (.iload 4, 2) := by decide +kernel
theorem dX13_canPut_203 : decode cX13_canPut 203 = .ok (.iadd, 1) := by decide +kernel
theorem dX13_canPut_204 : decode cX13_canPut 204 = .ok (.iconst 3, 1) := by decide +kernel
theorem dX13_canPut_205 : decode cX13_canPut 205 = .ok (.invokevirtual 351, 3) := by decide +kernel
theorem dX13_canPut_208 : decode cX13_canPut 208 = .ok (.aload_n 0, 1) := by decide +kernel
theorem dX13_canPut_209 : decode cX13_canPut 209 = .ok (.getfield 81, 3) := by decide +kernel
theorem dX13_canPut_212 : decode cX13_canPut 212 = .ok (.iload_n 1, 1) := by decide +kernel
theorem dX13_canPut_213 : decode cX13_canPut 213 = .ok (.iaload, 1) := by decide +kernel
theorem dX13_canPut_214 : decode cX13_canPut 214 = .ok (.iadd, 1) := by decide +kernel
theorem dX13_canPut_215 : decode cX13_canPut 215 = .ok (.aload_n 0, 1) := by decide +kernel
theorem dX13_canPut_216 : decode cX13_canPut 216 = .ok (.getfield 50, 3) := by decide +kernel
theorem dX13_canPut_219 : decode cX13_canPut 219 = .ok (.iload 4, 2) := by decide +kernel
theorem dX13_canPut_221 : decode cX13_canPut 221 = .ok (.iaload, 1) := by decide +kernel
theorem dX13_canPut_222 : decode cX13_canPut 222 = .ok (.if_icmp .le 6, 3) := by decide +kernel
theorem dX13_canPut_225 : decode cX13_canPut 225 = .ok (.goto 39, 3) := by decide +kernel
theorem dX13_canPut_228 : decode cX13_canPut 228 = .ok (.aload_n 0, 1) := by decide +kernel
theorem dX13_canPut_229 : decode cX13_canPut 229 = .ok (.getfield 84, 3) := by decide +kernel
theorem dX13_canPut_232 : decode cX13_canPut 232 = .ok (.iload_n 1, 1) := by decide +kernel
theorem dX13_canPut_233 : decode cX13_canPut 233 = .ok (.bipush 10, 2) := by decide +kernel
theorem dX13_canPut_235 : decode cX13_canPut 235 = .ok (.iload 4, 2) := by decide +kernel
theorem dX13_canPut_237 : decode cX13_canPut 237 = .ok (.iadd, 1) := by decide +kernel
theorem dX13_canPut_238 : decode cX13_canPut 238 = .ok (.iastore, 1) := by decide +kernel
theorem dX13_canPut_239 : decode cX13_canPut 239 = .ok (.aload_n 0, 1) := by decide +kernel
theorem dX13_canPut_240 : decode cX13_canPut 240 = .ok (.iload_n 1, 1) := by decide +kernel
theorem dX13_canPut_241 : decode cX13_canPut 241 = .ok (.iconst 1, 1) := by decide +kernel
theorem dX13_canPut_242 : decode cX13_canPut 242 = .ok (.iadd, 1) := by decide +kernel
theorem dX13_canPut_243 : decode cX13_canPut 243 = .ok (.iload_n 2, 1) := by decide +kernel
theorem dX13_canPut_244 : decode cX13_canPut 244 = .ok (.iload_n 3, 1) := by decide +kernel
theorem dX13_canPut_245 : decode cX13_canPut 245 = .ok (.invokevirtual 409, 3) := by decide +kernel
theorem dX13_canPut_248 : decode cX13_canPut 248 = .ok (.istore 5, 2) := by decide +kernel
theorem dX13_canPut_250 : decode cX13_canPut 250 = .ok (.aload_n 0, 1) := by decide +kernel
theorem dX13_canPut_251 : decode cX13_canPut 251 = .ok (.getfield 84, 3) := by decide +kernel
theorem dX13_canPut_254 : decode cX13_canPut 254 = .ok (.iload_n 1, 1) := by decide +kernel
theorem dX13_canPut_255 : decode cX13_canPut 255 = .ok (.iconst (-1), 1) := by decide +kernel
theorem dX13_canPut_256 : decode cX13_canPut 256 = .ok (.iastore, 1) := by decide +kernel
theorem dX13_canPut_257 : decode cX13_canPut 257 = .ok (.iload 5, 2) := by decide +kernel
theorem dX13_canPut_259 : decode cX13_canPut 259 = .ok (.ifCond .eq 5, 3) := by decide +kernel
theorem dX13_canPut_262 : decode cX13_canPut 262 = .ok (.iconst 1, 1) := by decide +kernel
theorem dX13_canPut_263 : decode cX13_canPut 263 = .ok (.ireturn, 1) := by decide +kernel
theorem dX13_canPut_264 : decode cX13_canPut 264 = .ok (.iinc 4 1, 3) := by decide +kernel
theorem dX13_canPut_267 : decode cX13_canPut 267 = .ok (.goto (-100), 3) := by decide +kernel
theorem dX13_canPut_270 : decode cX13_canPut 270 = .ok (.iconst 0, 1) := by decide +kernel
theorem dX13_canPut_271 : decode cX13_canPut 271 = .ok (.ireturn, 1) := by decide +kernel
theorem dX13_ownsOne_0 : decode cX13_ownsOne 0 = .ok (.iconst 0, 1) := by decide +kernel
theorem dX13_ownsOne_1 : decode cX13_ownsOne 1 = .ok (.istore_n 3, 1) := by decide +kernel
theorem dX13_ownsOne_2 : decode cX13_ownsOne 2 = .ok (.iload_n 3, 1) := by decide +kernel
theorem dX13_ownsOne_3 : decode cX13_ownsOne 3 = .ok (.aload_n 0, 1) := by decide +kernel
theorem dX13_ownsOne_4 : decode cX13_ownsOne 4 = .ok (.getfield 40, 3) := by decide +kernel
theorem dX13_ownsOne_7 : decode cX13_ownsOne 7 = .ok (.iconst 1, 1) := by decide +kernel
theorem dX13_ownsOne_8 : decode cX13_ownsOne 8 = .ok (.iaload, 1) := by decide +kernel
theorem dX13_ownsOne_9 : decode cX13_ownsOne 9 = .ok (.if_icmp .ge 30, 3) := by decide +kernel
theorem dX13_ownsOne_12 : decode cX13_ownsOne 12 = .ok (.iload_n 2, 1) := by decide +kernel
theorem dX13_ownsOne_13 : decode cX13_ownsOne 13 = .ok (.iload_n 3, 1) := by decide +kernel
theorem dX13_ownsOne_14 : decode cX13_ownsOne 14 = .ok (.ishr, 1) := by decide +kernel
theorem dX13_ownsOne_15 : decode cX13_ownsOne 15 = .ok (.iconst 1, 1) := by decide +kernel
theorem dX13_ownsOne_16 : decode cX13_ownsOne 16 = .ok (.iand, 1) := by decide +kernel
theorem dX13_ownsOne_17 : decode cX13_ownsOne 17 = .ok (.iconst 1, 1) := by decide +kernel
theorem dX13_ownsOne_18 : decode cX13_ownsOne 18 = .ok (.if_icmp .ne 15, 3) := by decide +kernel
theorem dX13_ownsOne_21 : decode cX13_ownsOne 21 = .ok (.aload_n 0, 1) := by decide +kernel
theorem dX13_ownsOne_22 : decode cX13_ownsOne 22 = .ok (.getfield 53, 3) := by decide +kernel
theorem dX13_ownsOne_25 : decode cX13_ownsOne 25 = .ok (.iload_n 3, 1) := by decide +kernel
theorem dX13_ownsOne_26 : decode cX13_ownsOne 26 = .ok (.iaload, 1) := by decide +kernel
theorem dX13_ownsOne_27 : decode cX13_ownsOne 27 = .ok (.iload_n 1, 1) := by decide +kernel
theorem dX13_ownsOne_28 : decode cX13_ownsOne 28 = .ok (.if_icmp .ne 5, 3) := by decide +kernel
theorem dX13_ownsOne_31 : decode cX13_ownsOne 31 = .ok (.iconst 1, 1) := by decide +kernel
theorem dX13_ownsOne_32 : decode cX13_ownsOne 32 = .ok (.ireturn, 1) := by decide +kernel
theorem dX13_ownsOne_33 : decode cX13_ownsOne 33 = .ok (.iinc 3 1, 3) := by decide +kernel
theorem dX13_ownsOne_36 : decode cX13_ownsOne 36 = .ok (.goto (-34), 3) := by decide +kernel
theorem dX13_ownsOne_39 : decode cX13_ownsOne 39 = .ok (.iconst 0, 1) := by decide +kernel
theorem dX13_ownsOne_40 : decode cX13_ownsOne 40 = .ok (.ireturn, 1) := by decide +kernel
set_option maxRecDepth 20000 in
theorem ggX13_goesBy_X13_canPut : GoodIn wsX13_goesBy wsX13_canPut := goodIn_r _ [8, 1, 9, 10, 11, 12, 13, 14, 3, 15, 16, 4, 5, 6, 7, 17, 18, 19, 20, 21, 22, 23, 24, 25, 26, 27, 28, 29, 30, 31, 32, 33, 34, 35, 36, 37, 38, 39, 40, 41, 42, 43, 44, 45, 46, 47, 48, 49, 50, 51, 52, 53, 54, 55, 56, 57, 58, 59, 60, 61, 62, 63, 64, 65, 66, 67, 68, 69, 70, 71, 72, 73, 74, 75, 76, 77, 78, 79, 80, 81, 82, 83, 84, 85, 86, 87, 88, 89, 90, 91, 92] rfl (by decide +kernel)
set_option maxRecDepth 20000 in
theorem gX13_goesBy_X13_canPut : GoodIn wsX13_goesBy (wsV RX13 409 RX13 yX13_canPut wsX13_canPut) := goodIn_app (goodIn_of _ (by decide +kernel)) ggX13_goesBy_X13_canPut
theorem dX13_goesBy_0 : decode cX13_goesBy 0 = .ok (.iconst 0, 1) := by decide +kernel
theorem dX13_goesBy_1 : decode cX13_goesBy 1 = .ok (.istore_n 3, 1) := by decide +kernel
theorem dX13_goesBy_2 : decode cX13_goesBy 2 = .ok (.iload_n 3, 1) := by decide +kernel
theorem dX13_goesBy_3 : decode cX13_goesBy 3 = .ok (.aload_n 0, 1) := by decide +kernel
theorem dX13_goesBy_4 : decode cX13_goesBy 4 = .ok (.getfield 40, 3) := by decide +kernel
theorem dX13_goesBy_7 : decode cX13_goesBy 7 = .ok (.iconst 2, 1) := by decide +kernel
theorem dX13_goesBy_8 : decode cX13_goesBy 8 = .ok (.iaload, 1) := by decide +kernel
theorem dX13_goesBy_9 : decode cX13_goesBy 9 = .ok (.if_icmp .ge 37, 3) := by decide +kernel
theorem dX13_goesBy_12 : decode cX13_goesBy 12 = .ok (.aload_n 0, 1) := by decide +kernel
theorem dX13_goesBy_13 : decode cX13_goesBy 13 = .ok (.getfield 121, 3) := by decide +kernel
theorem dX13_goesBy_16 : decode cX13_goesBy 16 = .ok (.iload_n 3, 1) := by decide +kernel
theorem dX13_goesBy_17 : decode cX13_goesBy 17 = .ok (.aload_n 0, 1) := by decide +kernel
theorem dX13_goesBy_18 : decode cX13_goesBy 18 = .ok (.getfield 84, 3) := by decide +kernel
theorem dX13_goesBy_21 : decode cX13_goesBy 21 = .ok (.iload_n 3, 1) := by decide +kernel
theorem dX13_goesBy_22 : decode cX13_goesBy 22 = .ok (.iaload, 1) := by decide +kernel
theorem dX13_goesBy_23 : decode cX13_goesBy 23 = .ok (.iastore, 1) := by decide +kernel
theorem dX13_goesBy_24 : decode cX13_goesBy 24 = .ok (.iload_n 2, 1) := by decide +kernel
theorem dX13_goesBy_25 : decode cX13_goesBy 25 = .ok (.iload_n 3, 1) := by decide +kernel
theorem dX13_goesBy_26 : decode cX13_goesBy 26 = .ok (.ishr, 1) := by decide +kernel
theorem dX13_goesBy_27 : decode cX13_goesBy 27 = .ok (.iconst 1, 1) := by decide +kernel
theorem dX13_goesBy_28 : decode cX13_goesBy 28 = .ok (.iand, 1) := by decide +kernel
theorem dX13_goesBy_29 : decode cX13_goesBy 29 = .ok (.iconst 1, 1) := by decide +kernel
theorem dX13_goesBy_30 : decode cX13_goesBy 30 = .ok (.if_icmp .ne 10, 3) := by decide +kernel
theorem dX13_goesBy_33 : decode cX13_goesBy 33 = .ok (.aload_n 0, 1) := by decide +kernel
theorem dX13_goesBy_34 : decode cX13_goesBy 34 = .ok (.getfield 84, 3) := by decide +kernel
theorem dX13_goesBy_37 : decode cX13_goesBy 37 = .ok (.iload_n 3, 1) := by decide +kernel
theorem dX13_goesBy_38 : decode cX13_goesBy 38 = .ok (.iconst (-1), 1) := by decide +kernel
theorem dX13_goesBy_39 : decode cX13_goesBy 39 = .ok (.iastore, 1) := by decide +kernel
theorem dX13_goesBy_40 : decode cX13_goesBy 40 = .ok (.iinc 3 1, 3) := by decide +kernel
theorem dX13_goesBy_43 : decode cX13_goesBy 43 = .ok (.goto (-41), 3) := by decide +kernel
theorem dX13_goesBy_46 : decode cX13_goesBy 46 = .ok (.aload_n 0, 1) := by decide +kernel
theorem dX13_goesBy_47 : decode cX13_goesBy 47 = .ok (.iconst 0, 1) := by decide +kernel
theorem dX13_goesBy_48 : decode cX13_goesBy 48 = .ok (.iload_n 2, 1) := by decide +kernel
theorem dX13_goesBy_49 : decode cX13_goesBy 49 = .ok (.iload_n 1, 1) := by decide +kernel
theorem dX13_goesBy_50 : decode cX13_goesBy 50 = .ok (.invokevirtual 409, 3) := by decide +kernel
theorem dX13_goesBy_53 : decode cX13_goesBy 53 = .ok (.istore_n 3, 1) := by decide +kernel
theorem dX13_goesBy_54 : decode cX13_goesBy 54 = .ok (.iconst 0, 1) := by decide +kernel
theorem dX13_goesBy_55 : decode cX13_goesBy 55 = .ok (.istore 4, 2) := by decide +kernel
theorem dX13_goesBy_57 : decode cX13_goesBy 57 = .ok (.iload 4, 2) := by decide +kernel
theorem dX13_goesBy_59 : decode cX13_goesBy 59 = .ok (.aload_n 0, 1) := by decide +kernel
theorem dX13_goesBy_60 : decode cX13_goesBy 60 = .ok (.getfield 40, 3) := by decide +kernel
theorem dX13_goesBy_63 : decode cX13_goesBy 63 = .ok (.iconst 2, 1) := by decide +kernel
theorem dX13_goesBy_64 : decode cX13_goesBy 64 = .ok (.iaload, 1) := by decide +kernel
theorem dX13_goesBy_65 : decode cX13_goesBy 65 = .ok (.if_icmp .ge 23, 3) := by decide +kernel
theorem dX13_goesBy_68 : decode cX13_goesBy 68 = .ok (.aload_n 0, 1) := by decide +kernel
theorem dX13_goesBy_69 : decode cX13_goesBy 69 = .ok (.getfield 84, 3) := by decide +kernel
theorem dX13_goesBy_72 : decode cX13_goesBy 72 = .ok (.iload 4, 2) := by decide +kernel
theorem dX13_goesBy_74 : decode cX13_goesBy 74 = .ok (.aload_n 0, 1) := by decide +kernel
theorem dX13_goesBy_75 : decode cX13_goesBy 75 = .ok (.getfield 121, 3) := by decide +kernel
theorem dX13_goesBy_78 : decode cX13_goesBy 78 = .ok (.iload 4, 2) := by decide +kernel
theorem dX13_goesBy_80 : decode cX13_goesBy 80 = .ok (.iaload, 1) := by decide +kernel
theorem dX13_goesBy_81 : decode cX13_goesBy 81 = .ok (.iastore, 1) := by decide +kernel
theorem dX13_goesBy_82 : decode cX13_goesBy 82 = .ok (.iinc 4 1, 3) := by decide +kernel
theorem dX13_goesBy_85 : decode cX13_goesBy 85 = .ok (.goto (-28), 3) := by decide +kernel
theorem dX13_goesBy_88 : decode cX13_goesBy 88 = .ok (.iload_n 3, 1) := by decide +kernel
theorem dX13_goesBy_89 : decode cX13_goesBy 89 = .ok (.ireturn, 1) := by decide +kernel
theorem dX13_costBy_0 : decode cX13_costBy 0 = .ok (.iconst 0, 1) := by decide +kernel
theorem dX13_costBy_1 : decode cX13_costBy 1 = .ok (.istore_n 2, 1) := by decide +kernel
theorem dX13_costBy_2 : decode cX13_costBy 2 = .ok (.iconst 0, 1) := by decide +kernel
theorem dX13_costBy_3 : decode cX13_costBy 3 = .ok (.istore_n 3, 1) := by decide +kernel
theorem dX13_costBy_4 : decode cX13_costBy 4 = .ok (.iload_n 3, 1) := by decide +kernel
theorem dX13_costBy_5 : decode cX13_costBy 5 = .ok (.aload_n 0, 1) := by decide +kernel
theorem dX13_costBy_6 : decode cX13_costBy 6 = .ok (.getfield 40, 3) := by decide +kernel
theorem dX13_costBy_9 : decode cX13_costBy 9 = .ok (.iconst 1, 1) := by decide +kernel
theorem dX13_costBy_10 : decode cX13_costBy 10 = .ok (.iaload, 1) := by decide +kernel
theorem dX13_costBy_11 : decode cX13_costBy 11 = .ok (.if_icmp .ge 42, 3) := by decide +kernel
theorem dX13_costBy_14 : decode cX13_costBy 14 = .ok (.iload_n 2, 1) := by decide +kernel
theorem dX13_costBy_15 : decode cX13_costBy 15 = .ok (.iload_n 1, 1) := by decide +kernel
theorem dX13_costBy_16 : decode cX13_costBy 16 = .ok (.iload_n 3, 1) := by decide +kernel
theorem dX13_costBy_17 : decode cX13_costBy 17 = .ok (.ishr, 1) := by decide +kernel
theorem dX13_costBy_18 : decode cX13_costBy 18 = .ok (.iconst 1, 1) := by decide +kernel
theorem dX13_costBy_19 : decode cX13_costBy 19 = .ok (.iand, 1) := by decide +kernel
theorem dX13_costBy_20 : decode cX13_costBy 20 = .ok (.iconst 1, 1) := by decide +kernel
theorem dX13_costBy_21 : decode cX13_costBy 21 = .ok (.if_icmp .ne 23, 3) := by decide +kernel
theorem dX13_costBy_24 : decode cX13_costBy 24 = .ok (.aload_n 0, 1) := by decide +kernel
theorem dX13_costBy_25 : decode cX13_costBy 25 = .ok (.getfield 331, 3) := by decide +kernel
theorem dX13_costBy_28 : decode cX13_costBy 28 = .ok (.iload_n 3, 1) := by decide +kernel
theorem dX13_costBy_29 : decode cX13_costBy 29 = .ok (.ishr, 1) := by decide +kernel
theorem dX13_costBy_30 : decode cX13_costBy 30 = .ok (.iconst 1, 1) := by decide +kernel
theorem dX13_costBy_31 : decode cX13_costBy 31 = .ok (.iand, 1) := by decide +kernel
theorem dX13_costBy_32 : decode cX13_costBy 32 = .ok (.ifCond .ne 12, 3) := by decide +kernel
theorem dX13_costBy_35 : decode cX13_costBy 35 = .ok (.aload_n 0, 1) := by decide +kernel
theorem dX13_costBy_36 : decode cX13_costBy 36 = .ok (.getfield 61, 3) := by decide +kernel
theorem dX13_costBy_39 : decode cX13_costBy 39 = .ok (.iload_n 3, 1) := by decide +kernel
theorem dX13_costBy_40 : decode cX13_costBy 40 = .ok (.iaload, 1) := by decide +kernel
theorem dX13_costBy_41 : decode cX13_costBy 41 = .ok (.goto 4, 3) := by decide +kernel
theorem dX13_costBy_44 : decode cX13_costBy 44 = .ok (.iconst 0, 1) := by decide +kernel
theorem dX13_costBy_45 : decode cX13_costBy 45 = .ok (.iadd, 1) := by decide +kernel
theorem dX13_costBy_46 : decode cX13_costBy 46 = .ok (.istore_n 2, 1) := by decide +kernel
theorem dX13_costBy_47 : decode cX13_costBy 47 = .ok (.iinc 3 1, 3) := by decide +kernel
theorem dX13_costBy_50 : decode cX13_costBy 50 = .ok (.goto (-46), 3) := by decide +kernel
theorem dX13_costBy_53 : decode cX13_costBy 53 = .ok (.iload_n 2, 1) := by decide +kernel
theorem dX13_costBy_54 : decode cX13_costBy 54 = .ok (.ireturn, 1) := by decide +kernel
set_option maxRecDepth 20000 in
theorem ggX13_othersGo_X13_overOf : GoodIn wsX13_othersGo wsX13_overOf := goodIn_r _ [6, 7, 8, 9, 10, 11, 12, 13, 14, 5, 15, 1, 16, 17, 18, 19, 20, 21, 22, 23, 24, 25, 26, 27, 28, 29, 30, 31, 32, 33, 34, 35, 36, 37, 38, 39, 40, 41, 42, 43, 44, 45, 46, 47, 48, 49, 50, 51, 52, 53, 54, 55, 56, 57, 58, 59, 60, 61, 62, 63, 64, 65, 66, 67, 68, 69, 70, 71, 72, 73, 74, 75, 76, 77, 78, 79, 80, 81, 82, 83, 84, 85, 86, 87] rfl (by decide +kernel)
set_option maxRecDepth 20000 in
theorem gX13_othersGo_X13_overOf : GoodIn wsX13_othersGo (wsV RX13 375 RX13 yX13_overOf wsX13_overOf) := goodIn_app (goodIn_of _ (by decide +kernel)) ggX13_othersGo_X13_overOf
theorem dX13_othersGo_0 : decode cX13_othersGo 0 = .ok (.iconst 0, 1) := by decide +kernel
theorem dX13_othersGo_1 : decode cX13_othersGo 1 = .ok (.istore_n 2, 1) := by decide +kernel
theorem dX13_othersGo_2 : decode cX13_othersGo 2 = .ok (.iload_n 2, 1) := by decide +kernel
theorem dX13_othersGo_3 : decode cX13_othersGo 3 = .ok (.aload_n 0, 1) := by decide +kernel
theorem dX13_othersGo_4 : decode cX13_othersGo 4 = .ok (.getfield 40, 3) := by decide +kernel
theorem dX13_othersGo_7 : decode cX13_othersGo 7 = .ok (.iconst 1, 1) := by decide +kernel
theorem dX13_othersGo_8 : decode cX13_othersGo 8 = .ok (.iaload, 1) := by decide +kernel
theorem dX13_othersGo_9 : decode cX13_othersGo 9 = .ok (.if_icmp .ge 27, 3) := by decide +kernel
theorem dX13_othersGo_12 : decode cX13_othersGo 12 = .ok (.iload_n 1, 1) := by decide +kernel
theorem dX13_othersGo_13 : decode cX13_othersGo 13 = .ok (.iload_n 2, 1) := by decide +kernel
theorem dX13_othersGo_14 : decode cX13_othersGo 14 = .ok (.ishr, 1) := by decide +kernel
theorem dX13_othersGo_15 : decode cX13_othersGo 15 = .ok (.iconst 1, 1) := by decide +kernel
theorem dX13_othersGo_16 : decode cX13_othersGo 16 = .ok (.iand, 1) := by decide +kernel
theorem dX13_othersGo_17 : decode cX13_othersGo 17 = .ok (.ifCond .ne 13, 3) := by decide +kernel
theorem dX13_othersGo_20 : decode cX13_othersGo 20 = .ok (.aload_n 0, 1) := by decide +kernel
theorem dX13_othersGo_21 : decode cX13_othersGo 21 = .ok (.iload_n 2, 1) := by decide +kernel
theorem dX13_othersGo_22 : decode cX13_othersGo 22 = .ok (.invokevirtual 375, 3) := by decide +kernel
theorem dX13_othersGo_25 : decode cX13_othersGo 25 = .ok (.ifCond .le 5, 3) := by decide +kernel
theorem dX13_othersGo_28 : decode cX13_othersGo 28 = .ok (.iconst 0, 1) := by decide +kernel
theorem dX13_othersGo_29 : decode cX13_othersGo 29 = .ok (.ireturn, 1) := by decide +kernel
theorem dX13_othersGo_30 : decode cX13_othersGo 30 = .ok (.iinc 2 1, 3) := by decide +kernel
theorem dX13_othersGo_33 : decode cX13_othersGo 33 = .ok (.goto (-31), 3) := by decide +kernel
theorem dX13_othersGo_36 : decode cX13_othersGo 36 = .ok (.iconst 1, 1) := by decide +kernel
theorem dX13_othersGo_37 : decode cX13_othersGo 37 = .ok (.ireturn, 1) := by decide +kernel
set_option maxRecDepth 20000 in
theorem ggX13_opened_X13_costBy : GoodIn wsX13_opened wsX13_costBy := goodIn_r _ [7, 2, 8, 9, 52, 53, 54, 55, 56, 57, 58, 59, 60, 61, 62, 63, 64, 65, 66, 67, 68, 69, 70, 71, 72, 73, 74, 75, 76, 77, 78, 79, 80, 81, 82, 83, 84, 85, 86, 87, 88, 89, 90, 91, 92, 93, 94, 95, 96, 97, 98, 99, 100, 101, 102, 103, 104, 105, 106, 107, 108, 109, 110, 111, 112, 113, 114, 115, 116, 117, 118] rfl (by decide +kernel)
set_option maxRecDepth 20000 in
theorem gX13_opened_X13_costBy : GoodIn wsX13_opened (wsV RX13 416 RX13 yX13_costBy wsX13_costBy) := goodIn_app (goodIn_of _ (by decide +kernel)) ggX13_opened_X13_costBy
set_option maxRecDepth 20000 in
theorem ggX13_opened_X13_bitsOf : GoodIn wsX13_opened wsX13_bitsOf := goodIn_r _ [12] rfl (by decide +kernel)
set_option maxRecDepth 20000 in
theorem gX13_opened_X13_bitsOf : GoodIn wsX13_opened (va_wsS RX13 403 yX13_bitsOf wsX13_bitsOf) := goodIn_app (goodIn_of _ (by decide +kernel)) ggX13_opened_X13_bitsOf
set_option maxRecDepth 20000 in
theorem ggX13_opened_X13_sumAt : GoodIn wsX13_opened wsX13_sumAt := goodIn_r _ [16, 2, 17, 18, 19, 20, 21, 52, 53, 54, 55, 56, 57, 58, 59, 60, 61, 62, 63, 64, 65, 66, 67, 68, 69, 70, 71, 72, 73, 74, 75, 76, 77, 78, 79, 80, 81, 82, 83, 84, 85, 86, 87, 88, 89, 90, 91, 92, 93, 94, 95, 96, 97, 98, 99, 100, 101, 102, 103, 104, 105, 106, 107, 108, 109, 110, 111, 112, 113, 114, 115, 116, 117, 118] rfl (by decide +kernel)
set_option maxRecDepth 20000 in
theorem gX13_opened_X13_sumAt : GoodIn wsX13_opened (wsV RX13 351 RX13 yX13_sumAt wsX13_sumAt) := goodIn_app (goodIn_of _ (by decide +kernel)) ggX13_opened_X13_sumAt
set_option maxRecDepth 20000 in
theorem ggX13_opened_X13_othersGo : GoodIn wsX13_opened wsX13_othersGo := goodIn_r _ [25, 2, 26, 27, 28, 6, 29, 30, 31, 32, 33, 34, 13, 14, 15, 16, 17, 18, 19, 20, 21, 52, 53, 54, 55, 56, 57, 58, 59, 60, 61, 62, 63, 64, 65, 66, 67, 68, 69, 70, 71, 72, 73, 74, 75, 76, 77, 78, 79, 80, 81, 82, 83, 84, 85, 86, 87, 88, 89, 90, 91, 92, 93, 94, 95, 96, 97, 98, 99, 100, 101, 102, 103, 104, 105, 106, 107, 108, 109, 110, 111, 112, 113, 114, 115, 116, 117, 118] rfl (by decide +kernel)
set_option maxRecDepth 20000 in
theorem gX13_opened_X13_othersGo : GoodIn wsX13_opened (wsV RX13 419 RX13 yX13_othersGo wsX13_othersGo) := goodIn_app (goodIn_of _ (by decide +kernel)) ggX13_opened_X13_othersGo
set_option maxRecDepth 20000 in
theorem ggX13_opened_X13_goesBy : GoodIn wsX13_opened wsX13_goesBy := goodIn_r _ [38, 2, 39, 17, 40, 41, 42, 6, 43, 18, 44, 20, 45, 19, 30, 21, 46, 13, 14, 15, 16, 47, 48, 49, 50, 51, 52, 53, 54, 55, 56, 57, 58, 59, 60, 61, 62, 63, 64, 65, 66, 67, 68, 69, 70, 71, 72, 73, 74, 75, 76, 77, 78, 79, 80, 81, 82, 83, 84, 85, 86, 87, 88, 89, 90, 91, 92, 93, 94, 95, 96, 97, 98, 99, 100, 101, 102, 103, 104, 105, 106, 107, 108, 109, 110, 111, 112, 113, 114, 115, 116, 117, 118] rfl (by decide +kernel)
set_option maxRecDepth 20000 in
theorem gX13_opened_X13_goesBy : GoodIn wsX13_opened (wsV RX13 422 RX13 yX13_goesBy wsX13_goesBy) := goodIn_app (goodIn_of _ (by decide +kernel)) ggX13_opened_X13_goesBy
theorem dX13_opened_0 : decode cX13_opened 0 = .ok (.aload_n 0, 1) := by decide +kernel
theorem dX13_opened_1 : decode cX13_opened 1 = .ok (.iconst 0, 1) := by decide +kernel
theorem dX13_opened_2 : decode cX13_opened 2 = .ok (.putfield 173, 3) := by decide +kernel
theorem dX13_opened_5 : decode cX13_opened 5 = .ok (.iconst (-1), 1) := by decide +kernel
theorem dX13_opened_6 : decode cX13_opened 6 = .ok (.istore_n 1, 1) := by decide +kernel
theorem dX13_opened_7 : decode cX13_opened 7 = .ok (.iconst 0, 1) := by decide +kernel
theorem dX13_opened_8 : decode cX13_opened 8 = .ok (.istore_n 2, 1) := by decide +kernel
theorem dX13_opened_9 : decode cX13_opened 9 = .ok (.iload_n 2, 1) := by decide +kernel
theorem dX13_opened_10 : decode cX13_opened 10 = .ok (.iconst 1, 1) := by decide +kernel
theorem dX13_opened_11 : decode cX13_opened 11 = .ok (.aload_n 0, 1) := by decide +kernel
theorem dX13_opened_12 : decode cX13_opened 12 = .ok (.getfield 40, 3) := by decide +kernel
theorem dX13_opened_15 : decode cX13_opened 15 = .ok (.iconst 1, 1) := by decide +kernel
theorem dX13_opened_16 : decode cX13_opened 16 = .ok (.iaload, 1) := by decide +kernel
theorem dX13_opened_17 : decode cX13_opened 17 = .ok (.ishl, 1) := by decide +kernel
theorem dX13_opened_18 : decode cX13_opened 18 = .ok (.if_icmp .ge 134, 3) := by decide +kernel
theorem dX13_opened_21 : decode cX13_opened 21 = .ok (.aload_n 0, 1) := by decide +kernel
theorem dX13_opened_22 : decode cX13_opened 22 = .ok (.iload_n 2, 1) := by decide +kernel
theorem dX13_opened_23 : decode cX13_opened 23 = .ok (.invokevirtual 416, 3) := by decide +kernel
theorem dX13_opened_26 : decode cX13_opened 26 = .ok (.istore_n 3, 1) := by decide +kernel
theorem dX13_opened_27 : decode cX13_opened 27 = .ok (.iload_n 1, 1) := by decide +kernel
theorem dX13_opened_28 : decode cX13_opened 28 = .ok (.iconst (-1), 1) := by decide +kernel
theorem dX13_opened_29 : decode cX13_opened 29 = .ok (.if_icmp .eq 35, 3) := by decide +kernel
theorem dX13_opened_32 : decode cX13_opened 32 = .ok (.iload_n 3, 1) := by decide +kernel
theorem dX13_opened_33 : decode cX13_opened 33 = .ok (.aload_n 0, 1) := by decide +kernel
theorem dX13_opened_34 : decode cX13_opened 34 = .ok (.iload_n 1, 1) := by decide +kernel
theorem dX13_opened_35 : decode cX13_opened 35 = .ok (.invokevirtual 416, 3) := by decide +kernel
theorem dX13_opened_38 : decode cX13_opened 38 = .ok (.if_icmp .gt 108, 3) := by decide +kernel
theorem dX13_opened_41 : decode cX13_opened 41 = .ok (.iload_n 3, 1) := by decide +kernel
theorem dX13_opened_42 : decode cX13_opened 42 = .ok (.aload_n 0, 1) := by decide +kernel
theorem dX13_opened_43 : decode cX13_opened 43 = .ok (.iload_n 1, 1) := by decide +kernel
theorem dX13_opened_44 : decode cX13_opened 44 = .ok (.invokevirtual 416, 3) := by decide +kernel
theorem dX13_opened_47 : decode cX13_opened 47 = .ok (.if_icmp .ne 17, 3) := by decide +kernel
theorem dX13_opened_50 : decode cX13_opened 50 = .ok (.iload_n 2, 1) := by decide +kernel
theorem dX13_opened_51 : decode cX13_opened 51 = .ok (.invokestatic 403, 3) := by decide +kernel
theorem dX13_opened_54 : decode cX13_opened 54 = .ok (.iload_n 1, 1) := by decide +kernel
theorem dX13_opened_55 : decode cX13_opened 55 = .ok (.invokestatic 403, 3) := by decide +kernel
theorem dX13_opened_58 : decode cX13_opened 58 = .ok (.if_icmp .lt 6, 3) := by decide +kernel
theorem dX13_opened_61 : decode cX13_opened 61 = .ok (.goto 85, 3) := by decide +kernel
theorem dX13_opened_64 : decode cX13_opened 64 = .ok (.iconst 0, 1) := by decide +kernel
theorem dX13_opened_65 : decode cX13_opened 65 = .ok (.istore 4, 2) := by decide +kernel
theorem dX13_opened_67 : decode cX13_opened 67 = .ok (.iconst 0, 1) := by decide +kernel
theorem dX13_opened_68 : decode cX13_opened 68 = .ok (.istore 5, 2) := by decide +kernel
theorem dX13_opened_70 : decode cX13_opened 70 = .ok (.iload 5, 2) := by decide +kernel
theorem dX13_opened_72 : decode cX13_opened 72 = .ok (.aload_n 0, 1) := by decide +kernel
theorem dX13_opened_73 : decode cX13_opened 73 = .ok (.getfield 40, 3) := by decide +kernel
theorem dX13_opened_76 : decode cX13_opened 76 = .ok (.iconst 1, 1) := by decide +kernel
theorem dX13_opened_77 : decode cX13_opened 77 = .ok (.iaload, 1) := by decide +kernel
theorem dX13_opened_78 : decode cX13_opened 78 = .ok (.if_icmp .ge 35, 3) := by decide +kernel
theorem dX13_opened_81 : decode cX13_opened 81 = .ok (.iload 4, 2) := by decide +kernel
theorem dX13_opened_83 : decode cX13_opened 83 = .ok (.iload_n 2, 1) := by decide +kernel
theorem dX13_opened_84 : decode cX13_opened 84 = .ok (.iload 5, 2) := by decide +kernel
theorem dX13_opened_86 : decode cX13_opened 86 = .ok (.ishr, 1) := by decide +kernel
theorem dX13_opened_87 : decode cX13_opened 87 = .ok (.iconst 1, 1) := by decide +kernel
theorem dX13_opened_88 : decode cX13_opened 88 = .ok (.iand, 1) := by decide +kernel
theorem dX13_opened_89 : decode cX13_opened 89 = .ok (.iconst 1, 1) := by decide +kernel
theorem dX13_opened_90 : decode cX13_opened 90 = .ok (.if_icmp .ne 13, 3) := by decide +kernel
theorem dX13_opened_93 : decode cX13_opened 93 = .ok (.aload_n 0, 1) := by decide +kernel
theorem dX13_opened_94 : decode cX13_opened 94 = .ok (.iload 5, 2) := by decide +kernel
theorem dX13_opened_96 : decode cX13_opened 96 = .ok (.iconst 5, 1) := by decide +kernel
theorem dX13_opened_97 : decode cX13_opened 97 = .ok (.invokevirtual 351, 3) := by decide +kernel
theorem dX13_opened_100 : decode cX13_opened 100 = .ok (.goto 4, 3) := by decide +kernel
theorem dX13_opened_103 : decode cX13_opened 103 = .ok (.iconst 0, 1) := by decide +kernel
theorem dX13_opened_104 : decode cX13_opened 104 = .ok (.ior, 1) := by decide +kernel
theorem dX13_opened_105 : decode cX13_opened 105 = .ok (.istore 4, 2) := by decide +kernel
theorem dX13_opened_107 : decode cX13_opened 107 = .ok (.iinc 5 1, 3) := by decide +kernel
theorem dX13_opened_110 : decode cX13_opened 110 = .ok (.goto (-40), 3) := by decide +kernel
theorem dX13_opened_113 : decode cX13_opened 113 = .ok (.iload 4, 2) := by decide +kernel
theorem dX13_opened_115 : decode cX13_opened 115 = .ok (.invokestatic 403, 3) := by decide +kernel
theorem dX13_opened_118 : decode cX13_opened 118 = .ok (.bipush 8, 2) := by decide +kernel
theorem dX13_opened_120 : decode cX13_opened 120 = .ok (.if_icmp .le 6, 3) := by decide +kernel
theorem dX13_opened_123 : decode cX13_opened 123 = .ok (.bipush (-2), 2) := by decide +kernel
theorem dX13_opened_125 : decode cX13_opened 125 = .ok (.ireturn, 1) := by decide +kernel
theorem dX13_opened_126 : decode cX13_opened 126 = .ok (.aload_n 0, 1) := by decide +kernel
theorem dX13_opened_127 : decode cX13_opened 127 = .ok (.iload_n 2, 1) := by decide +kernel
theorem dX13_opened_128 : decode cX13_opened 128 = .ok (.invokevirtual 419, 3) := by decide +kernel
theorem dX13_opened_131 : decode cX13_opened 131 = .ok (.ifCond .eq 15, 3) := by decide +kernel
theorem dX13_opened_134 : decode cX13_opened 134 = .ok (.aload_n 0, 1) := by decide +kernel
theorem dX13_opened_135 : decode cX13_opened 135 = .ok (.iload_n 2, 1) := by decide +kernel
theorem dX13_opened_136 : decode cX13_opened 136 = .ok (.iload 4, 2) := by decide +kernel
theorem dX13_opened_138 : decode cX13_opened 138 = .ok (.invokevirtual 422, 3) := by decide +kernel
theorem dX13_opened_141 : decode cX13_opened 141 = .ok (.ifCond .eq 5, 3) := by decide +kernel
theorem dX13_opened_144 : decode cX13_opened 144 = .ok (.iload_n 2, 1) := by decide +kernel
theorem dX13_opened_145 : decode cX13_opened 145 = .ok (.istore_n 1, 1) := by decide +kernel
theorem dX13_opened_146 : decode cX13_opened 146 = .ok (.iinc 2 1, 3) := by decide +kernel
theorem dX13_opened_149 : decode cX13_opened 149 = .ok (.goto (-140), 3) := by decide +kernel
theorem dX13_opened_152 : decode cX13_opened 152 = .ok (.iload_n 1, 1) := by decide +kernel
theorem dX13_opened_153 : decode cX13_opened 153 = .ok (.ireturn, 1) := by decide +kernel
set_option maxRecDepth 20000 in
theorem ggX13_cheapOn_X13_feeBy : GoodIn wsX13_cheapOn wsX13_feeBy := goodIn_r _ [12, 13, 14, 15, 16, 17, 3, 18, 19, 20, 21, 22, 23, 24, 25, 11, 26, 27, 28, 29, 30, 31, 41, 42, 43, 44, 45, 46, 47, 48, 49, 50, 51, 52, 53, 54, 55, 56, 57, 58, 59, 60, 61, 62, 63, 64, 65, 66, 67, 68, 69, 70, 71, 72, 73, 74, 75, 76, 77, 78, 79, 80, 81, 82, 83, 84, 85, 86, 87, 88, 89, 90, 91, 92, 93, 94, 95, 96, 97, 98, 99, 100, 101, 102, 103, 104, 105, 106, 107] rfl (by decide +kernel)
set_option maxRecDepth 20000 in
theorem gX13_cheapOn_X13_feeBy : GoodIn wsX13_cheapOn (wsV RX13 360 RX13 yX13_feeBy wsX13_feeBy) := goodIn_app (goodIn_of _ (by decide +kernel)) ggX13_cheapOn_X13_feeBy
set_option maxRecDepth 20000 in
theorem ggX13_cheapOn_X13_cheapOn : GoodIn wsX13_cheapOn wsX13_cheapOn := goodIn_r _ [0, 1, 2, 3, 4, 5, 6, 7, 8, 9, 10, 11, 12, 13, 14, 15, 16, 17, 18, 19, 20, 21, 22, 23, 24, 25, 26, 27, 28, 29, 30, 31, 32, 33, 34, 35, 36, 37, 38, 39, 40, 41, 42, 43, 44, 45, 46, 47, 48, 49, 50, 51, 52, 53, 54, 55, 56, 57, 58, 59, 60, 61, 62, 63, 64, 65, 66, 67, 68, 69, 70, 71, 72, 73, 74, 75, 76, 77, 78, 79, 80, 81, 82, 83, 84, 85, 86, 87, 88, 89, 90, 91, 92, 93, 94, 95, 96, 97, 98, 99, 100, 101, 102, 103, 104, 105, 106, 107] rfl (by decide +kernel)
set_option maxRecDepth 20000 in
theorem gX13_cheapOn_X13_cheapOn : GoodIn wsX13_cheapOn (wsV RX13 431 RX13 yX13_cheapOn wsX13_cheapOn) := goodIn_app (goodIn_of _ (by decide +kernel)) ggX13_cheapOn_X13_cheapOn
set_option maxRecDepth 20000 in
theorem ggX13_cheapOn_X13_priceOf : GoodIn wsX13_cheapOn wsX13_priceOf := goodIn_r _ [38, 3, 6, 39, 40, 41, 42, 43, 44, 45, 46, 47, 48, 49, 50, 51, 52, 53, 54, 55, 56, 57, 58, 59, 60, 61, 62, 63, 64, 65, 66, 67, 68, 69, 70, 71, 72, 73, 74, 75, 76, 77, 78, 79, 80, 81, 82, 83, 84, 85, 86, 87, 88, 89, 90, 91, 92, 93, 94, 95, 96, 97, 98, 99, 100, 101, 102, 103, 104, 105, 106, 107] rfl (by decide +kernel)
set_option maxRecDepth 20000 in
theorem gX13_cheapOn_X13_priceOf : GoodIn wsX13_cheapOn (wsV RX13 369 RX13 yX13_priceOf wsX13_priceOf) := goodIn_app (goodIn_of _ (by decide +kernel)) ggX13_cheapOn_X13_priceOf
theorem dX13_cheapOn_0 : decode cX13_cheapOn 0 = .ok (.aload_n 0, 1) := by decide +kernel
theorem dX13_cheapOn_1 : decode cX13_cheapOn 1 = .ok (.getfield 425, 3) := by decide +kernel
theorem dX13_cheapOn_4 : decode cX13_cheapOn 4 = .ok (.ifCond .eq 13, 3) := by decide +kernel
theorem dX13_cheapOn_7 : decode cX13_cheapOn 7 = .ok (.iload 6, 2) := by decide +kernel
theorem dX13_cheapOn_9 : decode cX13_cheapOn 9 = .ok (.aload_n 0, 1) := by decide +kernel
theorem dX13_cheapOn_10 : decode cX13_cheapOn 10 = .ok (.getfield 428, 3) := by decide +kernel
theorem dX13_cheapOn_13 : decode cX13_cheapOn 13 = .ok (.if_icmp .lt 4, 3) := by decide +kernel
theorem dX13_cheapOn_16 : decode cX13_cheapOn 16 = .ok (.return_, 1) := by decide +kernel
theorem dX13_cheapOn_17 : decode cX13_cheapOn 17 = .ok (.iload_n 2, 1) := by decide +kernel
theorem dX13_cheapOn_18 : decode cX13_cheapOn 18 = .ok (.aload_n 0, 1) := by decide +kernel
theorem dX13_cheapOn_19 : decode cX13_cheapOn 19 = .ok (.getfield 40, 3) := by decide +kernel
theorem dX13_cheapOn_22 : decode cX13_cheapOn 22 = .ok (.iconst 2, 1) := by decide +kernel
theorem dX13_cheapOn_23 : decode cX13_cheapOn 23 = .ok (.iaload, 1) := by decide +kernel
theorem dX13_cheapOn_24 : decode cX13_cheapOn 24 = .ok (.if_icmp .ne 80, 3) := by decide +kernel
theorem dX13_cheapOn_27 : decode cX13_cheapOn 27 = .ok (.iload 6, 2) := by decide +kernel
theorem dX13_cheapOn_29 : decode cX13_cheapOn 29 = .ok (.aload_n 0, 1) := by decide +kernel
theorem dX13_cheapOn_30 : decode cX13_cheapOn 30 = .ok (.iload_n 1, 1) := by decide +kernel
theorem dX13_cheapOn_31 : decode cX13_cheapOn 31 = .ok (.iload 4, 2) := by decide +kernel
theorem dX13_cheapOn_33 : decode cX13_cheapOn 33 = .ok (.iload 5, 2) := by decide +kernel
theorem dX13_cheapOn_35 : decode cX13_cheapOn 35 = .ok (.invokevirtual 360, 3) := by decide +kernel
theorem dX13_cheapOn_38 : decode cX13_cheapOn 38 = .ok (.iadd, 1) := by decide +kernel
theorem dX13_cheapOn_39 : decode cX13_cheapOn 39 = .ok (.istore 7, 2) := by decide +kernel
theorem dX13_cheapOn_41 : decode cX13_cheapOn 41 = .ok (.aload_n 0, 1) := by decide +kernel
theorem dX13_cheapOn_42 : decode cX13_cheapOn 42 = .ok (.getfield 425, 3) := by decide +kernel
theorem dX13_cheapOn_45 : decode cX13_cheapOn 45 = .ok (.ifCond .eq 13, 3) := by decide +kernel
theorem dX13_cheapOn_48 : decode cX13_cheapOn 48 = .ok (.iload 7, 2) := by decide +kernel
theorem dX13_cheapOn_50 : decode cX13_cheapOn 50 = .ok (.aload_n 0, 1) := by decide +kernel
theorem dX13_cheapOn_51 : decode cX13_cheapOn 51 = .ok (.getfield 428, 3) := by decide +kernel
theorem dX13_cheapOn_54 : decode cX13_cheapOn 54 = .ok (.if_icmp .lt 4, 3) := by decide +kernel
theorem dX13_cheapOn_57 : decode cX13_cheapOn 57 = .ok (.return_, 1) := by decide +kernel
theorem dX13_cheapOn_58 : decode cX13_cheapOn 58 = .ok (.aload_n 0, 1) := by decide +kernel
theorem dX13_cheapOn_59 : decode cX13_cheapOn 59 = .ok (.iconst 1, 1) := by decide +kernel
theorem dX13_cheapOn_60 : decode cX13_cheapOn 60 = .ok (.putfield 425, 3) := by decide +kernel
theorem dX13_cheapOn_63 : decode cX13_cheapOn 63 = .ok (.aload_n 0, 1) := by decide +kernel
theorem dX13_cheapOn_64 : decode cX13_cheapOn 64 = .ok (.iload 7, 2) := by decide +kernel
theorem dX13_cheapOn_66 : decode cX13_cheapOn 66 = .ok (.putfield 428, 3) := by decide +kernel
theorem dX13_cheapOn_69 : decode cX13_cheapOn 69 = .ok (.iconst 0, 1) := by decide +kernel
theorem dX13_cheapOn_70 : decode cX13_cheapOn 70 = .ok (.istore 8, 2) := by decide +kernel
theorem dX13_cheapOn_72 : decode cX13_cheapOn 72 = .ok (.iload 8, 2) := by decide +kernel
theorem dX13_cheapOn_74 : decode cX13_cheapOn 74 = .ok (.aload_n 0, 1) := by decide +kernel
theorem dX13_cheapOn_75 : decode cX13_cheapOn 75 = .ok (.getfield 40, 3) := by decide +kernel
theorem dX13_cheapOn_78 : decode cX13_cheapOn 78 = .ok (.iconst 2, 1) := by decide +kernel
theorem dX13_cheapOn_79 : decode cX13_cheapOn 79 = .ok (.iaload, 1) := by decide +kernel
theorem dX13_cheapOn_80 : decode cX13_cheapOn 80 = .ok (.if_icmp .ge 23, 3) := by decide +kernel
theorem dX13_cheapOn_83 : decode cX13_cheapOn 83 = .ok (.aload_n 0, 1) := by decide +kernel
theorem dX13_cheapOn_84 : decode cX13_cheapOn 84 = .ok (.getfield 124, 3) := by decide +kernel
theorem dX13_cheapOn_87 : decode cX13_cheapOn 87 = .ok (.iload 8, 2) := by decide +kernel
theorem dX13_cheapOn_89 : decode cX13_cheapOn 89 = .ok (.aload_n 0, 1) := by decide +kernel
theorem dX13_cheapOn_90 : decode cX13_cheapOn 90 = .ok (.getfield 127, 3) := by decide +kernel
theorem dX13_cheapOn_93 : decode cX13_cheapOn 93 = .ok (.iload 8, 2) := by decide +kernel
theorem dX13_cheapOn_95 : decode cX13_cheapOn 95 = .ok (.iaload, 1) := by decide +kernel
theorem dX13_cheapOn_96 : decode cX13_cheapOn 96 = .ok (.iastore, 1) := by decide +kernel
theorem dX13_cheapOn_97 : decode cX13_cheapOn 97 = .ok (.iinc 8 1, 3) := by decide +kernel
theorem dX13_cheapOn_100 : decode cX13_cheapOn 100 = .ok (.goto (-28), 3) := by decide +kernel
theorem dX13_cheapOn_103 : decode cX13_cheapOn 103 = .ok (.return_, 1) := by decide +kernel
theorem dX13_cheapOn_104 : decode cX13_cheapOn 104 = .ok (.aload_n 0, 1) := by decide +kernel
theorem dX13_cheapOn_105 : decode cX13_cheapOn 105 = .ok (.getfield 127, 3) := by decide +kernel
theorem dX13_cheapOn_108 : decode cX13_cheapOn 108 = .ok (.iload_n 2, 1) := by decide +kernel
theorem dX13_cheapOn_109 : decode cX13_cheapOn 109 = .ok (.iconst 0, 1) := by decide +kernel
theorem dX13_cheapOn_110 : decode cX13_cheapOn 110 = .ok (.iastore, 1) := by decide +kernel
theorem dX13_cheapOn_111 : decode cX13_cheapOn 111 = .ok (.iload_n 3, 1) := by decide +kernel
theorem dX13_cheapOn_112 : decode cX13_cheapOn 112 = .ok (.iload_n 2, 1) := by decide +kernel
theorem dX13_cheapOn_113 : decode cX13_cheapOn 113 = .ok (.ishr, 1) := by decide +kernel
theorem dX13_cheapOn_114 : decode cX13_cheapOn 114 = .ok (.iconst 1, 1) := by decide +kernel
theorem dX13_cheapOn_115 : decode cX13_cheapOn 115 = .ok (.iand, 1) := by decide +kernel
theorem dX13_cheapOn_116 : decode cX13_cheapOn 116 = .ok (.ifCond .ne 19, 3) := by decide +kernel
theorem dX13_cheapOn_119 : decode cX13_cheapOn 119 = .ok (.aload_n 0, 1) := by decide +kernel
theorem dX13_cheapOn_120 : decode cX13_cheapOn 120 = .ok (.iload_n 1, 1) := by decide +kernel
theorem dX13_cheapOn_121 : decode cX13_cheapOn 121 = .ok (.iload_n 2, 1) := by decide +kernel
theorem dX13_cheapOn_122 : decode cX13_cheapOn 122 = .ok (.iconst 1, 1) := by decide +kernel
theorem dX13_cheapOn_123 : decode cX13_cheapOn 123 = .ok (.iadd, 1) := by decide +kernel
theorem dX13_cheapOn_124 : decode cX13_cheapOn 124 = .ok (.iload_n 3, 1) := by decide +kernel
theorem dX13_cheapOn_125 : decode cX13_cheapOn 125 = .ok (.iload 4, 2) := by decide +kernel
theorem dX13_cheapOn_127 : decode cX13_cheapOn 127 = .ok (.iload 5, 2) := by decide +kernel
theorem dX13_cheapOn_129 : decode cX13_cheapOn 129 = .ok (.iload 6, 2) := by decide +kernel
theorem dX13_cheapOn_131 : decode cX13_cheapOn 131 = .ok (.invokevirtual 431, 3) := by decide +kernel
theorem dX13_cheapOn_134 : decode cX13_cheapOn 134 = .ok (.return_, 1) := by decide +kernel
theorem dX13_cheapOn_135 : decode cX13_cheapOn 135 = .ok (.aload_n 0, 1) := by decide +kernel
theorem dX13_cheapOn_136 : decode cX13_cheapOn 136 = .ok (.iload_n 1, 1) := by decide +kernel
theorem dX13_cheapOn_137 : decode cX13_cheapOn 137 = .ok (.iload_n 2, 1) := by decide +kernel
theorem dX13_cheapOn_138 : decode cX13_cheapOn 138 = .ok (.iconst 1, 1) := by decide +kernel
theorem dX13_cheapOn_139 : decode cX13_cheapOn 139 = .ok (.iadd, 1) := by decide +kernel
theorem dX13_cheapOn_140 : decode cX13_cheapOn 140 = .ok (.iload_n 3, 1) := by decide +kernel
theorem dX13_cheapOn_141 : decode cX13_cheapOn 141 = .ok (.iload 4, 2) := by decide +kernel
theorem dX13_cheapOn_143 : decode cX13_cheapOn 143 = .ok (.aload_n 0, 1) := by decide +kernel
theorem dX13_cheapOn_144 : decode cX13_cheapOn 144 = .ok (.getfield 69, 3) := by decide +kernel
theorem dX13_cheapOn_147 : decode cX13_cheapOn 147 = .ok (.iload_n 2, 1) := by decide +kernel
theorem dX13_cheapOn_148 : decode cX13_cheapOn 148 = .ok (.iaload, 1) := by decide +kernel
theorem dX13_cheapOn_149 : decode cX13_cheapOn 149 = .ok (.iadd, 1) := by decide +kernel
theorem dX13_cheapOn_150 : decode cX13_cheapOn 150 = .ok (.iload 5, 2) := by decide +kernel
theorem dX13_cheapOn_152 : decode cX13_cheapOn 152 = .ok (.iconst 1, 1) := by decide +kernel
theorem dX13_cheapOn_153 : decode cX13_cheapOn 153 = .ok (.iadd, 1) := by decide +kernel
theorem dX13_cheapOn_154 : decode cX13_cheapOn 154 = .ok (.iload 6, 2) := by decide +kernel
theorem dX13_cheapOn_156 : decode cX13_cheapOn 156 = .ok (.invokevirtual 431, 3) := by decide +kernel
theorem dX13_cheapOn_159 : decode cX13_cheapOn 159 = .ok (.aload_n 0, 1) := by decide +kernel
theorem dX13_cheapOn_160 : decode cX13_cheapOn 160 = .ok (.getfield 127, 3) := by decide +kernel
theorem dX13_cheapOn_163 : decode cX13_cheapOn 163 = .ok (.iload_n 2, 1) := by decide +kernel
theorem dX13_cheapOn_164 : decode cX13_cheapOn 164 = .ok (.iconst 1, 1) := by decide +kernel
theorem dX13_cheapOn_165 : decode cX13_cheapOn 165 = .ok (.iastore, 1) := by decide +kernel
theorem dX13_cheapOn_166 : decode cX13_cheapOn 166 = .ok (.aload_n 0, 1) := by decide +kernel
theorem dX13_cheapOn_167 : decode cX13_cheapOn 167 = .ok (.iload_n 1, 1) := by decide +kernel
theorem dX13_cheapOn_168 : decode cX13_cheapOn 168 = .ok (.iload_n 2, 1) := by decide +kernel
theorem dX13_cheapOn_169 : decode cX13_cheapOn 169 = .ok (.iconst 1, 1) := by decide +kernel
theorem dX13_cheapOn_170 : decode cX13_cheapOn 170 = .ok (.iadd, 1) := by decide +kernel
theorem dX13_cheapOn_171 : decode cX13_cheapOn 171 = .ok (.iload_n 3, 1) := by decide +kernel
theorem dX13_cheapOn_172 : decode cX13_cheapOn 172 = .ok (.iload 4, 2) := by decide +kernel
theorem dX13_cheapOn_174 : decode cX13_cheapOn 174 = .ok (.iload 5, 2) := by decide +kernel
theorem dX13_cheapOn_176 : decode cX13_cheapOn 176 = .ok (.iload 6, 2) := by decide +kernel
theorem dX13_cheapOn_178 : decode cX13_cheapOn 178 = .ok (.aload_n 0, 1) := by decide +kernel
theorem dX13_cheapOn_179 : decode cX13_cheapOn 179 = .ok (.getfield 78, 3) := by decide +kernel
theorem dX13_cheapOn_182 : decode cX13_cheapOn 182 = .ok (.iload_n 2, 1) := by decide +kernel
theorem dX13_cheapOn_183 : decode cX13_cheapOn 183 = .ok (.iaload, 1) := by decide +kernel
theorem dX13_cheapOn_184 : decode cX13_cheapOn 184 = .ok (.iadd, 1) := by decide +kernel
theorem dX13_cheapOn_185 : decode cX13_cheapOn 185 = .ok (.invokevirtual 431, 3) := by decide +kernel
theorem dX13_cheapOn_188 : decode cX13_cheapOn 188 = .ok (.aload_n 0, 1) := by decide +kernel
theorem dX13_cheapOn_189 : decode cX13_cheapOn 189 = .ok (.getfield 127, 3) := by decide +kernel
theorem dX13_cheapOn_192 : decode cX13_cheapOn 192 = .ok (.iload_n 2, 1) := by decide +kernel
theorem dX13_cheapOn_193 : decode cX13_cheapOn 193 = .ok (.iconst 2, 1) := by decide +kernel
theorem dX13_cheapOn_194 : decode cX13_cheapOn 194 = .ok (.iastore, 1) := by decide +kernel
theorem dX13_cheapOn_195 : decode cX13_cheapOn 195 = .ok (.aload_n 0, 1) := by decide +kernel
theorem dX13_cheapOn_196 : decode cX13_cheapOn 196 = .ok (.iload_n 2, 1) := by decide +kernel
theorem dX13_cheapOn_197 : decode cX13_cheapOn 197 = .ok (.invokevirtual 369, 3) := by decide +kernel
theorem dX13_cheapOn_200 : decode cX13_cheapOn 200 = .ok (.iconst (-1), 1) := by decide +kernel
theorem dX13_cheapOn_201 : decode cX13_cheapOn 201 = .ok (.if_icmp .eq 24, 3) := by decide +kernel
theorem dX13_cheapOn_204 : decode cX13_cheapOn 204 = .ok (.aload_n 0, 1) := by decide +kernel
theorem dX13_cheapOn_205 : decode cX13_cheapOn 205 = .ok (.iload_n 1, 1) := by decide +kernel
theorem dX13_cheapOn_206 : decode cX13_cheapOn 206 = .ok (.iload_n 2, 1) := by decide +kernel
theorem dX13_cheapOn_207 : decode cX13_cheapOn 207 = .ok (.iconst 1, 1) := by decide +kernel
theorem dX13_cheapOn_208 : decode cX13_cheapOn 208 = .ok (.iadd, 1) := by decide +kernel
theorem dX13_cheapOn_209 : decode cX13_cheapOn 209 = .ok (.iload_n 3, 1) := by decide +kernel
theorem dX13_cheapOn_210 : decode cX13_cheapOn 210 = .ok (.iload 4, 2) := by decide +kernel
theorem dX13_cheapOn_212 : decode cX13_cheapOn 212 = .ok (.iload 5, 2) := by decide +kernel
theorem dX13_cheapOn_214 : decode cX13_cheapOn 214 = .ok (.iload 6, 2) := by decide +kernel
theorem dX13_cheapOn_216 : decode cX13_cheapOn 216 = .ok (.aload_n 0, 1) := by decide +kernel
theorem dX13_cheapOn_217 : decode cX13_cheapOn 217 = .ok (.iload_n 2, 1) := by decide +kernel
theorem dX13_cheapOn_218 : decode cX13_cheapOn 218 = .ok (.invokevirtual 369, 3) := by decide +kernel
theorem dX13_cheapOn_221 : decode cX13_cheapOn 221 = .ok (.iadd, 1) := by decide +kernel
theorem dX13_cheapOn_222 : decode cX13_cheapOn 222 = .ok (.invokevirtual 431, 3) := by decide +kernel
theorem dX13_cheapOn_225 : decode cX13_cheapOn 225 = .ok (.aload_n 0, 1) := by decide +kernel
theorem dX13_cheapOn_226 : decode cX13_cheapOn 226 = .ok (.getfield 127, 3) := by decide +kernel
theorem dX13_cheapOn_229 : decode cX13_cheapOn 229 = .ok (.iload_n 2, 1) := by decide +kernel
theorem dX13_cheapOn_230 : decode cX13_cheapOn 230 = .ok (.iconst 0, 1) := by decide +kernel
theorem dX13_cheapOn_231 : decode cX13_cheapOn 231 = .ok (.iastore, 1) := by decide +kernel
theorem dX13_cheapOn_232 : decode cX13_cheapOn 232 = .ok (.return_, 1) := by decide +kernel
set_option maxRecDepth 20000 in
theorem ggX13_cheap_X13_isCase : GoodIn wsX13_cheap wsX13_isCase := goodIn_r _ [10, 11, 12, 13, 9, 14, 64, 65, 66, 67, 68, 69, 70, 71, 72, 73, 74, 75, 76, 77, 78, 79, 80, 81, 82, 83, 84, 85, 86, 87, 88, 89, 90, 91, 92, 93, 94, 95, 96, 97, 98, 99, 100, 101, 102, 103, 104, 105, 106, 107, 108, 109, 110, 111, 112, 113, 114, 115, 116, 117, 118, 119, 120, 121, 122, 123, 124, 125, 126, 127, 128, 129, 130] rfl (by decide +kernel)
set_option maxRecDepth 20000 in
theorem gX13_cheap_X13_isCase : GoodIn wsX13_cheap (wsV RX13 363 RX13 yX13_isCase wsX13_isCase) := goodIn_app (goodIn_of _ (by decide +kernel)) ggX13_cheap_X13_isCase
set_option maxRecDepth 20000 in
theorem ggX13_cheap_X13_fail : GoodIn wsX13_cheap wsX13_fail := goodIn_r _ [18, 1, 64, 65, 66, 67, 68, 69, 70, 71, 72, 73, 74, 75, 76, 77, 78, 79, 80, 81, 82, 83, 84, 85, 86, 87, 88, 89, 90, 91, 92, 93, 94, 95, 96, 97, 98, 99, 100, 101, 102, 103, 104, 105, 106, 107, 108, 109, 110, 111, 112, 113, 114, 115, 116, 117, 118, 119, 120, 121, 122, 123, 124, 125, 126, 127, 128, 129, 130] rfl (by decide +kernel)
set_option maxRecDepth 20000 in
theorem gX13_cheap_X13_fail : GoodIn wsX13_cheap (wsV RX13 318 RX13 yX13_fail wsX13_fail) := goodIn_app (goodIn_of _ (by decide +kernel)) ggX13_cheap_X13_fail
set_option maxRecDepth 20000 in
theorem ggX13_cheap_X13_sumAt : GoodIn wsX13_cheap wsX13_sumAt := goodIn_r _ [22, 11, 23, 24, 25, 26, 27, 64, 65, 66, 67, 68, 69, 70, 71, 72, 73, 74, 75, 76, 77, 78, 79, 80, 81, 82, 83, 84, 85, 86, 87, 88, 89, 90, 91, 92, 93, 94, 95, 96, 97, 98, 99, 100, 101, 102, 103, 104, 105, 106, 107, 108, 109, 110, 111, 112, 113, 114, 115, 116, 117, 118, 119, 120, 121, 122, 123, 124, 125, 126, 127, 128, 129, 130] rfl (by decide +kernel)
set_option maxRecDepth 20000 in
theorem gX13_cheap_X13_sumAt : GoodIn wsX13_cheap (wsV RX13 351 RX13 yX13_sumAt wsX13_sumAt) := goodIn_app (goodIn_of _ (by decide +kernel)) ggX13_cheap_X13_sumAt
set_option maxRecDepth 20000 in
theorem ggX13_cheap_X13_cheapOn : GoodIn wsX13_cheap wsX13_cheapOn := goodIn_r _ [31, 2, 5, 11, 32, 33, 25, 34, 35, 36, 37, 9, 38, 39, 40, 41, 42, 43, 44, 45, 46, 47, 48, 49, 50, 51, 52, 53, 54, 55, 56, 57, 28, 29, 30, 58, 59, 60, 61, 62, 63, 64, 65, 66, 67, 68, 69, 70, 71, 72, 73, 74, 75, 76, 77, 78, 79, 80, 81, 82, 83, 84, 85, 86, 87, 88, 89, 90, 91, 92, 93, 94, 95, 96, 97, 98, 99, 100, 101, 102, 103, 104, 105, 106, 107, 108, 109, 110, 111, 112, 113, 114, 115, 116, 117, 118, 119, 120, 121, 122, 123, 124, 125, 126, 127, 128, 129, 130] rfl (by decide +kernel)
set_option maxRecDepth 20000 in
theorem gX13_cheap_X13_cheapOn : GoodIn wsX13_cheap (wsV RX13 431 RX13 yX13_cheapOn wsX13_cheapOn) := goodIn_app (goodIn_of _ (by decide +kernel)) ggX13_cheap_X13_cheapOn
theorem dX13_cheap_0 : decode cX13_cheap 0 = .ok (.aload_n 0, 1) := by decide +kernel
theorem dX13_cheap_1 : decode cX13_cheap 1 = .ok (.iconst 0, 1) := by decide +kernel
theorem dX13_cheap_2 : decode cX13_cheap 2 = .ok (.putfield 173, 3) := by decide +kernel
theorem dX13_cheap_5 : decode cX13_cheap 5 = .ok (.aload_n 0, 1) := by decide +kernel
theorem dX13_cheap_6 : decode cX13_cheap 6 = .ok (.iload_n 1, 1) := by decide +kernel
theorem dX13_cheap_7 : decode cX13_cheap 7 = .ok (.invokevirtual 363, 3) := by decide +kernel
theorem dX13_cheap_10 : decode cX13_cheap 10 = .ok (.ifCond .ne 9, 3) := by decide +kernel
theorem dX13_cheap_13 : decode cX13_cheap 13 = .ok (.aload_n 0, 1) := by decide +kernel
theorem dX13_cheap_14 : decode cX13_cheap 14 = .ok (.iconst 1, 1) := by decide +kernel
theorem dX13_cheap_15 : decode cX13_cheap 15 = .ok (.invokevirtual 318, 3) := by decide +kernel
theorem dX13_cheap_18 : decode cX13_cheap 18 = .ok (.ireturn, 1) := by decide +kernel
theorem dX13_cheap_19 : decode cX13_cheap 19 = .ok (.aload_n 0, 1) := by decide +kernel
theorem dX13_cheap_20 : decode cX13_cheap 20 = .ok (.iconst 0, 1) := by decide +kernel
theorem dX13_cheap_21 : decode cX13_cheap 21 = .ok (.putfield 425, 3) := by decide +kernel
theorem dX13_cheap_24 : decode cX13_cheap 24 = .ok (.aload_n 0, 1) := by decide +kernel
theorem dX13_cheap_25 : decode cX13_cheap 25 = .ok (.iload_n 1, 1) := by decide +kernel
theorem dX13_cheap_26 : decode cX13_cheap 26 = .ok (.putfield 130, 3) := by decide +kernel
theorem dX13_cheap_29 : decode cX13_cheap 29 = .ok (.aload_n 0, 1) := by decide +kernel
theorem dX13_cheap_30 : decode cX13_cheap 30 = .ok (.aload_n 0, 1) := by decide +kernel
theorem dX13_cheap_31 : decode cX13_cheap 31 = .ok (.iload_n 1, 1) := by decide +kernel
theorem dX13_cheap_32 : decode cX13_cheap 32 = .ok (.iconst 5, 1) := by decide +kernel
theorem dX13_cheap_33 : decode cX13_cheap 33 = .ok (.invokevirtual 351, 3) := by decide +kernel
theorem dX13_cheap_36 : decode cX13_cheap 36 = .ok (.putfield 435, 3) := by decide +kernel
theorem dX13_cheap_39 : decode cX13_cheap 39 = .ok (.aload_n 0, 1) := by decide +kernel
theorem dX13_cheap_40 : decode cX13_cheap 40 = .ok (.iload_n 1, 1) := by decide +kernel
theorem dX13_cheap_41 : decode cX13_cheap 41 = .ok (.iconst 0, 1) := by decide +kernel
theorem dX13_cheap_42 : decode cX13_cheap 42 = .ok (.aload_n 0, 1) := by decide +kernel
theorem dX13_cheap_43 : decode cX13_cheap 43 = .ok (.getfield 435, 3) := by decide +kernel
theorem dX13_cheap_46 : decode cX13_cheap 46 = .ok (.iconst 0, 1) := by decide +kernel
theorem dX13_cheap_47 : decode cX13_cheap 47 = .ok (.iconst 0, 1) := by decide +kernel
theorem dX13_cheap_48 : decode cX13_cheap 48 = .ok (.iconst 0, 1) := by decide +kernel
theorem dX13_cheap_49 : decode cX13_cheap 49 = .ok (.invokevirtual 431, 3) := by decide +kernel
theorem dX13_cheap_52 : decode cX13_cheap 52 = .ok (.aload_n 0, 1) := by decide +kernel
theorem dX13_cheap_53 : decode cX13_cheap 53 = .ok (.getfield 428, 3) := by decide +kernel
theorem dX13_cheap_56 : decode cX13_cheap 56 = .ok (.ireturn, 1) := by decide +kernel
set_option maxRecDepth 20000 in
theorem ggX13_fate_X13_isThing : GoodIn wsX13_fate wsX13_isThing := goodIn_r _ [9, 10, 11, 12, 8, 13, 18, 19, 20, 21, 22, 23, 24, 25, 26, 27, 28, 29, 30, 31, 32, 33, 34, 35, 36, 37, 38, 39, 40, 41, 42, 43, 44, 45, 46, 47, 48, 49, 50, 51, 52, 53, 54, 55, 56, 57, 58, 59, 60, 61, 62, 63, 64, 65, 66, 67, 68, 69, 70, 71, 72, 73, 74, 75, 76, 77, 78, 79, 80, 81, 82, 83, 84] rfl (by decide +kernel)
set_option maxRecDepth 20000 in
theorem gX13_fate_X13_isThing : GoodIn wsX13_fate (wsV RX13 384 RX13 yX13_isThing wsX13_isThing) := goodIn_app (goodIn_of _ (by decide +kernel)) ggX13_fate_X13_isThing
set_option maxRecDepth 20000 in
theorem ggX13_fate_X13_fail : GoodIn wsX13_fate wsX13_fail := goodIn_r _ [17, 1, 18, 19, 20, 21, 22, 23, 24, 25, 26, 27, 28, 29, 30, 31, 32, 33, 34, 35, 36, 37, 38, 39, 40, 41, 42, 43, 44, 45, 46, 47, 48, 49, 50, 51, 52, 53, 54, 55, 56, 57, 58, 59, 60, 61, 62, 63, 64, 65, 66, 67, 68, 69, 70, 71, 72, 73, 74, 75, 76, 77, 78, 79, 80, 81, 82, 83, 84] rfl (by decide +kernel)
set_option maxRecDepth 20000 in
theorem gX13_fate_X13_fail : GoodIn wsX13_fate (wsV RX13 318 RX13 yX13_fail wsX13_fail) := goodIn_app (goodIn_of _ (by decide +kernel)) ggX13_fate_X13_fail
theorem dX13_fate_0 : decode cX13_fate 0 = .ok (.aload_n 0, 1) := by decide +kernel
theorem dX13_fate_1 : decode cX13_fate 1 = .ok (.iconst 0, 1) := by decide +kernel
theorem dX13_fate_2 : decode cX13_fate 2 = .ok (.putfield 173, 3) := by decide +kernel
theorem dX13_fate_5 : decode cX13_fate 5 = .ok (.aload_n 0, 1) := by decide +kernel
theorem dX13_fate_6 : decode cX13_fate 6 = .ok (.iload_n 1, 1) := by decide +kernel
theorem dX13_fate_7 : decode cX13_fate 7 = .ok (.invokevirtual 384, 3) := by decide +kernel
theorem dX13_fate_10 : decode cX13_fate 10 = .ok (.ifCond .eq 32, 3) := by decide +kernel
theorem dX13_fate_13 : decode cX13_fate 13 = .ok (.aload_n 0, 1) := by decide +kernel
theorem dX13_fate_14 : decode cX13_fate 14 = .ok (.getfield 130, 3) := by decide +kernel
theorem dX13_fate_17 : decode cX13_fate 17 = .ok (.iconst (-1), 1) := by decide +kernel
theorem dX13_fate_18 : decode cX13_fate 18 = .ok (.if_icmp .eq 24, 3) := by decide +kernel
theorem dX13_fate_21 : decode cX13_fate 21 = .ok (.aload_n 0, 1) := by decide +kernel
theorem dX13_fate_22 : decode cX13_fate 22 = .ok (.getfield 435, 3) := by decide +kernel
theorem dX13_fate_25 : decode cX13_fate 25 = .ok (.iload_n 1, 1) := by decide +kernel
theorem dX13_fate_26 : decode cX13_fate 26 = .ok (.ishr, 1) := by decide +kernel
theorem dX13_fate_27 : decode cX13_fate 27 = .ok (.iconst 1, 1) := by decide +kernel
theorem dX13_fate_28 : decode cX13_fate 28 = .ok (.iand, 1) := by decide +kernel
theorem dX13_fate_29 : decode cX13_fate 29 = .ok (.iconst 1, 1) := by decide +kernel
theorem dX13_fate_30 : decode cX13_fate 30 = .ok (.if_icmp .ne 12, 3) := by decide +kernel
theorem dX13_fate_33 : decode cX13_fate 33 = .ok (.aload_n 0, 1) := by decide +kernel
theorem dX13_fate_34 : decode cX13_fate 34 = .ok (.getfield 124, 3) := by decide +kernel
theorem dX13_fate_37 : decode cX13_fate 37 = .ok (.iload_n 1, 1) := by decide +kernel
theorem dX13_fate_38 : decode cX13_fate 38 = .ok (.iaload, 1) := by decide +kernel
theorem dX13_fate_39 : decode cX13_fate 39 = .ok (.goto 8, 3) := by decide +kernel
theorem dX13_fate_42 : decode cX13_fate 42 = .ok (.aload_n 0, 1) := by decide +kernel
theorem dX13_fate_43 : decode cX13_fate 43 = .ok (.iconst 1, 1) := by decide +kernel
theorem dX13_fate_44 : decode cX13_fate 44 = .ok (.invokevirtual 318, 3) := by decide +kernel
theorem dX13_fate_47 : decode cX13_fate 47 = .ok (.ireturn, 1) := by decide +kernel
theorem dX13_common_0 : decode cX13_common 0 = .ok (.lload_n 0, 1) := by decide +kernel
theorem dX13_common_1 : decode cX13_common 1 = .ok (.lstore 4, 2) := by decide +kernel
theorem dX13_common_3 : decode cX13_common 3 = .ok (.lload_n 2, 1) := by decide +kernel
theorem dX13_common_4 : decode cX13_common 4 = .ok (.lstore 6, 2) := by decide +kernel
theorem dX13_common_6 : decode cX13_common 6 = .ok (.lload 6, 2) := by decide +kernel
theorem dX13_common_8 : decode cX13_common 8 = .ok (.lconst 0, 1) := by decide +kernel
theorem dX13_common_9 : decode cX13_common 9 = .ok (.lcmp, 1) := by decide +kernel
theorem dX13_common_10 : decode cX13_common 10 = .ok (.ifCond .eq 21, 3) := by decide +kernel
theorem dX13_common_13 : decode cX13_common 13 = .ok (.lload 4, 2) := by decide +kernel
theorem dX13_common_15 : decode cX13_common 15 = .ok (.lload 6, 2) := by decide +kernel
theorem dX13_common_17 : decode cX13_common 17 = .ok (.lrem, 1) := by decide +kernel
theorem dX13_common_18 : decode cX13_common 18 = .ok (.lstore 8, 2) := by decide +kernel
theorem dX13_common_20 : decode cX13_common 20 = .ok (.lload 6, 2) := by decide +kernel
theorem dX13_common_22 : decode cX13_common 22 = .ok (.lstore 4, 2) := by decide +kernel
theorem dX13_common_24 : decode cX13_common 24 = .ok (.lload 8, 2) := by decide +kernel
theorem dX13_common_26 : decode cX13_common 26 = .ok (.lstore 6, 2) := by decide +kernel
theorem dX13_common_28 : decode cX13_common 28 = .ok (.goto (-22), 3) := by decide +kernel
theorem dX13_common_31 : decode cX13_common 31 = .ok (.lload 4, 2) := by decide +kernel
theorem dX13_common_33 : decode cX13_common 33 = .ok (.lreturn, 1) := by decide +kernel
theorem dX13_unsureAt_0 : decode cX13_unsureAt 0 = .ok (.iconst 0, 1) := by decide +kernel
theorem dX13_unsureAt_1 : decode cX13_unsureAt 1 = .ok (.istore_n 2, 1) := by decide +kernel
theorem dX13_unsureAt_2 : decode cX13_unsureAt 2 = .ok (.iconst 0, 1) := by decide +kernel
theorem dX13_unsureAt_3 : decode cX13_unsureAt 3 = .ok (.istore_n 3, 1) := by decide +kernel
theorem dX13_unsureAt_4 : decode cX13_unsureAt 4 = .ok (.iload_n 3, 1) := by decide +kernel
theorem dX13_unsureAt_5 : decode cX13_unsureAt 5 = .ok (.aload_n 0, 1) := by decide +kernel
theorem dX13_unsureAt_6 : decode cX13_unsureAt 6 = .ok (.getfield 40, 3) := by decide +kernel
theorem dX13_unsureAt_9 : decode cX13_unsureAt 9 = .ok (.iconst 2, 1) := by decide +kernel
theorem dX13_unsureAt_10 : decode cX13_unsureAt 10 = .ok (.iaload, 1) := by decide +kernel
theorem dX13_unsureAt_11 : decode cX13_unsureAt 11 = .ok (.if_icmp .ge 32, 3) := by decide +kernel
theorem dX13_unsureAt_14 : decode cX13_unsureAt 14 = .ok (.iload_n 2, 1) := by decide +kernel
theorem dX13_unsureAt_15 : decode cX13_unsureAt 15 = .ok (.aload_n 0, 1) := by decide +kernel
theorem dX13_unsureAt_16 : decode cX13_unsureAt 16 = .ok (.getfield 84, 3) := by decide +kernel
theorem dX13_unsureAt_19 : decode cX13_unsureAt 19 = .ok (.iload_n 3, 1) := by decide +kernel
theorem dX13_unsureAt_20 : decode cX13_unsureAt 20 = .ok (.iaload, 1) := by decide +kernel
theorem dX13_unsureAt_21 : decode cX13_unsureAt 21 = .ok (.iload_n 1, 1) := by decide +kernel
theorem dX13_unsureAt_22 : decode cX13_unsureAt 22 = .ok (.if_icmp .ne 12, 3) := by decide +kernel
theorem dX13_unsureAt_25 : decode cX13_unsureAt 25 = .ok (.aload_n 0, 1) := by decide +kernel
theorem dX13_unsureAt_26 : decode cX13_unsureAt 26 = .ok (.getfield 72, 3) := by decide +kernel
theorem dX13_unsureAt_29 : decode cX13_unsureAt 29 = .ok (.iload_n 3, 1) := by decide +kernel
theorem dX13_unsureAt_30 : decode cX13_unsureAt 30 = .ok (.iaload, 1) := by decide +kernel
theorem dX13_unsureAt_31 : decode cX13_unsureAt 31 = .ok (.goto 4, 3) := by decide +kernel
theorem dX13_unsureAt_34 : decode cX13_unsureAt 34 = .ok (.iconst 0, 1) := by decide +kernel
theorem dX13_unsureAt_35 : decode cX13_unsureAt 35 = .ok (.iadd, 1) := by decide +kernel
theorem dX13_unsureAt_36 : decode cX13_unsureAt 36 = .ok (.istore_n 2, 1) := by decide +kernel
theorem dX13_unsureAt_37 : decode cX13_unsureAt 37 = .ok (.iinc 3 1, 3) := by decide +kernel
theorem dX13_unsureAt_40 : decode cX13_unsureAt 40 = .ok (.goto (-36), 3) := by decide +kernel
theorem dX13_unsureAt_43 : decode cX13_unsureAt 43 = .ok (.iload_n 2, 1) := by decide +kernel
theorem dX13_unsureAt_44 : decode cX13_unsureAt 44 = .ok (.ireturn, 1) := by decide +kernel
set_option maxRecDepth 20000 in
theorem ggX13_waysOf_X13_sumAt : GoodIn wsX13_waysOf wsX13_sumAt := goodIn_r _ [15, 2, 3, 16, 17, 18, 19, 24, 25, 26, 27, 28, 29, 30, 31, 32, 33, 34, 35, 36, 37, 38, 39, 40, 41, 42, 43, 44, 45, 46, 47, 48, 49, 50, 51, 52, 53, 54, 55, 56, 57, 58, 59, 60, 61, 62, 63, 64, 65, 66, 67, 68, 69, 70, 71, 72, 73, 74, 75, 76, 77, 78, 79, 80, 81, 82, 83, 84, 85, 86, 87, 88, 89, 90] rfl (by decide +kernel)
set_option maxRecDepth 20000 in
theorem gX13_waysOf_X13_sumAt : GoodIn wsX13_waysOf (wsV RX13 351 RX13 yX13_sumAt wsX13_sumAt) := goodIn_app (goodIn_of _ (by decide +kernel)) ggX13_waysOf_X13_sumAt
set_option maxRecDepth 20000 in
theorem ggX13_waysOf_X13_unsureAt : GoodIn wsX13_waysOf wsX13_unsureAt := goodIn_r _ [23, 2, 3, 4, 24, 25, 26, 27, 28, 29, 30, 31, 32, 33, 34, 35, 36, 37, 38, 39, 40, 41, 42, 43, 44, 45, 46, 47, 48, 49, 50, 51, 52, 53, 54, 55, 56, 57, 58, 59, 60, 61, 62, 63, 64, 65, 66, 67, 68, 69, 70, 71, 72, 73, 74, 75, 76, 77, 78, 79, 80, 81, 82, 83, 84, 85, 86, 87, 88, 89, 90] rfl (by decide +kernel)
set_option maxRecDepth 20000 in
theorem gX13_waysOf_X13_unsureAt : GoodIn wsX13_waysOf (wsV RX13 438 RX13 yX13_unsureAt wsX13_unsureAt) := goodIn_app (goodIn_of _ (by decide +kernel)) ggX13_waysOf_X13_unsureAt
theorem dX13_waysOf_0 : decode cX13_waysOf 0 = .ok (.iconst 1, 1) := by decide +kernel
theorem dX13_waysOf_1 : decode cX13_waysOf 1 = .ok (.istore_n 3, 1) := by decide +kernel
theorem dX13_waysOf_2 : decode cX13_waysOf 2 = .ok (.aload_n 0, 1) := by decide +kernel
theorem dX13_waysOf_3 : decode cX13_waysOf 3 = .ok (.getfield 133, 3) := by decide +kernel
theorem dX13_waysOf_6 : decode cX13_waysOf 6 = .ok (.iconst 0, 1) := by decide +kernel
theorem dX13_waysOf_7 : decode cX13_waysOf 7 = .ok (.lconst 1, 1) := by decide +kernel
theorem dX13_waysOf_8 : decode cX13_waysOf 8 = .ok (.lastore, 1) := by decide +kernel
theorem dX13_waysOf_9 : decode cX13_waysOf 9 = .ok (.lconst 1, 1) := by decide +kernel
theorem dX13_waysOf_10 : decode cX13_waysOf 10 = .ok (.lstore 4, 2) := by decide +kernel
theorem dX13_waysOf_12 : decode cX13_waysOf 12 = .ok (.iconst 0, 1) := by decide +kernel
theorem dX13_waysOf_13 : decode cX13_waysOf 13 = .ok (.istore 6, 2) := by decide +kernel
theorem dX13_waysOf_15 : decode cX13_waysOf 15 = .ok (.iload 6, 2) := by decide +kernel
theorem dX13_waysOf_17 : decode cX13_waysOf 17 = .ok (.aload_n 0, 1) := by decide +kernel
theorem dX13_waysOf_18 : decode cX13_waysOf 18 = .ok (.getfield 40, 3) := by decide +kernel
theorem dX13_waysOf_21 : decode cX13_waysOf 21 = .ok (.iconst 2, 1) := by decide +kernel
theorem dX13_waysOf_22 : decode cX13_waysOf 22 = .ok (.iaload, 1) := by decide +kernel
theorem dX13_waysOf_23 : decode cX13_waysOf 23 = .ok (.if_icmp .ge 160, 3) := by decide +kernel
theorem dX13_waysOf_26 : decode cX13_waysOf 26 = .ok (.aload_n 0, 1) := by decide +kernel
theorem dX13_waysOf_27 : decode cX13_waysOf 27 = .ok (.getfield 84, 3) := by decide +kernel
theorem dX13_waysOf_30 : decode cX13_waysOf 30 = .ok (.iload 6, 2) := by decide +kernel
theorem dX13_waysOf_32 : decode cX13_waysOf 32 = .ok (.iaload, 1) := by decide +kernel
theorem dX13_waysOf_33 : decode cX13_waysOf 33 = .ok (.iload_n 1, 1) := by decide +kernel
theorem dX13_waysOf_34 : decode cX13_waysOf 34 = .ok (.if_icmp .eq 6, 3) := by decide +kernel
theorem dX13_waysOf_37 : decode cX13_waysOf 37 = .ok (.goto 140, 3) := by decide +kernel
theorem dX13_waysOf_40 : decode cX13_waysOf 40 = .ok (.iconst 2, 1) := by decide +kernel
theorem dX13_waysOf_41 : decode cX13_waysOf 41 = .ok (.aload_n 0, 1) := by decide +kernel
theorem dX13_waysOf_42 : decode cX13_waysOf 42 = .ok (.getfield 72, 3) := by decide +kernel
theorem dX13_waysOf_45 : decode cX13_waysOf 45 = .ok (.iload 6, 2) := by decide +kernel
theorem dX13_waysOf_47 : decode cX13_waysOf 47 = .ok (.iaload, 1) := by decide +kernel
theorem dX13_waysOf_48 : decode cX13_waysOf 48 = .ok (.imul, 1) := by decide +kernel
theorem dX13_waysOf_49 : decode cX13_waysOf 49 = .ok (.iconst 1, 1) := by decide +kernel
theorem dX13_waysOf_50 : decode cX13_waysOf 50 = .ok (.iadd, 1) := by decide +kernel
theorem dX13_waysOf_51 : decode cX13_waysOf 51 = .ok (.istore 7, 2) := by decide +kernel
theorem dX13_waysOf_53 : decode cX13_waysOf 53 = .ok (.iconst 0, 1) := by decide +kernel
theorem dX13_waysOf_54 : decode cX13_waysOf 54 = .ok (.istore 8, 2) := by decide +kernel
theorem dX13_waysOf_56 : decode cX13_waysOf 56 = .ok (.iload 8, 2) := by decide +kernel
theorem dX13_waysOf_58 : decode cX13_waysOf 58 = .ok (.iload_n 3, 1) := by decide +kernel
theorem dX13_waysOf_59 : decode cX13_waysOf 59 = .ok (.iload 7, 2) := by decide +kernel
theorem dX13_waysOf_61 : decode cX13_waysOf 61 = .ok (.iadd, 1) := by decide +kernel
theorem dX13_waysOf_62 : decode cX13_waysOf 62 = .ok (.iconst 1, 1) := by decide +kernel
theorem dX13_waysOf_63 : decode cX13_waysOf 63 = .ok (.isub, 1) := by decide +kernel
theorem dX13_waysOf_64 : decode cX13_waysOf 64 = .ok (.if_icmp .ge 69, 3) := by decide +kernel
theorem dX13_waysOf_67 : decode cX13_waysOf 67 = .ok (.aload_n 0, 1) := by decide +kernel
theorem dX13_waysOf_68 : decode cX13_waysOf 68 = .ok (.getfield 137, 3) := by decide +kernel
theorem dX13_waysOf_71 : decode cX13_waysOf 71 = .ok (.iload 8, 2) := by decide +kernel
theorem dX13_waysOf_73 : decode cX13_waysOf 73 = .ok (.lconst 0, 1) := by decide +kernel
theorem dX13_waysOf_74 : decode cX13_waysOf 74 = .ok (.lastore, 1) := by decide +kernel
theorem dX13_waysOf_75 : decode cX13_waysOf 75 = .ok (.iconst 0, 1) := by decide +kernel
theorem dX13_waysOf_76 : decode cX13_waysOf 76 = .ok (.iload 8, 2) := by decide +kernel
theorem dX13_waysOf_78 : decode cX13_waysOf 78 = .ok (.iload_n 3, 1) := by decide +kernel
theorem dX13_waysOf_79 : decode cX13_waysOf 79 = .ok (.isub, 1) := by decide +kernel
theorem dX13_waysOf_80 : decode cX13_waysOf 80 = .ok (.iconst 1, 1) := by decide +kernel
theorem dX13_waysOf_81 : decode cX13_waysOf 81 = .ok (.iadd, 1) := by decide +kernel
theorem dX13_waysOf_82 : decode cX13_waysOf 82 = .ok (.invokestatic 354, 3) := by decide +kernel
theorem dX13_waysOf_85 : decode cX13_waysOf 85 = .ok (.istore 9, 2) := by decide +kernel
theorem dX13_waysOf_87 : decode cX13_waysOf 87 = .ok (.iload 9, 2) := by decide +kernel
theorem dX13_waysOf_89 : decode cX13_waysOf 89 = .ok (.iload 7, 2) := by decide +kernel
theorem dX13_waysOf_91 : decode cX13_waysOf 91 = .ok (.if_icmp .ge 36, 3) := by decide +kernel
theorem dX13_waysOf_94 : decode cX13_waysOf 94 = .ok (.iload 9, 2) := by decide +kernel
theorem dX13_waysOf_96 : decode cX13_waysOf 96 = .ok (.iload 8, 2) := by decide +kernel
theorem dX13_waysOf_98 : decode cX13_waysOf 98 = .ok (.if_icmp .gt 29, 3) := by decide +kernel
theorem dX13_waysOf_101 : decode cX13_waysOf 101 = .ok (.aload_n 0, 1) := by decide +kernel
theorem dX13_waysOf_102 : decode cX13_waysOf 102 = .ok (.getfield 137, 3) := by decide +kernel
theorem dX13_waysOf_105 : decode cX13_waysOf 105 = .ok (.iload 8, 2) := by decide +kernel
theorem dX13_waysOf_107 : decode cX13_waysOf 107 = .ok (.dup2, 1) := by decide +kernel
theorem dX13_waysOf_108 : decode cX13_waysOf 108 = .ok (.laload, 1) := by decide +kernel
theorem dX13_waysOf_109 : decode cX13_waysOf 109 = .ok (.aload_n 0, 1) := by decide +kernel
theorem dX13_waysOf_110 : decode cX13_waysOf 110 = .ok (.getfield 133, 3) := by decide +kernel
theorem dX13_waysOf_113 : decode cX13_waysOf 113 = .ok (.iload 8, 2) := by decide +kernel
theorem dX13_waysOf_115 : decode cX13_waysOf 115 = .ok (.iload 9, 2) := by decide +kernel
theorem dX13_waysOf_117 : decode cX13_waysOf 117 = .ok (.isub, 1) := by decide +kernel
theorem dX13_waysOf_118 : decode cX13_waysOf 118 = .ok (.laload, 1) := by decide +kernel
theorem dX13_waysOf_119 : decode cX13_waysOf 119 = .ok (.ladd, 1) := by decide +kernel
theorem dX13_waysOf_120 : decode cX13_waysOf 120 = .ok (.lastore, 1) := by decide +kernel
theorem dX13_waysOf_121 : decode cX13_waysOf 121 = .ok (.iinc 9 1, 3) := by decide +kernel
theorem dX13_waysOf_124 : decode cX13_waysOf 124 = .ok (.goto (-37), 3) := by decide +kernel
theorem dX13_waysOf_127 : decode cX13_waysOf 127 = .ok (.iinc 8 1, 3) := by decide +kernel
theorem dX13_waysOf_130 : decode cX13_waysOf 130 = .ok (.goto (-74), 3) := by decide +kernel
theorem dX13_waysOf_133 : decode cX13_waysOf 133 = .ok (.iload_n 3, 1) := by decide +kernel
theorem dX13_waysOf_134 : decode cX13_waysOf 134 = .ok (.iload 7, 2) := by decide +kernel
theorem dX13_waysOf_136 : decode cX13_waysOf 136 = .ok (.iconst 1, 1) := by decide +kernel
theorem dX13_waysOf_137 : decode cX13_waysOf 137 = .ok (.isub, 1) := by decide +kernel
theorem dX13_waysOf_138 : decode cX13_waysOf 138 = .ok (.iadd, 1) := by decide +kernel
theorem dX13_waysOf_139 : decode cX13_waysOf 139 = .ok (.istore_n 3, 1) := by decide +kernel
theorem dX13_waysOf_140 : decode cX13_waysOf 140 = .ok (.iconst 0, 1) := by decide +kernel
theorem dX13_waysOf_141 : decode cX13_waysOf 141 = .ok (.istore 8, 2) := by decide +kernel
theorem dX13_waysOf_143 : decode cX13_waysOf 143 = .ok (.iload 8, 2) := by decide +kernel
theorem dX13_waysOf_145 : decode cX13_waysOf 145 = .ok (.iload_n 3, 1) := by decide +kernel
theorem dX13_waysOf_146 : decode cX13_waysOf 146 = .ok (.if_icmp .ge 23, 3) := by decide +kernel
theorem dX13_waysOf_149 : decode cX13_waysOf 149 = .ok (.aload_n 0, 1) := by decide +kernel
theorem dX13_waysOf_150 : decode cX13_waysOf 150 = .ok (.getfield 133, 3) := by decide +kernel
theorem dX13_waysOf_153 : decode cX13_waysOf 153 = .ok (.iload 8, 2) := by decide +kernel
theorem dX13_waysOf_155 : decode cX13_waysOf 155 = .ok (.aload_n 0, 1) := by decide +kernel
theorem dX13_waysOf_156 : decode cX13_waysOf 156 = .ok (.getfield 137, 3) := by decide +kernel
theorem dX13_waysOf_159 : decode cX13_waysOf 159 = .ok (.iload 8, 2) := by decide +kernel
theorem dX13_waysOf_161 : decode cX13_waysOf 161 = .ok (.laload, 1) := by decide +kernel
theorem dX13_waysOf_162 : decode cX13_waysOf 162 = .ok (.lastore, 1) := by decide +kernel
theorem dX13_waysOf_163 : decode cX13_waysOf 163 = .ok (.iinc 8 1, 3) := by decide +kernel
theorem dX13_waysOf_166 : decode cX13_waysOf 166 = .ok (.goto (-23), 3) := by decide +kernel
theorem dX13_waysOf_169 : decode cX13_waysOf 169 = .ok (.lload 4, 2) := by decide +kernel
theorem dX13_waysOf_171 : decode cX13_waysOf 171 = .ok (.iload 7, 2) := by decide +kernel
theorem dX13_waysOf_173 : decode cX13_waysOf 173 = .ok (.i2l, 1) := by decide +kernel
theorem dX13_waysOf_174 : decode cX13_waysOf 174 = .ok (.lmul, 1) := by decide +kernel
theorem dX13_waysOf_175 : decode cX13_waysOf 175 = .ok (.lstore 4, 2) := by decide +kernel
theorem dX13_waysOf_177 : decode cX13_waysOf 177 = .ok (.iinc 6 1, 3) := by decide +kernel
theorem dX13_waysOf_180 : decode cX13_waysOf 180 = .ok (.goto (-165), 3) := by decide +kernel
theorem dX13_waysOf_183 : decode cX13_waysOf 183 = .ok (.iload_n 2, 1) := by decide +kernel
theorem dX13_waysOf_184 : decode cX13_waysOf 184 = .ok (.ifCond .eq 6, 3) := by decide +kernel
theorem dX13_waysOf_187 : decode cX13_waysOf 187 = .ok (.lload 4, 2) := by decide +kernel
theorem dX13_waysOf_189 : decode cX13_waysOf 189 = .ok (.lreturn, 1) := by decide +kernel
theorem dX13_waysOf_190 : decode cX13_waysOf 190 = .ok (.aload_n 0, 1) := by decide +kernel
theorem dX13_waysOf_191 : decode cX13_waysOf 191 = .ok (.iload_n 1, 1) := by decide +kernel
theorem dX13_waysOf_192 : decode cX13_waysOf 192 = .ok (.iconst 1, 1) := by decide +kernel
theorem dX13_waysOf_193 : decode cX13_waysOf 193 = .ok (.invokevirtual 351, 3) := by decide +kernel
theorem dX13_waysOf_196 : decode cX13_waysOf 196 = .ok (.aload_n 0, 1) := by decide +kernel
theorem dX13_waysOf_197 : decode cX13_waysOf 197 = .ok (.iload_n 1, 1) := by decide +kernel
theorem dX13_waysOf_198 : decode cX13_waysOf 198 = .ok (.invokevirtual 438, 3) := by decide +kernel
theorem dX13_waysOf_201 : decode cX13_waysOf 201 = .ok (.isub, 1) := by decide +kernel
theorem dX13_waysOf_202 : decode cX13_waysOf 202 = .ok (.istore 6, 2) := by decide +kernel
theorem dX13_waysOf_204 : decode cX13_waysOf 204 = .ok (.lconst 0, 1) := by decide +kernel
theorem dX13_waysOf_205 : decode cX13_waysOf 205 = .ok (.lstore 7, 2) := by decide +kernel
theorem dX13_waysOf_207 : decode cX13_waysOf 207 = .ok (.iconst 0, 1) := by decide +kernel
theorem dX13_waysOf_208 : decode cX13_waysOf 208 = .ok (.istore 9, 2) := by decide +kernel
theorem dX13_waysOf_210 : decode cX13_waysOf 210 = .ok (.iload 9, 2) := by decide +kernel
theorem dX13_waysOf_212 : decode cX13_waysOf 212 = .ok (.iload_n 3, 1) := by decide +kernel
theorem dX13_waysOf_213 : decode cX13_waysOf 213 = .ok (.if_icmp .ge 35, 3) := by decide +kernel
theorem dX13_waysOf_216 : decode cX13_waysOf 216 = .ok (.iload 6, 2) := by decide +kernel
theorem dX13_waysOf_218 : decode cX13_waysOf 218 = .ok (.iload 9, 2) := by decide +kernel
theorem dX13_waysOf_220 : decode cX13_waysOf 220 = .ok (.iadd, 1) := by decide +kernel
theorem dX13_waysOf_221 : decode cX13_waysOf 221 = .ok (.aload_n 0, 1) := by decide +kernel
theorem dX13_waysOf_222 : decode cX13_waysOf 222 = .ok (.getfield 56, 3) := by decide +kernel
theorem dX13_waysOf_225 : decode cX13_waysOf 225 = .ok (.iload_n 1, 1) := by decide +kernel
theorem dX13_waysOf_226 : decode cX13_waysOf 226 = .ok (.iaload, 1) := by decide +kernel
theorem dX13_waysOf_227 : decode cX13_waysOf 227 = .ok (.if_icmp .gt 21, 3) := by decide +kernel
theorem dX13_waysOf_230 : decode cX13_waysOf 230 = .ok (.lload 7, 2) := by decide +kernel
theorem dX13_waysOf_232 : decode cX13_waysOf 232 = .ok (.aload_n 0, 1) := by decide +kernel
theorem dX13_waysOf_233 : decode cX13_waysOf 233 = .ok (.getfield 133, 3) := by decide +kernel
theorem dX13_waysOf_236 : decode cX13_waysOf 236 = .ok (.iload 9, 2) := by decide +kernel
theorem dX13_waysOf_238 : decode cX13_waysOf 238 = .ok (.laload, 1) := by decide +kernel
theorem dX13_waysOf_239 : decode cX13_waysOf 239 = .ok (.ladd, 1) := by decide +kernel
theorem dX13_waysOf_240 : decode cX13_waysOf 240 = .ok (.lstore 7, 2) := by decide +kernel
theorem dX13_waysOf_242 : decode cX13_waysOf 242 = .ok (.iinc 9 1, 3) := by decide +kernel
theorem dX13_waysOf_245 : decode cX13_waysOf 245 = .ok (.goto (-35), 3) := by decide +kernel
theorem dX13_waysOf_248 : decode cX13_waysOf 248 = .ok (.lload 7, 2) := by decide +kernel
theorem dX13_waysOf_250 : decode cX13_waysOf 250 = .ok (.lreturn, 1) := by decide +kernel
set_option maxRecDepth 20000 in
theorem ggX13_sureOf_X13_sumAt : GoodIn wsX13_sureOf wsX13_sumAt := goodIn_r _ [6, 7, 8, 9, 10, 11, 12, 18, 19, 20, 21, 22, 23, 24, 25, 26, 27, 28, 29, 30, 31, 32, 33, 34, 35, 36, 37, 38, 39, 40, 41, 42, 43, 44, 45, 46, 47, 48, 49, 50, 51, 52, 53, 54, 55, 56, 57, 58, 59, 60, 61, 62, 63, 64, 65, 66, 67, 68, 69, 70, 71, 72, 73, 74, 75, 76, 77, 78, 79, 80, 81, 82, 83, 84] rfl (by decide +kernel)
set_option maxRecDepth 20000 in
theorem gX13_sureOf_X13_sumAt : GoodIn wsX13_sureOf (wsV RX13 351 RX13 yX13_sumAt wsX13_sumAt) := goodIn_app (goodIn_of _ (by decide +kernel)) ggX13_sureOf_X13_sumAt
set_option maxRecDepth 20000 in
theorem ggX13_sureOf_X13_unsureAt : GoodIn wsX13_sureOf wsX13_unsureAt := goodIn_r _ [16, 7, 8, 17, 18, 19, 20, 21, 22, 23, 24, 25, 26, 27, 28, 29, 30, 31, 32, 33, 34, 35, 36, 37, 38, 39, 40, 41, 42, 43, 44, 45, 46, 47, 48, 49, 50, 51, 52, 53, 54, 55, 56, 57, 58, 59, 60, 61, 62, 63, 64, 65, 66, 67, 68, 69, 70, 71, 72, 73, 74, 75, 76, 77, 78, 79, 80, 81, 82, 83, 84] rfl (by decide +kernel)
set_option maxRecDepth 20000 in
theorem gX13_sureOf_X13_unsureAt : GoodIn wsX13_sureOf (wsV RX13 438 RX13 yX13_unsureAt wsX13_unsureAt) := goodIn_app (goodIn_of _ (by decide +kernel)) ggX13_sureOf_X13_unsureAt
theorem dX13_sureOf_0 : decode cX13_sureOf 0 = .ok (.aload_n 0, 1) := by decide +kernel
theorem dX13_sureOf_1 : decode cX13_sureOf 1 = .ok (.iload_n 1, 1) := by decide +kernel
theorem dX13_sureOf_2 : decode cX13_sureOf 2 = .ok (.iconst 1, 1) := by decide +kernel
theorem dX13_sureOf_3 : decode cX13_sureOf 3 = .ok (.invokevirtual 351, 3) := by decide +kernel
theorem dX13_sureOf_6 : decode cX13_sureOf 6 = .ok (.aload_n 0, 1) := by decide +kernel
theorem dX13_sureOf_7 : decode cX13_sureOf 7 = .ok (.iload_n 1, 1) := by decide +kernel
theorem dX13_sureOf_8 : decode cX13_sureOf 8 = .ok (.invokevirtual 438, 3) := by decide +kernel
theorem dX13_sureOf_11 : decode cX13_sureOf 11 = .ok (.iadd, 1) := by decide +kernel
theorem dX13_sureOf_12 : decode cX13_sureOf 12 = .ok (.aload_n 0, 1) := by decide +kernel
theorem dX13_sureOf_13 : decode cX13_sureOf 13 = .ok (.getfield 56, 3) := by decide +kernel
theorem dX13_sureOf_16 : decode cX13_sureOf 16 = .ok (.iload_n 1, 1) := by decide +kernel
theorem dX13_sureOf_17 : decode cX13_sureOf 17 = .ok (.iaload, 1) := by decide +kernel
theorem dX13_sureOf_18 : decode cX13_sureOf 18 = .ok (.if_icmp .gt 7, 3) := by decide +kernel
theorem dX13_sureOf_21 : decode cX13_sureOf 21 = .ok (.iconst 1, 1) := by decide +kernel
theorem dX13_sureOf_22 : decode cX13_sureOf 22 = .ok (.goto 29, 3) := by decide +kernel
theorem dX13_sureOf_25 : decode cX13_sureOf 25 = .ok (.aload_n 0, 1) := by decide +kernel
theorem dX13_sureOf_26 : decode cX13_sureOf 26 = .ok (.iload_n 1, 1) := by decide +kernel
theorem dX13_sureOf_27 : decode cX13_sureOf 27 = .ok (.iconst 1, 1) := by decide +kernel
theorem dX13_sureOf_28 : decode cX13_sureOf 28 = .ok (.invokevirtual 351, 3) := by decide +kernel
theorem dX13_sureOf_31 : decode cX13_sureOf 31 = .ok (.aload_n 0, 1) := by decide +kernel
theorem dX13_sureOf_32 : decode cX13_sureOf 32 = .ok (.iload_n 1, 1) := by decide +kernel
theorem dX13_sureOf_33 : decode cX13_sureOf 33 = .ok (.invokevirtual 438, 3) := by decide +kernel
theorem dX13_sureOf_36 : decode cX13_sureOf 36 = .ok (.isub, 1) := by decide +kernel
theorem dX13_sureOf_37 : decode cX13_sureOf 37 = .ok (.aload_n 0, 1) := by decide +kernel
theorem dX13_sureOf_38 : decode cX13_sureOf 38 = .ok (.getfield 56, 3) := by decide +kernel
theorem dX13_sureOf_41 : decode cX13_sureOf 41 = .ok (.iload_n 1, 1) := by decide +kernel
theorem dX13_sureOf_42 : decode cX13_sureOf 42 = .ok (.iaload, 1) := by decide +kernel
theorem dX13_sureOf_43 : decode cX13_sureOf 43 = .ok (.if_icmp .le 7, 3) := by decide +kernel
theorem dX13_sureOf_46 : decode cX13_sureOf 46 = .ok (.iconst 0, 1) := by decide +kernel
theorem dX13_sureOf_47 : decode cX13_sureOf 47 = .ok (.goto 4, 3) := by decide +kernel
theorem dX13_sureOf_50 : decode cX13_sureOf 50 = .ok (.iconst 2, 1) := by decide +kernel
theorem dX13_sureOf_51 : decode cX13_sureOf 51 = .ok (.ireturn, 1) := by decide +kernel
set_option maxRecDepth 20000 in
theorem ggX13_sure_X13_isCase : GoodIn wsX13_sure wsX13_isCase := goodIn_r _ [7, 8, 9, 10, 6, 11, 48, 49, 50, 51, 52, 53, 54, 55, 56, 57, 58, 59, 60, 61, 62, 63, 64, 65, 66, 67, 68, 69, 70, 71, 72, 73, 74, 75, 76, 77, 78, 79, 80, 81, 82, 83, 84, 85, 86, 87, 88, 89, 90, 91, 92, 93, 94, 95, 96, 97, 98, 99, 100, 101, 102, 103, 104, 105, 106, 107, 108, 109, 110, 111, 112, 113, 114] rfl (by decide +kernel)
set_option maxRecDepth 20000 in
theorem gX13_sure_X13_isCase : GoodIn wsX13_sure (wsV RX13 363 RX13 yX13_isCase wsX13_isCase) := goodIn_app (goodIn_of _ (by decide +kernel)) ggX13_sure_X13_isCase
set_option maxRecDepth 20000 in
theorem ggX13_sure_X13_isIn : GoodIn wsX13_sure wsX13_isIn := goodIn_r _ [11] rfl (by decide +kernel)
set_option maxRecDepth 20000 in
theorem gX13_sure_X13_isIn : GoodIn wsX13_sure (va_wsS RX13 176 yX13_isIn wsX13_isIn) := goodIn_app (goodIn_of _ (by decide +kernel)) ggX13_sure_X13_isIn
set_option maxRecDepth 20000 in
theorem ggX13_sure_X13_fail : GoodIn wsX13_sure wsX13_fail := goodIn_r _ [15, 1, 48, 49, 50, 51, 52, 53, 54, 55, 56, 57, 58, 59, 60, 61, 62, 63, 64, 65, 66, 67, 68, 69, 70, 71, 72, 73, 74, 75, 76, 77, 78, 79, 80, 81, 82, 83, 84, 85, 86, 87, 88, 89, 90, 91, 92, 93, 94, 95, 96, 97, 98, 99, 100, 101, 102, 103, 104, 105, 106, 107, 108, 109, 110, 111, 112, 113, 114] rfl (by decide +kernel)
set_option maxRecDepth 20000 in
theorem gX13_sure_X13_fail : GoodIn wsX13_sure (wsV RX13 318 RX13 yX13_fail wsX13_fail) := goodIn_app (goodIn_of _ (by decide +kernel)) ggX13_sure_X13_fail
set_option maxRecDepth 20000 in
theorem ggX13_sure_X13_sumAt : GoodIn wsX13_sure wsX13_sumAt := goodIn_r _ [19, 8, 20, 21, 22, 23, 24, 48, 49, 50, 51, 52, 53, 54, 55, 56, 57, 58, 59, 60, 61, 62, 63, 64, 65, 66, 67, 68, 69, 70, 71, 72, 73, 74, 75, 76, 77, 78, 79, 80, 81, 82, 83, 84, 85, 86, 87, 88, 89, 90, 91, 92, 93, 94, 95, 96, 97, 98, 99, 100, 101, 102, 103, 104, 105, 106, 107, 108, 109, 110, 111, 112, 113, 114] rfl (by decide +kernel)
set_option maxRecDepth 20000 in
theorem gX13_sure_X13_sumAt : GoodIn wsX13_sure (wsV RX13 351 RX13 yX13_sumAt wsX13_sumAt) := goodIn_app (goodIn_of _ (by decide +kernel)) ggX13_sure_X13_sumAt
set_option maxRecDepth 20000 in
theorem ggX13_sure_X13_unsureAt : GoodIn wsX13_sure wsX13_unsureAt := goodIn_r _ [28, 8, 20, 29, 48, 49, 50, 51, 52, 53, 54, 55, 56, 57, 58, 59, 60, 61, 62, 63, 64, 65, 66, 67, 68, 69, 70, 71, 72, 73, 74, 75, 76, 77, 78, 79, 80, 81, 82, 83, 84, 85, 86, 87, 88, 89, 90, 91, 92, 93, 94, 95, 96, 97, 98, 99, 100, 101, 102, 103, 104, 105, 106, 107, 108, 109, 110, 111, 112, 113, 114] rfl (by decide +kernel)
set_option maxRecDepth 20000 in
theorem gX13_sure_X13_unsureAt : GoodIn wsX13_sure (wsV RX13 438 RX13 yX13_unsureAt wsX13_unsureAt) := goodIn_app (goodIn_of _ (by decide +kernel)) ggX13_sure_X13_unsureAt
set_option maxRecDepth 20000 in
theorem ggX13_sure_X13_sureOf : GoodIn wsX13_sure wsX13_sureOf := goodIn_r _ [33, 34, 16, 17, 18, 6, 19, 8, 20, 21, 22, 23, 24, 25, 26, 27, 28, 29, 48, 49, 50, 51, 52, 53, 54, 55, 56, 57, 58, 59, 60, 61, 62, 63, 64, 65, 66, 67, 68, 69, 70, 71, 72, 73, 74, 75, 76, 77, 78, 79, 80, 81, 82, 83, 84, 85, 86, 87, 88, 89, 90, 91, 92, 93, 94, 95, 96, 97, 98, 99, 100, 101, 102, 103, 104, 105, 106, 107, 108, 109, 110, 111, 112, 113, 114] rfl (by decide +kernel)
set_option maxRecDepth 20000 in
theorem gX13_sure_X13_sureOf : GoodIn wsX13_sure (wsV RX13 443 RX13 yX13_sureOf wsX13_sureOf) := goodIn_app (goodIn_of _ (by decide +kernel)) ggX13_sure_X13_sureOf
set_option maxRecDepth 20000 in
theorem ggX13_sure_X13_waysOf : GoodIn wsX13_sure wsX13_waysOf := goodIn_r _ [38, 39, 8, 20, 29, 40, 41, 42, 43, 44, 34, 16, 17, 18, 6, 19, 21, 22, 23, 24, 25, 26, 27, 28, 48, 49, 50, 51, 52, 53, 54, 55, 56, 57, 58, 59, 60, 61, 62, 63, 64, 65, 66, 67, 68, 69, 70, 71, 72, 73, 74, 75, 76, 77, 78, 79, 80, 81, 82, 83, 84, 85, 86, 87, 88, 89, 90, 91, 92, 93, 94, 95, 96, 97, 98, 99, 100, 101, 102, 103, 104, 105, 106, 107, 108, 109, 110, 111, 112, 113, 114] rfl (by decide +kernel)
set_option maxRecDepth 20000 in
theorem gX13_sure_X13_waysOf : GoodIn wsX13_sure (wsV RX13 446 RX13 yX13_waysOf wsX13_waysOf) := goodIn_app (goodIn_of _ (by decide +kernel)) ggX13_sure_X13_waysOf
set_option maxRecDepth 20000 in
theorem ggX13_sure_X13_common : GoodIn wsX13_sure wsX13_common := goodIn_r _ [47] rfl (by decide +kernel)
set_option maxRecDepth 20000 in
theorem gX13_sure_X13_common : GoodIn wsX13_sure (va_wsS RX13 450 yX13_common wsX13_common) := goodIn_app (goodIn_of _ (by decide +kernel)) ggX13_sure_X13_common
theorem dX13_sure_0 : decode cX13_sure 0 = .ok (.aload_n 0, 1) := by decide +kernel
theorem dX13_sure_1 : decode cX13_sure 1 = .ok (.iconst 0, 1) := by decide +kernel
theorem dX13_sure_2 : decode cX13_sure 2 = .ok (.putfield 173, 3) := by decide +kernel
theorem dX13_sure_5 : decode cX13_sure 5 = .ok (.aload_n 0, 1) := by decide +kernel
theorem dX13_sure_6 : decode cX13_sure 6 = .ok (.iload_n 1, 1) := by decide +kernel
theorem dX13_sure_7 : decode cX13_sure 7 = .ok (.invokevirtual 363, 3) := by decide +kernel
theorem dX13_sure_10 : decode cX13_sure 10 = .ok (.ifCond .eq 15, 3) := by decide +kernel
theorem dX13_sure_13 : decode cX13_sure 13 = .ok (.iload_n 2, 1) := by decide +kernel
theorem dX13_sure_14 : decode cX13_sure 14 = .ok (.i2l, 1) := by decide +kernel
theorem dX13_sure_15 : decode cX13_sure 15 = .ok (.lconst 0, 1) := by decide +kernel
theorem dX13_sure_16 : decode cX13_sure 16 = .ok (.ldc2_w 441, 3) := by decide +kernel
theorem dX13_sure_19 : decode cX13_sure 19 = .ok (.invokestatic 176, 3) := by decide +kernel
theorem dX13_sure_22 : decode cX13_sure 22 = .ok (.ifCond .ne 10, 3) := by decide +kernel
theorem dX13_sure_25 : decode cX13_sure 25 = .ok (.aload_n 0, 1) := by decide +kernel
theorem dX13_sure_26 : decode cX13_sure 26 = .ok (.iconst 1, 1) := by decide +kernel
theorem dX13_sure_27 : decode cX13_sure 27 = .ok (.invokevirtual 318, 3) := by decide +kernel
theorem dX13_sure_30 : decode cX13_sure 30 = .ok (.i2l, 1) := by decide +kernel
theorem dX13_sure_31 : decode cX13_sure 31 = .ok (.lreturn, 1) := by decide +kernel
theorem dX13_sure_32 : decode cX13_sure 32 = .ok (.iload_n 2, 1) := by decide +kernel
theorem dX13_sure_33 : decode cX13_sure 33 = .ok (.iconst 2, 1) := by decide +kernel
theorem dX13_sure_34 : decode cX13_sure 34 = .ok (.if_icmp .ge 30, 3) := by decide +kernel
theorem dX13_sure_37 : decode cX13_sure 37 = .ok (.aload_n 0, 1) := by decide +kernel
theorem dX13_sure_38 : decode cX13_sure 38 = .ok (.iload_n 1, 1) := by decide +kernel
theorem dX13_sure_39 : decode cX13_sure 39 = .ok (.iconst 1, 1) := by decide +kernel
theorem dX13_sure_40 : decode cX13_sure 40 = .ok (.invokevirtual 351, 3) := by decide +kernel
theorem dX13_sure_43 : decode cX13_sure 43 = .ok (.iload_n 2, 1) := by decide +kernel
theorem dX13_sure_44 : decode cX13_sure 44 = .ok (.ifCond .ne 12, 3) := by decide +kernel
theorem dX13_sure_47 : decode cX13_sure 47 = .ok (.aload_n 0, 1) := by decide +kernel
theorem dX13_sure_48 : decode cX13_sure 48 = .ok (.iload_n 1, 1) := by decide +kernel
theorem dX13_sure_49 : decode cX13_sure 49 = .ok (.invokevirtual 438, 3) := by decide +kernel
theorem dX13_sure_52 : decode cX13_sure 52 = .ok (.ineg, 1) := by decide +kernel
theorem dX13_sure_53 : decode cX13_sure 53 = .ok (.goto 8, 3) := by decide +kernel
theorem dX13_sure_56 : decode cX13_sure 56 = .ok (.aload_n 0, 1) := by decide +kernel
theorem dX13_sure_57 : decode cX13_sure 57 = .ok (.iload_n 1, 1) := by decide +kernel
theorem dX13_sure_58 : decode cX13_sure 58 = .ok (.invokevirtual 438, 3) := by decide +kernel
theorem dX13_sure_61 : decode cX13_sure 61 = .ok (.iadd, 1) := by decide +kernel
theorem dX13_sure_62 : decode cX13_sure 62 = .ok (.i2l, 1) := by decide +kernel
theorem dX13_sure_63 : decode cX13_sure 63 = .ok (.lreturn, 1) := by decide +kernel
theorem dX13_sure_64 : decode cX13_sure 64 = .ok (.iload_n 2, 1) := by decide +kernel
theorem dX13_sure_65 : decode cX13_sure 65 = .ok (.iconst 2, 1) := by decide +kernel
theorem dX13_sure_66 : decode cX13_sure 66 = .ok (.if_icmp .ne 10, 3) := by decide +kernel
theorem dX13_sure_69 : decode cX13_sure 69 = .ok (.aload_n 0, 1) := by decide +kernel
theorem dX13_sure_70 : decode cX13_sure 70 = .ok (.iload_n 1, 1) := by decide +kernel
theorem dX13_sure_71 : decode cX13_sure 71 = .ok (.invokevirtual 443, 3) := by decide +kernel
theorem dX13_sure_74 : decode cX13_sure 74 = .ok (.i2l, 1) := by decide +kernel
theorem dX13_sure_75 : decode cX13_sure 75 = .ok (.lreturn, 1) := by decide +kernel
theorem dX13_sure_76 : decode cX13_sure 76 = .ok (.aload_n 0, 1) := by decide +kernel
theorem dX13_sure_77 : decode cX13_sure 77 = .ok (.iload_n 1, 1) := by decide +kernel
theorem dX13_sure_78 : decode cX13_sure 78 = .ok (.iconst 0, 1) := by decide +kernel
theorem dX13_sure_79 : decode cX13_sure 79 = .ok (.invokevirtual 446, 3) := by decide +kernel
theorem dX13_sure_82 : decode cX13_sure 82 = .ok (.lstore_n 3, 1) := by decide +kernel
theorem dX13_sure_83 : decode cX13_sure 83 = .ok (.aload_n 0, 1) := by decide +kernel
theorem dX13_sure_84 : decode cX13_sure 84 = .ok (.iload_n 1, 1) := by decide +kernel
theorem dX13_sure_85 : decode cX13_sure 85 = .ok (.iconst 1, 1) := by decide +kernel
theorem dX13_sure_86 : decode cX13_sure 86 = .ok (.invokevirtual 446, 3) := by decide +kernel
theorem dX13_sure_89 : decode cX13_sure 89 = .ok (.lstore 5, 2) := by decide +kernel
theorem dX13_sure_91 : decode cX13_sure 91 = .ok (.iload_n 2, 1) := by decide +kernel
theorem dX13_sure_92 : decode cX13_sure 92 = .ok (.iconst 3, 1) := by decide +kernel
theorem dX13_sure_93 : decode cX13_sure 93 = .ok (.if_icmp .ne 7, 3) := by decide +kernel
theorem dX13_sure_96 : decode cX13_sure 96 = .ok (.lload_n 3, 1) := by decide +kernel
theorem dX13_sure_97 : decode cX13_sure 97 = .ok (.goto 5, 3) := by decide +kernel
theorem dX13_sure_100 : decode cX13_sure 100 = .ok (.lload 5, 2) := by decide +kernel
theorem dX13_sure_102 : decode cX13_sure 102 = .ok (.lload 5, 2) := by decide +kernel
theorem dX13_sure_104 : decode cX13_sure 104 = .ok (.lload_n 3, 1) := by decide +kernel
theorem dX13_sure_105 : decode cX13_sure 105 = .ok (.invokestatic 450, 3) := by decide +kernel
theorem dX13_sure_108 : decode cX13_sure 108 = .ok (.ldiv, 1) := by decide +kernel
theorem dX13_sure_109 : decode cX13_sure 109 = .ok (.lreturn, 1) := by decide +kernel
set_option maxRecDepth 20000 in
theorem ggX13_knownBy_X13_sumAt : GoodIn wsX13_knownBy wsX13_sumAt := goodIn_r _ [9, 10, 1, 11, 2, 12, 13, 18, 19, 20, 21, 22, 23, 24, 25, 26, 27, 28, 29, 30, 31, 32, 33, 34, 35, 36, 37, 38, 39, 40, 41, 42, 43, 44, 45, 46, 47, 48, 49, 50, 51, 52, 53, 54, 55, 56, 57, 58, 59, 60, 61, 62, 63, 64, 65, 66, 67, 68, 69, 70, 71, 72, 73, 74, 75, 76, 77, 78, 79, 80, 81, 82, 83, 84] rfl (by decide +kernel)
set_option maxRecDepth 20000 in
theorem gX13_knownBy_X13_sumAt : GoodIn wsX13_knownBy (wsV RX13 351 RX13 yX13_sumAt wsX13_sumAt) := goodIn_app (goodIn_of _ (by decide +kernel)) ggX13_knownBy_X13_sumAt
set_option maxRecDepth 20000 in
theorem ggX13_knownBy_X13_unsureAt : GoodIn wsX13_knownBy wsX13_unsureAt := goodIn_r _ [17, 10, 1, 3, 18, 19, 20, 21, 22, 23, 24, 25, 26, 27, 28, 29, 30, 31, 32, 33, 34, 35, 36, 37, 38, 39, 40, 41, 42, 43, 44, 45, 46, 47, 48, 49, 50, 51, 52, 53, 54, 55, 56, 57, 58, 59, 60, 61, 62, 63, 64, 65, 66, 67, 68, 69, 70, 71, 72, 73, 74, 75, 76, 77, 78, 79, 80, 81, 82, 83, 84] rfl (by decide +kernel)
set_option maxRecDepth 20000 in
theorem gX13_knownBy_X13_unsureAt : GoodIn wsX13_knownBy (wsV RX13 438 RX13 yX13_unsureAt wsX13_unsureAt) := goodIn_app (goodIn_of _ (by decide +kernel)) ggX13_knownBy_X13_unsureAt
theorem dX13_knownBy_0 : decode cX13_knownBy 0 = .ok (.aload_n 0, 1) := by decide +kernel
theorem dX13_knownBy_1 : decode cX13_knownBy 1 = .ok (.getfield 84, 3) := by decide +kernel
theorem dX13_knownBy_4 : decode cX13_knownBy 4 = .ok (.iload_n 1, 1) := by decide +kernel
theorem dX13_knownBy_5 : decode cX13_knownBy 5 = .ok (.iaload, 1) := by decide +kernel
theorem dX13_knownBy_6 : decode cX13_knownBy 6 = .ok (.istore_n 2, 1) := by decide +kernel
theorem dX13_knownBy_7 : decode cX13_knownBy 7 = .ok (.aload_n 0, 1) := by decide +kernel
theorem dX13_knownBy_8 : decode cX13_knownBy 8 = .ok (.iload_n 2, 1) := by decide +kernel
theorem dX13_knownBy_9 : decode cX13_knownBy 9 = .ok (.iconst 1, 1) := by decide +kernel
theorem dX13_knownBy_10 : decode cX13_knownBy 10 = .ok (.invokevirtual 351, 3) := by decide +kernel
theorem dX13_knownBy_13 : decode cX13_knownBy 13 = .ok (.aload_n 0, 1) := by decide +kernel
theorem dX13_knownBy_14 : decode cX13_knownBy 14 = .ok (.getfield 69, 3) := by decide +kernel
theorem dX13_knownBy_17 : decode cX13_knownBy 17 = .ok (.iload_n 1, 1) := by decide +kernel
theorem dX13_knownBy_18 : decode cX13_knownBy 18 = .ok (.iaload, 1) := by decide +kernel
theorem dX13_knownBy_19 : decode cX13_knownBy 19 = .ok (.isub, 1) := by decide +kernel
theorem dX13_knownBy_20 : decode cX13_knownBy 20 = .ok (.istore_n 3, 1) := by decide +kernel
theorem dX13_knownBy_21 : decode cX13_knownBy 21 = .ok (.aload_n 0, 1) := by decide +kernel
theorem dX13_knownBy_22 : decode cX13_knownBy 22 = .ok (.iload_n 2, 1) := by decide +kernel
theorem dX13_knownBy_23 : decode cX13_knownBy 23 = .ok (.invokevirtual 438, 3) := by decide +kernel
theorem dX13_knownBy_26 : decode cX13_knownBy 26 = .ok (.aload_n 0, 1) := by decide +kernel
theorem dX13_knownBy_27 : decode cX13_knownBy 27 = .ok (.getfield 72, 3) := by decide +kernel
theorem dX13_knownBy_30 : decode cX13_knownBy 30 = .ok (.iload_n 1, 1) := by decide +kernel
theorem dX13_knownBy_31 : decode cX13_knownBy 31 = .ok (.iaload, 1) := by decide +kernel
theorem dX13_knownBy_32 : decode cX13_knownBy 32 = .ok (.isub, 1) := by decide +kernel
theorem dX13_knownBy_33 : decode cX13_knownBy 33 = .ok (.istore 4, 2) := by decide +kernel
theorem dX13_knownBy_35 : decode cX13_knownBy 35 = .ok (.iconst 0, 1) := by decide +kernel
theorem dX13_knownBy_36 : decode cX13_knownBy 36 = .ok (.istore 5, 2) := by decide +kernel
theorem dX13_knownBy_38 : decode cX13_knownBy 38 = .ok (.aload_n 0, 1) := by decide +kernel
theorem dX13_knownBy_39 : decode cX13_knownBy 39 = .ok (.getfield 69, 3) := by decide +kernel
theorem dX13_knownBy_42 : decode cX13_knownBy 42 = .ok (.iload_n 1, 1) := by decide +kernel
theorem dX13_knownBy_43 : decode cX13_knownBy 43 = .ok (.iaload, 1) := by decide +kernel
theorem dX13_knownBy_44 : decode cX13_knownBy 44 = .ok (.aload_n 0, 1) := by decide +kernel
theorem dX13_knownBy_45 : decode cX13_knownBy 45 = .ok (.getfield 72, 3) := by decide +kernel
theorem dX13_knownBy_48 : decode cX13_knownBy 48 = .ok (.iload_n 1, 1) := by decide +kernel
theorem dX13_knownBy_49 : decode cX13_knownBy 49 = .ok (.iaload, 1) := by decide +kernel
theorem dX13_knownBy_50 : decode cX13_knownBy 50 = .ok (.isub, 1) := by decide +kernel
theorem dX13_knownBy_51 : decode cX13_knownBy 51 = .ok (.istore 6, 2) := by decide +kernel
theorem dX13_knownBy_53 : decode cX13_knownBy 53 = .ok (.iload 6, 2) := by decide +kernel
theorem dX13_knownBy_55 : decode cX13_knownBy 55 = .ok (.aload_n 0, 1) := by decide +kernel
theorem dX13_knownBy_56 : decode cX13_knownBy 56 = .ok (.getfield 69, 3) := by decide +kernel
theorem dX13_knownBy_59 : decode cX13_knownBy 59 = .ok (.iload_n 1, 1) := by decide +kernel
theorem dX13_knownBy_60 : decode cX13_knownBy 60 = .ok (.iaload, 1) := by decide +kernel
theorem dX13_knownBy_61 : decode cX13_knownBy 61 = .ok (.aload_n 0, 1) := by decide +kernel
theorem dX13_knownBy_62 : decode cX13_knownBy 62 = .ok (.getfield 72, 3) := by decide +kernel
theorem dX13_knownBy_65 : decode cX13_knownBy 65 = .ok (.iload_n 1, 1) := by decide +kernel
theorem dX13_knownBy_66 : decode cX13_knownBy 66 = .ok (.iaload, 1) := by decide +kernel
theorem dX13_knownBy_67 : decode cX13_knownBy 67 = .ok (.iadd, 1) := by decide +kernel
theorem dX13_knownBy_68 : decode cX13_knownBy 68 = .ok (.if_icmp .gt 44, 3) := by decide +kernel
theorem dX13_knownBy_71 : decode cX13_knownBy 71 = .ok (.iload 6, 2) := by decide +kernel
theorem dX13_knownBy_73 : decode cX13_knownBy 73 = .ok (.iload_n 3, 1) := by decide +kernel
theorem dX13_knownBy_74 : decode cX13_knownBy 74 = .ok (.iadd, 1) := by decide +kernel
theorem dX13_knownBy_75 : decode cX13_knownBy 75 = .ok (.iload 4, 2) := by decide +kernel
theorem dX13_knownBy_77 : decode cX13_knownBy 77 = .ok (.iadd, 1) := by decide +kernel
theorem dX13_knownBy_78 : decode cX13_knownBy 78 = .ok (.aload_n 0, 1) := by decide +kernel
theorem dX13_knownBy_79 : decode cX13_knownBy 79 = .ok (.getfield 56, 3) := by decide +kernel
theorem dX13_knownBy_82 : decode cX13_knownBy 82 = .ok (.iload_n 2, 1) := by decide +kernel
theorem dX13_knownBy_83 : decode cX13_knownBy 83 = .ok (.iaload, 1) := by decide +kernel
theorem dX13_knownBy_84 : decode cX13_knownBy 84 = .ok (.if_icmp .le 19, 3) := by decide +kernel
theorem dX13_knownBy_87 : decode cX13_knownBy 87 = .ok (.iload 6, 2) := by decide +kernel
theorem dX13_knownBy_89 : decode cX13_knownBy 89 = .ok (.iload_n 3, 1) := by decide +kernel
theorem dX13_knownBy_90 : decode cX13_knownBy 90 = .ok (.iadd, 1) := by decide +kernel
theorem dX13_knownBy_91 : decode cX13_knownBy 91 = .ok (.iload 4, 2) := by decide +kernel
theorem dX13_knownBy_93 : decode cX13_knownBy 93 = .ok (.isub, 1) := by decide +kernel
theorem dX13_knownBy_94 : decode cX13_knownBy 94 = .ok (.aload_n 0, 1) := by decide +kernel
theorem dX13_knownBy_95 : decode cX13_knownBy 95 = .ok (.getfield 56, 3) := by decide +kernel
theorem dX13_knownBy_98 : decode cX13_knownBy 98 = .ok (.iload_n 2, 1) := by decide +kernel
theorem dX13_knownBy_99 : decode cX13_knownBy 99 = .ok (.iaload, 1) := by decide +kernel
theorem dX13_knownBy_100 : decode cX13_knownBy 100 = .ok (.if_icmp .le 6, 3) := by decide +kernel
theorem dX13_knownBy_103 : decode cX13_knownBy 103 = .ok (.iinc 5 1, 3) := by decide +kernel
theorem dX13_knownBy_106 : decode cX13_knownBy 106 = .ok (.iinc 6 1, 3) := by decide +kernel
theorem dX13_knownBy_109 : decode cX13_knownBy 109 = .ok (.goto (-56), 3) := by decide +kernel
theorem dX13_knownBy_112 : decode cX13_knownBy 112 = .ok (.iload 5, 2) := by decide +kernel
theorem dX13_knownBy_114 : decode cX13_knownBy 114 = .ok (.ireturn, 1) := by decide +kernel
set_option maxRecDepth 20000 in
theorem ggX13_weigh_X13_isCase : GoodIn wsX13_weigh wsX13_isCase := goodIn_r _ [10, 3, 11, 12, 9, 13, 42, 43, 44, 45, 46, 47, 48, 49, 50, 51, 52, 53, 54, 55, 56, 57, 58, 59, 60, 61, 62, 63, 64, 65, 66, 67, 68, 69, 70, 71, 72, 73, 74, 75, 76, 77, 78, 79, 80, 81, 82, 83, 84, 85, 86, 87, 88, 89, 90, 91, 92, 93, 94, 95, 96, 97, 98, 99, 100, 101, 102, 103, 104, 105, 106, 107, 108] rfl (by decide +kernel)
set_option maxRecDepth 20000 in
theorem gX13_weigh_X13_isCase : GoodIn wsX13_weigh (wsV RX13 363 RX13 yX13_isCase wsX13_isCase) := goodIn_app (goodIn_of _ (by decide +kernel)) ggX13_weigh_X13_isCase
set_option maxRecDepth 20000 in
theorem ggX13_weigh_X13_isIn : GoodIn wsX13_weigh wsX13_isIn := goodIn_r _ [13] rfl (by decide +kernel)
set_option maxRecDepth 20000 in
theorem gX13_weigh_X13_isIn : GoodIn wsX13_weigh (va_wsS RX13 176 yX13_isIn wsX13_isIn) := goodIn_app (goodIn_of _ (by decide +kernel)) ggX13_weigh_X13_isIn
set_option maxRecDepth 20000 in
theorem ggX13_weigh_X13_fail : GoodIn wsX13_weigh wsX13_fail := goodIn_r _ [17, 1, 42, 43, 44, 45, 46, 47, 48, 49, 50, 51, 52, 53, 54, 55, 56, 57, 58, 59, 60, 61, 62, 63, 64, 65, 66, 67, 68, 69, 70, 71, 72, 73, 74, 75, 76, 77, 78, 79, 80, 81, 82, 83, 84, 85, 86, 87, 88, 89, 90, 91, 92, 93, 94, 95, 96, 97, 98, 99, 100, 101, 102, 103, 104, 105, 106, 107, 108] rfl (by decide +kernel)
set_option maxRecDepth 20000 in
theorem gX13_weigh_X13_fail : GoodIn wsX13_weigh (wsV RX13 318 RX13 yX13_fail wsX13_fail) := goodIn_app (goodIn_of _ (by decide +kernel)) ggX13_weigh_X13_fail
set_option maxRecDepth 20000 in
theorem ggX13_weigh_X13_sureOf : GoodIn wsX13_weigh wsX13_sureOf := goodIn_r _ [21, 22, 23, 24, 25, 9, 26, 3, 4, 27, 28, 29, 30, 31, 32, 33, 34, 5, 42, 43, 44, 45, 46, 47, 48, 49, 50, 51, 52, 53, 54, 55, 56, 57, 58, 59, 60, 61, 62, 63, 64, 65, 66, 67, 68, 69, 70, 71, 72, 73, 74, 75, 76, 77, 78, 79, 80, 81, 82, 83, 84, 85, 86, 87, 88, 89, 90, 91, 92, 93, 94, 95, 96, 97, 98, 99, 100, 101, 102, 103, 104, 105, 106, 107, 108] rfl (by decide +kernel)
set_option maxRecDepth 20000 in
theorem gX13_weigh_X13_sureOf : GoodIn wsX13_weigh (wsV RX13 443 RX13 yX13_sureOf wsX13_sureOf) := goodIn_app (goodIn_of _ (by decide +kernel)) ggX13_weigh_X13_sureOf
set_option maxRecDepth 20000 in
theorem ggX13_weigh_X13_knownBy : GoodIn wsX13_weigh wsX13_knownBy := goodIn_r _ [38, 4, 28, 5, 22, 23, 24, 25, 9, 26, 3, 27, 29, 30, 31, 32, 33, 34, 42, 43, 44, 45, 46, 47, 48, 49, 50, 51, 52, 53, 54, 55, 56, 57, 58, 59, 60, 61, 62, 63, 64, 65, 66, 67, 68, 69, 70, 71, 72, 73, 74, 75, 76, 77, 78, 79, 80, 81, 82, 83, 84, 85, 86, 87, 88, 89, 90, 91, 92, 93, 94, 95, 96, 97, 98, 99, 100, 101, 102, 103, 104, 105, 106, 107, 108] rfl (by decide +kernel)
set_option maxRecDepth 20000 in
theorem gX13_weigh_X13_knownBy : GoodIn wsX13_weigh (wsV RX13 456 RX13 yX13_knownBy wsX13_knownBy) := goodIn_app (goodIn_of _ (by decide +kernel)) ggX13_weigh_X13_knownBy
set_option maxRecDepth 20000 in
theorem ggX13_weigh_X13_common : GoodIn wsX13_weigh wsX13_common := goodIn_r _ [41] rfl (by decide +kernel)
set_option maxRecDepth 20000 in
theorem gX13_weigh_X13_common : GoodIn wsX13_weigh (va_wsS RX13 450 yX13_common wsX13_common) := goodIn_app (goodIn_of _ (by decide +kernel)) ggX13_weigh_X13_common
theorem dX13_weigh_0 : decode cX13_weigh 0 = .ok (.aload_n 0, 1) := by decide +kernel
theorem dX13_weigh_1 : decode cX13_weigh 1 = .ok (.iconst 0, 1) := by decide +kernel
theorem dX13_weigh_2 : decode cX13_weigh 2 = .ok (.putfield 173, 3) := by decide +kernel
theorem dX13_weigh_5 : decode cX13_weigh 5 = .ok (.aload_n 0, 1) := by decide +kernel
theorem dX13_weigh_6 : decode cX13_weigh 6 = .ok (.iload_n 1, 1) := by decide +kernel
theorem dX13_weigh_7 : decode cX13_weigh 7 = .ok (.invokevirtual 363, 3) := by decide +kernel
theorem dX13_weigh_10 : decode cX13_weigh 10 = .ok (.ifCond .eq 15, 3) := by decide +kernel
theorem dX13_weigh_13 : decode cX13_weigh 13 = .ok (.iload_n 2, 1) := by decide +kernel
theorem dX13_weigh_14 : decode cX13_weigh 14 = .ok (.i2l, 1) := by decide +kernel
theorem dX13_weigh_15 : decode cX13_weigh 15 = .ok (.lconst 0, 1) := by decide +kernel
theorem dX13_weigh_16 : decode cX13_weigh 16 = .ok (.ldc2_w 454, 3) := by decide +kernel
theorem dX13_weigh_19 : decode cX13_weigh 19 = .ok (.invokestatic 176, 3) := by decide +kernel
theorem dX13_weigh_22 : decode cX13_weigh 22 = .ok (.ifCond .ne 9, 3) := by decide +kernel
theorem dX13_weigh_25 : decode cX13_weigh 25 = .ok (.aload_n 0, 1) := by decide +kernel
theorem dX13_weigh_26 : decode cX13_weigh 26 = .ok (.iconst 1, 1) := by decide +kernel
theorem dX13_weigh_27 : decode cX13_weigh 27 = .ok (.invokevirtual 318, 3) := by decide +kernel
theorem dX13_weigh_30 : decode cX13_weigh 30 = .ok (.ireturn, 1) := by decide +kernel
theorem dX13_weigh_31 : decode cX13_weigh 31 = .ok (.iconst (-1), 1) := by decide +kernel
theorem dX13_weigh_32 : decode cX13_weigh 32 = .ok (.istore_n 3, 1) := by decide +kernel
theorem dX13_weigh_33 : decode cX13_weigh 33 = .ok (.iconst 0, 1) := by decide +kernel
theorem dX13_weigh_34 : decode cX13_weigh 34 = .ok (.istore 4, 2) := by decide +kernel
theorem dX13_weigh_36 : decode cX13_weigh 36 = .ok (.iload 4, 2) := by decide +kernel
theorem dX13_weigh_38 : decode cX13_weigh 38 = .ok (.aload_n 0, 1) := by decide +kernel
theorem dX13_weigh_39 : decode cX13_weigh 39 = .ok (.getfield 40, 3) := by decide +kernel
theorem dX13_weigh_42 : decode cX13_weigh 42 = .ok (.iconst 2, 1) := by decide +kernel
theorem dX13_weigh_43 : decode cX13_weigh 43 = .ok (.iaload, 1) := by decide +kernel
theorem dX13_weigh_44 : decode cX13_weigh 44 = .ok (.if_icmp .ge 77, 3) := by decide +kernel
theorem dX13_weigh_47 : decode cX13_weigh 47 = .ok (.aload_n 0, 1) := by decide +kernel
theorem dX13_weigh_48 : decode cX13_weigh 48 = .ok (.iload_n 1, 1) := by decide +kernel
theorem dX13_weigh_49 : decode cX13_weigh 49 = .ok (.invokevirtual 443, 3) := by decide +kernel
theorem dX13_weigh_52 : decode cX13_weigh 52 = .ok (.iconst 2, 1) := by decide +kernel
theorem dX13_weigh_53 : decode cX13_weigh 53 = .ok (.if_icmp .ne 68, 3) := by decide +kernel
theorem dX13_weigh_56 : decode cX13_weigh 56 = .ok (.aload_n 0, 1) := by decide +kernel
theorem dX13_weigh_57 : decode cX13_weigh 57 = .ok (.getfield 84, 3) := by decide +kernel
theorem dX13_weigh_60 : decode cX13_weigh 60 = .ok (.iload 4, 2) := by decide +kernel
theorem dX13_weigh_62 : decode cX13_weigh 62 = .ok (.iaload, 1) := by decide +kernel
theorem dX13_weigh_63 : decode cX13_weigh 63 = .ok (.iload_n 1, 1) := by decide +kernel
theorem dX13_weigh_64 : decode cX13_weigh 64 = .ok (.if_icmp .eq 6, 3) := by decide +kernel
theorem dX13_weigh_67 : decode cX13_weigh 67 = .ok (.goto 48, 3) := by decide +kernel
theorem dX13_weigh_70 : decode cX13_weigh 70 = .ok (.iload_n 3, 1) := by decide +kernel
theorem dX13_weigh_71 : decode cX13_weigh 71 = .ok (.iconst (-1), 1) := by decide +kernel
theorem dX13_weigh_72 : decode cX13_weigh 72 = .ok (.if_icmp .eq 40, 3) := by decide +kernel
theorem dX13_weigh_75 : decode cX13_weigh 75 = .ok (.aload_n 0, 1) := by decide +kernel
theorem dX13_weigh_76 : decode cX13_weigh 76 = .ok (.iload 4, 2) := by decide +kernel
theorem dX13_weigh_78 : decode cX13_weigh 78 = .ok (.invokevirtual 456, 3) := by decide +kernel
theorem dX13_weigh_81 : decode cX13_weigh 81 = .ok (.iconst 2, 1) := by decide +kernel
theorem dX13_weigh_82 : decode cX13_weigh 82 = .ok (.aload_n 0, 1) := by decide +kernel
theorem dX13_weigh_83 : decode cX13_weigh 83 = .ok (.getfield 72, 3) := by decide +kernel
theorem dX13_weigh_86 : decode cX13_weigh 86 = .ok (.iload_n 3, 1) := by decide +kernel
theorem dX13_weigh_87 : decode cX13_weigh 87 = .ok (.iaload, 1) := by decide +kernel
theorem dX13_weigh_88 : decode cX13_weigh 88 = .ok (.imul, 1) := by decide +kernel
theorem dX13_weigh_89 : decode cX13_weigh 89 = .ok (.iconst 1, 1) := by decide +kernel
theorem dX13_weigh_90 : decode cX13_weigh 90 = .ok (.iadd, 1) := by decide +kernel
theorem dX13_weigh_91 : decode cX13_weigh 91 = .ok (.imul, 1) := by decide +kernel
theorem dX13_weigh_92 : decode cX13_weigh 92 = .ok (.aload_n 0, 1) := by decide +kernel
theorem dX13_weigh_93 : decode cX13_weigh 93 = .ok (.iload_n 3, 1) := by decide +kernel
theorem dX13_weigh_94 : decode cX13_weigh 94 = .ok (.invokevirtual 456, 3) := by decide +kernel
theorem dX13_weigh_97 : decode cX13_weigh 97 = .ok (.iconst 2, 1) := by decide +kernel
theorem dX13_weigh_98 : decode cX13_weigh 98 = .ok (.aload_n 0, 1) := by decide +kernel
theorem dX13_weigh_99 : decode cX13_weigh 99 = .ok (.getfield 72, 3) := by decide +kernel
theorem dX13_weigh_102 : decode cX13_weigh 102 = .ok (.iload 4, 2) := by decide +kernel
theorem dX13_weigh_104 : decode cX13_weigh 104 = .ok (.iaload, 1) := by decide +kernel
theorem dX13_weigh_105 : decode cX13_weigh 105 = .ok (.imul, 1) := by decide +kernel
theorem dX13_weigh_106 : decode cX13_weigh 106 = .ok (.iconst 1, 1) := by decide +kernel
theorem dX13_weigh_107 : decode cX13_weigh 107 = .ok (.iadd, 1) := by decide +kernel
theorem dX13_weigh_108 : decode cX13_weigh 108 = .ok (.imul, 1) := by decide +kernel
theorem dX13_weigh_109 : decode cX13_weigh 109 = .ok (.if_icmp .le 6, 3) := by decide +kernel
theorem dX13_weigh_112 : decode cX13_weigh 112 = .ok (.iload 4, 2) := by decide +kernel
theorem dX13_weigh_114 : decode cX13_weigh 114 = .ok (.istore_n 3, 1) := by decide +kernel
theorem dX13_weigh_115 : decode cX13_weigh 115 = .ok (.iinc 4 1, 3) := by decide +kernel
theorem dX13_weigh_118 : decode cX13_weigh 118 = .ok (.goto (-82), 3) := by decide +kernel
theorem dX13_weigh_121 : decode cX13_weigh 121 = .ok (.iload_n 3, 1) := by decide +kernel
theorem dX13_weigh_122 : decode cX13_weigh 122 = .ok (.iconst (-1), 1) := by decide +kernel
theorem dX13_weigh_123 : decode cX13_weigh 123 = .ok (.if_icmp .ne 15, 3) := by decide +kernel
theorem dX13_weigh_126 : decode cX13_weigh 126 = .ok (.iload_n 2, 1) := by decide +kernel
theorem dX13_weigh_127 : decode cX13_weigh 127 = .ok (.ifCond .ne 7, 3) := by decide +kernel
theorem dX13_weigh_130 : decode cX13_weigh 130 = .ok (.iconst (-1), 1) := by decide +kernel
theorem dX13_weigh_131 : decode cX13_weigh 131 = .ok (.goto 6, 3) := by decide +kernel
theorem dX13_weigh_134 : decode cX13_weigh 134 = .ok (.iload_n 2, 1) := by decide +kernel
theorem dX13_weigh_135 : decode cX13_weigh 135 = .ok (.iconst 1, 1) := by decide +kernel
theorem dX13_weigh_136 : decode cX13_weigh 136 = .ok (.isub, 1) := by decide +kernel
theorem dX13_weigh_137 : decode cX13_weigh 137 = .ok (.ireturn, 1) := by decide +kernel
theorem dX13_weigh_138 : decode cX13_weigh 138 = .ok (.aload_n 0, 1) := by decide +kernel
theorem dX13_weigh_139 : decode cX13_weigh 139 = .ok (.iload_n 3, 1) := by decide +kernel
theorem dX13_weigh_140 : decode cX13_weigh 140 = .ok (.invokevirtual 456, 3) := by decide +kernel
theorem dX13_weigh_143 : decode cX13_weigh 143 = .ok (.istore 4, 2) := by decide +kernel
theorem dX13_weigh_145 : decode cX13_weigh 145 = .ok (.iconst 2, 1) := by decide +kernel
theorem dX13_weigh_146 : decode cX13_weigh 146 = .ok (.aload_n 0, 1) := by decide +kernel
theorem dX13_weigh_147 : decode cX13_weigh 147 = .ok (.getfield 72, 3) := by decide +kernel
theorem dX13_weigh_150 : decode cX13_weigh 150 = .ok (.iload_n 3, 1) := by decide +kernel
theorem dX13_weigh_151 : decode cX13_weigh 151 = .ok (.iaload, 1) := by decide +kernel
theorem dX13_weigh_152 : decode cX13_weigh 152 = .ok (.imul, 1) := by decide +kernel
theorem dX13_weigh_153 : decode cX13_weigh 153 = .ok (.iconst 1, 1) := by decide +kernel
theorem dX13_weigh_154 : decode cX13_weigh 154 = .ok (.iadd, 1) := by decide +kernel
theorem dX13_weigh_155 : decode cX13_weigh 155 = .ok (.istore 5, 2) := by decide +kernel
theorem dX13_weigh_157 : decode cX13_weigh 157 = .ok (.iload 5, 2) := by decide +kernel
theorem dX13_weigh_159 : decode cX13_weigh 159 = .ok (.i2l, 1) := by decide +kernel
theorem dX13_weigh_160 : decode cX13_weigh 160 = .ok (.iload 4, 2) := by decide +kernel
theorem dX13_weigh_162 : decode cX13_weigh 162 = .ok (.i2l, 1) := by decide +kernel
theorem dX13_weigh_163 : decode cX13_weigh 163 = .ok (.invokestatic 450, 3) := by decide +kernel
theorem dX13_weigh_166 : decode cX13_weigh 166 = .ok (.l2i, 1) := by decide +kernel
theorem dX13_weigh_167 : decode cX13_weigh 167 = .ok (.istore 6, 2) := by decide +kernel
theorem dX13_weigh_169 : decode cX13_weigh 169 = .ok (.iload_n 2, 1) := by decide +kernel
theorem dX13_weigh_170 : decode cX13_weigh 170 = .ok (.ifCond .ne 7, 3) := by decide +kernel
theorem dX13_weigh_173 : decode cX13_weigh 173 = .ok (.iload_n 3, 1) := by decide +kernel
theorem dX13_weigh_174 : decode cX13_weigh 174 = .ok (.goto 21, 3) := by decide +kernel
theorem dX13_weigh_177 : decode cX13_weigh 177 = .ok (.iload_n 2, 1) := by decide +kernel
theorem dX13_weigh_178 : decode cX13_weigh 178 = .ok (.iconst 1, 1) := by decide +kernel
theorem dX13_weigh_179 : decode cX13_weigh 179 = .ok (.if_icmp .ne 11, 3) := by decide +kernel
theorem dX13_weigh_182 : decode cX13_weigh 182 = .ok (.iload 4, 2) := by decide +kernel
theorem dX13_weigh_184 : decode cX13_weigh 184 = .ok (.iload 6, 2) := by decide +kernel
theorem dX13_weigh_186 : decode cX13_weigh 186 = .ok (.idiv, 1) := by decide +kernel
theorem dX13_weigh_187 : decode cX13_weigh 187 = .ok (.goto 8, 3) := by decide +kernel
theorem dX13_weigh_190 : decode cX13_weigh 190 = .ok (.iload 5, 2) := by decide +kernel
theorem dX13_weigh_192 : decode cX13_weigh 192 = .ok (.iload 6, 2) := by decide +kernel
theorem dX13_weigh_194 : decode cX13_weigh 194 = .ok (.idiv, 1) := by decide +kernel
theorem dX13_weigh_195 : decode cX13_weigh 195 = .ok (.ireturn, 1) := by decide +kernel
set_option maxRecDepth 20000 in
theorem ggX13_lostBy_X13_hasShirt : GoodIn wsX13_lostBy wsX13_hasShirt := goodIn_r _ [6, 1, 7, 8, 9, 10, 11, 12, 5, 13, 14, 15, 16, 17, 18, 19, 20, 21, 22, 23, 24, 25, 26, 27, 28, 29, 30, 31, 32, 33, 34, 35, 36, 37, 38, 39, 40, 41, 42, 43, 44, 45, 46, 47, 48, 49, 50, 51, 52, 53, 54, 55, 56, 57, 58, 59, 60, 61, 62, 63, 64, 65, 66, 67, 68, 69, 70, 71, 72, 73, 74, 75, 76, 77, 78, 79, 80, 81, 82, 83] rfl (by decide +kernel)
set_option maxRecDepth 20000 in
theorem gX13_lostBy_X13_hasShirt : GoodIn wsX13_lostBy (wsV RX13 380 RX13 yX13_hasShirt wsX13_hasShirt) := goodIn_app (goodIn_of _ (by decide +kernel)) ggX13_lostBy_X13_hasShirt
theorem dX13_lostBy_0 : decode cX13_lostBy 0 = .ok (.iconst 0, 1) := by decide +kernel
theorem dX13_lostBy_1 : decode cX13_lostBy 1 = .ok (.istore_n 2, 1) := by decide +kernel
theorem dX13_lostBy_2 : decode cX13_lostBy 2 = .ok (.iconst 0, 1) := by decide +kernel
theorem dX13_lostBy_3 : decode cX13_lostBy 3 = .ok (.istore_n 3, 1) := by decide +kernel
theorem dX13_lostBy_4 : decode cX13_lostBy 4 = .ok (.iload_n 3, 1) := by decide +kernel
theorem dX13_lostBy_5 : decode cX13_lostBy 5 = .ok (.aload_n 0, 1) := by decide +kernel
theorem dX13_lostBy_6 : decode cX13_lostBy 6 = .ok (.getfield 40, 3) := by decide +kernel
theorem dX13_lostBy_9 : decode cX13_lostBy 9 = .ok (.iconst 0, 1) := by decide +kernel
theorem dX13_lostBy_10 : decode cX13_lostBy 10 = .ok (.iaload, 1) := by decide +kernel
theorem dX13_lostBy_11 : decode cX13_lostBy 11 = .ok (.if_icmp .ge 37, 3) := by decide +kernel
theorem dX13_lostBy_14 : decode cX13_lostBy 14 = .ok (.iload_n 2, 1) := by decide +kernel
theorem dX13_lostBy_15 : decode cX13_lostBy 15 = .ok (.aload_n 0, 1) := by decide +kernel
theorem dX13_lostBy_16 : decode cX13_lostBy 16 = .ok (.iload_n 3, 1) := by decide +kernel
theorem dX13_lostBy_17 : decode cX13_lostBy 17 = .ok (.iconst (-1), 1) := by decide +kernel
theorem dX13_lostBy_18 : decode cX13_lostBy 18 = .ok (.invokevirtual 380, 3) := by decide +kernel
theorem dX13_lostBy_21 : decode cX13_lostBy 21 = .ok (.ifCond .eq 18, 3) := by decide +kernel
theorem dX13_lostBy_24 : decode cX13_lostBy 24 = .ok (.aload_n 0, 1) := by decide +kernel
theorem dX13_lostBy_25 : decode cX13_lostBy 25 = .ok (.iload_n 3, 1) := by decide +kernel
theorem dX13_lostBy_26 : decode cX13_lostBy 26 = .ok (.iload_n 1, 1) := by decide +kernel
theorem dX13_lostBy_27 : decode cX13_lostBy 27 = .ok (.invokevirtual 380, 3) := by decide +kernel
theorem dX13_lostBy_30 : decode cX13_lostBy 30 = .ok (.ifCond .ne 9, 3) := by decide +kernel
theorem dX13_lostBy_33 : decode cX13_lostBy 33 = .ok (.iconst 1, 1) := by decide +kernel
theorem dX13_lostBy_34 : decode cX13_lostBy 34 = .ok (.iload_n 3, 1) := by decide +kernel
theorem dX13_lostBy_35 : decode cX13_lostBy 35 = .ok (.ishl, 1) := by decide +kernel
theorem dX13_lostBy_36 : decode cX13_lostBy 36 = .ok (.goto 4, 3) := by decide +kernel
theorem dX13_lostBy_39 : decode cX13_lostBy 39 = .ok (.iconst 0, 1) := by decide +kernel
theorem dX13_lostBy_40 : decode cX13_lostBy 40 = .ok (.ior, 1) := by decide +kernel
theorem dX13_lostBy_41 : decode cX13_lostBy 41 = .ok (.istore_n 2, 1) := by decide +kernel
theorem dX13_lostBy_42 : decode cX13_lostBy 42 = .ok (.iinc 3 1, 3) := by decide +kernel
theorem dX13_lostBy_45 : decode cX13_lostBy 45 = .ok (.goto (-41), 3) := by decide +kernel
theorem dX13_lostBy_48 : decode cX13_lostBy 48 = .ok (.iload_n 2, 1) := by decide +kernel
theorem dX13_lostBy_49 : decode cX13_lostBy 49 = .ok (.ireturn, 1) := by decide +kernel
set_option maxRecDepth 20000 in
theorem ggX13_lost_X13_isCase : GoodIn wsX13_lost wsX13_isCase := goodIn_r _ [6, 7, 8, 9, 5, 10, 26, 27, 28, 29, 30, 31, 32, 33, 34, 35, 36, 37, 38, 39, 40, 41, 42, 43, 44, 45, 46, 47, 48, 49, 50, 51, 52, 53, 54, 55, 56, 57, 58, 59, 60, 61, 62, 63, 64, 65, 66, 67, 68, 69, 70, 71, 72, 73, 74, 75, 76, 77, 78, 79, 80, 81, 82, 83, 84, 85, 86, 87, 88, 89, 90, 91, 92] rfl (by decide +kernel)
set_option maxRecDepth 20000 in
theorem gX13_lost_X13_isCase : GoodIn wsX13_lost (wsV RX13 363 RX13 yX13_isCase wsX13_isCase) := goodIn_app (goodIn_of _ (by decide +kernel)) ggX13_lost_X13_isCase
set_option maxRecDepth 20000 in
theorem ggX13_lost_X13_lostBy : GoodIn wsX13_lost wsX13_lostBy := goodIn_r _ [14, 7, 15, 16, 17, 5, 18, 19, 20, 21, 2, 3, 4, 6, 8, 9, 10, 26, 27, 28, 29, 30, 31, 32, 33, 34, 35, 36, 37, 38, 39, 40, 41, 42, 43, 44, 45, 46, 47, 48, 49, 50, 51, 52, 53, 54, 55, 56, 57, 58, 59, 60, 61, 62, 63, 64, 65, 66, 67, 68, 69, 70, 71, 72, 73, 74, 75, 76, 77, 78, 79, 80, 81, 82, 83, 84, 85, 86, 87, 88, 89, 90, 91, 92] rfl (by decide +kernel)
set_option maxRecDepth 20000 in
theorem gX13_lost_X13_lostBy : GoodIn wsX13_lost (wsV RX13 459 RX13 yX13_lostBy wsX13_lostBy) := goodIn_app (goodIn_of _ (by decide +kernel)) ggX13_lost_X13_lostBy
set_option maxRecDepth 20000 in
theorem ggX13_lost_X13_fail : GoodIn wsX13_lost wsX13_fail := goodIn_r _ [25, 1, 26, 27, 28, 29, 30, 31, 32, 33, 34, 35, 36, 37, 38, 39, 40, 41, 42, 43, 44, 45, 46, 47, 48, 49, 50, 51, 52, 53, 54, 55, 56, 57, 58, 59, 60, 61, 62, 63, 64, 65, 66, 67, 68, 69, 70, 71, 72, 73, 74, 75, 76, 77, 78, 79, 80, 81, 82, 83, 84, 85, 86, 87, 88, 89, 90, 91, 92] rfl (by decide +kernel)
set_option maxRecDepth 20000 in
theorem gX13_lost_X13_fail : GoodIn wsX13_lost (wsV RX13 318 RX13 yX13_fail wsX13_fail) := goodIn_app (goodIn_of _ (by decide +kernel)) ggX13_lost_X13_fail
theorem dX13_lost_0 : decode cX13_lost 0 = .ok (.aload_n 0, 1) := by decide +kernel
theorem dX13_lost_1 : decode cX13_lost 1 = .ok (.iconst 0, 1) := by decide +kernel
theorem dX13_lost_2 : decode cX13_lost 2 = .ok (.putfield 173, 3) := by decide +kernel
theorem dX13_lost_5 : decode cX13_lost 5 = .ok (.aload_n 0, 1) := by decide +kernel
theorem dX13_lost_6 : decode cX13_lost 6 = .ok (.iload_n 1, 1) := by decide +kernel
theorem dX13_lost_7 : decode cX13_lost 7 = .ok (.invokevirtual 363, 3) := by decide +kernel
theorem dX13_lost_10 : decode cX13_lost 10 = .ok (.ifCond .eq 11, 3) := by decide +kernel
theorem dX13_lost_13 : decode cX13_lost 13 = .ok (.aload_n 0, 1) := by decide +kernel
theorem dX13_lost_14 : decode cX13_lost 14 = .ok (.iload_n 1, 1) := by decide +kernel
theorem dX13_lost_15 : decode cX13_lost 15 = .ok (.invokevirtual 459, 3) := by decide +kernel
theorem dX13_lost_18 : decode cX13_lost 18 = .ok (.goto 8, 3) := by decide +kernel
theorem dX13_lost_21 : decode cX13_lost 21 = .ok (.aload_n 0, 1) := by decide +kernel
theorem dX13_lost_22 : decode cX13_lost 22 = .ok (.iconst 1, 1) := by decide +kernel
theorem dX13_lost_23 : decode cX13_lost 23 = .ok (.invokevirtual 318, 3) := by decide +kernel
theorem dX13_lost_26 : decode cX13_lost 26 = .ok (.ireturn, 1) := by decide +kernel
set_option maxRecDepth 20000 in
theorem ggX13_safe_X13_lostBy : GoodIn wsX13_safe wsX13_lostBy := goodIn_r _ [7, 2, 8, 9, 10, 6, 11, 12, 13, 14, 15, 16, 17, 18, 19, 20, 21, 22, 23, 24, 25, 26, 27, 28, 29, 30, 31, 32, 33, 34, 35, 36, 37, 38, 39, 40, 41, 42, 43, 44, 45, 46, 47, 48, 49, 50, 51, 52, 53, 54, 55, 56, 57, 58, 59, 60, 61, 62, 63, 64, 65, 66, 67, 68, 69, 70, 71, 72, 73, 74, 75, 76, 77, 78, 79, 80, 81, 82, 83, 84, 85, 86, 87, 88] rfl (by decide +kernel)
set_option maxRecDepth 20000 in
theorem gX13_safe_X13_lostBy : GoodIn wsX13_safe (wsV RX13 459 RX13 yX13_lostBy wsX13_lostBy) := goodIn_app (goodIn_of _ (by decide +kernel)) ggX13_safe_X13_lostBy
theorem dX13_safe_0 : decode cX13_safe 0 = .ok (.aload_n 0, 1) := by decide +kernel
theorem dX13_safe_1 : decode cX13_safe 1 = .ok (.iconst 0, 1) := by decide +kernel
theorem dX13_safe_2 : decode cX13_safe 2 = .ok (.putfield 173, 3) := by decide +kernel
theorem dX13_safe_5 : decode cX13_safe 5 = .ok (.iconst 0, 1) := by decide +kernel
theorem dX13_safe_6 : decode cX13_safe 6 = .ok (.istore_n 1, 1) := by decide +kernel
theorem dX13_safe_7 : decode cX13_safe 7 = .ok (.iconst 0, 1) := by decide +kernel
theorem dX13_safe_8 : decode cX13_safe 8 = .ok (.istore_n 2, 1) := by decide +kernel
theorem dX13_safe_9 : decode cX13_safe 9 = .ok (.iload_n 2, 1) := by decide +kernel
theorem dX13_safe_10 : decode cX13_safe 10 = .ok (.aload_n 0, 1) := by decide +kernel
theorem dX13_safe_11 : decode cX13_safe 11 = .ok (.getfield 40, 3) := by decide +kernel
theorem dX13_safe_14 : decode cX13_safe 14 = .ok (.iconst 1, 1) := by decide +kernel
theorem dX13_safe_15 : decode cX13_safe 15 = .ok (.iaload, 1) := by decide +kernel
theorem dX13_safe_16 : decode cX13_safe 16 = .ok (.if_icmp .ge 27, 3) := by decide +kernel
theorem dX13_safe_19 : decode cX13_safe 19 = .ok (.iload_n 1, 1) := by decide +kernel
theorem dX13_safe_20 : decode cX13_safe 20 = .ok (.aload_n 0, 1) := by decide +kernel
theorem dX13_safe_21 : decode cX13_safe 21 = .ok (.iload_n 2, 1) := by decide +kernel
theorem dX13_safe_22 : decode cX13_safe 22 = .ok (.invokevirtual 459, 3) := by decide +kernel
theorem dX13_safe_25 : decode cX13_safe 25 = .ok (.ifCond .ne 9, 3) := by decide +kernel
theorem dX13_safe_28 : decode cX13_safe 28 = .ok (.iconst 1, 1) := by decide +kernel
theorem dX13_safe_29 : decode cX13_safe 29 = .ok (.iload_n 2, 1) := by decide +kernel
theorem dX13_safe_30 : decode cX13_safe 30 = .ok (.ishl, 1) := by decide +kernel
theorem dX13_safe_31 : decode cX13_safe 31 = .ok (.goto 4, 3) := by decide +kernel
theorem dX13_safe_34 : decode cX13_safe 34 = .ok (.iconst 0, 1) := by decide +kernel
theorem dX13_safe_35 : decode cX13_safe 35 = .ok (.ior, 1) := by decide +kernel
theorem dX13_safe_36 : decode cX13_safe 36 = .ok (.istore_n 1, 1) := by decide +kernel
theorem dX13_safe_37 : decode cX13_safe 37 = .ok (.iinc 2 1, 3) := by decide +kernel
theorem dX13_safe_40 : decode cX13_safe 40 = .ok (.goto (-31), 3) := by decide +kernel
theorem dX13_safe_43 : decode cX13_safe 43 = .ok (.iload_n 1, 1) := by decide +kernel
theorem dX13_safe_44 : decode cX13_safe 44 = .ok (.ireturn, 1) := by decide +kernel
set_option maxRecDepth 20000 in
theorem ggX13_wear_X13_isPerson : GoodIn wsX13_wear wsX13_isPerson := goodIn_r _ [14, 3, 15, 16, 13, 17, 31, 32, 33, 34, 35, 36, 37, 38, 39, 40, 41, 42, 43, 44, 45, 46, 47, 48, 49, 50, 51, 52, 53, 54, 55, 56, 57, 58, 59, 60, 61, 62, 63, 64, 65, 66, 67, 68, 69, 70, 71, 72, 73, 74, 75, 76, 77, 78, 79, 80, 81, 82, 83, 84, 85, 86, 87, 88, 89, 90, 91, 92, 93, 94, 95, 96, 97] rfl (by decide +kernel)
set_option maxRecDepth 20000 in
theorem gX13_wear_X13_isPerson : GoodIn wsX13_wear (wsV RX13 366 RX13 yX13_isPerson wsX13_isPerson) := goodIn_app (goodIn_of _ (by decide +kernel)) ggX13_wear_X13_isPerson
set_option maxRecDepth 20000 in
theorem ggX13_wear_X13_fail : GoodIn wsX13_wear wsX13_fail := goodIn_r _ [21, 1, 31, 32, 33, 34, 35, 36, 37, 38, 39, 40, 41, 42, 43, 44, 45, 46, 47, 48, 49, 50, 51, 52, 53, 54, 55, 56, 57, 58, 59, 60, 61, 62, 63, 64, 65, 66, 67, 68, 69, 70, 71, 72, 73, 74, 75, 76, 77, 78, 79, 80, 81, 82, 83, 84, 85, 86, 87, 88, 89, 90, 91, 92, 93, 94, 95, 96, 97] rfl (by decide +kernel)
set_option maxRecDepth 20000 in
theorem gX13_wear_X13_fail : GoodIn wsX13_wear (wsV RX13 318 RX13 yX13_fail wsX13_fail) := goodIn_app (goodIn_of _ (by decide +kernel)) ggX13_wear_X13_fail
set_option maxRecDepth 20000 in
theorem ggX13_wear_X13_isIn : GoodIn wsX13_wear wsX13_isIn := goodIn_r _ [17] rfl (by decide +kernel)
set_option maxRecDepth 20000 in
theorem gX13_wear_X13_isIn : GoodIn wsX13_wear (va_wsS RX13 176 yX13_isIn wsX13_isIn) := goodIn_app (goodIn_of _ (by decide +kernel)) ggX13_wear_X13_isIn
set_option maxRecDepth 20000 in
theorem ggX13_wear_X13_isCase : GoodIn wsX13_wear wsX13_isCase := goodIn_r _ [25, 3, 15, 16, 13, 17, 31, 32, 33, 34, 35, 36, 37, 38, 39, 40, 41, 42, 43, 44, 45, 46, 47, 48, 49, 50, 51, 52, 53, 54, 55, 56, 57, 58, 59, 60, 61, 62, 63, 64, 65, 66, 67, 68, 69, 70, 71, 72, 73, 74, 75, 76, 77, 78, 79, 80, 81, 82, 83, 84, 85, 86, 87, 88, 89, 90, 91, 92, 93, 94, 95, 96, 97] rfl (by decide +kernel)
set_option maxRecDepth 20000 in
theorem gX13_wear_X13_isCase : GoodIn wsX13_wear (wsV RX13 363 RX13 yX13_isCase wsX13_isCase) := goodIn_app (goodIn_of _ (by decide +kernel)) ggX13_wear_X13_isCase
set_option maxRecDepth 20000 in
theorem ggX13_wear_X13_sumAt : GoodIn wsX13_wear wsX13_sumAt := goodIn_r _ [29, 3, 5, 4, 7, 30, 8, 31, 32, 33, 34, 35, 36, 37, 38, 39, 40, 41, 42, 43, 44, 45, 46, 47, 48, 49, 50, 51, 52, 53, 54, 55, 56, 57, 58, 59, 60, 61, 62, 63, 64, 65, 66, 67, 68, 69, 70, 71, 72, 73, 74, 75, 76, 77, 78, 79, 80, 81, 82, 83, 84, 85, 86, 87, 88, 89, 90, 91, 92, 93, 94, 95, 96, 97] rfl (by decide +kernel)
set_option maxRecDepth 20000 in
theorem gX13_wear_X13_sumAt : GoodIn wsX13_wear (wsV RX13 351 RX13 yX13_sumAt wsX13_sumAt) := goodIn_app (goodIn_of _ (by decide +kernel)) ggX13_wear_X13_sumAt
theorem dX13_wear_0 : decode cX13_wear 0 = .ok (.aload_n 0, 1) := by decide +kernel
theorem dX13_wear_1 : decode cX13_wear 1 = .ok (.iconst 0, 1) := by decide +kernel
theorem dX13_wear_2 : decode cX13_wear 2 = .ok (.putfield 173, 3) := by decide +kernel
theorem dX13_wear_5 : decode cX13_wear 5 = .ok (.aload_n 0, 1) := by decide +kernel
theorem dX13_wear_6 : decode cX13_wear 6 = .ok (.iload_n 1, 1) := by decide +kernel
theorem dX13_wear_7 : decode cX13_wear 7 = .ok (.invokevirtual 366, 3) := by decide +kernel
theorem dX13_wear_10 : decode cX13_wear 10 = .ok (.ifCond .ne 9, 3) := by decide +kernel
theorem dX13_wear_13 : decode cX13_wear 13 = .ok (.aload_n 0, 1) := by decide +kernel
theorem dX13_wear_14 : decode cX13_wear 14 = .ok (.iconst 1, 1) := by decide +kernel
theorem dX13_wear_15 : decode cX13_wear 15 = .ok (.invokevirtual 318, 3) := by decide +kernel
theorem dX13_wear_18 : decode cX13_wear 18 = .ok (.ireturn, 1) := by decide +kernel
theorem dX13_wear_19 : decode cX13_wear 19 = .ok (.iload_n 2, 1) := by decide +kernel
theorem dX13_wear_20 : decode cX13_wear 20 = .ok (.i2l, 1) := by decide +kernel
theorem dX13_wear_21 : decode cX13_wear 21 = .ok (.lconst 0, 1) := by decide +kernel
theorem dX13_wear_22 : decode cX13_wear 22 = .ok (.ldc2_w 462, 3) := by decide +kernel
theorem dX13_wear_25 : decode cX13_wear 25 = .ok (.invokestatic 176, 3) := by decide +kernel
theorem dX13_wear_28 : decode cX13_wear 28 = .ok (.ifCond .ne 9, 3) := by decide +kernel
theorem dX13_wear_31 : decode cX13_wear 31 = .ok (.aload_n 0, 1) := by decide +kernel
theorem dX13_wear_32 : decode cX13_wear 32 = .ok (.iconst 2, 1) := by decide +kernel
theorem dX13_wear_33 : decode cX13_wear 33 = .ok (.invokevirtual 318, 3) := by decide +kernel
theorem dX13_wear_36 : decode cX13_wear 36 = .ok (.ireturn, 1) := by decide +kernel
theorem dX13_wear_37 : decode cX13_wear 37 = .ok (.iconst 0, 1) := by decide +kernel
theorem dX13_wear_38 : decode cX13_wear 38 = .ok (.istore 4, 2) := by decide +kernel
theorem dX13_wear_40 : decode cX13_wear 40 = .ok (.iconst 0, 1) := by decide +kernel
theorem dX13_wear_41 : decode cX13_wear 41 = .ok (.istore 5, 2) := by decide +kernel
theorem dX13_wear_43 : decode cX13_wear 43 = .ok (.iload 5, 2) := by decide +kernel
theorem dX13_wear_45 : decode cX13_wear 45 = .ok (.aload_n 0, 1) := by decide +kernel
theorem dX13_wear_46 : decode cX13_wear 46 = .ok (.getfield 40, 3) := by decide +kernel
theorem dX13_wear_49 : decode cX13_wear 49 = .ok (.iconst 2, 1) := by decide +kernel
theorem dX13_wear_50 : decode cX13_wear 50 = .ok (.iaload, 1) := by decide +kernel
theorem dX13_wear_51 : decode cX13_wear 51 = .ok (.if_icmp .ge 63, 3) := by decide +kernel
theorem dX13_wear_54 : decode cX13_wear 54 = .ok (.iload 4, 2) := by decide +kernel
theorem dX13_wear_56 : decode cX13_wear 56 = .ok (.aload_n 0, 1) := by decide +kernel
theorem dX13_wear_57 : decode cX13_wear 57 = .ok (.getfield 66, 3) := by decide +kernel
theorem dX13_wear_60 : decode cX13_wear 60 = .ok (.iload 5, 2) := by decide +kernel
theorem dX13_wear_62 : decode cX13_wear 62 = .ok (.iaload, 1) := by decide +kernel
theorem dX13_wear_63 : decode cX13_wear 63 = .ok (.iconst 1, 1) := by decide +kernel
theorem dX13_wear_64 : decode cX13_wear 64 = .ok (.if_icmp .ne 40, 3) := by decide +kernel
theorem dX13_wear_67 : decode cX13_wear 67 = .ok (.aload_n 0, 1) := by decide +kernel
theorem dX13_wear_68 : decode cX13_wear 68 = .ok (.aload_n 0, 1) := by decide +kernel
theorem dX13_wear_69 : decode cX13_wear 69 = .ok (.getfield 84, 3) := by decide +kernel
theorem dX13_wear_72 : decode cX13_wear 72 = .ok (.iload 5, 2) := by decide +kernel
theorem dX13_wear_74 : decode cX13_wear 74 = .ok (.iaload, 1) := by decide +kernel
theorem dX13_wear_75 : decode cX13_wear 75 = .ok (.invokevirtual 363, 3) := by decide +kernel
theorem dX13_wear_78 : decode cX13_wear 78 = .ok (.ifCond .eq 26, 3) := by decide +kernel
theorem dX13_wear_81 : decode cX13_wear 81 = .ok (.aload_n 0, 1) := by decide +kernel
theorem dX13_wear_82 : decode cX13_wear 82 = .ok (.getfield 53, 3) := by decide +kernel
theorem dX13_wear_85 : decode cX13_wear 85 = .ok (.aload_n 0, 1) := by decide +kernel
theorem dX13_wear_86 : decode cX13_wear 86 = .ok (.getfield 84, 3) := by decide +kernel
theorem dX13_wear_89 : decode cX13_wear 89 = .ok (.iload 5, 2) := by decide +kernel
theorem dX13_wear_91 : decode cX13_wear 91 = .ok (.iaload, 1) := by decide +kernel
theorem dX13_wear_92 : decode cX13_wear 92 = .ok (.iaload, 1) := by decide +kernel
theorem dX13_wear_93 : decode cX13_wear 93 = .ok (.iload_n 1, 1) := by decide +kernel
theorem dX13_wear_94 : decode cX13_wear 94 = .ok (.if_icmp .ne 10, 3) := by decide +kernel
theorem dX13_wear_97 : decode cX13_wear 97 = .ok (.iconst 1, 1) := by decide +kernel
theorem dX13_wear_98 : decode cX13_wear 98 = .ok (.iload 5, 2) := by decide +kernel
theorem dX13_wear_100 : decode cX13_wear 100 = .ok (.ishl, 1) := by decide +kernel
theorem dX13_wear_101 : decode cX13_wear 101 = .ok (.goto 4, 3) := by decide +kernel
theorem dX13_wear_104 : decode cX13_wear 104 = .ok (.iconst 0, 1) := by decide +kernel
theorem dX13_wear_105 : decode cX13_wear 105 = .ok (.ior, 1) := by decide +kernel
theorem dX13_wear_106 : decode cX13_wear 106 = .ok (.istore 4, 2) := by decide +kernel
theorem dX13_wear_108 : decode cX13_wear 108 = .ok (.iinc 5 1, 3) := by decide +kernel
theorem dX13_wear_111 : decode cX13_wear 111 = .ok (.goto (-68), 3) := by decide +kernel
theorem dX13_wear_114 : decode cX13_wear 114 = .ok (.aload_n 0, 1) := by decide +kernel
theorem dX13_wear_115 : decode cX13_wear 115 = .ok (.bipush 10, 2) := by decide +kernel
theorem dX13_wear_117 : decode cX13_wear 117 = .ok (.iload_n 1, 1) := by decide +kernel
theorem dX13_wear_118 : decode cX13_wear 118 = .ok (.iadd, 1) := by decide +kernel
theorem dX13_wear_119 : decode cX13_wear 119 = .ok (.iconst 3, 1) := by decide +kernel
theorem dX13_wear_120 : decode cX13_wear 120 = .ok (.invokevirtual 351, 3) := by decide +kernel
theorem dX13_wear_123 : decode cX13_wear 123 = .ok (.istore 5, 2) := by decide +kernel
theorem dX13_wear_125 : decode cX13_wear 125 = .ok (.iconst (-1), 1) := by decide +kernel
theorem dX13_wear_126 : decode cX13_wear 126 = .ok (.istore 6, 2) := by decide +kernel
theorem dX13_wear_128 : decode cX13_wear 128 = .ok (.iconst 0, 1) := by decide +kernel
theorem dX13_wear_129 : decode cX13_wear 129 = .ok (.istore 7, 2) := by decide +kernel
theorem dX13_wear_131 : decode cX13_wear 131 = .ok (.iconst 0, 1) := by decide +kernel
theorem dX13_wear_132 : decode cX13_wear 132 = .ok (.istore 8, 2) := by decide +kernel
theorem dX13_wear_134 : decode cX13_wear 134 = .ok (.iload 8, 2) := by decide +kernel
theorem dX13_wear_136 : decode cX13_wear 136 = .ok (.iconst 1, 1) := by decide +kernel
theorem dX13_wear_137 : decode cX13_wear 137 = .ok (.aload_n 0, 1) := by decide +kernel
theorem dX13_wear_138 : decode cX13_wear 138 = .ok (.getfield 40, 3) := by decide +kernel
theorem dX13_wear_141 : decode cX13_wear 141 = .ok (.iconst 2, 1) := by decide +kernel
theorem dX13_wear_142 : decode cX13_wear 142 = .ok (.iaload, 1) := by decide +kernel
theorem dX13_wear_143 : decode cX13_wear 143 = .ok (.ishl, 1) := by decide +kernel
theorem dX13_wear_144 : decode cX13_wear 144 = .ok (.if_icmp .ge 129, 3) := by decide +kernel
theorem dX13_wear_147 : decode cX13_wear 147 = .ok (.iload 8, 2) := by decide +kernel
theorem dX13_wear_149 : decode cX13_wear 149 = .ok (.iload 4, 2) := by decide +kernel
theorem dX13_wear_151 : decode cX13_wear 151 = .ok (.iconst (-1), 1) := by decide +kernel
theorem dX13_wear_152 : decode cX13_wear 152 = .ok (.ixor, 1) := by decide +kernel
theorem dX13_wear_153 : decode cX13_wear 153 = .ok (.iand, 1) := by decide +kernel
theorem dX13_wear_154 : decode cX13_wear 154 = .ok (.ifCond .eq 6, 3) := by decide +kernel
theorem dX13_wear_157 : decode cX13_wear 157 = .ok (.goto 110, 3) := by decide +kernel
theorem dX13_wear_160 : decode cX13_wear 160 = .ok (.iconst 0, 1) := by decide +kernel
theorem dX13_wear_161 : decode cX13_wear 161 = .ok (.istore 9, 2) := by decide +kernel
theorem dX13_wear_163 : decode cX13_wear 163 = .ok (.iconst 0, 1) := by decide +kernel
theorem dX13_wear_164 : decode cX13_wear 164 = .ok (.istore 10, 2) := by decide +kernel
theorem dX13_wear_166 : decode cX13_wear 166 = .ok (.iconst 0, 1) := by decide +kernel
theorem dX13_wear_167 : decode cX13_wear 167 = .ok (.istore 11, 2) := by decide +kernel
theorem dX13_wear_169 : decode cX13_wear 169 = .ok (.iload 11, 2) := by decide +kernel
theorem dX13_wear_171 : decode cX13_wear 171 = .ok (.aload_n 0, 1) := by decide +kernel
theorem dX13_wear_172 : decode cX13_wear 172 = .ok (.getfield 40, 3) := by decide +kernel
theorem dX13_wear_175 : decode cX13_wear 175 = .ok (.iconst 2, 1) := by decide +kernel
theorem dX13_wear_176 : decode cX13_wear 176 = .ok (.iaload, 1) := by decide +kernel
theorem dX13_wear_177 : decode cX13_wear 177 = .ok (.if_icmp .ge 46, 3) := by decide +kernel
theorem dX13_wear_180 : decode cX13_wear 180 = .ok (.iload 8, 2) := by decide +kernel
theorem dX13_wear_182 : decode cX13_wear 182 = .ok (.iload 11, 2) := by decide +kernel
theorem dX13_wear_184 : decode cX13_wear 184 = .ok (.ishr, 1) := by decide +kernel
theorem dX13_wear_185 : decode cX13_wear 185 = .ok (.iconst 1, 1) := by decide +kernel
theorem dX13_wear_186 : decode cX13_wear 186 = .ok (.iand, 1) := by decide +kernel
theorem dX13_wear_187 : decode cX13_wear 187 = .ok (.ifCond .ne 6, 3) := by decide +kernel
theorem dX13_wear_190 : decode cX13_wear 190 = .ok (.goto 27, 3) := by decide +kernel
theorem dX13_wear_193 : decode cX13_wear 193 = .ok (.iload 9, 2) := by decide +kernel
theorem dX13_wear_195 : decode cX13_wear 195 = .ok (.aload_n 0, 1) := by decide +kernel
theorem dX13_wear_196 : decode cX13_wear 196 = .ok (.getfield 69, 3) := by decide +kernel
theorem dX13_wear_199 : decode cX13_wear 199 = .ok (.iload 11, 2) := by decide +kernel
theorem dX13_wear_201 : decode cX13_wear 201 = .ok (.iaload, 1) := by decide +kernel
theorem dX13_wear_202 : decode cX13_wear 202 = .ok (.iadd, 1) := by decide +kernel
theorem dX13_wear_203 : decode cX13_wear 203 = .ok (.istore 9, 2) := by decide +kernel
theorem dX13_wear_205 : decode cX13_wear 205 = .ok (.iload 10, 2) := by decide +kernel
theorem dX13_wear_207 : decode cX13_wear 207 = .ok (.aload_n 0, 1) := by decide +kernel
theorem dX13_wear_208 : decode cX13_wear 208 = .ok (.getfield 81, 3) := by decide +kernel
theorem dX13_wear_211 : decode cX13_wear 211 = .ok (.iload 11, 2) := by decide +kernel
theorem dX13_wear_213 : decode cX13_wear 213 = .ok (.iaload, 1) := by decide +kernel
theorem dX13_wear_214 : decode cX13_wear 214 = .ok (.iadd, 1) := by decide +kernel
theorem dX13_wear_215 : decode cX13_wear 215 = .ok (.istore 10, 2) := by decide +kernel
theorem dX13_wear_217 : decode cX13_wear 217 = .ok (.iinc 11 1, 3) := by decide +kernel
theorem dX13_wear_220 : decode cX13_wear 220 = .ok (.goto (-51), 3) := by decide +kernel
theorem dX13_wear_223 : decode cX13_wear 223 = .ok (.iload 9, 2) := by decide +kernel
theorem dX13_wear_225 : decode cX13_wear 225 = .ok (.iload_n 2, 1) := by decide +kernel
theorem dX13_wear_226 : decode cX13_wear 226 = .ok (.if_icmp .lt 41, 3) := by decide +kernel
theorem dX13_wear_229 : decode cX13_wear 229 = .ok (.iload 5, 2) := by decide +kernel
theorem dX13_wear_231 : decode cX13_wear 231 = .ok (.iload 10, 2) := by decide +kernel
theorem dX13_wear_233 : decode cX13_wear 233 = .ok (.iadd, 1) := by decide +kernel
theorem dX13_wear_234 : decode cX13_wear 234 = .ok (.aload_n 0, 1) := by decide +kernel
theorem dX13_wear_235 : decode cX13_wear 235 = .ok (.getfield 50, 3) := by decide +kernel
theorem dX13_wear_238 : decode cX13_wear 238 = .ok (.iload_n 1, 1) := by decide +kernel
theorem dX13_wear_239 : decode cX13_wear 239 = .ok (.iaload, 1) := by decide +kernel
theorem dX13_wear_240 : decode cX13_wear 240 = .ok (.if_icmp .gt 27, 3) := by decide +kernel
theorem dX13_wear_243 : decode cX13_wear 243 = .ok (.iload 6, 2) := by decide +kernel
theorem dX13_wear_245 : decode cX13_wear 245 = .ok (.iconst (-1), 1) := by decide +kernel
theorem dX13_wear_246 : decode cX13_wear 246 = .ok (.if_icmp .eq 13, 3) := by decide +kernel
theorem dX13_wear_249 : decode cX13_wear 249 = .ok (.iload 10, 2) := by decide +kernel
theorem dX13_wear_251 : decode cX13_wear 251 = .ok (.iload 7, 2) := by decide +kernel
theorem dX13_wear_253 : decode cX13_wear 253 = .ok (.if_icmp .lt 6, 3) := by decide +kernel
theorem dX13_wear_256 : decode cX13_wear 256 = .ok (.goto 11, 3) := by decide +kernel
theorem dX13_wear_259 : decode cX13_wear 259 = .ok (.iload 8, 2) := by decide +kernel
theorem dX13_wear_261 : decode cX13_wear 261 = .ok (.istore 6, 2) := by decide +kernel
theorem dX13_wear_263 : decode cX13_wear 263 = .ok (.iload 10, 2) := by decide +kernel
theorem dX13_wear_265 : decode cX13_wear 265 = .ok (.istore 7, 2) := by decide +kernel
theorem dX13_wear_267 : decode cX13_wear 267 = .ok (.iinc 8 1, 3) := by decide +kernel
theorem dX13_wear_270 : decode cX13_wear 270 = .ok (.goto (-136), 3) := by decide +kernel
theorem dX13_wear_273 : decode cX13_wear 273 = .ok (.iload 6, 2) := by decide +kernel
theorem dX13_wear_275 : decode cX13_wear 275 = .ok (.iconst (-1), 1) := by decide +kernel
theorem dX13_wear_276 : decode cX13_wear 276 = .ok (.if_icmp .ne 7, 3) := by decide +kernel
theorem dX13_wear_279 : decode cX13_wear 279 = .ok (.iconst (-1), 1) := by decide +kernel
theorem dX13_wear_280 : decode cX13_wear 280 = .ok (.goto 14, 3) := by decide +kernel
theorem dX13_wear_283 : decode cX13_wear 283 = .ok (.iload_n 3, 1) := by decide +kernel
theorem dX13_wear_284 : decode cX13_wear 284 = .ok (.ifCond .eq 8, 3) := by decide +kernel
theorem dX13_wear_287 : decode cX13_wear 287 = .ok (.iload 6, 2) := by decide +kernel
theorem dX13_wear_289 : decode cX13_wear 289 = .ok (.goto 5, 3) := by decide +kernel
theorem dX13_wear_292 : decode cX13_wear 292 = .ok (.iload 7, 2) := by decide +kernel
theorem dX13_wear_294 : decode cX13_wear 294 = .ok (.ireturn, 1) := by decide +kernel
set_option maxRecDepth 20000 in
theorem ggX13_share_X13_sumAt : GoodIn wsX13_share wsX13_sumAt := goodIn_r _ [15, 2, 16, 17, 18, 19, 20, 21, 22, 23, 24, 25, 26, 27, 28, 29, 30, 31, 32, 33, 34, 35, 36, 37, 38, 39, 40, 41, 42, 43, 44, 45, 46, 47, 48, 49, 50, 51, 52, 53, 54, 55, 56, 57, 58, 59, 60, 61, 62, 63, 64, 65, 66, 67, 68, 69, 70, 71, 72, 73, 74, 75, 76, 77, 78, 79, 80, 81, 82, 83, 84, 85, 86, 87] rfl (by decide +kernel)
set_option maxRecDepth 20000 in
theorem gX13_share_X13_sumAt : GoodIn wsX13_share (wsV RX13 351 RX13 yX13_sumAt wsX13_sumAt) := goodIn_app (goodIn_of _ (by decide +kernel)) ggX13_share_X13_sumAt
theorem dX13_share_0 : decode cX13_share 0 = .ok (.aload_n 0, 1) := by decide +kernel
theorem dX13_share_1 : decode cX13_share 1 = .ok (.iconst 0, 1) := by decide +kernel
theorem dX13_share_2 : decode cX13_share 2 = .ok (.putfield 173, 3) := by decide +kernel
theorem dX13_share_5 : decode cX13_share 5 = .ok (.aload_n 0, 1) := by decide +kernel
theorem dX13_share_6 : decode cX13_share 6 = .ok (.getfield 40, 3) := by decide +kernel
theorem dX13_share_9 : decode cX13_share 9 = .ok (.iconst 0, 1) := by decide +kernel
theorem dX13_share_10 : decode cX13_share 10 = .ok (.iaload, 1) := by decide +kernel
theorem dX13_share_11 : decode cX13_share 11 = .ok (.ifCond .ne 5, 3) := by decide +kernel
theorem dX13_share_14 : decode cX13_share 14 = .ok (.iconst (-1), 1) := by decide +kernel
theorem dX13_share_15 : decode cX13_share 15 = .ok (.ireturn, 1) := by decide +kernel
theorem dX13_share_16 : decode cX13_share 16 = .ok (.iconst 1, 1) := by decide +kernel
theorem dX13_share_17 : decode cX13_share 17 = .ok (.istore_n 1, 1) := by decide +kernel
theorem dX13_share_18 : decode cX13_share 18 = .ok (.iconst 0, 1) := by decide +kernel
theorem dX13_share_19 : decode cX13_share 19 = .ok (.istore_n 2, 1) := by decide +kernel
theorem dX13_share_20 : decode cX13_share 20 = .ok (.iload_n 2, 1) := by decide +kernel
theorem dX13_share_21 : decode cX13_share 21 = .ok (.aload_n 0, 1) := by decide +kernel
theorem dX13_share_22 : decode cX13_share 22 = .ok (.getfield 40, 3) := by decide +kernel
theorem dX13_share_25 : decode cX13_share 25 = .ok (.iconst 1, 1) := by decide +kernel
theorem dX13_share_26 : decode cX13_share 26 = .ok (.iaload, 1) := by decide +kernel
theorem dX13_share_27 : decode cX13_share 27 = .ok (.if_icmp .ge 18, 3) := by decide +kernel
theorem dX13_share_30 : decode cX13_share 30 = .ok (.iload_n 1, 1) := by decide +kernel
theorem dX13_share_31 : decode cX13_share 31 = .ok (.aload_n 0, 1) := by decide +kernel
theorem dX13_share_32 : decode cX13_share 32 = .ok (.getfield 40, 3) := by decide +kernel
theorem dX13_share_35 : decode cX13_share 35 = .ok (.iconst 0, 1) := by decide +kernel
theorem dX13_share_36 : decode cX13_share 36 = .ok (.iaload, 1) := by decide +kernel
theorem dX13_share_37 : decode cX13_share 37 = .ok (.imul, 1) := by decide +kernel
theorem dX13_share_38 : decode cX13_share 38 = .ok (.istore_n 1, 1) := by decide +kernel
theorem dX13_share_39 : decode cX13_share 39 = .ok (.iinc 2 1, 3) := by decide +kernel
theorem dX13_share_42 : decode cX13_share 42 = .ok (.goto (-22), 3) := by decide +kernel
theorem dX13_share_45 : decode cX13_share 45 = .ok (.iconst (-1), 1) := by decide +kernel
theorem dX13_share_46 : decode cX13_share 46 = .ok (.istore_n 2, 1) := by decide +kernel
theorem dX13_share_47 : decode cX13_share 47 = .ok (.iconst 0, 1) := by decide +kernel
theorem dX13_share_48 : decode cX13_share 48 = .ok (.istore_n 3, 1) := by decide +kernel
theorem dX13_share_49 : decode cX13_share 49 = .ok (.iconst 0, 1) := by decide +kernel
theorem dX13_share_50 : decode cX13_share 50 = .ok (.istore 4, 2) := by decide +kernel
theorem dX13_share_52 : decode cX13_share 52 = .ok (.iload 4, 2) := by decide +kernel
theorem dX13_share_54 : decode cX13_share 54 = .ok (.iload_n 1, 1) := by decide +kernel
theorem dX13_share_55 : decode cX13_share 55 = .ok (.if_icmp .ge 166, 3) := by decide +kernel
theorem dX13_share_58 : decode cX13_share 58 = .ok (.iconst 0, 1) := by decide +kernel
theorem dX13_share_59 : decode cX13_share 59 = .ok (.istore 5, 2) := by decide +kernel
theorem dX13_share_61 : decode cX13_share 61 = .ok (.iload 5, 2) := by decide +kernel
theorem dX13_share_63 : decode cX13_share 63 = .ok (.aload_n 0, 1) := by decide +kernel
theorem dX13_share_64 : decode cX13_share 64 = .ok (.getfield 40, 3) := by decide +kernel
theorem dX13_share_67 : decode cX13_share 67 = .ok (.iconst 0, 1) := by decide +kernel
theorem dX13_share_68 : decode cX13_share 68 = .ok (.iaload, 1) := by decide +kernel
theorem dX13_share_69 : decode cX13_share 69 = .ok (.if_icmp .ge 17, 3) := by decide +kernel
theorem dX13_share_72 : decode cX13_share 72 = .ok (.aload_n 0, 1) := by decide +kernel
theorem dX13_share_73 : decode cX13_share 73 = .ok (.getfield 143, 3) := by decide +kernel
theorem dX13_share_76 : decode cX13_share 76 = .ok (.iload 5, 2) := by decide +kernel
theorem dX13_share_78 : decode cX13_share 78 = .ok (.iconst 0, 1) := by decide +kernel
theorem dX13_share_79 : decode cX13_share 79 = .ok (.iastore, 1) := by decide +kernel
theorem dX13_share_80 : decode cX13_share 80 = .ok (.iinc 5 1, 3) := by decide +kernel
theorem dX13_share_83 : decode cX13_share 83 = .ok (.goto (-22), 3) := by decide +kernel
theorem dX13_share_86 : decode cX13_share 86 = .ok (.iload 4, 2) := by decide +kernel
theorem dX13_share_88 : decode cX13_share 88 = .ok (.istore 5, 2) := by decide +kernel
theorem dX13_share_90 : decode cX13_share 90 = .ok (.aload_n 0, 1) := by decide +kernel
theorem dX13_share_91 : decode cX13_share 91 = .ok (.getfield 40, 3) := by decide +kernel
theorem dX13_share_94 : decode cX13_share 94 = .ok (.iconst 1, 1) := by decide +kernel
theorem dX13_share_95 : decode cX13_share 95 = .ok (.iaload, 1) := by decide +kernel
theorem dX13_share_96 : decode cX13_share 96 = .ok (.iconst 1, 1) := by decide +kernel
theorem dX13_share_97 : decode cX13_share 97 = .ok (.isub, 1) := by decide +kernel
theorem dX13_share_98 : decode cX13_share 98 = .ok (.istore 6, 2) := by decide +kernel
theorem dX13_share_100 : decode cX13_share 100 = .ok (.iload 6, 2) := by decide +kernel
theorem dX13_share_102 : decode cX13_share 102 = .ok (.ifCond .lt 44, 3) := by decide +kernel
theorem dX13_share_105 : decode cX13_share 105 = .ok (.aload_n 0, 1) := by decide +kernel
theorem dX13_share_106 : decode cX13_share 106 = .ok (.getfield 143, 3) := by decide +kernel
theorem dX13_share_109 : decode cX13_share 109 = .ok (.iload 5, 2) := by decide +kernel
theorem dX13_share_111 : decode cX13_share 111 = .ok (.aload_n 0, 1) := by decide +kernel
theorem dX13_share_112 : decode cX13_share 112 = .ok (.getfield 40, 3) := by decide +kernel
theorem dX13_share_115 : decode cX13_share 115 = .ok (.iconst 0, 1) := by decide +kernel
theorem dX13_share_116 : decode cX13_share 116 = .ok (.iaload, 1) := by decide +kernel
theorem dX13_share_117 : decode cX13_share 117 = .ok (.irem, 1) := by decide +kernel
theorem dX13_share_118 : decode cX13_share 118 = .ok (.dup2, 1) := by decide +kernel
theorem dX13_share_119 : decode cX13_share 119 = .ok (.iaload, 1) := by decide +kernel
theorem dX13_share_120 : decode cX13_share 120 = .ok (.aload_n 0, 1) := by decide +kernel
theorem dX13_share_121 : decode cX13_share 121 = .ok (.iload 6, 2) := by decide +kernel
theorem dX13_share_123 : decode cX13_share 123 = .ok (.iconst 1, 1) := by decide +kernel
theorem dX13_share_124 : decode cX13_share 124 = .ok (.invokevirtual 351, 3) := by decide +kernel
theorem dX13_share_127 : decode cX13_share 127 = .ok (.iadd, 1) := by decide +kernel
theorem dX13_share_128 : decode cX13_share 128 = .ok (.iastore, 1) := by decide +kernel
theorem dX13_share_129 : decode cX13_share 129 = .ok (.iload 5, 2) := by decide +kernel
theorem dX13_share_131 : decode cX13_share 131 = .ok (.aload_n 0, 1) := by decide +kernel
theorem dX13_share_132 : decode cX13_share 132 = .ok (.getfield 40, 3) := by decide +kernel
theorem dX13_share_135 : decode cX13_share 135 = .ok (.iconst 0, 1) := by decide +kernel
theorem dX13_share_136 : decode cX13_share 136 = .ok (.iaload, 1) := by decide +kernel
theorem dX13_share_137 : decode cX13_share 137 = .ok (.idiv, 1) := by decide +kernel
theorem dX13_share_138 : decode cX13_share 138 = .ok (.istore 5, 2) := by decide +kernel
theorem dX13_share_140 : decode cX13_share 140 = .ok (.iinc 6 (-1), 3) := by decide +kernel
theorem dX13_share_143 : decode cX13_share 143 = .ok (.goto (-43), 3) := by decide +kernel
theorem dX13_share_146 : decode cX13_share 146 = .ok (.iconst 0, 1) := by decide +kernel
theorem dX13_share_147 : decode cX13_share 147 = .ok (.istore 6, 2) := by decide +kernel
theorem dX13_share_149 : decode cX13_share 149 = .ok (.iconst 0, 1) := by decide +kernel
theorem dX13_share_150 : decode cX13_share 150 = .ok (.istore 7, 2) := by decide +kernel
theorem dX13_share_152 : decode cX13_share 152 = .ok (.iload 7, 2) := by decide +kernel
theorem dX13_share_154 : decode cX13_share 154 = .ok (.aload_n 0, 1) := by decide +kernel
theorem dX13_share_155 : decode cX13_share 155 = .ok (.getfield 40, 3) := by decide +kernel
theorem dX13_share_158 : decode cX13_share 158 = .ok (.iconst 0, 1) := by decide +kernel
theorem dX13_share_159 : decode cX13_share 159 = .ok (.iaload, 1) := by decide +kernel
theorem dX13_share_160 : decode cX13_share 160 = .ok (.if_icmp .ge 35, 3) := by decide +kernel
theorem dX13_share_163 : decode cX13_share 163 = .ok (.iload 6, 2) := by decide +kernel
theorem dX13_share_165 : decode cX13_share 165 = .ok (.aload_n 0, 1) := by decide +kernel
theorem dX13_share_166 : decode cX13_share 166 = .ok (.getfield 143, 3) := by decide +kernel
theorem dX13_share_169 : decode cX13_share 169 = .ok (.iload 7, 2) := by decide +kernel
theorem dX13_share_171 : decode cX13_share 171 = .ok (.iaload, 1) := by decide +kernel
theorem dX13_share_172 : decode cX13_share 172 = .ok (.sipush 1000, 3) := by decide +kernel
theorem dX13_share_175 : decode cX13_share 175 = .ok (.imul, 1) := by decide +kernel
theorem dX13_share_176 : decode cX13_share 176 = .ok (.aload_n 0, 1) := by decide +kernel
theorem dX13_share_177 : decode cX13_share 177 = .ok (.getfield 44, 3) := by decide +kernel
theorem dX13_share_180 : decode cX13_share 180 = .ok (.iload 7, 2) := by decide +kernel
theorem dX13_share_182 : decode cX13_share 182 = .ok (.iaload, 1) := by decide +kernel
theorem dX13_share_183 : decode cX13_share 183 = .ok (.idiv, 1) := by decide +kernel
theorem dX13_share_184 : decode cX13_share 184 = .ok (.invokestatic 354, 3) := by decide +kernel
theorem dX13_share_187 : decode cX13_share 187 = .ok (.istore 6, 2) := by decide +kernel
theorem dX13_share_189 : decode cX13_share 189 = .ok (.iinc 7 1, 3) := by decide +kernel
theorem dX13_share_192 : decode cX13_share 192 = .ok (.goto (-40), 3) := by decide +kernel
theorem dX13_share_195 : decode cX13_share 195 = .ok (.iload_n 2, 1) := by decide +kernel
theorem dX13_share_196 : decode cX13_share 196 = .ok (.iconst (-1), 1) := by decide +kernel
theorem dX13_share_197 : decode cX13_share 197 = .ok (.if_icmp .eq 12, 3) := by decide +kernel
theorem dX13_share_200 : decode cX13_share 200 = .ok (.iload 6, 2) := by decide +kernel
theorem dX13_share_202 : decode cX13_share 202 = .ok (.iload_n 2, 1) := by decide +kernel
theorem dX13_share_203 : decode cX13_share 203 = .ok (.if_icmp .lt 6, 3) := by decide +kernel
theorem dX13_share_206 : decode cX13_share 206 = .ok (.goto 9, 3) := by decide +kernel
theorem dX13_share_209 : decode cX13_share 209 = .ok (.iload 6, 2) := by decide +kernel
theorem dX13_share_211 : decode cX13_share 211 = .ok (.istore_n 2, 1) := by decide +kernel
theorem dX13_share_212 : decode cX13_share 212 = .ok (.iload 4, 2) := by decide +kernel
theorem dX13_share_214 : decode cX13_share 214 = .ok (.istore_n 3, 1) := by decide +kernel
theorem dX13_share_215 : decode cX13_share 215 = .ok (.iinc 4 1, 3) := by decide +kernel
theorem dX13_share_218 : decode cX13_share 218 = .ok (.goto (-166), 3) := by decide +kernel
theorem dX13_share_221 : decode cX13_share 221 = .ok (.aload_n 0, 1) := by decide +kernel
theorem dX13_share_222 : decode cX13_share 222 = .ok (.iconst 1, 1) := by decide +kernel
theorem dX13_share_223 : decode cX13_share 223 = .ok (.putfield 340, 3) := by decide +kernel
theorem dX13_share_226 : decode cX13_share 226 = .ok (.aload_n 0, 1) := by decide +kernel
theorem dX13_share_227 : decode cX13_share 227 = .ok (.getfield 40, 3) := by decide +kernel
theorem dX13_share_230 : decode cX13_share 230 = .ok (.iconst 1, 1) := by decide +kernel
theorem dX13_share_231 : decode cX13_share 231 = .ok (.iaload, 1) := by decide +kernel
theorem dX13_share_232 : decode cX13_share 232 = .ok (.iconst 1, 1) := by decide +kernel
theorem dX13_share_233 : decode cX13_share 233 = .ok (.isub, 1) := by decide +kernel
theorem dX13_share_234 : decode cX13_share 234 = .ok (.istore 4, 2) := by decide +kernel
theorem dX13_share_236 : decode cX13_share 236 = .ok (.iload 4, 2) := by decide +kernel
theorem dX13_share_238 : decode cX13_share 238 = .ok (.ifCond .lt 33, 3) := by decide +kernel
theorem dX13_share_241 : decode cX13_share 241 = .ok (.aload_n 0, 1) := by decide +kernel
theorem dX13_share_242 : decode cX13_share 242 = .ok (.getfield 140, 3) := by decide +kernel
theorem dX13_share_245 : decode cX13_share 245 = .ok (.iload 4, 2) := by decide +kernel
theorem dX13_share_247 : decode cX13_share 247 = .ok (.iload_n 3, 1) := by decide +kernel
theorem dX13_share_248 : decode cX13_share 248 = .ok (.aload_n 0, 1) := by decide +kernel
theorem dX13_share_249 : decode cX13_share 249 = .ok (.getfield 40, 3) := by decide +kernel
theorem dX13_share_252 : decode cX13_share 252 = .ok (.iconst 0, 1) := by decide +kernel
theorem dX13_share_253 : decode cX13_share 253 = .ok (.iaload, 1) := by decide +kernel
theorem dX13_share_254 : decode cX13_share 254 = .ok (.irem, 1) := by decide +kernel
theorem dX13_share_255 : decode cX13_share 255 = .ok (.iastore, 1) := by decide +kernel
theorem dX13_share_256 : decode cX13_share 256 = .ok (.iload_n 3, 1) := by decide +kernel
theorem dX13_share_257 : decode cX13_share 257 = .ok (.aload_n 0, 1) := by decide +kernel
theorem dX13_share_258 : decode cX13_share 258 = .ok (.getfield 40, 3) := by decide +kernel
theorem dX13_share_261 : decode cX13_share 261 = .ok (.iconst 0, 1) := by decide +kernel
theorem dX13_share_262 : decode cX13_share 262 = .ok (.iaload, 1) := by decide +kernel
theorem dX13_share_263 : decode cX13_share 263 = .ok (.idiv, 1) := by decide +kernel
theorem dX13_share_264 : decode cX13_share 264 = .ok (.istore_n 3, 1) := by decide +kernel
theorem dX13_share_265 : decode cX13_share 265 = .ok (.iinc 4 (-1), 3) := by decide +kernel
theorem dX13_share_268 : decode cX13_share 268 = .ok (.goto (-32), 3) := by decide +kernel
theorem dX13_share_271 : decode cX13_share 271 = .ok (.iload_n 2, 1) := by decide +kernel
theorem dX13_share_272 : decode cX13_share 272 = .ok (.ireturn, 1) := by decide +kernel
set_option maxRecDepth 20000 in
theorem ggX13_carrier_X13_isCase : GoodIn wsX13_carrier wsX13_isCase := goodIn_r _ [8, 9, 10, 11, 7, 12, 17, 18, 19, 20, 21, 22, 23, 24, 25, 26, 27, 28, 29, 30, 31, 32, 33, 34, 35, 36, 37, 38, 39, 40, 41, 42, 43, 44, 45, 46, 47, 48, 49, 50, 51, 52, 53, 54, 55, 56, 57, 58, 59, 60, 61, 62, 63, 64, 65, 66, 67, 68, 69, 70, 71, 72, 73, 74, 75, 76, 77, 78, 79, 80, 81, 82, 83] rfl (by decide +kernel)
set_option maxRecDepth 20000 in
theorem gX13_carrier_X13_isCase : GoodIn wsX13_carrier (wsV RX13 363 RX13 yX13_isCase wsX13_isCase) := goodIn_app (goodIn_of _ (by decide +kernel)) ggX13_carrier_X13_isCase
set_option maxRecDepth 20000 in
theorem ggX13_carrier_X13_fail : GoodIn wsX13_carrier wsX13_fail := goodIn_r _ [16, 1, 17, 18, 19, 20, 21, 22, 23, 24, 25, 26, 27, 28, 29, 30, 31, 32, 33, 34, 35, 36, 37, 38, 39, 40, 41, 42, 43, 44, 45, 46, 47, 48, 49, 50, 51, 52, 53, 54, 55, 56, 57, 58, 59, 60, 61, 62, 63, 64, 65, 66, 67, 68, 69, 70, 71, 72, 73, 74, 75, 76, 77, 78, 79, 80, 81, 82, 83] rfl (by decide +kernel)
set_option maxRecDepth 20000 in
theorem gX13_carrier_X13_fail : GoodIn wsX13_carrier (wsV RX13 318 RX13 yX13_fail wsX13_fail) := goodIn_app (goodIn_of _ (by decide +kernel)) ggX13_carrier_X13_fail
theorem dX13_carrier_0 : decode cX13_carrier 0 = .ok (.aload_n 0, 1) := by decide +kernel
theorem dX13_carrier_1 : decode cX13_carrier 1 = .ok (.iconst 0, 1) := by decide +kernel
theorem dX13_carrier_2 : decode cX13_carrier 2 = .ok (.putfield 173, 3) := by decide +kernel
theorem dX13_carrier_5 : decode cX13_carrier 5 = .ok (.aload_n 0, 1) := by decide +kernel
theorem dX13_carrier_6 : decode cX13_carrier 6 = .ok (.iload_n 1, 1) := by decide +kernel
theorem dX13_carrier_7 : decode cX13_carrier 7 = .ok (.invokevirtual 363, 3) := by decide +kernel
theorem dX13_carrier_10 : decode cX13_carrier 10 = .ok (.ifCond .eq 19, 3) := by decide +kernel
theorem dX13_carrier_13 : decode cX13_carrier 13 = .ok (.aload_n 0, 1) := by decide +kernel
theorem dX13_carrier_14 : decode cX13_carrier 14 = .ok (.getfield 340, 3) := by decide +kernel
theorem dX13_carrier_17 : decode cX13_carrier 17 = .ok (.ifCond .eq 12, 3) := by decide +kernel
theorem dX13_carrier_20 : decode cX13_carrier 20 = .ok (.aload_n 0, 1) := by decide +kernel
theorem dX13_carrier_21 : decode cX13_carrier 21 = .ok (.getfield 140, 3) := by decide +kernel
theorem dX13_carrier_24 : decode cX13_carrier 24 = .ok (.iload_n 1, 1) := by decide +kernel
theorem dX13_carrier_25 : decode cX13_carrier 25 = .ok (.iaload, 1) := by decide +kernel
theorem dX13_carrier_26 : decode cX13_carrier 26 = .ok (.goto 8, 3) := by decide +kernel
theorem dX13_carrier_29 : decode cX13_carrier 29 = .ok (.aload_n 0, 1) := by decide +kernel
theorem dX13_carrier_30 : decode cX13_carrier 30 = .ok (.iconst 1, 1) := by decide +kernel
theorem dX13_carrier_31 : decode cX13_carrier 31 = .ok (.invokevirtual 318, 3) := by decide +kernel
theorem dX13_carrier_34 : decode cX13_carrier 34 = .ok (.ireturn, 1) := by decide +kernel
set_option maxRecDepth 20000 in
theorem ggX13_look_X13_isCase : GoodIn wsX13_look wsX13_isCase := goodIn_r _ [7, 2, 8, 9, 6, 10, 55, 56, 57, 58, 59, 60, 61, 62, 63, 64, 65, 66, 67, 68, 69, 70, 71, 72, 73, 74, 75, 76, 77, 78, 79, 80, 81, 82, 83, 84, 85, 86, 87, 88, 89, 90, 91, 92, 93, 94, 95, 96, 97, 98, 99, 100, 101, 102, 103, 104, 105, 106, 107, 108, 109, 110, 111, 112, 113, 114, 115, 116, 117, 118, 119, 120, 121] rfl (by decide +kernel)
set_option maxRecDepth 20000 in
theorem gX13_look_X13_isCase : GoodIn wsX13_look (wsV RX13 363 RX13 yX13_isCase wsX13_isCase) := goodIn_app (goodIn_of _ (by decide +kernel)) ggX13_look_X13_isCase
set_option maxRecDepth 20000 in
theorem ggX13_look_X13_fail : GoodIn wsX13_look wsX13_fail := goodIn_r _ [14, 1, 55, 56, 57, 58, 59, 60, 61, 62, 63, 64, 65, 66, 67, 68, 69, 70, 71, 72, 73, 74, 75, 76, 77, 78, 79, 80, 81, 82, 83, 84, 85, 86, 87, 88, 89, 90, 91, 92, 93, 94, 95, 96, 97, 98, 99, 100, 101, 102, 103, 104, 105, 106, 107, 108, 109, 110, 111, 112, 113, 114, 115, 116, 117, 118, 119, 120, 121] rfl (by decide +kernel)
set_option maxRecDepth 20000 in
theorem gX13_look_X13_fail : GoodIn wsX13_look (wsV RX13 318 RX13 yX13_fail wsX13_fail) := goodIn_app (goodIn_of _ (by decide +kernel)) ggX13_look_X13_fail
set_option maxRecDepth 20000 in
theorem ggX13_look_X13_overOf : GoodIn wsX13_look wsX13_overOf := goodIn_r _ [18, 19, 20, 21, 22, 23, 24, 25, 26, 6, 27, 2, 28, 29, 30, 31, 32, 55, 56, 57, 58, 59, 60, 61, 62, 63, 64, 65, 66, 67, 68, 69, 70, 71, 72, 73, 74, 75, 76, 77, 78, 79, 80, 81, 82, 83, 84, 85, 86, 87, 88, 89, 90, 91, 92, 93, 94, 95, 96, 97, 98, 99, 100, 101, 102, 103, 104, 105, 106, 107, 108, 109, 110, 111, 112, 113, 114, 115, 116, 117, 118, 119, 120, 121] rfl (by decide +kernel)
set_option maxRecDepth 20000 in
theorem gX13_look_X13_overOf : GoodIn wsX13_look (wsV RX13 375 RX13 yX13_overOf wsX13_overOf) := goodIn_app (goodIn_of _ (by decide +kernel)) ggX13_look_X13_overOf
set_option maxRecDepth 20000 in
theorem ggX13_look_X13_feeOf : GoodIn wsX13_look wsX13_feeOf := goodIn_r _ [36, 24, 25, 26, 6, 27, 2, 28, 29, 30, 31, 32, 37, 38, 39, 40, 19, 20, 21, 22, 23, 41, 42, 43, 44, 45, 46, 47, 48, 49, 50, 51, 52, 53, 54, 55, 56, 57, 58, 59, 60, 61, 62, 63, 64, 65, 66, 67, 68, 69, 70, 71, 72, 73, 74, 75, 76, 77, 78, 79, 80, 81, 82, 83, 84, 85, 86, 87, 88, 89, 90, 91, 92, 93, 94, 95, 96, 97, 98, 99, 100, 101, 102, 103, 104, 105, 106, 107, 108, 109, 110, 111, 112, 113, 114, 115, 116, 117, 118, 119, 120, 121] rfl (by decide +kernel)
set_option maxRecDepth 20000 in
theorem gX13_look_X13_feeOf : GoodIn wsX13_look (wsV RX13 372 RX13 yX13_feeOf wsX13_feeOf) := goodIn_app (goodIn_of _ (by decide +kernel)) ggX13_look_X13_feeOf
theorem dX13_look_0 : decode cX13_look 0 = .ok (.aload_n 0, 1) := by decide +kernel
theorem dX13_look_1 : decode cX13_look 1 = .ok (.iconst 0, 1) := by decide +kernel
theorem dX13_look_2 : decode cX13_look 2 = .ok (.putfield 173, 3) := by decide +kernel
theorem dX13_look_5 : decode cX13_look 5 = .ok (.aload_n 0, 1) := by decide +kernel
theorem dX13_look_6 : decode cX13_look 6 = .ok (.iload_n 1, 1) := by decide +kernel
theorem dX13_look_7 : decode cX13_look 7 = .ok (.invokevirtual 363, 3) := by decide +kernel
theorem dX13_look_10 : decode cX13_look 10 = .ok (.ifCond .eq 12, 3) := by decide +kernel
theorem dX13_look_13 : decode cX13_look 13 = .ok (.iload_n 2, 1) := by decide +kernel
theorem dX13_look_14 : decode cX13_look 14 = .ok (.ifCond .lt 8, 3) := by decide +kernel
theorem dX13_look_17 : decode cX13_look 17 = .ok (.iload_n 2, 1) := by decide +kernel
theorem dX13_look_18 : decode cX13_look 18 = .ok (.iconst 1, 1) := by decide +kernel
theorem dX13_look_19 : decode cX13_look 19 = .ok (.if_icmp .le 9, 3) := by decide +kernel
theorem dX13_look_22 : decode cX13_look 22 = .ok (.aload_n 0, 1) := by decide +kernel
theorem dX13_look_23 : decode cX13_look 23 = .ok (.iconst 1, 1) := by decide +kernel
theorem dX13_look_24 : decode cX13_look 24 = .ok (.invokevirtual 318, 3) := by decide +kernel
theorem dX13_look_27 : decode cX13_look 27 = .ok (.ireturn, 1) := by decide +kernel
theorem dX13_look_28 : decode cX13_look 28 = .ok (.aload_n 0, 1) := by decide +kernel
theorem dX13_look_29 : decode cX13_look 29 = .ok (.iload_n 1, 1) := by decide +kernel
theorem dX13_look_30 : decode cX13_look 30 = .ok (.invokevirtual 375, 3) := by decide +kernel
theorem dX13_look_33 : decode cX13_look 33 = .ok (.ifCond .le 25, 3) := by decide +kernel
theorem dX13_look_36 : decode cX13_look 36 = .ok (.aload_n 0, 1) := by decide +kernel
theorem dX13_look_37 : decode cX13_look 37 = .ok (.getfield 40, 3) := by decide +kernel
theorem dX13_look_40 : decode cX13_look 40 = .ok (.iconst 4, 1) := by decide +kernel
theorem dX13_look_41 : decode cX13_look 41 = .ok (.iaload, 1) := by decide +kernel
theorem dX13_look_42 : decode cX13_look 42 = .ok (.aload_n 0, 1) := by decide +kernel
theorem dX13_look_43 : decode cX13_look 43 = .ok (.iload_n 1, 1) := by decide +kernel
theorem dX13_look_44 : decode cX13_look 44 = .ok (.invokevirtual 372, 3) := by decide +kernel
theorem dX13_look_47 : decode cX13_look 47 = .ok (.aload_n 0, 1) := by decide +kernel
theorem dX13_look_48 : decode cX13_look 48 = .ok (.getfield 40, 3) := by decide +kernel
theorem dX13_look_51 : decode cX13_look 51 = .ok (.iconst 5, 1) := by decide +kernel
theorem dX13_look_52 : decode cX13_look 52 = .ok (.iaload, 1) := by decide +kernel
theorem dX13_look_53 : decode cX13_look 53 = .ok (.iadd, 1) := by decide +kernel
theorem dX13_look_54 : decode cX13_look 54 = .ok (.imul, 1) := by decide +kernel
theorem dX13_look_55 : decode cX13_look 55 = .ok (.goto 4, 3) := by decide +kernel
theorem dX13_look_58 : decode cX13_look 58 = .ok (.iconst 0, 1) := by decide +kernel
theorem dX13_look_59 : decode cX13_look 59 = .ok (.istore_n 3, 1) := by decide +kernel
theorem dX13_look_60 : decode cX13_look 60 = .ok (.iload_n 2, 1) := by decide +kernel
theorem dX13_look_61 : decode cX13_look 61 = .ok (.ifCond .ne 7, 3) := by decide +kernel
theorem dX13_look_64 : decode cX13_look 64 = .ok (.iload_n 3, 1) := by decide +kernel
theorem dX13_look_65 : decode cX13_look 65 = .ok (.goto 20, 3) := by decide +kernel
theorem dX13_look_68 : decode cX13_look 68 = .ok (.iload_n 3, 1) := by decide +kernel
theorem dX13_look_69 : decode cX13_look 69 = .ok (.bipush 10, 2) := by decide +kernel
theorem dX13_look_71 : decode cX13_look 71 = .ok (.aload_n 0, 1) := by decide +kernel
theorem dX13_look_72 : decode cX13_look 72 = .ok (.iload_n 1, 1) := by decide +kernel
theorem dX13_look_73 : decode cX13_look 73 = .ok (.invokevirtual 372, 3) := by decide +kernel
theorem dX13_look_76 : decode cX13_look 76 = .ok (.imul, 1) := by decide +kernel
theorem dX13_look_77 : decode cX13_look 77 = .ok (.if_icmp .ge 7, 3) := by decide +kernel
theorem dX13_look_80 : decode cX13_look 80 = .ok (.iconst 1, 1) := by decide +kernel
theorem dX13_look_81 : decode cX13_look 81 = .ok (.goto 4, 3) := by decide +kernel
theorem dX13_look_84 : decode cX13_look 84 = .ok (.iconst 0, 1) := by decide +kernel
theorem dX13_look_85 : decode cX13_look 85 = .ok (.ireturn, 1) := by decide +kernel
set_option maxRecDepth 20000 in
theorem ggX13_see_X13_isCase : GoodIn wsX13_see wsX13_isCase := goodIn_r _ [10, 11, 12, 13, 9, 14, 24, 25, 26, 27, 28, 29, 30, 31, 32, 33, 34, 35, 36, 37, 38, 39, 40, 41, 42, 43, 44, 45, 46, 47, 48, 49, 50, 51, 52, 53, 54, 55, 56, 57, 58, 59, 60, 61, 62, 63, 64, 65, 66, 67, 68, 69, 70, 71, 72, 73, 74, 75, 76, 77, 78, 79, 80, 81, 82, 83, 84, 85, 86, 87, 88, 89, 90] rfl (by decide +kernel)
set_option maxRecDepth 20000 in
theorem gX13_see_X13_isCase : GoodIn wsX13_see (wsV RX13 363 RX13 yX13_isCase wsX13_isCase) := goodIn_app (goodIn_of _ (by decide +kernel)) ggX13_see_X13_isCase
set_option maxRecDepth 20000 in
theorem ggX13_see_X13_fail : GoodIn wsX13_see wsX13_fail := goodIn_r _ [18, 1, 24, 25, 26, 27, 28, 29, 30, 31, 32, 33, 34, 35, 36, 37, 38, 39, 40, 41, 42, 43, 44, 45, 46, 47, 48, 49, 50, 51, 52, 53, 54, 55, 56, 57, 58, 59, 60, 61, 62, 63, 64, 65, 66, 67, 68, 69, 70, 71, 72, 73, 74, 75, 76, 77, 78, 79, 80, 81, 82, 83, 84, 85, 86, 87, 88, 89, 90] rfl (by decide +kernel)
set_option maxRecDepth 20000 in
theorem gX13_see_X13_fail : GoodIn wsX13_see (wsV RX13 318 RX13 yX13_fail wsX13_fail) := goodIn_app (goodIn_of _ (by decide +kernel)) ggX13_see_X13_fail
set_option maxRecDepth 20000 in
theorem ggX13_see_X13_isIn : GoodIn wsX13_see wsX13_isIn := goodIn_r _ [14] rfl (by decide +kernel)
set_option maxRecDepth 20000 in
theorem gX13_see_X13_isIn : GoodIn wsX13_see (va_wsS RX13 176 yX13_isIn wsX13_isIn) := goodIn_app (goodIn_of _ (by decide +kernel)) ggX13_see_X13_isIn
set_option maxRecDepth 20000 in
theorem ggX13_see_X13_refuse : GoodIn wsX13_see wsX13_refuse := goodIn_r _ [22, 23, 24, 25, 26, 27, 28, 29, 30, 31, 32, 33, 34, 35, 36, 37, 38, 39, 40, 41, 42, 43, 44, 45, 46, 47, 48, 49, 50, 51, 52, 53, 54, 55, 56, 57, 58, 59, 60, 61, 62, 63, 64, 65, 66, 67, 68, 69, 70, 71, 72, 73, 74, 75, 76, 77, 78, 79, 80, 81, 82, 83, 84, 85, 86, 87, 88, 89, 90] rfl (by decide +kernel)
set_option maxRecDepth 20000 in
theorem gX13_see_X13_refuse : GoodIn wsX13_see (wsV RX13 390 RX13 yX13_refuse wsX13_refuse) := goodIn_app (goodIn_of _ (by decide +kernel)) ggX13_see_X13_refuse
theorem dX13_see_0 : decode cX13_see 0 = .ok (.aload_n 0, 1) := by decide +kernel
theorem dX13_see_1 : decode cX13_see 1 = .ok (.iconst 0, 1) := by decide +kernel
theorem dX13_see_2 : decode cX13_see 2 = .ok (.putfield 173, 3) := by decide +kernel
theorem dX13_see_5 : decode cX13_see 5 = .ok (.aload_n 0, 1) := by decide +kernel
theorem dX13_see_6 : decode cX13_see 6 = .ok (.iload_n 1, 1) := by decide +kernel
theorem dX13_see_7 : decode cX13_see 7 = .ok (.invokevirtual 363, 3) := by decide +kernel
theorem dX13_see_10 : decode cX13_see 10 = .ok (.ifCond .ne 9, 3) := by decide +kernel
theorem dX13_see_13 : decode cX13_see 13 = .ok (.aload_n 0, 1) := by decide +kernel
theorem dX13_see_14 : decode cX13_see 14 = .ok (.iconst 1, 1) := by decide +kernel
theorem dX13_see_15 : decode cX13_see 15 = .ok (.invokevirtual 318, 3) := by decide +kernel
theorem dX13_see_18 : decode cX13_see 18 = .ok (.ireturn, 1) := by decide +kernel
theorem dX13_see_19 : decode cX13_see 19 = .ok (.aload_n 0, 1) := by decide +kernel
theorem dX13_see_20 : decode cX13_see 20 = .ok (.getfield 337, 3) := by decide +kernel
theorem dX13_see_23 : decode cX13_see 23 = .ok (.bipush 6, 2) := by decide +kernel
theorem dX13_see_25 : decode cX13_see 25 = .ok (.if_icmp .eq 15, 3) := by decide +kernel
theorem dX13_see_28 : decode cX13_see 28 = .ok (.iload_n 2, 1) := by decide +kernel
theorem dX13_see_29 : decode cX13_see 29 = .ok (.i2l, 1) := by decide +kernel
theorem dX13_see_30 : decode cX13_see 30 = .ok (.lconst 0, 1) := by decide +kernel
theorem dX13_see_31 : decode cX13_see 31 = .ok (.ldc2_w 464, 3) := by decide +kernel
theorem dX13_see_34 : decode cX13_see 34 = .ok (.invokestatic 176, 3) := by decide +kernel
theorem dX13_see_37 : decode cX13_see 37 = .ok (.ifCond .ne 9, 3) := by decide +kernel
theorem dX13_see_40 : decode cX13_see 40 = .ok (.aload_n 0, 1) := by decide +kernel
theorem dX13_see_41 : decode cX13_see 41 = .ok (.iconst 2, 1) := by decide +kernel
theorem dX13_see_42 : decode cX13_see 42 = .ok (.invokevirtual 390, 3) := by decide +kernel
theorem dX13_see_45 : decode cX13_see 45 = .ok (.ireturn, 1) := by decide +kernel
theorem dX13_see_46 : decode cX13_see 46 = .ok (.aload_n 0, 1) := by decide +kernel
theorem dX13_see_47 : decode cX13_see 47 = .ok (.getfield 146, 3) := by decide +kernel
theorem dX13_see_50 : decode cX13_see 50 = .ok (.aload_n 0, 1) := by decide +kernel
theorem dX13_see_51 : decode cX13_see 51 = .ok (.getfield 337, 3) := by decide +kernel
theorem dX13_see_54 : decode cX13_see 54 = .ok (.iload_n 1, 1) := by decide +kernel
theorem dX13_see_55 : decode cX13_see 55 = .ok (.iastore, 1) := by decide +kernel
theorem dX13_see_56 : decode cX13_see 56 = .ok (.aload_n 0, 1) := by decide +kernel
theorem dX13_see_57 : decode cX13_see 57 = .ok (.getfield 149, 3) := by decide +kernel
theorem dX13_see_60 : decode cX13_see 60 = .ok (.aload_n 0, 1) := by decide +kernel
theorem dX13_see_61 : decode cX13_see 61 = .ok (.getfield 337, 3) := by decide +kernel
theorem dX13_see_64 : decode cX13_see 64 = .ok (.iload_n 2, 1) := by decide +kernel
theorem dX13_see_65 : decode cX13_see 65 = .ok (.iastore, 1) := by decide +kernel
theorem dX13_see_66 : decode cX13_see 66 = .ok (.aload_n 0, 1) := by decide +kernel
theorem dX13_see_67 : decode cX13_see 67 = .ok (.dup, 1) := by decide +kernel
theorem dX13_see_68 : decode cX13_see 68 = .ok (.getfield 337, 3) := by decide +kernel
theorem dX13_see_71 : decode cX13_see 71 = .ok (.iconst 1, 1) := by decide +kernel
theorem dX13_see_72 : decode cX13_see 72 = .ok (.iadd, 1) := by decide +kernel
theorem dX13_see_73 : decode cX13_see 73 = .ok (.putfield 337, 3) := by decide +kernel
theorem dX13_see_76 : decode cX13_see 76 = .ok (.aload_n 0, 1) := by decide +kernel
theorem dX13_see_77 : decode cX13_see 77 = .ok (.getfield 337, 3) := by decide +kernel
theorem dX13_see_80 : decode cX13_see 80 = .ok (.ireturn, 1) := by decide +kernel
theorem dX13_forget_0 : decode cX13_forget 0 = .ok (.aload_n 0, 1) := by decide +kernel
theorem dX13_forget_1 : decode cX13_forget 1 = .ok (.iconst 0, 1) := by decide +kernel
theorem dX13_forget_2 : decode cX13_forget 2 = .ok (.putfield 173, 3) := by decide +kernel
theorem dX13_forget_5 : decode cX13_forget 5 = .ok (.aload_n 0, 1) := by decide +kernel
theorem dX13_forget_6 : decode cX13_forget 6 = .ok (.getfield 337, 3) := by decide +kernel
theorem dX13_forget_9 : decode cX13_forget 9 = .ok (.ifCond .ne 5, 3) := by decide +kernel
theorem dX13_forget_12 : decode cX13_forget 12 = .ok (.iconst (-1), 1) := by decide +kernel
theorem dX13_forget_13 : decode cX13_forget 13 = .ok (.ireturn, 1) := by decide +kernel
theorem dX13_forget_14 : decode cX13_forget 14 = .ok (.aload_n 0, 1) := by decide +kernel
theorem dX13_forget_15 : decode cX13_forget 15 = .ok (.dup, 1) := by decide +kernel
theorem dX13_forget_16 : decode cX13_forget 16 = .ok (.getfield 337, 3) := by decide +kernel
theorem dX13_forget_19 : decode cX13_forget 19 = .ok (.iconst 1, 1) := by decide +kernel
theorem dX13_forget_20 : decode cX13_forget 20 = .ok (.isub, 1) := by decide +kernel
theorem dX13_forget_21 : decode cX13_forget 21 = .ok (.putfield 337, 3) := by decide +kernel
theorem dX13_forget_24 : decode cX13_forget 24 = .ok (.aload_n 0, 1) := by decide +kernel
theorem dX13_forget_25 : decode cX13_forget 25 = .ok (.getfield 337, 3) := by decide +kernel
theorem dX13_forget_28 : decode cX13_forget 28 = .ok (.ireturn, 1) := by decide +kernel
set_option maxRecDepth 20000 in
theorem ggX13_isAsSeen_X13_sumAt : GoodIn wsX13_isAsSeen wsX13_sumAt := goodIn_r _ [8, 9, 10, 11, 12, 13, 14, 15, 16, 17, 18, 19, 20, 21, 22, 23, 24, 25, 26, 27, 28, 29, 30, 31, 32, 33, 34, 35, 36, 37, 38, 39, 40, 41, 42, 43, 44, 45, 46, 47, 48, 49, 50, 51, 52, 53, 54, 55, 56, 57, 58, 59, 60, 61, 62, 63, 64, 65, 66, 67, 68, 69, 70, 71, 72, 73, 74, 75, 76, 77, 78, 79, 80, 81] rfl (by decide +kernel)
set_option maxRecDepth 20000 in
theorem gX13_isAsSeen_X13_sumAt : GoodIn wsX13_isAsSeen (wsV RX13 351 RX13 yX13_sumAt wsX13_sumAt) := goodIn_app (goodIn_of _ (by decide +kernel)) ggX13_isAsSeen_X13_sumAt
theorem dX13_isAsSeen_0 : decode cX13_isAsSeen 0 = .ok (.iconst 0, 1) := by decide +kernel
theorem dX13_isAsSeen_1 : decode cX13_isAsSeen 1 = .ok (.istore_n 1, 1) := by decide +kernel
theorem dX13_isAsSeen_2 : decode cX13_isAsSeen 2 = .ok (.iload_n 1, 1) := by decide +kernel
theorem dX13_isAsSeen_3 : decode cX13_isAsSeen 3 = .ok (.aload_n 0, 1) := by decide +kernel
theorem dX13_isAsSeen_4 : decode cX13_isAsSeen 4 = .ok (.getfield 337, 3) := by decide +kernel
theorem dX13_isAsSeen_7 : decode cX13_isAsSeen 7 = .ok (.if_icmp .ge 31, 3) := by decide +kernel
theorem dX13_isAsSeen_10 : decode cX13_isAsSeen 10 = .ok (.aload_n 0, 1) := by decide +kernel
theorem dX13_isAsSeen_11 : decode cX13_isAsSeen 11 = .ok (.aload_n 0, 1) := by decide +kernel
theorem dX13_isAsSeen_12 : decode cX13_isAsSeen 12 = .ok (.getfield 146, 3) := by decide +kernel
theorem dX13_isAsSeen_15 : decode cX13_isAsSeen 15 = .ok (.iload_n 1, 1) := by decide +kernel
theorem dX13_isAsSeen_16 : decode cX13_isAsSeen 16 = .ok (.iaload, 1) := by decide +kernel
theorem dX13_isAsSeen_17 : decode cX13_isAsSeen 17 = .ok (.iconst 1, 1) := by decide +kernel
theorem dX13_isAsSeen_18 : decode cX13_isAsSeen 18 = .ok (.invokevirtual 351, 3) := by decide +kernel
theorem dX13_isAsSeen_21 : decode cX13_isAsSeen 21 = .ok (.aload_n 0, 1) := by decide +kernel
theorem dX13_isAsSeen_22 : decode cX13_isAsSeen 22 = .ok (.getfield 149, 3) := by decide +kernel
theorem dX13_isAsSeen_25 : decode cX13_isAsSeen 25 = .ok (.iload_n 1, 1) := by decide +kernel
theorem dX13_isAsSeen_26 : decode cX13_isAsSeen 26 = .ok (.iaload, 1) := by decide +kernel
theorem dX13_isAsSeen_27 : decode cX13_isAsSeen 27 = .ok (.if_icmp .eq 5, 3) := by decide +kernel
theorem dX13_isAsSeen_30 : decode cX13_isAsSeen 30 = .ok (.iconst 0, 1) := by decide +kernel
theorem dX13_isAsSeen_31 : decode cX13_isAsSeen 31 = .ok (.ireturn, 1) := by decide +kernel
theorem dX13_isAsSeen_32 : decode cX13_isAsSeen 32 = .ok (.iinc 1 1, 3) := by decide +kernel
theorem dX13_isAsSeen_35 : decode cX13_isAsSeen 35 = .ok (.goto (-33), 3) := by decide +kernel
theorem dX13_isAsSeen_38 : decode cX13_isAsSeen 38 = .ok (.iconst 1, 1) := by decide +kernel
theorem dX13_isAsSeen_39 : decode cX13_isAsSeen 39 = .ok (.ireturn, 1) := by decide +kernel
set_option maxRecDepth 20000 in
theorem ggX13_fits_X13_fail : GoodIn wsX13_fits wsX13_fail := goodIn_r _ [8, 1, 49, 50, 51, 52, 53, 54, 55, 56, 57, 58, 59, 60, 61, 62, 63, 64, 65, 66, 67, 68, 69, 70, 71, 72, 73, 74, 75, 76, 77, 78, 79, 80, 81, 82, 83, 84, 85, 86, 87, 88, 89, 90, 91, 92, 93, 94, 95, 96, 97, 98, 99, 100, 101, 102, 103, 104, 105, 106, 107, 108, 109, 110, 111, 112, 113, 114, 115] rfl (by decide +kernel)
set_option maxRecDepth 20000 in
theorem gX13_fits_X13_fail : GoodIn wsX13_fits (wsV RX13 318 RX13 yX13_fail wsX13_fail) := goodIn_app (goodIn_of _ (by decide +kernel)) ggX13_fits_X13_fail
set_option maxRecDepth 20000 in
theorem ggX13_fits_X13_isAsSeen : GoodIn wsX13_fits wsX13_isAsSeen := goodIn_r _ [12, 13, 14, 15, 16, 17, 18, 7, 19, 2, 3, 20, 21, 22, 23, 49, 50, 51, 52, 53, 54, 55, 56, 57, 58, 59, 60, 61, 62, 63, 64, 65, 66, 67, 68, 69, 70, 71, 72, 73, 74, 75, 76, 77, 78, 79, 80, 81, 82, 83, 84, 85, 86, 87, 88, 89, 90, 91, 92, 93, 94, 95, 96, 97, 98, 99, 100, 101, 102, 103, 104, 105, 106, 107, 108, 109, 110, 111, 112, 113, 114, 115] rfl (by decide +kernel)
set_option maxRecDepth 20000 in
theorem gX13_fits_X13_isAsSeen : GoodIn wsX13_fits (wsV RX13 466 RX13 yX13_isAsSeen wsX13_isAsSeen) := goodIn_app (goodIn_of _ (by decide +kernel)) ggX13_fits_X13_isAsSeen
set_option maxRecDepth 20000 in
theorem ggX13_fits_X13_isCase : GoodIn wsX13_fits wsX13_isCase := goodIn_r _ [27, 2, 28, 29, 7, 30, 49, 50, 51, 52, 53, 54, 55, 56, 57, 58, 59, 60, 61, 62, 63, 64, 65, 66, 67, 68, 69, 70, 71, 72, 73, 74, 75, 76, 77, 78, 79, 80, 81, 82, 83, 84, 85, 86, 87, 88, 89, 90, 91, 92, 93, 94, 95, 96, 97, 98, 99, 100, 101, 102, 103, 104, 105, 106, 107, 108, 109, 110, 111, 112, 113, 114, 115] rfl (by decide +kernel)
set_option maxRecDepth 20000 in
theorem gX13_fits_X13_isCase : GoodIn wsX13_fits (wsV RX13 363 RX13 yX13_isCase wsX13_isCase) := goodIn_app (goodIn_of _ (by decide +kernel)) ggX13_fits_X13_isCase
set_option maxRecDepth 20000 in
theorem ggX13_fits_X13_mayBe : GoodIn wsX13_fits wsX13_mayBe := goodIn_r _ [34, 3, 22, 35, 20, 36, 23, 37, 38, 24, 25, 26, 7, 27, 2, 28, 29, 30, 16, 17, 18, 19, 21, 39, 40, 41, 42, 43, 44, 45, 46, 47, 48, 49, 50, 51, 52, 53, 54, 55, 56, 57, 58, 59, 60, 61, 62, 63, 64, 65, 66, 67, 68, 69, 70, 71, 72, 73, 74, 75, 76, 77, 78, 79, 80, 81, 82, 83, 84, 85, 86, 87, 88, 89, 90, 91, 92, 93, 94, 95, 96, 97, 98, 99, 100, 101, 102, 103, 104, 105, 106, 107, 108, 109, 110, 111, 112, 113, 114, 115] rfl (by decide +kernel)
set_option maxRecDepth 20000 in
theorem gX13_fits_X13_mayBe : GoodIn wsX13_fits (wsV RX13 387 RX13 yX13_mayBe wsX13_mayBe) := goodIn_app (goodIn_of _ (by decide +kernel)) ggX13_fits_X13_mayBe
theorem dX13_fits_0 : decode cX13_fits 0 = .ok (.aload_n 0, 1) := by decide +kernel
theorem dX13_fits_1 : decode cX13_fits 1 = .ok (.iconst 0, 1) := by decide +kernel
theorem dX13_fits_2 : decode cX13_fits 2 = .ok (.putfield 173, 3) := by decide +kernel
theorem dX13_fits_5 : decode cX13_fits 5 = .ok (.iload_n 1, 1) := by decide +kernel
theorem dX13_fits_6 : decode cX13_fits 6 = .ok (.ifCond .lt 8, 3) := by decide +kernel
theorem dX13_fits_9 : decode cX13_fits 9 = .ok (.iload_n 1, 1) := by decide +kernel
theorem dX13_fits_10 : decode cX13_fits 10 = .ok (.iconst 2, 1) := by decide +kernel
theorem dX13_fits_11 : decode cX13_fits 11 = .ok (.if_icmp .le 9, 3) := by decide +kernel
theorem dX13_fits_14 : decode cX13_fits 14 = .ok (.aload_n 0, 1) := by decide +kernel
theorem dX13_fits_15 : decode cX13_fits 15 = .ok (.iconst 1, 1) := by decide +kernel
theorem dX13_fits_16 : decode cX13_fits 16 = .ok (.invokevirtual 318, 3) := by decide +kernel
theorem dX13_fits_19 : decode cX13_fits 19 = .ok (.ireturn, 1) := by decide +kernel
theorem dX13_fits_20 : decode cX13_fits 20 = .ok (.iload_n 1, 1) := by decide +kernel
theorem dX13_fits_21 : decode cX13_fits 21 = .ok (.iconst 2, 1) := by decide +kernel
theorem dX13_fits_22 : decode cX13_fits 22 = .ok (.if_icmp .ne 16, 3) := by decide +kernel
theorem dX13_fits_25 : decode cX13_fits 25 = .ok (.aload_n 0, 1) := by decide +kernel
theorem dX13_fits_26 : decode cX13_fits 26 = .ok (.invokevirtual 466, 3) := by decide +kernel
theorem dX13_fits_29 : decode cX13_fits 29 = .ok (.ifCond .eq 7, 3) := by decide +kernel
theorem dX13_fits_32 : decode cX13_fits 32 = .ok (.iconst 1, 1) := by decide +kernel
theorem dX13_fits_33 : decode cX13_fits 33 = .ok (.goto 4, 3) := by decide +kernel
theorem dX13_fits_36 : decode cX13_fits 36 = .ok (.iconst 0, 1) := by decide +kernel
theorem dX13_fits_37 : decode cX13_fits 37 = .ok (.ireturn, 1) := by decide +kernel
theorem dX13_fits_38 : decode cX13_fits 38 = .ok (.iconst 0, 1) := by decide +kernel
theorem dX13_fits_39 : decode cX13_fits 39 = .ok (.istore_n 2, 1) := by decide +kernel
theorem dX13_fits_40 : decode cX13_fits 40 = .ok (.iconst (-1), 1) := by decide +kernel
theorem dX13_fits_41 : decode cX13_fits 41 = .ok (.istore_n 3, 1) := by decide +kernel
theorem dX13_fits_42 : decode cX13_fits 42 = .ok (.iconst 0, 1) := by decide +kernel
theorem dX13_fits_43 : decode cX13_fits 43 = .ok (.istore 4, 2) := by decide +kernel
theorem dX13_fits_45 : decode cX13_fits 45 = .ok (.iload 4, 2) := by decide +kernel
theorem dX13_fits_47 : decode cX13_fits 47 = .ok (.aload_n 0, 1) := by decide +kernel
theorem dX13_fits_48 : decode cX13_fits 48 = .ok (.getfield 40, 3) := by decide +kernel
theorem dX13_fits_51 : decode cX13_fits 51 = .ok (.iconst 2, 1) := by decide +kernel
theorem dX13_fits_52 : decode cX13_fits 52 = .ok (.iaload, 1) := by decide +kernel
theorem dX13_fits_53 : decode cX13_fits 53 = .ok (.if_icmp .ge 114, 3) := by decide +kernel
theorem dX13_fits_56 : decode cX13_fits 56 = .ok (.aload_n 0, 1) := by decide +kernel
theorem dX13_fits_57 : decode cX13_fits 57 = .ok (.getfield 84, 3) := by decide +kernel
theorem dX13_fits_60 : decode cX13_fits 60 = .ok (.iload 4, 2) := by decide +kernel
theorem dX13_fits_62 : decode cX13_fits 62 = .ok (.iaload, 1) := by decide +kernel
theorem dX13_fits_63 : decode cX13_fits 63 = .ok (.istore 5, 2) := by decide +kernel
theorem dX13_fits_65 : decode cX13_fits 65 = .ok (.iconst 0, 1) := by decide +kernel
theorem dX13_fits_66 : decode cX13_fits 66 = .ok (.istore 6, 2) := by decide +kernel
theorem dX13_fits_68 : decode cX13_fits 68 = .ok (.iload 6, 2) := by decide +kernel
theorem dX13_fits_70 : decode cX13_fits 70 = .ok (.aload_n 0, 1) := by decide +kernel
theorem dX13_fits_71 : decode cX13_fits 71 = .ok (.getfield 40, 3) := by decide +kernel
theorem dX13_fits_74 : decode cX13_fits 74 = .ok (.iconst 1, 1) := by decide +kernel
theorem dX13_fits_75 : decode cX13_fits 75 = .ok (.iaload, 1) := by decide +kernel
theorem dX13_fits_76 : decode cX13_fits 76 = .ok (.if_icmp .ge 85, 3) := by decide +kernel
theorem dX13_fits_79 : decode cX13_fits 79 = .ok (.aload_n 0, 1) := by decide +kernel
theorem dX13_fits_80 : decode cX13_fits 80 = .ok (.iload 5, 2) := by decide +kernel
theorem dX13_fits_82 : decode cX13_fits 82 = .ok (.invokevirtual 363, 3) := by decide +kernel
theorem dX13_fits_85 : decode cX13_fits 85 = .ok (.ifCond .eq 76, 3) := by decide +kernel
theorem dX13_fits_88 : decode cX13_fits 88 = .ok (.aload_n 0, 1) := by decide +kernel
theorem dX13_fits_89 : decode cX13_fits 89 = .ok (.iload 4, 2) := by decide +kernel
theorem dX13_fits_91 : decode cX13_fits 91 = .ok (.iload 6, 2) := by decide +kernel
theorem dX13_fits_93 : decode cX13_fits 93 = .ok (.invokevirtual 387, 3) := by decide +kernel
theorem dX13_fits_96 : decode cX13_fits 96 = .ok (.ifCond .ne 6, 3) := by decide +kernel
theorem dX13_fits_99 : decode cX13_fits 99 = .ok (.goto 56, 3) := by decide +kernel
theorem dX13_fits_102 : decode cX13_fits 102 = .ok (.aload_n 0, 1) := by decide +kernel
theorem dX13_fits_103 : decode cX13_fits 103 = .ok (.getfield 84, 3) := by decide +kernel
theorem dX13_fits_106 : decode cX13_fits 106 = .ok (.iload 4, 2) := by decide +kernel
theorem dX13_fits_108 : decode cX13_fits 108 = .ok (.iload 6, 2) := by decide +kernel
theorem dX13_fits_110 : decode cX13_fits 110 = .ok (.iastore, 1) := by decide +kernel
theorem dX13_fits_111 : decode cX13_fits 111 = .ok (.aload_n 0, 1) := by decide +kernel
theorem dX13_fits_112 : decode cX13_fits 112 = .ok (.invokevirtual 466, 3) := by decide +kernel
theorem dX13_fits_115 : decode cX13_fits 115 = .ok (.istore 7, 2) := by decide +kernel
theorem dX13_fits_117 : decode cX13_fits 117 = .ok (.aload_n 0, 1) := by decide +kernel
theorem dX13_fits_118 : decode cX13_fits 118 = .ok (.getfield 84, 3) := by decide +kernel
theorem dX13_fits_121 : decode cX13_fits 121 = .ok (.iload 4, 2) := by decide +kernel
theorem dX13_fits_123 : decode cX13_fits 123 = .ok (.iload 5, 2) := by decide +kernel
theorem dX13_fits_125 : decode cX13_fits 125 = .ok (.iastore, 1) := by decide +kernel
theorem dX13_fits_126 : decode cX13_fits 126 = .ok (.iload 7, 2) := by decide +kernel
theorem dX13_fits_128 : decode cX13_fits 128 = .ok (.ifCond .ne 6, 3) := by decide +kernel
theorem dX13_fits_131 : decode cX13_fits 131 = .ok (.goto 24, 3) := by decide +kernel
theorem dX13_fits_134 : decode cX13_fits 134 = .ok (.iinc 2 1, 3) := by decide +kernel
theorem dX13_fits_137 : decode cX13_fits 137 = .ok (.iload_n 3, 1) := by decide +kernel
theorem dX13_fits_138 : decode cX13_fits 138 = .ok (.iconst (-1), 1) := by decide +kernel
theorem dX13_fits_139 : decode cX13_fits 139 = .ok (.if_icmp .ne 14, 3) := by decide +kernel
theorem dX13_fits_142 : decode cX13_fits 142 = .ok (.bipush 100, 2) := by decide +kernel
theorem dX13_fits_144 : decode cX13_fits 144 = .ok (.iload 4, 2) := by decide +kernel
theorem dX13_fits_146 : decode cX13_fits 146 = .ok (.imul, 1) := by decide +kernel
theorem dX13_fits_147 : decode cX13_fits 147 = .ok (.iload 6, 2) := by decide +kernel
theorem dX13_fits_149 : decode cX13_fits 149 = .ok (.iadd, 1) := by decide +kernel
theorem dX13_fits_150 : decode cX13_fits 150 = .ok (.goto 4, 3) := by decide +kernel
theorem dX13_fits_153 : decode cX13_fits 153 = .ok (.iload_n 3, 1) := by decide +kernel
theorem dX13_fits_154 : decode cX13_fits 154 = .ok (.istore_n 3, 1) := by decide +kernel
theorem dX13_fits_155 : decode cX13_fits 155 = .ok (.iinc 6 1, 3) := by decide +kernel
theorem dX13_fits_158 : decode cX13_fits 158 = .ok (.goto (-90), 3) := by decide +kernel
theorem dX13_fits_161 : decode cX13_fits 161 = .ok (.iinc 4 1, 3) := by decide +kernel
theorem dX13_fits_164 : decode cX13_fits 164 = .ok (.goto (-119), 3) := by decide +kernel
theorem dX13_fits_167 : decode cX13_fits 167 = .ok (.iload_n 1, 1) := by decide +kernel
theorem dX13_fits_168 : decode cX13_fits 168 = .ok (.ifCond .ne 7, 3) := by decide +kernel
theorem dX13_fits_171 : decode cX13_fits 171 = .ok (.iload_n 2, 1) := by decide +kernel
theorem dX13_fits_172 : decode cX13_fits 172 = .ok (.goto 4, 3) := by decide +kernel
theorem dX13_fits_175 : decode cX13_fits 175 = .ok (.iload_n 3, 1) := by decide +kernel
theorem dX13_fits_176 : decode cX13_fits 176 = .ok (.ireturn, 1) := by decide +kernel
set_option maxRecDepth 20000 in
theorem ggX13_best_X13_fail : GoodIn wsX13_best wsX13_fail := goodIn_r _ [9, 1, 79, 80, 81, 82, 83, 84, 85, 86, 87, 88, 89, 90, 91, 92, 93, 94, 95, 96, 97, 98, 99, 100, 101, 102, 103, 104, 105, 106, 107, 108, 109, 110, 111, 112, 113, 114, 115, 116, 117, 118, 119, 120, 121, 122, 123, 124, 125, 126, 127, 128, 129, 130, 131, 132, 133, 134, 135, 136, 137, 138, 139, 140, 141, 142, 143, 144, 145] rfl (by decide +kernel)
set_option maxRecDepth 20000 in
theorem gX13_best_X13_fail : GoodIn wsX13_best (wsV RX13 318 RX13 yX13_fail wsX13_fail) := goodIn_app (goodIn_of _ (by decide +kernel)) ggX13_best_X13_fail
set_option maxRecDepth 20000 in
theorem ggX13_best_X13_billNow : GoodIn wsX13_best wsX13_billNow := goodIn_r _ [13, 3, 2, 14, 4, 15, 16, 17, 18, 8, 19, 20, 21, 22, 23, 24, 25, 26, 27, 28, 29, 30, 31, 32, 33, 34, 35, 36, 37, 38, 39, 40, 41, 42, 43, 44, 45, 46, 47, 48, 49, 50, 51, 52, 53, 54, 55, 56, 79, 80, 81, 82, 83, 84, 85, 86, 87, 88, 89, 90, 91, 92, 93, 94, 95, 96, 97, 98, 99, 100, 101, 102, 103, 104, 105, 106, 107, 108, 109, 110, 111, 112, 113, 114, 115, 116, 117, 118, 119, 120, 121, 122, 123, 124, 125, 126, 127, 128, 129, 130, 131, 132, 133, 134, 135, 136, 137, 138, 139, 140, 141, 142, 143, 144, 145] rfl (by decide +kernel)
set_option maxRecDepth 20000 in
theorem gX13_best_X13_billNow : GoodIn wsX13_best (wsV RX13 400 RX13 yX13_billNow wsX13_billNow) := goodIn_app (goodIn_of _ (by decide +kernel)) ggX13_best_X13_billNow
set_option maxRecDepth 20000 in
theorem ggX13_best_X13_mayBe : GoodIn wsX13_best wsX13_mayBe := goodIn_r _ [60, 4, 26, 61, 24, 41, 27, 62, 63, 64, 65, 66, 8, 67, 3, 68, 69, 70, 20, 21, 22, 23, 25, 71, 72, 73, 74, 51, 52, 53, 54, 55, 56, 79, 80, 81, 82, 83, 84, 85, 86, 87, 88, 89, 90, 91, 92, 93, 94, 95, 96, 97, 98, 99, 100, 101, 102, 103, 104, 105, 106, 107, 108, 109, 110, 111, 112, 113, 114, 115, 116, 117, 118, 119, 120, 121, 122, 123, 124, 125, 126, 127, 128, 129, 130, 131, 132, 133, 134, 135, 136, 137, 138, 139, 140, 141, 142, 143, 144, 145] rfl (by decide +kernel)
set_option maxRecDepth 20000 in
theorem gX13_best_X13_mayBe : GoodIn wsX13_best (wsV RX13 387 RX13 yX13_mayBe wsX13_mayBe) := goodIn_app (goodIn_of _ (by decide +kernel)) ggX13_best_X13_mayBe
