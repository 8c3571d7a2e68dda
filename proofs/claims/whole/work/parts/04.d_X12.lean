set_option maxRecDepth 20000 in
theorem ggX12_init_X9_init : GoodIn wsX12_init wsX9_init := goodIn_r _ [45, 46, 2, 3, 47, 48, 49, 50, 139, 140, 141, 142, 143, 144, 145, 146] rfl (by decide +kernel)
set_option maxRecDepth 20000 in
theorem gX12_init_X9_init_n11 : GoodIn wsX12_init (wsX9_init) := ggX12_init_X9_init
set_option maxRecDepth 20000 in
theorem ggX12_init_X0_init : GoodIn wsX12_init wsX0_init := goodIn_r _ [52, 53, 2, 3, 54, 55, 56, 57, 58, 59, 60, 61, 62, 63, 64, 65, 66, 67, 68, 69, 70, 71, 72, 73, 74, 75, 76, 77, 78, 79, 80, 81, 82, 83, 214, 215, 161, 162, 163, 164, 165, 166, 167, 168, 169, 170, 171, 172, 216, 217, 218, 219, 220, 221] rfl (by decide +kernel)
set_option maxRecDepth 20000 in
theorem gX12_init_X0_init_n18 : GoodIn wsX12_init (wsX0_init) := ggX12_init_X0_init
set_option maxRecDepth 20000 in
theorem ggX12_init_X4_init : GoodIn wsX12_init wsX4_init := goodIn_r _ [86, 87, 2, 3, 88, 89, 173, 174, 175] rfl (by decide +kernel)
set_option maxRecDepth 20000 in
theorem gX12_init_X4_init : GoodIn wsX12_init (wsX4_init) := ggX12_init_X4_init
set_option maxRecDepth 20000 in
theorem ggX12_init_X7_init : GoodIn wsX12_init wsX7_init := goodIn_r _ [92, 93, 2, 3, 94, 55, 56, 95, 96, 97, 66, 67, 68, 69, 70, 71, 72, 73, 74, 75, 214, 215, 176, 177, 178] rfl (by decide +kernel)
set_option maxRecDepth 20000 in
theorem gX12_init_X7_init : GoodIn wsX12_init (wsX7_init) := ggX12_init_X7_init
set_option maxRecDepth 20000 in
theorem ggX12_init_X1_init : GoodIn wsX12_init wsX1_init := goodIn_r _ [99, 100, 2, 3, 101, 55, 56, 102, 103, 104, 105, 66, 67, 68, 69, 70, 71, 72, 73, 74, 75, 214, 215, 179, 180, 181, 182, 183] rfl (by decide +kernel)
set_option maxRecDepth 20000 in
theorem gX12_init_X1_init_n46 : GoodIn wsX12_init (wsX1_init) := ggX12_init_X1_init
set_option maxRecDepth 20000 in
theorem ggX12_init_X2_init : GoodIn wsX12_init wsX2_init := goodIn_r _ [107, 108, 2, 3, 109, 55, 56, 110, 111, 112, 113, 66, 67, 68, 69, 70, 71, 72, 73, 74, 75, 214, 215, 184, 185, 186] rfl (by decide +kernel)
set_option maxRecDepth 20000 in
theorem gX12_init_X2_init_n63 : GoodIn wsX12_init (wsX2_init) := ggX12_init_X2_init
set_option maxRecDepth 20000 in
theorem ggX12_init_X3_init : GoodIn wsX12_init wsX3_init := goodIn_r _ [115, 116, 2, 3, 117, 55, 56, 118, 119, 120, 121, 122, 123, 124, 66, 67, 68, 69, 70, 71, 72, 73, 74, 75, 214, 215, 187, 188, 189, 190, 191, 192, 193, 194, 195] rfl (by decide +kernel)
set_option maxRecDepth 20000 in
theorem gX12_init_X3_init_n70 : GoodIn wsX12_init (wsX3_init) := ggX12_init_X3_init
set_option maxRecDepth 20000 in
theorem ggX12_init_X6_init : GoodIn wsX12_init wsX6_init := goodIn_r _ [127, 128, 2, 3, 129, 130, 131, 196, 197, 198, 199, 200, 201, 202, 203, 204] rfl (by decide +kernel)
set_option maxRecDepth 20000 in
theorem gX12_init_X6_init : GoodIn wsX12_init (wsX6_init) := ggX12_init_X6_init
set_option maxRecDepth 20000 in
theorem ggX12_init_X10_init : GoodIn wsX12_init wsX10_init := goodIn_r _ [134, 135, 2, 3, 136, 18, 19, 137, 138, 91, 92, 93, 94, 55, 56, 95, 96, 97, 66, 67, 68, 69, 70, 71, 72, 73, 74, 75, 176, 177, 178, 205, 206, 207, 208, 209, 210, 211, 212, 213, 214, 215] rfl (by decide +kernel)
set_option maxRecDepth 20000 in
theorem gX12_init_X10_init : GoodIn wsX12_init (wsX10_init) := ggX12_init_X10_init
theorem dX12_init_0 : decode cX12_init 0 = .ok (.aload_n 0, 1) := by decide +kernel
theorem dX12_init_1 : decode cX12_init 1 = .ok (.invokespecial 3, 3) := by decide +kernel
theorem dX12_init_4 : decode cX12_init 4 = .ok (.aload_n 0, 1) := by decide +kernel
theorem dX12_init_5 : decode cX12_init 5 = .ok (.new 9, 3) := by decide +kernel
theorem dX12_init_8 : decode cX12_init 8 = .ok (.dup, 1) := by decide +kernel
theorem dX12_init_9 : decode cX12_init 9 = .ok (.invokespecial 11, 3) := by decide +kernel
theorem dX12_init_12 : decode cX12_init 12 = .ok (.putfield 12, 3) := by decide +kernel
theorem dX12_init_15 : decode cX12_init 15 = .ok (.aload_n 0, 1) := by decide +kernel
theorem dX12_init_16 : decode cX12_init 16 = .ok (.new 16, 3) := by decide +kernel
theorem dX12_init_19 : decode cX12_init 19 = .ok (.dup, 1) := by decide +kernel
theorem dX12_init_20 : decode cX12_init 20 = .ok (.invokespecial 18, 3) := by decide +kernel
theorem dX12_init_23 : decode cX12_init 23 = .ok (.putfield 19, 3) := by decide +kernel
theorem dX12_init_26 : decode cX12_init 26 = .ok (.aload_n 0, 1) := by decide +kernel
theorem dX12_init_27 : decode cX12_init 27 = .ok (.new 16, 3) := by decide +kernel
theorem dX12_init_30 : decode cX12_init 30 = .ok (.dup, 1) := by decide +kernel
theorem dX12_init_31 : decode cX12_init 31 = .ok (.invokespecial 18, 3) := by decide +kernel
theorem dX12_init_34 : decode cX12_init 34 = .ok (.putfield 23, 3) := by decide +kernel
theorem dX12_init_37 : decode cX12_init 37 = .ok (.aload_n 0, 1) := by decide +kernel
theorem dX12_init_38 : decode cX12_init 38 = .ok (.new 26, 3) := by decide +kernel
theorem dX12_init_41 : decode cX12_init 41 = .ok (.dup, 1) := by decide +kernel
theorem dX12_init_42 : decode cX12_init 42 = .ok (.aload_n 0, 1) := by decide +kernel
theorem dX12_init_43 : decode cX12_init 43 = .ok (.getfield 12, 3) := by decide +kernel
theorem dX12_init_46 : decode cX12_init 46 = .ok (.aload_n 0, 1) := by decide +kernel
theorem dX12_init_47 : decode cX12_init 47 = .ok (.getfield 23, 3) := by decide +kernel
theorem dX12_init_50 : decode cX12_init 50 = .ok (.invokespecial 28, 3) := by decide +kernel
theorem dX12_init_53 : decode cX12_init 53 = .ok (.putfield 31, 3) := by decide +kernel
theorem dX12_init_56 : decode cX12_init 56 = .ok (.aload_n 0, 1) := by decide +kernel
theorem dX12_init_57 : decode cX12_init 57 = .ok (.new 35, 3) := by decide +kernel
theorem dX12_init_60 : decode cX12_init 60 = .ok (.dup, 1) := by decide +kernel
theorem dX12_init_61 : decode cX12_init 61 = .ok (.aload_n 0, 1) := by decide +kernel
theorem dX12_init_62 : decode cX12_init 62 = .ok (.getfield 19, 3) := by decide +kernel
theorem dX12_init_65 : decode cX12_init 65 = .ok (.invokespecial 37, 3) := by decide +kernel
theorem dX12_init_68 : decode cX12_init 68 = .ok (.putfield 40, 3) := by decide +kernel
theorem dX12_init_71 : decode cX12_init 71 = .ok (.aload_n 0, 1) := by decide +kernel
theorem dX12_init_72 : decode cX12_init 72 = .ok (.new 44, 3) := by decide +kernel
theorem dX12_init_75 : decode cX12_init 75 = .ok (.dup, 1) := by decide +kernel
theorem dX12_init_76 : decode cX12_init 76 = .ok (.invokespecial 46, 3) := by decide +kernel
theorem dX12_init_79 : decode cX12_init 79 = .ok (.putfield 47, 3) := by decide +kernel
theorem dX12_init_82 : decode cX12_init 82 = .ok (.aload_n 0, 1) := by decide +kernel
theorem dX12_init_83 : decode cX12_init 83 = .ok (.new 35, 3) := by decide +kernel
theorem dX12_init_86 : decode cX12_init 86 = .ok (.dup, 1) := by decide +kernel
theorem dX12_init_87 : decode cX12_init 87 = .ok (.aload_n 0, 1) := by decide +kernel
theorem dX12_init_88 : decode cX12_init 88 = .ok (.getfield 19, 3) := by decide +kernel
theorem dX12_init_91 : decode cX12_init 91 = .ok (.invokespecial 37, 3) := by decide +kernel
theorem dX12_init_94 : decode cX12_init 94 = .ok (.putfield 51, 3) := by decide +kernel
theorem dX12_init_97 : decode cX12_init 97 = .ok (.aload_n 0, 1) := by decide +kernel
theorem dX12_init_98 : decode cX12_init 98 = .ok (.new 44, 3) := by decide +kernel
theorem dX12_init_101 : decode cX12_init 101 = .ok (.dup, 1) := by decide +kernel
theorem dX12_init_102 : decode cX12_init 102 = .ok (.invokespecial 46, 3) := by decide +kernel
theorem dX12_init_105 : decode cX12_init 105 = .ok (.putfield 54, 3) := by decide +kernel
theorem dX12_init_108 : decode cX12_init 108 = .ok (.aload_n 0, 1) := by decide +kernel
theorem dX12_init_109 : decode cX12_init 109 = .ok (.iconst (-1), 1) := by decide +kernel
theorem dX12_init_110 : decode cX12_init 110 = .ok (.putfield 57, 3) := by decide +kernel
theorem dX12_init_113 : decode cX12_init 113 = .ok (.aload_n 0, 1) := by decide +kernel
theorem dX12_init_114 : decode cX12_init 114 = .ok (.new 61, 3) := by decide +kernel
theorem dX12_init_117 : decode cX12_init 117 = .ok (.dup, 1) := by decide +kernel
theorem dX12_init_118 : decode cX12_init 118 = .ok (.invokespecial 63, 3) := by decide +kernel
theorem dX12_init_121 : decode cX12_init 121 = .ok (.putfield 64, 3) := by decide +kernel
theorem dX12_init_124 : decode cX12_init 124 = .ok (.aload_n 0, 1) := by decide +kernel
theorem dX12_init_125 : decode cX12_init 125 = .ok (.new 68, 3) := by decide +kernel
theorem dX12_init_128 : decode cX12_init 128 = .ok (.dup, 1) := by decide +kernel
theorem dX12_init_129 : decode cX12_init 129 = .ok (.invokespecial 70, 3) := by decide +kernel
theorem dX12_init_132 : decode cX12_init 132 = .ok (.putfield 71, 3) := by decide +kernel
theorem dX12_init_135 : decode cX12_init 135 = .ok (.aload_n 0, 1) := by decide +kernel
theorem dX12_init_136 : decode cX12_init 136 = .ok (.new 75, 3) := by decide +kernel
theorem dX12_init_139 : decode cX12_init 139 = .ok (.dup, 1) := by decide +kernel
theorem dX12_init_140 : decode cX12_init 140 = .ok (.aload_n 0, 1) := by decide +kernel
theorem dX12_init_141 : decode cX12_init 141 = .ok (.getfield 19, 3) := by decide +kernel
theorem dX12_init_144 : decode cX12_init 144 = .ok (.invokespecial 77, 3) := by decide +kernel
theorem dX12_init_147 : decode cX12_init 147 = .ok (.putfield 78, 3) := by decide +kernel
theorem dX12_init_150 : decode cX12_init 150 = .ok (.aload_n 0, 1) := by decide +kernel
theorem dX12_init_151 : decode cX12_init 151 = .ok (.new 82, 3) := by decide +kernel
theorem dX12_init_154 : decode cX12_init 154 = .ok (.dup, 1) := by decide +kernel
theorem dX12_init_155 : decode cX12_init 155 = .ok (.aload_n 0, 1) := by decide +kernel
theorem dX12_init_156 : decode cX12_init 156 = .ok (.getfield 19, 3) := by decide +kernel
theorem dX12_init_159 : decode cX12_init 159 = .ok (.invokespecial 84, 3) := by decide +kernel
theorem dX12_init_162 : decode cX12_init 162 = .ok (.putfield 85, 3) := by decide +kernel
theorem dX12_init_165 : decode cX12_init 165 = .ok (.return_, 1) := by decide +kernel
set_option maxRecDepth 20000 in
theorem ggX12_feed_X9_append : GoodIn wsX12_feed wsX9_append := goodIn_r _ [7, 8, 9, 24, 25, 26, 27, 28, 29, 30, 31] rfl (by decide +kernel)
set_option maxRecDepth 20000 in
theorem gX12_feed_X9_append : GoodIn wsX12_feed (wsV RX12 92 RX9 yX9_append wsX9_append) := goodIn_app (goodIn_of _ (by decide +kernel)) ggX12_feed_X9_append
theorem dX12_feed_0 : decode cX12_feed 0 = .ok (.aload_n 0, 1) := by decide +kernel
theorem dX12_feed_1 : decode cX12_feed 1 = .ok (.getfield 12, 3) := by decide +kernel
theorem dX12_feed_4 : decode cX12_feed 4 = .ok (.getfield 89, 3) := by decide +kernel
theorem dX12_feed_7 : decode cX12_feed 7 = .ok (.sipush 680, 3) := by decide +kernel
theorem dX12_feed_10 : decode cX12_feed 10 = .ok (.if_icmp .le 5, 3) := by decide +kernel
theorem dX12_feed_13 : decode cX12_feed 13 = .ok (.iconst (-1), 1) := by decide +kernel
theorem dX12_feed_14 : decode cX12_feed 14 = .ok (.ireturn, 1) := by decide +kernel
theorem dX12_feed_15 : decode cX12_feed 15 = .ok (.aload_n 0, 1) := by decide +kernel
theorem dX12_feed_16 : decode cX12_feed 16 = .ok (.getfield 12, 3) := by decide +kernel
theorem dX12_feed_19 : decode cX12_feed 19 = .ok (.iload_n 1, 1) := by decide +kernel
theorem dX12_feed_20 : decode cX12_feed 20 = .ok (.invokevirtual 92, 3) := by decide +kernel
theorem dX12_feed_23 : decode cX12_feed 23 = .ok (.aload_n 0, 1) := by decide +kernel
theorem dX12_feed_24 : decode cX12_feed 24 = .ok (.getfield 12, 3) := by decide +kernel
theorem dX12_feed_27 : decode cX12_feed 27 = .ok (.iload_n 2, 1) := by decide +kernel
theorem dX12_feed_28 : decode cX12_feed 28 = .ok (.invokevirtual 92, 3) := by decide +kernel
theorem dX12_feed_31 : decode cX12_feed 31 = .ok (.aload_n 0, 1) := by decide +kernel
theorem dX12_feed_32 : decode cX12_feed 32 = .ok (.getfield 12, 3) := by decide +kernel
theorem dX12_feed_35 : decode cX12_feed 35 = .ok (.iload_n 3, 1) := by decide +kernel
theorem dX12_feed_36 : decode cX12_feed 36 = .ok (.invokevirtual 92, 3) := by decide +kernel
theorem dX12_feed_39 : decode cX12_feed 39 = .ok (.aload_n 0, 1) := by decide +kernel
theorem dX12_feed_40 : decode cX12_feed 40 = .ok (.getfield 12, 3) := by decide +kernel
theorem dX12_feed_43 : decode cX12_feed 43 = .ok (.iload 4, 2) := by decide +kernel
theorem dX12_feed_45 : decode cX12_feed 45 = .ok (.invokevirtual 92, 3) := by decide +kernel
theorem dX12_feed_48 : decode cX12_feed 48 = .ok (.aload_n 0, 1) := by decide +kernel
theorem dX12_feed_49 : decode cX12_feed 49 = .ok (.getfield 12, 3) := by decide +kernel
theorem dX12_feed_52 : decode cX12_feed 52 = .ok (.iload 5, 2) := by decide +kernel
theorem dX12_feed_54 : decode cX12_feed 54 = .ok (.invokevirtual 92, 3) := by decide +kernel
theorem dX12_feed_57 : decode cX12_feed 57 = .ok (.aload_n 0, 1) := by decide +kernel
theorem dX12_feed_58 : decode cX12_feed 58 = .ok (.getfield 12, 3) := by decide +kernel
theorem dX12_feed_61 : decode cX12_feed 61 = .ok (.getfield 89, 3) := by decide +kernel
theorem dX12_feed_64 : decode cX12_feed 64 = .ok (.ireturn, 1) := by decide +kernel
set_option maxRecDepth 20000 in
theorem ggX12_hall_X4_read : GoodIn wsX12_hall wsX4_read := goodIn_r _ [14, 15, 16, 17, 18, 19, 20, 21, 22, 23, 24, 25, 26, 27, 28, 29, 30, 31, 32, 33, 34, 35, 36, 37, 38, 39, 40, 41, 42, 43, 44, 45, 46, 47, 48, 49, 50, 51, 52, 53, 54, 55, 56, 57, 58, 59, 60, 61, 62, 63, 64, 65, 66, 67, 68, 69, 70, 71, 72, 73, 74, 75, 76, 77, 78, 79, 80, 81, 82, 83, 84, 85, 86, 87, 88, 89, 90, 91, 92, 93, 94, 95, 96, 97, 98, 99, 100, 101, 102, 103, 104, 105, 106, 107, 108, 109, 110, 111, 112, 113, 114, 115, 116, 117, 118, 119, 120, 121, 122, 123, 124, 125, 126, 127, 128, 129, 13, 130, 131, 132, 133, 134, 135, 136, 137, 138, 139, 140, 141, 142, 143, 144, 145, 146, 147, 148, 149, 150, 151, 152, 153, 154, 155, 156, 157, 158, 159, 160, 161, 162, 163, 164, 165, 166, 167, 168, 169, 170, 171, 172, 173, 174, 175, 176, 177, 178, 179, 180, 181, 182, 183, 184, 185, 186, 187, 188, 189, 190, 191, 192, 193, 194, 195, 196, 197, 198, 199, 200, 201, 202, 203, 204, 205, 206, 207, 208, 209, 210, 211, 212, 213, 214, 215, 216, 217, 218, 219, 220, 221, 222, 223, 224, 225, 226, 227, 228, 229, 230, 231, 232, 233, 234, 235, 236, 237, 238, 239, 240, 241, 242, 243, 244, 245, 246, 247, 248, 249, 250, 251, 252, 253, 254, 255, 256, 257, 258, 259, 260, 261, 262, 263, 264, 265, 266, 267, 268, 269, 270, 271, 272, 273, 274, 275, 276, 277, 345, 346, 347, 337, 338, 339, 340, 341, 342, 343, 344, 348, 349, 350, 351, 352, 353, 354, 355, 356, 357, 358, 359, 360, 361, 362, 363, 364, 365, 366, 367] rfl (by decide +kernel)
set_option maxRecDepth 20000 in
theorem gX12_hall_X4_read : GoodIn wsX12_hall (wsV RX12 99 RX4 yX4_read wsX4_read) := goodIn_app (goodIn_of _ (by decide +kernel)) ggX12_hall_X4_read
set_option maxRecDepth 20000 in
theorem ggX12_hall_X1_refuse : GoodIn wsX12_hall wsX1_refuse := goodIn_r _ [282, 283, 284, 285, 286, 158, 287, 161, 288, 239, 240, 241, 368, 369, 370, 371, 372, 366, 367] rfl (by decide +kernel)
set_option maxRecDepth 20000 in
theorem gX12_hall_X1_refuse : GoodIn wsX12_hall (wsV RX12 106 RX1 yX1_refuse wsX1_refuse) := goodIn_app (goodIn_of _ (by decide +kernel)) ggX12_hall_X1_refuse
set_option maxRecDepth 20000 in
theorem ggX12_hall_X12_beginAnew : GoodIn wsX12_hall wsX12_beginAnew := goodIn_r _ [293, 6, 294, 295, 9, 296, 297, 298, 299, 300, 301, 302, 303, 304, 305, 306, 307, 308, 171, 172, 158, 173, 160, 161, 309, 239, 240, 241, 310, 311, 312, 281, 313, 314, 315, 316, 317, 318, 319, 320, 321, 322, 323, 324, 325, 326, 327, 328, 329, 330, 331, 332, 333, 334, 335, 336, 373, 374, 375, 348, 349, 350, 351, 352, 353, 354, 355, 356, 357, 358, 359, 366, 367, 368, 369, 370, 371, 372, 376, 377, 378, 379, 380, 381, 382, 383, 384] rfl (by decide +kernel)
set_option maxRecDepth 20000 in
theorem gX12_hall_X12_beginAnew : GoodIn wsX12_hall (wsV RX12 109 RX12 yX12_beginAnew wsX12_beginAnew) := goodIn_app (goodIn_of _ (by decide +kernel)) ggX12_hall_X12_beginAnew
theorem dX12_hall_0 : decode cX12_hall 0 = .ok (.iload_n 1, 1) := by decide +kernel
theorem dX12_hall_1 : decode cX12_hall 1 = .ok (.ifCond .lt 14, 3) := by decide +kernel
theorem dX12_hall_4 : decode cX12_hall 4 = .ok (.iload_n 1, 1) := by decide +kernel
theorem dX12_hall_5 : decode cX12_hall 5 = .ok (.aload_n 0, 1) := by decide +kernel
theorem dX12_hall_6 : decode cX12_hall 6 = .ok (.getfield 12, 3) := by decide +kernel
theorem dX12_hall_9 : decode cX12_hall 9 = .ok (.getfield 89, 3) := by decide +kernel
theorem dX12_hall_12 : decode cX12_hall 12 = .ok (.if_icmp .le 11, 3) := by decide +kernel
theorem dX12_hall_15 : decode cX12_hall 15 = .ok (.new 96, 3) := by decide +kernel
theorem dX12_hall_18 : decode cX12_hall 18 = .ok (.dup, 1) := by decide +kernel
theorem dX12_hall_19 : decode cX12_hall 19 = .ok (.invokespecial 98, 3) := by decide +kernel
theorem dX12_hall_22 : decode cX12_hall 22 = .ok (.athrow, 1) := by decide +kernel
theorem dX12_hall_23 : decode cX12_hall 23 = .ok (.aload_n 0, 1) := by decide +kernel
theorem dX12_hall_24 : decode cX12_hall 24 = .ok (.getfield 31, 3) := by decide +kernel
theorem dX12_hall_27 : decode cX12_hall 27 = .ok (.iload_n 1, 1) := by decide +kernel
theorem dX12_hall_28 : decode cX12_hall 28 = .ok (.aload_n 0, 1) := by decide +kernel
theorem dX12_hall_29 : decode cX12_hall 29 = .ok (.getfield 23, 3) := by decide +kernel
theorem dX12_hall_32 : decode cX12_hall 32 = .ok (.invokevirtual 99, 3) := by decide +kernel
theorem dX12_hall_35 : decode cX12_hall 35 = .ok (.istore_n 2, 1) := by decide +kernel
theorem dX12_hall_36 : decode cX12_hall 36 = .ok (.aload_n 0, 1) := by decide +kernel
theorem dX12_hall_37 : decode cX12_hall 37 = .ok (.getfield 12, 3) := by decide +kernel
theorem dX12_hall_40 : decode cX12_hall 40 = .ok (.iconst 0, 1) := by decide +kernel
theorem dX12_hall_41 : decode cX12_hall 41 = .ok (.putfield 89, 3) := by decide +kernel
theorem dX12_hall_44 : decode cX12_hall 44 = .ok (.iload_n 2, 1) := by decide +kernel
theorem dX12_hall_45 : decode cX12_hall 45 = .ok (.ifCond .eq 24, 3) := by decide +kernel
theorem dX12_hall_48 : decode cX12_hall 48 = .ok (.aload_n 0, 1) := by decide +kernel
theorem dX12_hall_49 : decode cX12_hall 49 = .ok (.aload_n 0, 1) := by decide +kernel
theorem dX12_hall_50 : decode cX12_hall 50 = .ok (.getfield 12, 3) := by decide +kernel
theorem dX12_hall_53 : decode cX12_hall 53 = .ok (.getfield 103, 3) := by decide +kernel
theorem dX12_hall_56 : decode cX12_hall 56 = .ok (.putfield 57, 3) := by decide +kernel
theorem dX12_hall_59 : decode cX12_hall 59 = .ok (.aload_n 0, 1) := by decide +kernel
theorem dX12_hall_60 : decode cX12_hall 60 = .ok (.getfield 47, 3) := by decide +kernel
theorem dX12_hall_63 : decode cX12_hall 63 = .ok (.iconst 0, 1) := by decide +kernel
theorem dX12_hall_64 : decode cX12_hall 64 = .ok (.invokevirtual 106, 3) := by decide +kernel
theorem dX12_hall_67 : decode cX12_hall 67 = .ok (.iload_n 2, 1) := by decide +kernel
theorem dX12_hall_68 : decode cX12_hall 68 = .ok (.ireturn, 1) := by decide +kernel
theorem dX12_hall_69 : decode cX12_hall 69 = .ok (.aload_n 0, 1) := by decide +kernel
theorem dX12_hall_70 : decode cX12_hall 70 = .ok (.iconst (-1), 1) := by decide +kernel
theorem dX12_hall_71 : decode cX12_hall 71 = .ok (.putfield 57, 3) := by decide +kernel
theorem dX12_hall_74 : decode cX12_hall 74 = .ok (.aload_n 0, 1) := by decide +kernel
theorem dX12_hall_75 : decode cX12_hall 75 = .ok (.invokevirtual 109, 3) := by decide +kernel
theorem dX12_hall_78 : decode cX12_hall 78 = .ok (.iconst 0, 1) := by decide +kernel
theorem dX12_hall_79 : decode cX12_hall 79 = .ok (.ireturn, 1) := by decide +kernel
set_option maxRecDepth 20000 in
theorem ggX12_beginAnew_X7_begin : GoodIn wsX12_beginAnew wsX7_begin := goodIn_r _ [11, 12, 13, 14, 15, 16, 17, 18, 19, 20, 21, 22, 23, 24, 25, 26, 27, 56, 57, 58, 59, 60, 61, 62, 63, 64, 65, 66, 67, 68, 69, 70, 71, 72] rfl (by decide +kernel)
set_option maxRecDepth 20000 in
theorem gX12_beginAnew_X7_begin : GoodIn wsX12_beginAnew (wsV RX12 112 RX7 yX7_begin wsX7_begin) := goodIn_app (goodIn_of _ (by decide +kernel)) ggX12_beginAnew_X7_begin
set_option maxRecDepth 20000 in
theorem ggX12_beginAnew_X1_begin : GoodIn wsX12_beginAnew wsX1_begin := goodIn_r _ [32, 33, 34, 73, 74, 75, 76, 77] rfl (by decide +kernel)
set_option maxRecDepth 20000 in
theorem gX12_beginAnew_X1_begin : GoodIn wsX12_beginAnew (wsV RX12 115 RX1 yX1_begin wsX1_begin) := goodIn_app (goodIn_of _ (by decide +kernel)) ggX12_beginAnew_X1_begin
set_option maxRecDepth 20000 in
theorem ggX12_beginAnew_X3_begin : GoodIn wsX12_beginAnew wsX3_begin := goodIn_r _ [39, 40, 41, 78, 79, 80, 81, 82, 83, 84, 85, 86] rfl (by decide +kernel)
set_option maxRecDepth 20000 in
theorem gX12_beginAnew_X3_begin : GoodIn wsX12_beginAnew (wsV RX12 117 RX3 yX3_begin wsX3_begin) := goodIn_app (goodIn_of _ (by decide +kernel)) ggX12_beginAnew_X3_begin
theorem dX12_beginAnew_0 : decode cX12_beginAnew 0 = .ok (.aload_n 0, 1) := by decide +kernel
theorem dX12_beginAnew_1 : decode cX12_beginAnew 1 = .ok (.getfield 23, 3) := by decide +kernel
theorem dX12_beginAnew_4 : decode cX12_beginAnew 4 = .ok (.astore_n 1, 1) := by decide +kernel
theorem dX12_beginAnew_5 : decode cX12_beginAnew 5 = .ok (.aload_n 0, 1) := by decide +kernel
theorem dX12_beginAnew_6 : decode cX12_beginAnew 6 = .ok (.aload_n 0, 1) := by decide +kernel
theorem dX12_beginAnew_7 : decode cX12_beginAnew 7 = .ok (.getfield 19, 3) := by decide +kernel
theorem dX12_beginAnew_10 : decode cX12_beginAnew 10 = .ok (.putfield 23, 3) := by decide +kernel
theorem dX12_beginAnew_13 : decode cX12_beginAnew 13 = .ok (.aload_n 0, 1) := by decide +kernel
theorem dX12_beginAnew_14 : decode cX12_beginAnew 14 = .ok (.aload_n 1, 1) := by decide +kernel
theorem dX12_beginAnew_15 : decode cX12_beginAnew 15 = .ok (.putfield 19, 3) := by decide +kernel
theorem dX12_beginAnew_18 : decode cX12_beginAnew 18 = .ok (.aload_n 0, 1) := by decide +kernel
theorem dX12_beginAnew_19 : decode cX12_beginAnew 19 = .ok (.getfield 40, 3) := by decide +kernel
theorem dX12_beginAnew_22 : decode cX12_beginAnew 22 = .ok (.aload_n 1, 1) := by decide +kernel
theorem dX12_beginAnew_23 : decode cX12_beginAnew 23 = .ok (.invokevirtual 112, 3) := by decide +kernel
theorem dX12_beginAnew_26 : decode cX12_beginAnew 26 = .ok (.aload_n 0, 1) := by decide +kernel
theorem dX12_beginAnew_27 : decode cX12_beginAnew 27 = .ok (.getfield 47, 3) := by decide +kernel
theorem dX12_beginAnew_30 : decode cX12_beginAnew 30 = .ok (.invokevirtual 115, 3) := by decide +kernel
theorem dX12_beginAnew_33 : decode cX12_beginAnew 33 = .ok (.aload_n 0, 1) := by decide +kernel
theorem dX12_beginAnew_34 : decode cX12_beginAnew 34 = .ok (.getfield 71, 3) := by decide +kernel
theorem dX12_beginAnew_37 : decode cX12_beginAnew 37 = .ok (.invokevirtual 117, 3) := by decide +kernel
theorem dX12_beginAnew_40 : decode cX12_beginAnew 40 = .ok (.aload_n 0, 1) := by decide +kernel
theorem dX12_beginAnew_41 : decode cX12_beginAnew 41 = .ok (.iconst 0, 1) := by decide +kernel
theorem dX12_beginAnew_42 : decode cX12_beginAnew 42 = .ok (.putfield 118, 3) := by decide +kernel
theorem dX12_beginAnew_45 : decode cX12_beginAnew 45 = .ok (.return_, 1) := by decide +kernel
theorem dX12_fault_0 : decode cX12_fault 0 = .ok (.aload_n 0, 1) := by decide +kernel
theorem dX12_fault_1 : decode cX12_fault 1 = .ok (.getfield 57, 3) := by decide +kernel
theorem dX12_fault_4 : decode cX12_fault 4 = .ok (.ireturn, 1) := by decide +kernel
set_option maxRecDepth 20000 in
theorem ggX12_count_X8_at : GoodIn wsX12_count wsX8_at := goodIn_r _ [22, 23, 66, 67] rfl (by decide +kernel)
set_option maxRecDepth 20000 in
theorem gX12_count_X8_at : GoodIn wsX12_count (wsV RX12 153 RX8 yX8_at wsX8_at) := goodIn_app (goodIn_of _ (by decide +kernel)) ggX12_count_X8_at
theorem dX12_count_0 : decode cX12_count 0 = .ok (.iload_n 1, 1) := by decide +kernel
theorem dX12_count_1 : decode cX12_count 1 = .ok (.tableswitch 162 0 12 #[67, 75, 83, 91, 99, 107, 115, 123, 131, 139, 147, 147, 147], 67) := by decide +kernel
theorem dX12_count_68 : decode cX12_count 68 = .ok (.aload_n 0, 1) := by decide +kernel
theorem dX12_count_69 : decode cX12_count 69 = .ok (.getfield 19, 3) := by decide +kernel
theorem dX12_count_72 : decode cX12_count 72 = .ok (.getfield 122, 3) := by decide +kernel
theorem dX12_count_75 : decode cX12_count 75 = .ok (.ireturn, 1) := by decide +kernel
theorem dX12_count_76 : decode cX12_count 76 = .ok (.aload_n 0, 1) := by decide +kernel
theorem dX12_count_77 : decode cX12_count 77 = .ok (.getfield 19, 3) := by decide +kernel
theorem dX12_count_80 : decode cX12_count 80 = .ok (.getfield 125, 3) := by decide +kernel
theorem dX12_count_83 : decode cX12_count 83 = .ok (.ireturn, 1) := by decide +kernel
theorem dX12_count_84 : decode cX12_count 84 = .ok (.aload_n 0, 1) := by decide +kernel
theorem dX12_count_85 : decode cX12_count 85 = .ok (.getfield 19, 3) := by decide +kernel
theorem dX12_count_88 : decode cX12_count 88 = .ok (.getfield 128, 3) := by decide +kernel
theorem dX12_count_91 : decode cX12_count 91 = .ok (.ireturn, 1) := by decide +kernel
theorem dX12_count_92 : decode cX12_count 92 = .ok (.aload_n 0, 1) := by decide +kernel
theorem dX12_count_93 : decode cX12_count 93 = .ok (.getfield 19, 3) := by decide +kernel
theorem dX12_count_96 : decode cX12_count 96 = .ok (.getfield 131, 3) := by decide +kernel
theorem dX12_count_99 : decode cX12_count 99 = .ok (.ireturn, 1) := by decide +kernel
theorem dX12_count_100 : decode cX12_count 100 = .ok (.aload_n 0, 1) := by decide +kernel
theorem dX12_count_101 : decode cX12_count 101 = .ok (.getfield 19, 3) := by decide +kernel
theorem dX12_count_104 : decode cX12_count 104 = .ok (.getfield 134, 3) := by decide +kernel
theorem dX12_count_107 : decode cX12_count 107 = .ok (.ireturn, 1) := by decide +kernel
theorem dX12_count_108 : decode cX12_count 108 = .ok (.aload_n 0, 1) := by decide +kernel
theorem dX12_count_109 : decode cX12_count 109 = .ok (.getfield 19, 3) := by decide +kernel
theorem dX12_count_112 : decode cX12_count 112 = .ok (.getfield 137, 3) := by decide +kernel
theorem dX12_count_115 : decode cX12_count 115 = .ok (.ireturn, 1) := by decide +kernel
theorem dX12_count_116 : decode cX12_count 116 = .ok (.aload_n 0, 1) := by decide +kernel
theorem dX12_count_117 : decode cX12_count 117 = .ok (.getfield 40, 3) := by decide +kernel
theorem dX12_count_120 : decode cX12_count 120 = .ok (.getfield 140, 3) := by decide +kernel
theorem dX12_count_123 : decode cX12_count 123 = .ok (.ireturn, 1) := by decide +kernel
theorem dX12_count_124 : decode cX12_count 124 = .ok (.aload_n 0, 1) := by decide +kernel
theorem dX12_count_125 : decode cX12_count 125 = .ok (.getfield 47, 3) := by decide +kernel
theorem dX12_count_128 : decode cX12_count 128 = .ok (.getfield 143, 3) := by decide +kernel
theorem dX12_count_131 : decode cX12_count 131 = .ok (.ireturn, 1) := by decide +kernel
theorem dX12_count_132 : decode cX12_count 132 = .ok (.aload_n 0, 1) := by decide +kernel
theorem dX12_count_133 : decode cX12_count 133 = .ok (.getfield 47, 3) := by decide +kernel
theorem dX12_count_136 : decode cX12_count 136 = .ok (.getfield 146, 3) := by decide +kernel
theorem dX12_count_139 : decode cX12_count 139 = .ok (.ireturn, 1) := by decide +kernel
theorem dX12_count_140 : decode cX12_count 140 = .ok (.aload_n 0, 1) := by decide +kernel
theorem dX12_count_141 : decode cX12_count 141 = .ok (.getfield 12, 3) := by decide +kernel
theorem dX12_count_144 : decode cX12_count 144 = .ok (.getfield 89, 3) := by decide +kernel
theorem dX12_count_147 : decode cX12_count 147 = .ok (.ireturn, 1) := by decide +kernel
theorem dX12_count_148 : decode cX12_count 148 = .ok (.aload_n 0, 1) := by decide +kernel
theorem dX12_count_149 : decode cX12_count 149 = .ok (.getfield 47, 3) := by decide +kernel
theorem dX12_count_152 : decode cX12_count 152 = .ok (.getfield 149, 3) := by decide +kernel
theorem dX12_count_155 : decode cX12_count 155 = .ok (.iload_n 1, 1) := by decide +kernel
theorem dX12_count_156 : decode cX12_count 156 = .ok (.bipush 10, 2) := by decide +kernel
theorem dX12_count_158 : decode cX12_count 158 = .ok (.isub, 1) := by decide +kernel
theorem dX12_count_159 : decode cX12_count 159 = .ok (.invokevirtual 153, 3) := by decide +kernel
theorem dX12_count_162 : decode cX12_count 162 = .ok (.ireturn, 1) := by decide +kernel
theorem dX12_count_163 : decode cX12_count 163 = .ok (.new 159, 3) := by decide +kernel
theorem dX12_count_166 : decode cX12_count 166 = .ok (.dup, 1) := by decide +kernel
theorem dX12_count_167 : decode cX12_count 167 = .ok (.invokespecial 161, 3) := by decide +kernel
theorem dX12_count_170 : decode cX12_count 170 = .ok (.athrow, 1) := by decide +kernel
set_option maxRecDepth 20000 in
theorem ggX12_person_X12_needPerson : GoodIn wsX12_person wsX12_needPerson := goodIn_ca (goodIn_r _ [8, 9, 10, 2, 11, 66, 67, 68, 69, 70, 71, 72, 73, 74, 75, 76, 77, 78, 79, 80, 81, 82, 83, 84, 85, 86, 87, 88, 89, 90, 91] rfl (by decide +kernel)) (goodIn_sub (fun _ h => List.mem_cons_of_mem _ (List.mem_append_right _ h)) (by decide +kernel))
set_option maxRecDepth 20000 in
theorem gX12_person_X12_needPerson : GoodIn wsX12_person (wsV RX12 162 RX12 yX12_needPerson wsX12_needPerson) := goodIn_app (goodIn_of _ (by decide +kernel)) ggX12_person_X12_needPerson
set_option maxRecDepth 20000 in
theorem ggX12_person_X12_needWhat : GoodIn wsX12_person wsX12_needWhat := goodIn_ca (goodIn_r _ [14, 9, 10] rfl (by decide +kernel)) (goodIn_sub (fun _ h => List.mem_cons_of_mem _ (List.mem_append_right _ h)) (by decide +kernel))
set_option maxRecDepth 20000 in
theorem gX12_person_X12_needWhat : GoodIn wsX12_person (va_wsS RX12 165 yX12_needWhat wsX12_needWhat) := goodIn_app (goodIn_of _ (by decide +kernel)) ggX12_person_X12_needWhat
set_option maxRecDepth 20000 in
theorem ggX12_person_X7_heatOn : GoodIn wsX12_person wsX7_heatOn := goodIn_r _ [19, 20, 21, 22, 23, 18, 24, 25, 26, 27, 28, 29, 30, 31, 32, 33, 34, 35, 36, 37, 38, 39, 40, 41, 42, 43, 44, 92, 93, 94, 80, 81, 82, 83, 84, 85, 86, 87, 88, 89, 90, 91, 95, 96] rfl (by decide +kernel)
set_option maxRecDepth 20000 in
theorem gX12_person_X7_heatOn : GoodIn wsX12_person (wsV RX12 169 RX7 yX7_heatOn wsX7_heatOn) := goodIn_app (goodIn_of _ (by decide +kernel)) ggX12_person_X7_heatOn
set_option maxRecDepth 20000 in
theorem ggX12_person_X7_sizesOn : GoodIn wsX12_person wsX7_sizesOn := goodIn_r _ [48, 20, 21, 22, 23, 18, 24, 25, 26, 27, 28, 29, 30, 31, 32, 49, 50, 51, 36, 52, 38, 39, 40, 41, 42, 43, 44, 33, 34, 35, 37, 92, 93, 94, 80, 81, 82, 83, 84, 85, 86, 87, 88, 89, 90, 91, 95, 96] rfl (by decide +kernel)
set_option maxRecDepth 20000 in
theorem gX12_person_X7_sizesOn : GoodIn wsX12_person (wsV RX12 172 RX7 yX7_sizesOn wsX7_sizesOn) := goodIn_app (goodIn_of _ (by decide +kernel)) ggX12_person_X7_sizesOn
set_option maxRecDepth 20000 in
theorem ggX12_person_X7_hasShirt : GoodIn wsX12_person wsX7_hasShirt := goodIn_r _ [56, 20, 57, 58, 21, 22, 23, 18, 24, 25, 26, 27, 28, 29, 30, 31, 32, 59, 41, 42, 43, 44, 60, 61, 62, 36, 63, 64, 50, 51, 52, 38, 39, 40, 92, 93, 94, 80, 81, 82, 83, 84, 85, 86, 87, 88, 89, 90, 91, 95, 96] rfl (by decide +kernel)
set_option maxRecDepth 20000 in
theorem gX12_person_X7_hasShirt : GoodIn wsX12_person (wsV RX12 175 RX7 yX7_hasShirt wsX7_hasShirt) := goodIn_app (goodIn_of _ (by decide +kernel)) ggX12_person_X7_hasShirt
set_option maxRecDepth 20000 in
theorem ggX12_person_X8_at_ : GoodIn wsX12_person wsX8_at_ := goodIn_r _ [43, 44, 32, 95, 96] rfl (by decide +kernel)
set_option maxRecDepth 20000 in
theorem gX12_person_X8_at_ : GoodIn wsX12_person (wsV RX12 182 RX8 yX8_at_ wsX8_at_) := goodIn_app (goodIn_of _ (by decide +kernel)) ggX12_person_X8_at_
theorem dX12_person_0 : decode cX12_person 0 = .ok (.aload_n 0, 1) := by decide +kernel
theorem dX12_person_1 : decode cX12_person 1 = .ok (.iload_n 1, 1) := by decide +kernel
theorem dX12_person_2 : decode cX12_person 2 = .ok (.invokevirtual 162, 3) := by decide +kernel
theorem dX12_person_5 : decode cX12_person 5 = .ok (.iload_n 2, 1) := by decide +kernel
theorem dX12_person_6 : decode cX12_person 6 = .ok (.bipush 6, 2) := by decide +kernel
theorem dX12_person_8 : decode cX12_person 8 = .ok (.invokestatic 165, 3) := by decide +kernel
theorem dX12_person_11 : decode cX12_person 11 = .ok (.iload_n 2, 1) := by decide +kernel
theorem dX12_person_12 : decode cX12_person 12 = .ok (.tableswitch 64 3 5 #[28, 37, 46], 28) := by decide +kernel
theorem dX12_person_40 : decode cX12_person 40 = .ok (.aload_n 0, 1) := by decide +kernel
theorem dX12_person_41 : decode cX12_person 41 = .ok (.getfield 40, 3) := by decide +kernel
theorem dX12_person_44 : decode cX12_person 44 = .ok (.iload_n 1, 1) := by decide +kernel
theorem dX12_person_45 : decode cX12_person 45 = .ok (.invokevirtual 169, 3) := by decide +kernel
theorem dX12_person_48 : decode cX12_person 48 = .ok (.ireturn, 1) := by decide +kernel
theorem dX12_person_49 : decode cX12_person 49 = .ok (.aload_n 0, 1) := by decide +kernel
theorem dX12_person_50 : decode cX12_person 50 = .ok (.getfield 40, 3) := by decide +kernel
theorem dX12_person_53 : decode cX12_person 53 = .ok (.iload_n 1, 1) := by decide +kernel
theorem dX12_person_54 : decode cX12_person 54 = .ok (.invokevirtual 172, 3) := by decide +kernel
theorem dX12_person_57 : decode cX12_person 57 = .ok (.ireturn, 1) := by decide +kernel
theorem dX12_person_58 : decode cX12_person 58 = .ok (.aload_n 0, 1) := by decide +kernel
theorem dX12_person_59 : decode cX12_person 59 = .ok (.getfield 40, 3) := by decide +kernel
theorem dX12_person_62 : decode cX12_person 62 = .ok (.iload_n 1, 1) := by decide +kernel
theorem dX12_person_63 : decode cX12_person 63 = .ok (.iconst (-1), 1) := by decide +kernel
theorem dX12_person_64 : decode cX12_person 64 = .ok (.invokevirtual 175, 3) := by decide +kernel
theorem dX12_person_67 : decode cX12_person 67 = .ok (.ifCond .eq 7, 3) := by decide +kernel
theorem dX12_person_70 : decode cX12_person 70 = .ok (.iconst 1, 1) := by decide +kernel
theorem dX12_person_71 : decode cX12_person 71 = .ok (.goto 4, 3) := by decide +kernel
theorem dX12_person_74 : decode cX12_person 74 = .ok (.iconst 0, 1) := by decide +kernel
theorem dX12_person_75 : decode cX12_person 75 = .ok (.ireturn, 1) := by decide +kernel
theorem dX12_person_76 : decode cX12_person 76 = .ok (.aload_n 0, 1) := by decide +kernel
theorem dX12_person_77 : decode cX12_person 77 = .ok (.getfield 19, 3) := by decide +kernel
theorem dX12_person_80 : decode cX12_person 80 = .ok (.getfield 179, 3) := by decide +kernel
theorem dX12_person_83 : decode cX12_person 83 = .ok (.iload_n 1, 1) := by decide +kernel
theorem dX12_person_84 : decode cX12_person 84 = .ok (.iload_n 2, 1) := by decide +kernel
theorem dX12_person_85 : decode cX12_person 85 = .ok (.invokevirtual 182, 3) := by decide +kernel
theorem dX12_person_88 : decode cX12_person 88 = .ok (.ireturn, 1) := by decide +kernel
set_option maxRecDepth 20000 in
theorem ggX12_box_X12_needCase : GoodIn wsX12_box wsX12_needCase := goodIn_ca (goodIn_r _ [8, 9, 10, 2, 11, 105, 106, 107, 108, 109, 110, 111, 112, 113, 114, 115, 116, 117, 118, 119, 120, 121, 122, 123, 124, 125, 126, 127, 128, 129, 130] rfl (by decide +kernel)) (goodIn_sub (fun _ h => List.mem_cons_of_mem _ (List.mem_append_right _ h)) (by decide +kernel))
set_option maxRecDepth 20000 in
theorem gX12_box_X12_needCase : GoodIn wsX12_box (wsV RX12 185 RX12 yX12_needCase wsX12_needCase) := goodIn_app (goodIn_of _ (by decide +kernel)) ggX12_box_X12_needCase
set_option maxRecDepth 20000 in
theorem ggX12_box_X12_needWhat : GoodIn wsX12_box wsX12_needWhat := goodIn_ca (goodIn_r _ [14, 9, 10] rfl (by decide +kernel)) (goodIn_sub (fun _ h => List.mem_cons_of_mem _ (List.mem_append_right _ h)) (by decide +kernel))
set_option maxRecDepth 20000 in
theorem gX12_box_X12_needWhat : GoodIn wsX12_box (va_wsS RX12 165 yX12_needWhat wsX12_needWhat) := goodIn_app (goodIn_of _ (by decide +kernel)) ggX12_box_X12_needWhat
set_option maxRecDepth 20000 in
theorem ggX12_box_X7_weightIn : GoodIn wsX12_box wsX7_weightIn := goodIn_r _ [19, 20, 21, 22, 23, 18, 24, 25, 26, 27, 28, 29, 30, 31, 32, 33, 34, 35, 36, 37, 38, 39, 40, 41, 42, 43, 44, 131, 132, 133, 119, 120, 121, 122, 123, 124, 125, 126, 127, 128, 129, 130, 134, 135] rfl (by decide +kernel)
set_option maxRecDepth 20000 in
theorem gX12_box_X7_weightIn : GoodIn wsX12_box (wsV RX12 188 RX7 yX7_weightIn wsX7_weightIn) := goodIn_app (goodIn_of _ (by decide +kernel)) ggX12_box_X7_weightIn
set_option maxRecDepth 20000 in
theorem ggX12_box_X7_sizesIn : GoodIn wsX12_box wsX7_sizesIn := goodIn_r _ [48, 20, 21, 22, 23, 18, 24, 25, 26, 27, 28, 29, 30, 31, 32, 33, 34, 35, 36, 37, 38, 39, 40, 41, 42, 43, 44, 131, 132, 133, 119, 120, 121, 122, 123, 124, 125, 126, 127, 128, 129, 130, 134, 135] rfl (by decide +kernel)
set_option maxRecDepth 20000 in
theorem gX12_box_X7_sizesIn : GoodIn wsX12_box (wsV RX12 191 RX7 yX7_sizesIn wsX7_sizesIn) := goodIn_app (goodIn_of _ (by decide +kernel)) ggX12_box_X7_sizesIn
set_option maxRecDepth 20000 in
theorem ggX12_box_X7_overIn : GoodIn wsX12_box wsX7_overIn := goodIn_r _ [52, 20, 53, 54, 55, 56, 57, 58, 16, 17, 18, 19, 21, 22, 23, 24, 25, 26, 27, 28, 29, 30, 31, 32, 33, 34, 35, 36, 37, 38, 39, 40, 41, 42, 43, 44, 59, 131, 132, 133, 119, 120, 121, 122, 123, 124, 125, 126, 127, 128, 129, 130, 134, 135] rfl (by decide +kernel)
set_option maxRecDepth 20000 in
theorem gX12_box_X7_overIn : GoodIn wsX12_box (wsV RX12 194 RX7 yX7_overIn wsX7_overIn) := goodIn_app (goodIn_of _ (by decide +kernel)) ggX12_box_X7_overIn
set_option maxRecDepth 20000 in
theorem ggX12_box_X7_feeOf : GoodIn wsX12_box wsX7_feeOf := goodIn_r _ [63, 21, 22, 23, 18, 24, 20, 25, 26, 27, 28, 29, 30, 31, 32, 64, 65, 66, 67, 68, 53, 33, 34, 35, 36, 37, 38, 39, 40, 41, 42, 43, 44, 59, 69, 70, 71, 72, 73, 74, 75, 76, 77, 78, 79, 80, 81, 82, 83, 84, 85, 86, 87, 88, 56, 89, 90, 55, 57, 91, 92, 93, 94, 95, 96, 97, 98, 99, 100, 101, 102, 131, 132, 133, 119, 120, 121, 122, 123, 124, 125, 126, 127, 128, 129, 130, 134, 135, 136, 137, 138, 139, 140, 141] rfl (by decide +kernel)
set_option maxRecDepth 20000 in
theorem gX12_box_X7_feeOf : GoodIn wsX12_box (wsV RX12 197 RX7 yX7_feeOf wsX7_feeOf) := goodIn_app (goodIn_of _ (by decide +kernel)) ggX12_box_X7_feeOf
set_option maxRecDepth 20000 in
theorem ggX12_box_X7_thingsAt : GoodIn wsX12_box wsX7_thingsAt := goodIn_r _ [24, 20, 25, 26, 27, 28, 29, 30, 31, 32, 131, 132, 133, 119, 120, 121, 122, 123, 124, 125, 126, 127, 128, 129, 130, 134, 135] rfl (by decide +kernel)
set_option maxRecDepth 20000 in
theorem gX12_box_X7_thingsAt : GoodIn wsX12_box (wsV RX12 200 RX7 yX7_thingsAt wsX7_thingsAt) := goodIn_app (goodIn_of _ (by decide +kernel)) ggX12_box_X7_thingsAt
set_option maxRecDepth 20000 in
theorem ggX12_box_X8_at_ : GoodIn wsX12_box wsX8_at_ := goodIn_r _ [43, 44, 32, 134, 135] rfl (by decide +kernel)
set_option maxRecDepth 20000 in
theorem gX12_box_X8_at_ : GoodIn wsX12_box (wsV RX12 182 RX8 yX8_at_ wsX8_at_) := goodIn_app (goodIn_of _ (by decide +kernel)) ggX12_box_X8_at_
theorem dX12_box_0 : decode cX12_box 0 = .ok (.aload_n 0, 1) := by decide +kernel
theorem dX12_box_1 : decode cX12_box 1 = .ok (.iload_n 1, 1) := by decide +kernel
theorem dX12_box_2 : decode cX12_box 2 = .ok (.invokevirtual 185, 3) := by decide +kernel
theorem dX12_box_5 : decode cX12_box 5 = .ok (.iload_n 2, 1) := by decide +kernel
theorem dX12_box_6 : decode cX12_box 6 = .ok (.bipush 10, 2) := by decide +kernel
theorem dX12_box_8 : decode cX12_box 8 = .ok (.invokestatic 165, 3) := by decide +kernel
theorem dX12_box_11 : decode cX12_box 11 = .ok (.iload_n 2, 1) := by decide +kernel
theorem dX12_box_12 : decode cX12_box 12 = .ok (.tableswitch 81 5 9 #[36, 45, 54, 63, 72], 36) := by decide +kernel
theorem dX12_box_48 : decode cX12_box 48 = .ok (.aload_n 0, 1) := by decide +kernel
theorem dX12_box_49 : decode cX12_box 49 = .ok (.getfield 40, 3) := by decide +kernel
theorem dX12_box_52 : decode cX12_box 52 = .ok (.iload_n 1, 1) := by decide +kernel
theorem dX12_box_53 : decode cX12_box 53 = .ok (.invokevirtual 188, 3) := by decide +kernel
theorem dX12_box_56 : decode cX12_box 56 = .ok (.ireturn, 1) := by decide +kernel
theorem dX12_box_57 : decode cX12_box 57 = .ok (.aload_n 0, 1) := by decide +kernel
theorem dX12_box_58 : decode cX12_box 58 = .ok (.getfield 40, 3) := by decide +kernel
theorem dX12_box_61 : decode cX12_box 61 = .ok (.iload_n 1, 1) := by decide +kernel
theorem dX12_box_62 : decode cX12_box 62 = .ok (.invokevirtual 191, 3) := by decide +kernel
theorem dX12_box_65 : decode cX12_box 65 = .ok (.ireturn, 1) := by decide +kernel
theorem dX12_box_66 : decode cX12_box 66 = .ok (.aload_n 0, 1) := by decide +kernel
theorem dX12_box_67 : decode cX12_box 67 = .ok (.getfield 40, 3) := by decide +kernel
theorem dX12_box_70 : decode cX12_box 70 = .ok (.iload_n 1, 1) := by decide +kernel
theorem dX12_box_71 : decode cX12_box 71 = .ok (.invokevirtual 194, 3) := by decide +kernel
theorem dX12_box_74 : decode cX12_box 74 = .ok (.ireturn, 1) := by decide +kernel
theorem dX12_box_75 : decode cX12_box 75 = .ok (.aload_n 0, 1) := by decide +kernel
theorem dX12_box_76 : decode cX12_box 76 = .ok (.getfield 40, 3) := by decide +kernel
theorem dX12_box_79 : decode cX12_box 79 = .ok (.iload_n 1, 1) := by decide +kernel
theorem dX12_box_80 : decode cX12_box 80 = .ok (.invokevirtual 197, 3) := by decide +kernel
theorem dX12_box_83 : decode cX12_box 83 = .ok (.ireturn, 1) := by decide +kernel
theorem dX12_box_84 : decode cX12_box 84 = .ok (.aload_n 0, 1) := by decide +kernel
theorem dX12_box_85 : decode cX12_box 85 = .ok (.getfield 40, 3) := by decide +kernel
theorem dX12_box_88 : decode cX12_box 88 = .ok (.iload_n 1, 1) := by decide +kernel
theorem dX12_box_89 : decode cX12_box 89 = .ok (.invokevirtual 200, 3) := by decide +kernel
theorem dX12_box_92 : decode cX12_box 92 = .ok (.ireturn, 1) := by decide +kernel
theorem dX12_box_93 : decode cX12_box 93 = .ok (.aload_n 0, 1) := by decide +kernel
theorem dX12_box_94 : decode cX12_box 94 = .ok (.getfield 19, 3) := by decide +kernel
theorem dX12_box_97 : decode cX12_box 97 = .ok (.getfield 203, 3) := by decide +kernel
theorem dX12_box_100 : decode cX12_box 100 = .ok (.iload_n 1, 1) := by decide +kernel
theorem dX12_box_101 : decode cX12_box 101 = .ok (.iload_n 2, 1) := by decide +kernel
theorem dX12_box_102 : decode cX12_box 102 = .ok (.invokevirtual 182, 3) := by decide +kernel
theorem dX12_box_105 : decode cX12_box 105 = .ok (.ireturn, 1) := by decide +kernel
set_option maxRecDepth 20000 in
theorem ggX12_thing_X12_needThing : GoodIn wsX12_thing wsX12_needThing := goodIn_ca (goodIn_r _ [8, 9, 10, 2, 11, 41, 42, 43, 44, 45, 46, 47, 48, 49, 50, 51, 52, 53, 54, 55, 56, 57, 58, 59, 60, 61, 62, 63, 64, 65, 66] rfl (by decide +kernel)) (goodIn_sub (fun _ h => List.mem_cons_of_mem _ (List.mem_append_right _ h)) (by decide +kernel))
set_option maxRecDepth 20000 in
theorem gX12_thing_X12_needThing : GoodIn wsX12_thing (wsV RX12 206 RX12 yX12_needThing wsX12_needThing) := goodIn_app (goodIn_of _ (by decide +kernel)) ggX12_thing_X12_needThing
set_option maxRecDepth 20000 in
theorem ggX12_thing_X12_needWhat : GoodIn wsX12_thing wsX12_needWhat := goodIn_ca (goodIn_r _ [14, 9, 10] rfl (by decide +kernel)) (goodIn_sub (fun _ h => List.mem_cons_of_mem _ (List.mem_append_right _ h)) (by decide +kernel))
set_option maxRecDepth 20000 in
theorem gX12_thing_X12_needWhat : GoodIn wsX12_thing (va_wsS RX12 165 yX12_needWhat wsX12_needWhat) := goodIn_app (goodIn_of _ (by decide +kernel)) ggX12_thing_X12_needWhat
set_option maxRecDepth 20000 in
theorem ggX12_thing_X7_placeOf : GoodIn wsX12_thing wsX7_placeOf := goodIn_r _ [19, 20, 21, 22, 23, 24, 25, 26, 67, 68, 69, 70, 71] rfl (by decide +kernel)
set_option maxRecDepth 20000 in
theorem gX12_thing_X7_placeOf : GoodIn wsX12_thing (wsV RX12 209 RX7 yX7_placeOf wsX7_placeOf) := goodIn_app (goodIn_of _ (by decide +kernel)) ggX12_thing_X7_placeOf
set_option maxRecDepth 20000 in
theorem ggX12_thing_X0_priceOf : GoodIn wsX12_thing wsX0_priceOf := goodIn_r _ [31, 32, 33, 34, 35, 36, 37, 24, 38, 39, 26, 55, 56, 57, 58, 59, 60, 61, 62, 63, 64, 65, 66, 70, 71] rfl (by decide +kernel)
set_option maxRecDepth 20000 in
theorem gX12_thing_X0_priceOf : GoodIn wsX12_thing (wsV RX12 212 RX0 yX0_priceOf wsX0_priceOf) := goodIn_app (goodIn_of _ (by decide +kernel)) ggX12_thing_X0_priceOf
set_option maxRecDepth 20000 in
theorem ggX12_thing_X8_at_ : GoodIn wsX12_thing wsX8_at_ := goodIn_r _ [38, 39, 26, 70, 71] rfl (by decide +kernel)
set_option maxRecDepth 20000 in
theorem gX12_thing_X8_at_ : GoodIn wsX12_thing (wsV RX12 182 RX8 yX8_at_ wsX8_at_) := goodIn_app (goodIn_of _ (by decide +kernel)) ggX12_thing_X8_at_
theorem dX12_thing_0 : decode cX12_thing 0 = .ok (.aload_n 0, 1) := by decide +kernel
theorem dX12_thing_1 : decode cX12_thing 1 = .ok (.iload_n 1, 1) := by decide +kernel
theorem dX12_thing_2 : decode cX12_thing 2 = .ok (.invokevirtual 206, 3) := by decide +kernel
theorem dX12_thing_5 : decode cX12_thing 5 = .ok (.iload_n 2, 1) := by decide +kernel
theorem dX12_thing_6 : decode cX12_thing 6 = .ok (.bipush 8, 2) := by decide +kernel
theorem dX12_thing_8 : decode cX12_thing 8 = .ok (.invokestatic 165, 3) := by decide +kernel
theorem dX12_thing_11 : decode cX12_thing 11 = .ok (.iload_n 2, 1) := by decide +kernel
theorem dX12_thing_12 : decode cX12_thing 12 = .ok (.lookupswitch 46 #[(5, 28), (7, 37)], 28) := by decide +kernel
theorem dX12_thing_40 : decode cX12_thing 40 = .ok (.aload_n 0, 1) := by decide +kernel
theorem dX12_thing_41 : decode cX12_thing 41 = .ok (.getfield 40, 3) := by decide +kernel
theorem dX12_thing_44 : decode cX12_thing 44 = .ok (.iload_n 1, 1) := by decide +kernel
theorem dX12_thing_45 : decode cX12_thing 45 = .ok (.invokevirtual 209, 3) := by decide +kernel
theorem dX12_thing_48 : decode cX12_thing 48 = .ok (.ireturn, 1) := by decide +kernel
theorem dX12_thing_49 : decode cX12_thing 49 = .ok (.aload_n 0, 1) := by decide +kernel
theorem dX12_thing_50 : decode cX12_thing 50 = .ok (.getfield 19, 3) := by decide +kernel
theorem dX12_thing_53 : decode cX12_thing 53 = .ok (.iload_n 1, 1) := by decide +kernel
theorem dX12_thing_54 : decode cX12_thing 54 = .ok (.invokevirtual 212, 3) := by decide +kernel
theorem dX12_thing_57 : decode cX12_thing 57 = .ok (.ireturn, 1) := by decide +kernel
theorem dX12_thing_58 : decode cX12_thing 58 = .ok (.aload_n 0, 1) := by decide +kernel
theorem dX12_thing_59 : decode cX12_thing 59 = .ok (.getfield 19, 3) := by decide +kernel
theorem dX12_thing_62 : decode cX12_thing 62 = .ok (.getfield 215, 3) := by decide +kernel
theorem dX12_thing_65 : decode cX12_thing 65 = .ok (.iload_n 1, 1) := by decide +kernel
theorem dX12_thing_66 : decode cX12_thing 66 = .ok (.iload_n 2, 1) := by decide +kernel
theorem dX12_thing_67 : decode cX12_thing 67 = .ok (.invokevirtual 182, 3) := by decide +kernel
theorem dX12_thing_70 : decode cX12_thing 70 = .ok (.ireturn, 1) := by decide +kernel
set_option maxRecDepth 20000 in
theorem ggX12_may_X12_needThing : GoodIn wsX12_may wsX12_needThing := goodIn_ca (goodIn_r _ [6, 7, 8, 9, 10, 65, 66, 67, 68, 69, 70, 71, 72, 73, 74, 75, 76, 77, 78, 79, 80, 81, 82, 83, 84, 85, 86, 87, 88, 89, 90] rfl (by decide +kernel)) (goodIn_sub (fun _ h => List.mem_cons_of_mem _ (List.mem_append_right _ h)) (by decide +kernel))
set_option maxRecDepth 20000 in
theorem gX12_may_X12_needThing : GoodIn wsX12_may (wsV RX12 206 RX12 yX12_needThing wsX12_needThing) := goodIn_app (goodIn_of _ (by decide +kernel)) ggX12_may_X12_needThing
set_option maxRecDepth 20000 in
theorem ggX12_may_X7_mayCome : GoodIn wsX12_may wsX7_mayCome := goodIn_r _ [15, 16, 17, 18, 19, 20, 21, 22, 23, 24, 25, 26, 27, 28, 29, 30, 31, 32, 33, 34, 35, 36, 37, 38, 39, 40, 41, 14, 42, 43, 44, 45, 46, 47, 48, 49, 50, 51, 52, 53, 54, 55, 56, 57, 58, 59, 60, 61, 62, 63, 64, 91, 92, 93, 79, 80, 81, 82, 83, 84, 85, 86, 87, 88, 89, 90, 94, 95] rfl (by decide +kernel)
set_option maxRecDepth 20000 in
theorem gX12_may_X7_mayCome : GoodIn wsX12_may (wsV RX12 218 RX7 yX7_mayCome wsX7_mayCome) := goodIn_app (goodIn_of _ (by decide +kernel)) ggX12_may_X7_mayCome
theorem dX12_may_0 : decode cX12_may 0 = .ok (.aload_n 0, 1) := by decide +kernel
theorem dX12_may_1 : decode cX12_may 1 = .ok (.iload_n 1, 1) := by decide +kernel
theorem dX12_may_2 : decode cX12_may 2 = .ok (.invokevirtual 206, 3) := by decide +kernel
theorem dX12_may_5 : decode cX12_may 5 = .ok (.aload_n 0, 1) := by decide +kernel
theorem dX12_may_6 : decode cX12_may 6 = .ok (.getfield 40, 3) := by decide +kernel
theorem dX12_may_9 : decode cX12_may 9 = .ok (.iload_n 1, 1) := by decide +kernel
theorem dX12_may_10 : decode cX12_may 10 = .ok (.iload_n 2, 1) := by decide +kernel
theorem dX12_may_11 : decode cX12_may 11 = .ok (.invokevirtual 218, 3) := by decide +kernel
theorem dX12_may_14 : decode cX12_may 14 = .ok (.ireturn, 1) := by decide +kernel
set_option maxRecDepth 20000 in
theorem ggX12_shift_X12_needThing : GoodIn wsX12_shift wsX12_needThing := goodIn_ca (goodIn_r _ [8, 9, 10, 11, 12, 106, 107, 108, 109, 110, 111, 112, 113, 114, 115, 116, 117, 118, 119, 123, 124, 125, 126, 127, 128, 129, 130, 131, 132, 133, 134] rfl (by decide +kernel)) (goodIn_sub (fun _ h => List.mem_cons_of_mem _ (List.mem_append_right _ h)) (by decide +kernel))
set_option maxRecDepth 20000 in
theorem gX12_shift_X12_needThing : GoodIn wsX12_shift (wsV RX12 206 RX12 yX12_needThing wsX12_needThing) := goodIn_app (goodIn_of _ (by decide +kernel)) ggX12_shift_X12_needThing
set_option maxRecDepth 20000 in
theorem ggX12_shift_X7_mayCome : GoodIn wsX12_shift wsX7_mayCome := goodIn_r _ [17, 18, 19, 20, 21, 22, 23, 24, 25, 26, 27, 28, 29, 30, 31, 32, 33, 34, 35, 36, 37, 38, 39, 40, 41, 42, 43, 16, 44, 45, 46, 47, 48, 49, 50, 51, 52, 53, 54, 55, 56, 57, 58, 59, 60, 61, 62, 63, 64, 65, 66, 120, 121, 122, 123, 124, 125, 126, 127, 128, 129, 130, 131, 132, 133, 134, 135, 136] rfl (by decide +kernel)
set_option maxRecDepth 20000 in
theorem gX12_shift_X7_mayCome : GoodIn wsX12_shift (wsV RX12 218 RX7 yX7_mayCome wsX7_mayCome) := goodIn_app (goodIn_of _ (by decide +kernel)) ggX12_shift_X7_mayCome
set_option maxRecDepth 20000 in
theorem ggX12_shift_X1_refuse : GoodIn wsX12_shift wsX1_refuse := goodIn_r _ [71, 72, 73, 22, 23, 24, 25, 26, 74, 75, 76, 77, 137, 138, 139, 140, 141, 135, 136] rfl (by decide +kernel)
set_option maxRecDepth 20000 in
theorem gX12_shift_X1_refuse : GoodIn wsX12_shift (wsV RX12 106 RX1 yX1_refuse wsX1_refuse) := goodIn_app (goodIn_of _ (by decide +kernel)) ggX12_shift_X1_refuse
set_option maxRecDepth 20000 in
theorem ggX12_shift_X7_placeOf : GoodIn wsX12_shift wsX7_placeOf := goodIn_r _ [81, 18, 21, 22, 23, 24, 25, 26, 120, 121, 122, 135, 136] rfl (by decide +kernel)
set_option maxRecDepth 20000 in
theorem gX12_shift_X7_placeOf : GoodIn wsX12_shift (wsV RX12 209 RX7 yX7_placeOf wsX7_placeOf) := goodIn_app (goodIn_of _ (by decide +kernel)) ggX12_shift_X7_placeOf
set_option maxRecDepth 20000 in
theorem ggX12_shift_X1_keepAct : GoodIn wsX12_shift wsX1_keepAct := goodIn_r _ [85, 86, 87, 88, 89, 90, 70, 91, 73, 22, 23, 24, 25, 26, 74, 75, 76, 77, 92, 93, 94, 95, 39, 137, 138, 139, 140, 141, 135, 136] rfl (by decide +kernel)
set_option maxRecDepth 20000 in
theorem gX12_shift_X1_keepAct : GoodIn wsX12_shift (wsV RX12 221 RX1 yX1_keepAct wsX1_keepAct) := goodIn_app (goodIn_of _ (by decide +kernel)) ggX12_shift_X1_keepAct
set_option maxRecDepth 20000 in
theorem ggX12_shift_X7_bring : GoodIn wsX12_shift wsX7_bring := goodIn_r _ [99, 18, 21, 22, 23, 24, 25, 26, 100, 101, 102, 16, 103, 19, 45, 104, 105, 75, 76, 77, 120, 121, 122, 135, 136, 123, 124, 125, 126, 127, 128, 129, 130, 131, 132, 133, 134] rfl (by decide +kernel)
set_option maxRecDepth 20000 in
theorem gX12_shift_X7_bring : GoodIn wsX12_shift (wsV RX12 225 RX7 yX7_bring wsX7_bring) := goodIn_app (goodIn_of _ (by decide +kernel)) ggX12_shift_X7_bring
theorem dX12_shift_0 : decode cX12_shift 0 = .ok (.aload_n 0, 1) := by decide +kernel
theorem dX12_shift_1 : decode cX12_shift 1 = .ok (.iload_n 1, 1) := by decide +kernel
theorem dX12_shift_2 : decode cX12_shift 2 = .ok (.invokevirtual 206, 3) := by decide +kernel
theorem dX12_shift_5 : decode cX12_shift 5 = .ok (.aload_n 0, 1) := by decide +kernel
theorem dX12_shift_6 : decode cX12_shift 6 = .ok (.getfield 40, 3) := by decide +kernel
theorem dX12_shift_9 : decode cX12_shift 9 = .ok (.iload_n 1, 1) := by decide +kernel
theorem dX12_shift_10 : decode cX12_shift 10 = .ok (.iload_n 2, 1) := by decide +kernel
theorem dX12_shift_11 : decode cX12_shift 11 = .ok (.invokevirtual 218, 3) := by decide +kernel
theorem dX12_shift_14 : decode cX12_shift 14 = .ok (.ifCond .ne 13, 3) := by decide +kernel
theorem dX12_shift_17 : decode cX12_shift 17 = .ok (.aload_n 0, 1) := by decide +kernel
theorem dX12_shift_18 : decode cX12_shift 18 = .ok (.getfield 47, 3) := by decide +kernel
theorem dX12_shift_21 : decode cX12_shift 21 = .ok (.iconst 1, 1) := by decide +kernel
theorem dX12_shift_22 : decode cX12_shift 22 = .ok (.invokevirtual 106, 3) := by decide +kernel
theorem dX12_shift_25 : decode cX12_shift 25 = .ok (.iconst (-1), 1) := by decide +kernel
theorem dX12_shift_26 : decode cX12_shift 26 = .ok (.ireturn, 1) := by decide +kernel
theorem dX12_shift_27 : decode cX12_shift 27 = .ok (.aload_n 0, 1) := by decide +kernel
theorem dX12_shift_28 : decode cX12_shift 28 = .ok (.getfield 40, 3) := by decide +kernel
theorem dX12_shift_31 : decode cX12_shift 31 = .ok (.iload_n 1, 1) := by decide +kernel
theorem dX12_shift_32 : decode cX12_shift 32 = .ok (.invokevirtual 209, 3) := by decide +kernel
theorem dX12_shift_35 : decode cX12_shift 35 = .ok (.istore_n 3, 1) := by decide +kernel
theorem dX12_shift_36 : decode cX12_shift 36 = .ok (.aload_n 0, 1) := by decide +kernel
theorem dX12_shift_37 : decode cX12_shift 37 = .ok (.getfield 47, 3) := by decide +kernel
theorem dX12_shift_40 : decode cX12_shift 40 = .ok (.iload_n 1, 1) := by decide +kernel
theorem dX12_shift_41 : decode cX12_shift 41 = .ok (.iload_n 3, 1) := by decide +kernel
theorem dX12_shift_42 : decode cX12_shift 42 = .ok (.aload_n 0, 1) := by decide +kernel
theorem dX12_shift_43 : decode cX12_shift 43 = .ok (.getfield 40, 3) := by decide +kernel
theorem dX12_shift_46 : decode cX12_shift 46 = .ok (.getfield 140, 3) := by decide +kernel
theorem dX12_shift_49 : decode cX12_shift 49 = .ok (.invokevirtual 221, 3) := by decide +kernel
theorem dX12_shift_52 : decode cX12_shift 52 = .ok (.aload_n 0, 1) := by decide +kernel
theorem dX12_shift_53 : decode cX12_shift 53 = .ok (.getfield 40, 3) := by decide +kernel
theorem dX12_shift_56 : decode cX12_shift 56 = .ok (.iload_n 1, 1) := by decide +kernel
theorem dX12_shift_57 : decode cX12_shift 57 = .ok (.iload_n 2, 1) := by decide +kernel
theorem dX12_shift_58 : decode cX12_shift 58 = .ok (.invokevirtual 225, 3) := by decide +kernel
theorem dX12_shift_61 : decode cX12_shift 61 = .ok (.iload_n 3, 1) := by decide +kernel
theorem dX12_shift_62 : decode cX12_shift 62 = .ok (.ireturn, 1) := by decide +kernel
set_option maxRecDepth 20000 in
theorem ggX12_undo_X1_takeBackAct : GoodIn wsX12_undo wsX1_takeBackAct := goodIn_r _ [8, 9, 10, 11, 12, 13, 14, 15, 16, 17, 18, 19, 20, 21, 22, 23, 24, 25, 26, 27, 28, 43, 44, 45, 46, 47, 48, 49, 50, 51, 52] rfl (by decide +kernel)
set_option maxRecDepth 20000 in
theorem gX12_undo_X1_takeBackAct : GoodIn wsX12_undo (wsV RX12 228 RX1 yX1_takeBackAct wsX1_takeBackAct) := goodIn_app (goodIn_of _ (by decide +kernel)) ggX12_undo_X1_takeBackAct
theorem dX12_undo_0 : decode cX12_undo 0 = .ok (.aload_n 0, 1) := by decide +kernel
theorem dX12_undo_1 : decode cX12_undo 1 = .ok (.getfield 47, 3) := by decide +kernel
theorem dX12_undo_4 : decode cX12_undo 4 = .ok (.getfield 143, 3) := by decide +kernel
theorem dX12_undo_7 : decode cX12_undo 7 = .ok (.ifCond .ne 5, 3) := by decide +kernel
theorem dX12_undo_10 : decode cX12_undo 10 = .ok (.iconst (-1), 1) := by decide +kernel
theorem dX12_undo_11 : decode cX12_undo 11 = .ok (.ireturn, 1) := by decide +kernel
theorem dX12_undo_12 : decode cX12_undo 12 = .ok (.aload_n 0, 1) := by decide +kernel
theorem dX12_undo_13 : decode cX12_undo 13 = .ok (.getfield 47, 3) := by decide +kernel
theorem dX12_undo_16 : decode cX12_undo 16 = .ok (.aload_n 0, 1) := by decide +kernel
theorem dX12_undo_17 : decode cX12_undo 17 = .ok (.getfield 40, 3) := by decide +kernel
theorem dX12_undo_20 : decode cX12_undo 20 = .ok (.invokevirtual 228, 3) := by decide +kernel
theorem dX12_undo_23 : decode cX12_undo 23 = .ok (.aload_n 0, 1) := by decide +kernel
theorem dX12_undo_24 : decode cX12_undo 24 = .ok (.getfield 47, 3) := by decide +kernel
theorem dX12_undo_27 : decode cX12_undo 27 = .ok (.getfield 143, 3) := by decide +kernel
theorem dX12_undo_30 : decode cX12_undo 30 = .ok (.ireturn, 1) := by decide +kernel
set_option maxRecDepth 20000 in
theorem ggX12_bill_X7_total : GoodIn wsX12_bill wsX7_total := goodIn_r _ [6, 7, 8, 9, 10, 11, 12, 13, 14, 15, 16, 5, 17, 18, 19, 20, 21, 22, 23, 24, 25, 26, 27, 28, 29, 30, 31, 32, 33, 34, 35, 36, 37, 38, 39, 40, 41, 42, 43, 44, 45, 46, 47, 48, 49, 50, 51, 52, 53, 54, 55, 56, 57, 58, 59, 60, 61, 62, 63, 64, 65, 66, 67, 68, 69, 70, 71, 72, 73, 74, 75, 76, 77, 78, 79, 80, 81, 82, 83, 84, 99, 100, 101, 102, 103, 104, 105, 106, 107, 108, 109, 110, 111, 112, 113, 114, 115, 116, 117, 118, 119, 120, 121] rfl (by decide +kernel)
set_option maxRecDepth 20000 in
theorem gX12_bill_X7_total : GoodIn wsX12_bill (wsV RX12 232 RX7 yX7_total wsX7_total) := goodIn_app (goodIn_of _ (by decide +kernel)) ggX12_bill_X7_total
theorem dX12_bill_0 : decode cX12_bill 0 = .ok (.aload_n 0, 1) := by decide +kernel
theorem dX12_bill_1 : decode cX12_bill 1 = .ok (.getfield 40, 3) := by decide +kernel
theorem dX12_bill_4 : decode cX12_bill 4 = .ok (.invokevirtual 232, 3) := by decide +kernel
theorem dX12_bill_7 : decode cX12_bill 7 = .ok (.ireturn, 1) := by decide +kernel
set_option maxRecDepth 20000 in
theorem ggX12_lawful_X7_law : GoodIn wsX12_lawful wsX7_law := goodIn_r _ [6, 7, 8, 9, 10, 11, 5, 12, 13, 14, 15, 16, 17, 18, 19, 20, 21, 22, 23, 24, 25, 26, 27, 28, 29, 30, 31, 32, 33, 34, 35, 36, 37, 38, 39, 40, 41, 42, 43, 44, 45, 46, 47, 48, 49, 50, 51, 52, 53, 54, 55, 56, 57, 58, 73, 74, 75, 76, 77, 78, 79, 80, 81, 82, 83, 84, 85, 86, 87, 88, 89] rfl (by decide +kernel)
set_option maxRecDepth 20000 in
theorem gX12_lawful_X7_law : GoodIn wsX12_lawful (wsV RX12 236 RX7 yX7_law wsX7_law) := goodIn_app (goodIn_of _ (by decide +kernel)) ggX12_lawful_X7_law
theorem dX12_lawful_0 : decode cX12_lawful 0 = .ok (.aload_n 0, 1) := by decide +kernel
theorem dX12_lawful_1 : decode cX12_lawful 1 = .ok (.getfield 40, 3) := by decide +kernel
theorem dX12_lawful_4 : decode cX12_lawful 4 = .ok (.invokevirtual 236, 3) := by decide +kernel
theorem dX12_lawful_7 : decode cX12_lawful 7 = .ok (.ireturn, 1) := by decide +kernel
set_option maxRecDepth 20000 in
theorem ggX12_two_X12_needCase : GoodIn wsX12_two wsX12_needCase := goodIn_ca (goodIn_r _ [9, 10, 11, 12, 13, 61, 62, 63, 64, 65, 66, 67, 68, 69, 70, 71, 72, 73, 74, 75, 76, 77, 78, 79, 80, 81, 82, 83, 84, 85, 86] rfl (by decide +kernel)) (goodIn_sub (fun _ h => List.mem_cons_of_mem _ (List.mem_append_right _ h)) (by decide +kernel))
set_option maxRecDepth 20000 in
theorem gX12_two_X12_needCase : GoodIn wsX12_two (wsV RX12 185 RX12 yX12_needCase wsX12_needCase) := goodIn_app (goodIn_of _ (by decide +kernel)) ggX12_two_X12_needCase
set_option maxRecDepth 20000 in
theorem ggX12_two_X2_fewestBetween : GoodIn wsX12_two wsX2_fewestBetween := goodIn_r _ [18, 19, 20, 21, 22, 23, 24, 25, 26, 27, 28, 29, 30, 31, 32, 33, 34, 35, 36, 37, 38, 39, 40, 41, 42, 43, 44, 45, 46, 47, 48, 49, 50, 51, 52, 53, 54, 55, 56, 57, 58, 59, 60, 87, 88, 89, 75, 76, 77, 78, 79, 80, 81, 82, 83, 84, 85, 86, 90, 91] rfl (by decide +kernel)
set_option maxRecDepth 20000 in
theorem gX12_two_X2_fewestBetween : GoodIn wsX12_two (wsV RX12 239 RX2 yX2_fewestBetween wsX2_fewestBetween) := goodIn_app (goodIn_of _ (by decide +kernel)) ggX12_two_X2_fewestBetween
theorem dX12_two_0 : decode cX12_two 0 = .ok (.aload_n 0, 1) := by decide +kernel
theorem dX12_two_1 : decode cX12_two 1 = .ok (.iload_n 1, 1) := by decide +kernel
theorem dX12_two_2 : decode cX12_two 2 = .ok (.invokevirtual 185, 3) := by decide +kernel
theorem dX12_two_5 : decode cX12_two 5 = .ok (.aload_n 0, 1) := by decide +kernel
theorem dX12_two_6 : decode cX12_two 6 = .ok (.iload_n 2, 1) := by decide +kernel
theorem dX12_two_7 : decode cX12_two 7 = .ok (.invokevirtual 185, 3) := by decide +kernel
theorem dX12_two_10 : decode cX12_two 10 = .ok (.iload_n 1, 1) := by decide +kernel
theorem dX12_two_11 : decode cX12_two 11 = .ok (.iload_n 2, 1) := by decide +kernel
theorem dX12_two_12 : decode cX12_two 12 = .ok (.if_icmp .ne 11, 3) := by decide +kernel
theorem dX12_two_15 : decode cX12_two 15 = .ok (.new 96, 3) := by decide +kernel
theorem dX12_two_18 : decode cX12_two 18 = .ok (.dup, 1) := by decide +kernel
theorem dX12_two_19 : decode cX12_two 19 = .ok (.invokespecial 98, 3) := by decide +kernel
theorem dX12_two_22 : decode cX12_two 22 = .ok (.athrow, 1) := by decide +kernel
theorem dX12_two_23 : decode cX12_two 23 = .ok (.aload_n 0, 1) := by decide +kernel
theorem dX12_two_24 : decode cX12_two 24 = .ok (.getfield 64, 3) := by decide +kernel
theorem dX12_two_27 : decode cX12_two 27 = .ok (.aload_n 0, 1) := by decide +kernel
theorem dX12_two_28 : decode cX12_two 28 = .ok (.getfield 40, 3) := by decide +kernel
theorem dX12_two_31 : decode cX12_two 31 = .ok (.iload_n 1, 1) := by decide +kernel
theorem dX12_two_32 : decode cX12_two 32 = .ok (.iload_n 2, 1) := by decide +kernel
theorem dX12_two_33 : decode cX12_two 33 = .ok (.invokevirtual 239, 3) := by decide +kernel
theorem dX12_two_36 : decode cX12_two 36 = .ok (.ireturn, 1) := by decide +kernel
set_option maxRecDepth 20000 in
theorem ggX12_opened_X2_cheapestSet : GoodIn wsX12_opened wsX2_cheapestSet := goodIn_r _ [7, 8, 9, 10, 11, 6, 12, 13, 14, 15, 16, 17, 18, 19, 20, 21, 22, 23, 24, 25, 26, 27, 28, 29, 30, 31, 32, 33, 34, 35, 36, 37, 38, 39, 40, 41, 42, 43, 44, 45, 46, 47, 48, 49, 50, 51, 52, 53, 54, 55, 56, 57, 58, 59, 60, 61, 62, 63, 64, 65, 66, 67, 68, 69, 70, 71, 72, 73, 74, 75, 76, 77, 78, 79, 80, 81, 82, 83, 84, 85, 86, 87, 88, 89, 90, 91, 92, 93, 94, 95, 96, 97, 98, 99, 100, 101, 102, 103, 104, 105, 106, 107, 108, 109, 110, 111, 112, 113, 114, 115, 116, 117, 118, 119, 120, 121, 122, 123, 124, 125, 140, 141, 142, 143, 144, 145, 146, 147, 148, 149, 150, 151, 152, 153, 154, 155, 156, 157, 158, 159] rfl (by decide +kernel)
set_option maxRecDepth 20000 in
theorem gX12_opened_X2_cheapestSet : GoodIn wsX12_opened (wsV RX12 243 RX2 yX2_cheapestSet wsX2_cheapestSet) := goodIn_app (goodIn_of _ (by decide +kernel)) ggX12_opened_X2_cheapestSet
theorem dX12_opened_0 : decode cX12_opened 0 = .ok (.aload_n 0, 1) := by decide +kernel
theorem dX12_opened_1 : decode cX12_opened 1 = .ok (.getfield 64, 3) := by decide +kernel
theorem dX12_opened_4 : decode cX12_opened 4 = .ok (.aload_n 0, 1) := by decide +kernel
theorem dX12_opened_5 : decode cX12_opened 5 = .ok (.getfield 40, 3) := by decide +kernel
theorem dX12_opened_8 : decode cX12_opened 8 = .ok (.invokevirtual 243, 3) := by decide +kernel
theorem dX12_opened_11 : decode cX12_opened 11 = .ok (.ireturn, 1) := by decide +kernel
set_option maxRecDepth 20000 in
theorem ggX12_cheap_X12_needCase : GoodIn wsX12_cheap wsX12_needCase := goodIn_ca (goodIn_r _ [7, 8, 9, 10, 11, 129, 130, 131, 132, 133, 134, 135, 136, 137, 138, 139, 140, 141, 142, 143, 144, 145, 146, 147, 148, 149, 150, 151, 152, 153, 154] rfl (by decide +kernel)) (goodIn_sub (fun _ h => List.mem_cons_of_mem _ (List.mem_append_right _ h)) (by decide +kernel))
set_option maxRecDepth 20000 in
theorem gX12_cheap_X12_needCase : GoodIn wsX12_cheap (wsV RX12 185 RX12 yX12_needCase wsX12_needCase) := goodIn_app (goodIn_of _ (by decide +kernel)) ggX12_cheap_X12_needCase
set_option maxRecDepth 20000 in
theorem ggX12_cheap_X3_leastFor : GoodIn wsX12_cheap wsX3_leastFor := goodIn_r _ [16, 17, 18, 19, 20, 21, 15, 22, 23, 24, 25, 26, 27, 28, 29, 30, 31, 32, 33, 34, 35, 36, 37, 38, 39, 40, 41, 42, 43, 44, 45, 46, 47, 48, 49, 50, 51, 52, 53, 54, 55, 56, 57, 58, 59, 60, 61, 62, 63, 64, 65, 66, 67, 68, 69, 70, 71, 72, 73, 74, 75, 76, 77, 78, 79, 80, 81, 82, 83, 84, 85, 86, 87, 88, 89, 90, 91, 92, 93, 94, 95, 96, 97, 98, 99, 100, 101, 102, 103, 104, 105, 106, 107, 108, 109, 110, 111, 112, 113, 114, 115, 116, 117, 118, 119, 120, 121, 122, 123, 124, 125, 126, 127, 128, 155, 156, 157, 158, 159, 160, 161, 162, 163, 164, 165, 166, 143, 144, 145, 146, 147, 148, 149, 150, 151, 152, 153, 154, 167, 168, 169, 170, 171, 172, 173, 174] rfl (by decide +kernel)
set_option maxRecDepth 20000 in
theorem gX12_cheap_X3_leastFor : GoodIn wsX12_cheap (wsV RX12 247 RX3 yX3_leastFor wsX3_leastFor) := goodIn_app (goodIn_of _ (by decide +kernel)) ggX12_cheap_X3_leastFor
theorem dX12_cheap_0 : decode cX12_cheap 0 = .ok (.aload_n 0, 1) := by decide +kernel
theorem dX12_cheap_1 : decode cX12_cheap 1 = .ok (.iload_n 1, 1) := by decide +kernel
theorem dX12_cheap_2 : decode cX12_cheap 2 = .ok (.invokevirtual 185, 3) := by decide +kernel
theorem dX12_cheap_5 : decode cX12_cheap 5 = .ok (.aload_n 0, 1) := by decide +kernel
theorem dX12_cheap_6 : decode cX12_cheap 6 = .ok (.getfield 71, 3) := by decide +kernel
theorem dX12_cheap_9 : decode cX12_cheap 9 = .ok (.aload_n 0, 1) := by decide +kernel
theorem dX12_cheap_10 : decode cX12_cheap 10 = .ok (.getfield 40, 3) := by decide +kernel
theorem dX12_cheap_13 : decode cX12_cheap 13 = .ok (.iload_n 1, 1) := by decide +kernel
theorem dX12_cheap_14 : decode cX12_cheap 14 = .ok (.invokevirtual 247, 3) := by decide +kernel
theorem dX12_cheap_17 : decode cX12_cheap 17 = .ok (.ireturn, 1) := by decide +kernel
set_option maxRecDepth 20000 in
theorem ggX12_fate_X12_needThing : GoodIn wsX12_fate wsX12_needThing := goodIn_ca (goodIn_r _ [9, 1, 2, 10, 11, 25, 26, 27, 28, 29, 30, 31, 32, 33, 34, 35, 36, 37, 38, 48, 49, 50, 51, 52, 53, 54, 55, 56, 57, 58, 59] rfl (by decide +kernel)) (goodIn_sub (fun _ h => List.mem_cons_of_mem _ (List.mem_append_right _ h)) (by decide +kernel))
set_option maxRecDepth 20000 in
theorem gX12_fate_X12_needThing : GoodIn wsX12_fate (wsV RX12 206 RX12 yX12_needThing wsX12_needThing) := goodIn_app (goodIn_of _ (by decide +kernel)) ggX12_fate_X12_needThing
set_option maxRecDepth 20000 in
theorem ggX12_fate_X3_hasFateOf : GoodIn wsX12_fate wsX3_hasFateOf := goodIn_r _ [16, 17, 18, 39, 40, 41, 42, 43, 44, 45, 46, 47] rfl (by decide +kernel)
set_option maxRecDepth 20000 in
theorem gX12_fate_X3_hasFateOf : GoodIn wsX12_fate (wsV RX12 251 RX3 yX3_hasFateOf wsX3_hasFateOf) := goodIn_app (goodIn_of _ (by decide +kernel)) ggX12_fate_X3_hasFateOf
set_option maxRecDepth 20000 in
theorem ggX12_fate_X8_at : GoodIn wsX12_fate wsX8_at := goodIn_r _ [23, 24, 60, 61] rfl (by decide +kernel)
set_option maxRecDepth 20000 in
theorem gX12_fate_X8_at : GoodIn wsX12_fate (wsV RX12 153 RX8 yX8_at wsX8_at) := goodIn_app (goodIn_of _ (by decide +kernel)) ggX12_fate_X8_at
theorem dX12_fate_0 : decode cX12_fate 0 = .ok (.aload_n 0, 1) := by decide +kernel
theorem dX12_fate_1 : decode cX12_fate 1 = .ok (.iload_n 1, 1) := by decide +kernel
theorem dX12_fate_2 : decode cX12_fate 2 = .ok (.invokevirtual 206, 3) := by decide +kernel
theorem dX12_fate_5 : decode cX12_fate 5 = .ok (.aload_n 0, 1) := by decide +kernel
theorem dX12_fate_6 : decode cX12_fate 6 = .ok (.getfield 71, 3) := by decide +kernel
theorem dX12_fate_9 : decode cX12_fate 9 = .ok (.iload_n 1, 1) := by decide +kernel
theorem dX12_fate_10 : decode cX12_fate 10 = .ok (.invokevirtual 251, 3) := by decide +kernel
theorem dX12_fate_13 : decode cX12_fate 13 = .ok (.ifCond .ne 11, 3) := by decide +kernel
theorem dX12_fate_16 : decode cX12_fate 16 = .ok (.new 159, 3) := by decide +kernel
theorem dX12_fate_19 : decode cX12_fate 19 = .ok (.dup, 1) := by decide +kernel
theorem dX12_fate_20 : decode cX12_fate 20 = .ok (.invokespecial 161, 3) := by decide +kernel
theorem dX12_fate_23 : decode cX12_fate 23 = .ok (.athrow, 1) := by decide +kernel
theorem dX12_fate_24 : decode cX12_fate 24 = .ok (.aload_n 0, 1) := by decide +kernel
theorem dX12_fate_25 : decode cX12_fate 25 = .ok (.getfield 71, 3) := by decide +kernel
theorem dX12_fate_28 : decode cX12_fate 28 = .ok (.getfield 255, 3) := by decide +kernel
theorem dX12_fate_31 : decode cX12_fate 31 = .ok (.iload_n 1, 1) := by decide +kernel
theorem dX12_fate_32 : decode cX12_fate 32 = .ok (.invokevirtual 153, 3) := by decide +kernel
theorem dX12_fate_35 : decode cX12_fate 35 = .ok (.ireturn, 1) := by decide +kernel
set_option maxRecDepth 20000 in
theorem ggX12_sure_X12_needCase : GoodIn wsX12_sure wsX12_needCase := goodIn_ca (goodIn_r _ [11, 12, 13, 14, 15, 86, 87, 88, 89, 90, 91, 92, 93, 94, 95, 96, 97, 98, 99, 109, 110, 111, 112, 113, 114, 115, 116, 117, 118, 119, 120] rfl (by decide +kernel)) (goodIn_sub (fun _ h => List.mem_cons_of_mem _ (List.mem_append_right _ h)) (by decide +kernel))
set_option maxRecDepth 20000 in
theorem gX12_sure_X12_needCase : GoodIn wsX12_sure (wsV RX12 185 RX12 yX12_needCase wsX12_needCase) := goodIn_app (goodIn_of _ (by decide +kernel)) ggX12_sure_X12_needCase
set_option maxRecDepth 20000 in
theorem ggX12_sure_X12_needWhat : GoodIn wsX12_sure wsX12_needWhat := goodIn_ca (goodIn_r _ [18, 12, 13] rfl (by decide +kernel)) (goodIn_sub (fun _ h => List.mem_cons_of_mem _ (List.mem_append_right _ h)) (by decide +kernel))
set_option maxRecDepth 20000 in
theorem gX12_sure_X12_needWhat : GoodIn wsX12_sure (va_wsS RX12 165 yX12_needWhat wsX12_needWhat) := goodIn_app (goodIn_of _ (by decide +kernel)) ggX12_sure_X12_needWhat
set_option maxRecDepth 20000 in
theorem ggX12_sure_X6_take : GoodIn wsX12_sure wsX6_take := goodIn_r _ [23, 24, 25, 26, 27, 28, 29, 30, 31, 32, 33, 34, 35, 36, 37, 38, 39, 40, 41, 42, 43, 44, 45, 46, 47, 48, 49, 50, 51, 52, 53, 54, 55, 56, 121, 122, 123, 100, 101, 102, 103, 104, 105, 106, 107, 108, 109, 110, 111, 112, 113, 114, 115, 116, 117, 118, 119, 120, 124, 125] rfl (by decide +kernel)
set_option maxRecDepth 20000 in
theorem gX12_sure_X6_take : GoodIn wsX12_sure (wsV RX12 258 RX6 yX6_take wsX6_take) := goodIn_app (goodIn_of _ (by decide +kernel)) ggX12_sure_X6_take
set_option maxRecDepth 20000 in
theorem ggX12_sure_X6_known : GoodIn wsX12_sure wsX6_known := goodIn_r _ [60, 29, 27, 28, 100, 101, 102, 103, 104, 105, 106, 107, 108] rfl (by decide +kernel)
set_option maxRecDepth 20000 in
theorem gX12_sure_X6_known : GoodIn wsX12_sure (wsV RX12 268 RX6 yX6_known wsX6_known) := goodIn_app (goodIn_of _ (by decide +kernel)) ggX12_sure_X6_known
set_option maxRecDepth 20000 in
theorem ggX12_sure_X6_findChance : GoodIn wsX12_sure wsX6_findChance := goodIn_r _ [64, 65, 66, 67, 28, 27, 68, 69, 70, 22, 71, 24, 72, 25, 73, 44, 45, 46, 41, 47, 48, 43, 74, 75, 76, 77, 78, 79, 80, 81, 82, 83, 84, 85, 100, 101, 102, 103, 104, 105, 106, 107, 108, 109, 110, 111, 112, 113, 114, 115, 116, 117, 118, 119, 120, 124, 125] rfl (by decide +kernel)
set_option maxRecDepth 20000 in
theorem gX12_sure_X6_findChance : GoodIn wsX12_sure (wsV RX12 271 RX6 yX6_findChance wsX6_findChance) := goodIn_app (goodIn_of _ (by decide +kernel)) ggX12_sure_X6_findChance
theorem dX12_sure_0 : decode cX12_sure 0 = .ok (.aload_n 0, 1) := by decide +kernel
theorem dX12_sure_1 : decode cX12_sure 1 = .ok (.iload_n 1, 1) := by decide +kernel
theorem dX12_sure_2 : decode cX12_sure 2 = .ok (.invokevirtual 185, 3) := by decide +kernel
theorem dX12_sure_5 : decode cX12_sure 5 = .ok (.iload_n 2, 1) := by decide +kernel
theorem dX12_sure_6 : decode cX12_sure 6 = .ok (.iconst 5, 1) := by decide +kernel
theorem dX12_sure_7 : decode cX12_sure 7 = .ok (.invokestatic 165, 3) := by decide +kernel
theorem dX12_sure_10 : decode cX12_sure 10 = .ok (.aload_n 0, 1) := by decide +kernel
theorem dX12_sure_11 : decode cX12_sure 11 = .ok (.getfield 78, 3) := by decide +kernel
theorem dX12_sure_14 : decode cX12_sure 14 = .ok (.aload_n 0, 1) := by decide +kernel
theorem dX12_sure_15 : decode cX12_sure 15 = .ok (.getfield 40, 3) := by decide +kernel
theorem dX12_sure_18 : decode cX12_sure 18 = .ok (.iload_n 1, 1) := by decide +kernel
theorem dX12_sure_19 : decode cX12_sure 19 = .ok (.invokevirtual 258, 3) := by decide +kernel
theorem dX12_sure_22 : decode cX12_sure 22 = .ok (.iload_n 2, 1) := by decide +kernel
theorem dX12_sure_23 : decode cX12_sure 23 = .ok (.tableswitch 52 0 2 #[25, 34, 43], 25) := by decide +kernel
theorem dX12_sure_48 : decode cX12_sure 48 = .ok (.aload_n 0, 1) := by decide +kernel
theorem dX12_sure_49 : decode cX12_sure 49 = .ok (.getfield 78, 3) := by decide +kernel
theorem dX12_sure_52 : decode cX12_sure 52 = .ok (.getfield 262, 3) := by decide +kernel
theorem dX12_sure_55 : decode cX12_sure 55 = .ok (.i2l, 1) := by decide +kernel
theorem dX12_sure_56 : decode cX12_sure 56 = .ok (.lreturn, 1) := by decide +kernel
theorem dX12_sure_57 : decode cX12_sure 57 = .ok (.aload_n 0, 1) := by decide +kernel
theorem dX12_sure_58 : decode cX12_sure 58 = .ok (.getfield 78, 3) := by decide +kernel
theorem dX12_sure_61 : decode cX12_sure 61 = .ok (.getfield 265, 3) := by decide +kernel
theorem dX12_sure_64 : decode cX12_sure 64 = .ok (.i2l, 1) := by decide +kernel
theorem dX12_sure_65 : decode cX12_sure 65 = .ok (.lreturn, 1) := by decide +kernel
theorem dX12_sure_66 : decode cX12_sure 66 = .ok (.aload_n 0, 1) := by decide +kernel
theorem dX12_sure_67 : decode cX12_sure 67 = .ok (.getfield 78, 3) := by decide +kernel
theorem dX12_sure_70 : decode cX12_sure 70 = .ok (.invokevirtual 268, 3) := by decide +kernel
theorem dX12_sure_73 : decode cX12_sure 73 = .ok (.i2l, 1) := by decide +kernel
theorem dX12_sure_74 : decode cX12_sure 74 = .ok (.lreturn, 1) := by decide +kernel
theorem dX12_sure_75 : decode cX12_sure 75 = .ok (.aload_n 0, 1) := by decide +kernel
theorem dX12_sure_76 : decode cX12_sure 76 = .ok (.getfield 78, 3) := by decide +kernel
theorem dX12_sure_79 : decode cX12_sure 79 = .ok (.invokevirtual 271, 3) := by decide +kernel
theorem dX12_sure_82 : decode cX12_sure 82 = .ok (.iload_n 2, 1) := by decide +kernel
theorem dX12_sure_83 : decode cX12_sure 83 = .ok (.iconst 3, 1) := by decide +kernel
theorem dX12_sure_84 : decode cX12_sure 84 = .ok (.if_icmp .ne 13, 3) := by decide +kernel
theorem dX12_sure_87 : decode cX12_sure 87 = .ok (.aload_n 0, 1) := by decide +kernel
theorem dX12_sure_88 : decode cX12_sure 88 = .ok (.getfield 78, 3) := by decide +kernel
theorem dX12_sure_91 : decode cX12_sure 91 = .ok (.getfield 274, 3) := by decide +kernel
theorem dX12_sure_94 : decode cX12_sure 94 = .ok (.goto 10, 3) := by decide +kernel
theorem dX12_sure_97 : decode cX12_sure 97 = .ok (.aload_n 0, 1) := by decide +kernel
theorem dX12_sure_98 : decode cX12_sure 98 = .ok (.getfield 78, 3) := by decide +kernel
theorem dX12_sure_101 : decode cX12_sure 101 = .ok (.getfield 278, 3) := by decide +kernel
theorem dX12_sure_104 : decode cX12_sure 104 = .ok (.lreturn, 1) := by decide +kernel
set_option maxRecDepth 20000 in
theorem ggX12_weigh_X12_needCase : GoodIn wsX12_weigh wsX12_needCase := goodIn_ca (goodIn_r _ [10, 11, 12, 13, 14, 78, 79, 80, 81, 82, 83, 84, 85, 86, 87, 88, 89, 90, 91, 101, 102, 103, 104, 105, 106, 107, 108, 109, 110, 111, 112] rfl (by decide +kernel)) (goodIn_sub (fun _ h => List.mem_cons_of_mem _ (List.mem_append_right _ h)) (by decide +kernel))
set_option maxRecDepth 20000 in
theorem gX12_weigh_X12_needCase : GoodIn wsX12_weigh (wsV RX12 185 RX12 yX12_needCase wsX12_needCase) := goodIn_app (goodIn_of _ (by decide +kernel)) ggX12_weigh_X12_needCase
set_option maxRecDepth 20000 in
theorem ggX12_weigh_X12_needWhat : GoodIn wsX12_weigh wsX12_needWhat := goodIn_ca (goodIn_r _ [17, 11, 12] rfl (by decide +kernel)) (goodIn_sub (fun _ h => List.mem_cons_of_mem _ (List.mem_append_right _ h)) (by decide +kernel))
set_option maxRecDepth 20000 in
theorem gX12_weigh_X12_needWhat : GoodIn wsX12_weigh (va_wsS RX12 165 yX12_needWhat wsX12_needWhat) := goodIn_app (goodIn_of _ (by decide +kernel)) ggX12_weigh_X12_needWhat
set_option maxRecDepth 20000 in
theorem ggX12_weigh_X6_take : GoodIn wsX12_weigh wsX6_take := goodIn_r _ [22, 23, 24, 25, 26, 27, 28, 29, 30, 31, 32, 33, 34, 35, 36, 37, 38, 39, 40, 41, 42, 43, 44, 45, 46, 47, 48, 49, 50, 51, 52, 53, 54, 55, 113, 114, 115, 92, 93, 94, 95, 96, 97, 98, 99, 100, 101, 102, 103, 104, 105, 106, 107, 108, 109, 110, 111, 112, 116, 117] rfl (by decide +kernel)
set_option maxRecDepth 20000 in
theorem gX12_weigh_X6_take : GoodIn wsX12_weigh (wsV RX12 258 RX6 yX6_take wsX6_take) := goodIn_app (goodIn_of _ (by decide +kernel)) ggX12_weigh_X6_take
set_option maxRecDepth 20000 in
theorem ggX12_weigh_X6_findThingToWeigh : GoodIn wsX12_weigh wsX6_findThingToWeigh := goodIn_r _ [59, 60, 61, 62, 23, 63, 24, 64, 65, 66, 67, 68, 21, 69, 28, 26, 27, 70, 71, 72, 73, 43, 44, 45, 40, 46, 47, 42, 74, 75, 76, 77, 92, 93, 94, 95, 96, 97, 98, 99, 100, 101, 102, 103, 104, 105, 106, 107, 108, 109, 110, 111, 112, 116, 117] rfl (by decide +kernel)
set_option maxRecDepth 20000 in
theorem gX12_weigh_X6_findThingToWeigh : GoodIn wsX12_weigh (wsV RX12 281 RX6 yX6_findThingToWeigh wsX6_findThingToWeigh) := goodIn_app (goodIn_of _ (by decide +kernel)) ggX12_weigh_X6_findThingToWeigh
theorem dX12_weigh_0 : decode cX12_weigh 0 = .ok (.aload_n 0, 1) := by decide +kernel
theorem dX12_weigh_1 : decode cX12_weigh 1 = .ok (.iload_n 1, 1) := by decide +kernel
theorem dX12_weigh_2 : decode cX12_weigh 2 = .ok (.invokevirtual 185, 3) := by decide +kernel
theorem dX12_weigh_5 : decode cX12_weigh 5 = .ok (.iload_n 2, 1) := by decide +kernel
theorem dX12_weigh_6 : decode cX12_weigh 6 = .ok (.iconst 3, 1) := by decide +kernel
theorem dX12_weigh_7 : decode cX12_weigh 7 = .ok (.invokestatic 165, 3) := by decide +kernel
theorem dX12_weigh_10 : decode cX12_weigh 10 = .ok (.aload_n 0, 1) := by decide +kernel
theorem dX12_weigh_11 : decode cX12_weigh 11 = .ok (.getfield 78, 3) := by decide +kernel
theorem dX12_weigh_14 : decode cX12_weigh 14 = .ok (.aload_n 0, 1) := by decide +kernel
theorem dX12_weigh_15 : decode cX12_weigh 15 = .ok (.getfield 40, 3) := by decide +kernel
theorem dX12_weigh_18 : decode cX12_weigh 18 = .ok (.iload_n 1, 1) := by decide +kernel
theorem dX12_weigh_19 : decode cX12_weigh 19 = .ok (.invokevirtual 258, 3) := by decide +kernel
theorem dX12_weigh_22 : decode cX12_weigh 22 = .ok (.aload_n 0, 1) := by decide +kernel
theorem dX12_weigh_23 : decode cX12_weigh 23 = .ok (.getfield 78, 3) := by decide +kernel
theorem dX12_weigh_26 : decode cX12_weigh 26 = .ok (.invokevirtual 281, 3) := by decide +kernel
theorem dX12_weigh_29 : decode cX12_weigh 29 = .ok (.iload_n 2, 1) := by decide +kernel
theorem dX12_weigh_30 : decode cX12_weigh 30 = .ok (.ifCond .ne 11, 3) := by decide +kernel
theorem dX12_weigh_33 : decode cX12_weigh 33 = .ok (.aload_n 0, 1) := by decide +kernel
theorem dX12_weigh_34 : decode cX12_weigh 34 = .ok (.getfield 78, 3) := by decide +kernel
theorem dX12_weigh_37 : decode cX12_weigh 37 = .ok (.getfield 284, 3) := by decide +kernel
theorem dX12_weigh_40 : decode cX12_weigh 40 = .ok (.ireturn, 1) := by decide +kernel
theorem dX12_weigh_41 : decode cX12_weigh 41 = .ok (.iload_n 2, 1) := by decide +kernel
theorem dX12_weigh_42 : decode cX12_weigh 42 = .ok (.iconst 1, 1) := by decide +kernel
theorem dX12_weigh_43 : decode cX12_weigh 43 = .ok (.if_icmp .ne 13, 3) := by decide +kernel
theorem dX12_weigh_46 : decode cX12_weigh 46 = .ok (.aload_n 0, 1) := by decide +kernel
theorem dX12_weigh_47 : decode cX12_weigh 47 = .ok (.getfield 78, 3) := by decide +kernel
theorem dX12_weigh_50 : decode cX12_weigh 50 = .ok (.getfield 274, 3) := by decide +kernel
theorem dX12_weigh_53 : decode cX12_weigh 53 = .ok (.goto 10, 3) := by decide +kernel
theorem dX12_weigh_56 : decode cX12_weigh 56 = .ok (.aload_n 0, 1) := by decide +kernel
theorem dX12_weigh_57 : decode cX12_weigh 57 = .ok (.getfield 78, 3) := by decide +kernel
theorem dX12_weigh_60 : decode cX12_weigh 60 = .ok (.getfield 278, 3) := by decide +kernel
theorem dX12_weigh_63 : decode cX12_weigh 63 = .ok (.l2i, 1) := by decide +kernel
theorem dX12_weigh_64 : decode cX12_weigh 64 = .ok (.ireturn, 1) := by decide +kernel
set_option maxRecDepth 20000 in
theorem ggX12_lost_X12_needCase : GoodIn wsX12_lost wsX12_needCase := goodIn_ca (goodIn_r _ [6, 7, 8, 9, 10, 53, 54, 55, 56, 57, 58, 59, 60, 61, 62, 63, 64, 65, 66, 67, 68, 69, 70, 71, 72, 73, 74, 75, 76, 77, 78] rfl (by decide +kernel)) (goodIn_sub (fun _ h => List.mem_cons_of_mem _ (List.mem_append_right _ h)) (by decide +kernel))
set_option maxRecDepth 20000 in
theorem gX12_lost_X12_needCase : GoodIn wsX12_lost (wsV RX12 185 RX12 yX12_needCase wsX12_needCase) := goodIn_app (goodIn_of _ (by decide +kernel)) ggX12_lost_X12_needCase
set_option maxRecDepth 20000 in
theorem ggX12_lost_X7_withoutShirtIfLost : GoodIn wsX12_lost wsX7_withoutShirtIfLost := goodIn_r _ [15, 16, 17, 18, 19, 20, 14, 21, 22, 23, 24, 25, 26, 27, 28, 29, 30, 31, 32, 33, 34, 35, 36, 37, 38, 39, 40, 41, 42, 43, 44, 45, 46, 47, 48, 49, 50, 51, 52, 79, 80, 81, 67, 68, 69, 70, 71, 72, 73, 74, 75, 76, 77, 78, 82, 83] rfl (by decide +kernel)
set_option maxRecDepth 20000 in
theorem gX12_lost_X7_withoutShirtIfLost : GoodIn wsX12_lost (wsV RX12 287 RX7 yX7_withoutShirtIfLost wsX7_withoutShirtIfLost) := goodIn_app (goodIn_of _ (by decide +kernel)) ggX12_lost_X7_withoutShirtIfLost
theorem dX12_lost_0 : decode cX12_lost 0 = .ok (.aload_n 0, 1) := by decide +kernel
theorem dX12_lost_1 : decode cX12_lost 1 = .ok (.iload_n 1, 1) := by decide +kernel
theorem dX12_lost_2 : decode cX12_lost 2 = .ok (.invokevirtual 185, 3) := by decide +kernel
theorem dX12_lost_5 : decode cX12_lost 5 = .ok (.aload_n 0, 1) := by decide +kernel
theorem dX12_lost_6 : decode cX12_lost 6 = .ok (.getfield 40, 3) := by decide +kernel
theorem dX12_lost_9 : decode cX12_lost 9 = .ok (.iload_n 1, 1) := by decide +kernel
theorem dX12_lost_10 : decode cX12_lost 10 = .ok (.invokevirtual 287, 3) := by decide +kernel
theorem dX12_lost_13 : decode cX12_lost 13 = .ok (.ireturn, 1) := by decide +kernel
set_option maxRecDepth 20000 in
theorem ggX12_safe_X7_withoutShirtIfLost : GoodIn wsX12_safe wsX7_withoutShirtIfLost := goodIn_r _ [8, 9, 10, 11, 12, 13, 7, 14, 15, 16, 17, 18, 19, 20, 21, 22, 23, 24, 25, 26, 27, 28, 29, 30, 31, 32, 33, 34, 35, 36, 37, 38, 39, 40, 41, 42, 43, 44, 45, 72, 73, 74, 60, 61, 62, 63, 64, 65, 66, 67, 68, 69, 70, 71, 75, 76] rfl (by decide +kernel)
set_option maxRecDepth 20000 in
theorem gX12_safe_X7_withoutShirtIfLost : GoodIn wsX12_safe (wsV RX12 287 RX7 yX7_withoutShirtIfLost wsX7_withoutShirtIfLost) := goodIn_app (goodIn_of _ (by decide +kernel)) ggX12_safe_X7_withoutShirtIfLost
theorem dX12_safe_0 : decode cX12_safe 0 = .ok (.iconst 0, 1) := by decide +kernel
theorem dX12_safe_1 : decode cX12_safe 1 = .ok (.istore_n 1, 1) := by decide +kernel
theorem dX12_safe_2 : decode cX12_safe 2 = .ok (.iconst 0, 1) := by decide +kernel
theorem dX12_safe_3 : decode cX12_safe 3 = .ok (.istore_n 2, 1) := by decide +kernel
theorem dX12_safe_4 : decode cX12_safe 4 = .ok (.iload_n 2, 1) := by decide +kernel
theorem dX12_safe_5 : decode cX12_safe 5 = .ok (.aload_n 0, 1) := by decide +kernel
theorem dX12_safe_6 : decode cX12_safe 6 = .ok (.getfield 19, 3) := by decide +kernel
theorem dX12_safe_9 : decode cX12_safe 9 = .ok (.getfield 125, 3) := by decide +kernel
theorem dX12_safe_12 : decode cX12_safe 12 = .ok (.if_icmp .ge 26, 3) := by decide +kernel
theorem dX12_safe_15 : decode cX12_safe 15 = .ok (.aload_n 0, 1) := by decide +kernel
theorem dX12_safe_16 : decode cX12_safe 16 = .ok (.getfield 40, 3) := by decide +kernel
theorem dX12_safe_19 : decode cX12_safe 19 = .ok (.iload_n 2, 1) := by decide +kernel
theorem dX12_safe_20 : decode cX12_safe 20 = .ok (.invokevirtual 287, 3) := by decide +kernel
theorem dX12_safe_23 : decode cX12_safe 23 = .ok (.ifCond .ne 9, 3) := by decide +kernel
theorem dX12_safe_26 : decode cX12_safe 26 = .ok (.iload_n 1, 1) := by decide +kernel
theorem dX12_safe_27 : decode cX12_safe 27 = .ok (.iconst 1, 1) := by decide +kernel
theorem dX12_safe_28 : decode cX12_safe 28 = .ok (.iload_n 2, 1) := by decide +kernel
theorem dX12_safe_29 : decode cX12_safe 29 = .ok (.ishl, 1) := by decide +kernel
theorem dX12_safe_30 : decode cX12_safe 30 = .ok (.ior, 1) := by decide +kernel
theorem dX12_safe_31 : decode cX12_safe 31 = .ok (.istore_n 1, 1) := by decide +kernel
theorem dX12_safe_32 : decode cX12_safe 32 = .ok (.iinc 2 1, 3) := by decide +kernel
theorem dX12_safe_35 : decode cX12_safe 35 = .ok (.goto (-31), 3) := by decide +kernel
theorem dX12_safe_38 : decode cX12_safe 38 = .ok (.iload_n 1, 1) := by decide +kernel
theorem dX12_safe_39 : decode cX12_safe 39 = .ok (.ireturn, 1) := by decide +kernel
set_option maxRecDepth 20000 in
theorem ggX12_wear_X12_needPerson : GoodIn wsX12_wear wsX12_needPerson := goodIn_ca (goodIn_r _ [10, 11, 12, 5, 13, 64, 65, 66, 67, 68, 69, 70, 71, 72, 73, 74, 75, 76, 77, 78, 79, 80, 81, 82, 83, 84, 85, 86, 87, 88, 89] rfl (by decide +kernel)) (goodIn_sub (fun _ h => List.mem_cons_of_mem _ (List.mem_append_right _ h)) (by decide +kernel))
set_option maxRecDepth 20000 in
theorem gX12_wear_X12_needPerson : GoodIn wsX12_wear (wsV RX12 162 RX12 yX12_needPerson wsX12_needPerson) := goodIn_app (goodIn_of _ (by decide +kernel)) ggX12_wear_X12_needPerson
set_option maxRecDepth 20000 in
theorem ggX12_wear_X3_coatsToWear : GoodIn wsX12_wear wsX3_coatsToWear := goodIn_r _ [18, 19, 20, 21, 22, 17, 23, 24, 25, 26, 27, 28, 29, 30, 31, 32, 33, 34, 35, 36, 37, 38, 39, 40, 41, 42, 43, 44, 45, 46, 47, 48, 49, 50, 51, 52, 53, 54, 55, 56, 57, 58, 59, 60, 61, 62, 90, 91, 92, 78, 79, 80, 81, 82, 83, 84, 85, 86, 87, 88, 89, 93, 94] rfl (by decide +kernel)
set_option maxRecDepth 20000 in
theorem gX12_wear_X3_coatsToWear : GoodIn wsX12_wear (wsV RX12 290 RX3 yX3_coatsToWear wsX3_coatsToWear) := goodIn_app (goodIn_of _ (by decide +kernel)) ggX12_wear_X3_coatsToWear
set_option maxRecDepth 20000 in
theorem ggX12_wear_X0_sumOf : GoodIn wsX12_wear wsX0_sumOf := goodIn_r _ [61, 50, 51, 52, 27, 28, 29, 30, 31, 32, 78, 79, 80, 81, 82, 83, 84, 85, 86, 87, 88, 89, 93, 94] rfl (by decide +kernel)
set_option maxRecDepth 20000 in
theorem gX12_wear_X0_sumOf : GoodIn wsX12_wear (wsV RX12 293 RX0 yX0_sumOf wsX0_sumOf) := goodIn_app (goodIn_of _ (by decide +kernel)) ggX12_wear_X0_sumOf
theorem dX12_wear_0 : decode cX12_wear 0 = .ok (.aload_n 0, 1) := by decide +kernel
theorem dX12_wear_1 : decode cX12_wear 1 = .ok (.iload_n 1, 1) := by decide +kernel
theorem dX12_wear_2 : decode cX12_wear 2 = .ok (.invokevirtual 162, 3) := by decide +kernel
theorem dX12_wear_5 : decode cX12_wear 5 = .ok (.iload_n 2, 1) := by decide +kernel
theorem dX12_wear_6 : decode cX12_wear 6 = .ok (.ifCond .lt 10, 3) := by decide +kernel
theorem dX12_wear_9 : decode cX12_wear 9 = .ok (.iload_n 2, 1) := by decide +kernel
theorem dX12_wear_10 : decode cX12_wear 10 = .ok (.sipush 200, 3) := by decide +kernel
theorem dX12_wear_13 : decode cX12_wear 13 = .ok (.if_icmp .le 11, 3) := by decide +kernel
theorem dX12_wear_16 : decode cX12_wear 16 = .ok (.new 96, 3) := by decide +kernel
theorem dX12_wear_19 : decode cX12_wear 19 = .ok (.dup, 1) := by decide +kernel
theorem dX12_wear_20 : decode cX12_wear 20 = .ok (.invokespecial 98, 3) := by decide +kernel
theorem dX12_wear_23 : decode cX12_wear 23 = .ok (.athrow, 1) := by decide +kernel
theorem dX12_wear_24 : decode cX12_wear 24 = .ok (.aload_n 0, 1) := by decide +kernel
theorem dX12_wear_25 : decode cX12_wear 25 = .ok (.getfield 71, 3) := by decide +kernel
theorem dX12_wear_28 : decode cX12_wear 28 = .ok (.aload_n 0, 1) := by decide +kernel
theorem dX12_wear_29 : decode cX12_wear 29 = .ok (.getfield 40, 3) := by decide +kernel
theorem dX12_wear_32 : decode cX12_wear 32 = .ok (.iload_n 1, 1) := by decide +kernel
theorem dX12_wear_33 : decode cX12_wear 33 = .ok (.iload_n 2, 1) := by decide +kernel
theorem dX12_wear_34 : decode cX12_wear 34 = .ok (.invokevirtual 290, 3) := by decide +kernel
theorem dX12_wear_37 : decode cX12_wear 37 = .ok (.istore 4, 2) := by decide +kernel
theorem dX12_wear_39 : decode cX12_wear 39 = .ok (.iload 4, 2) := by decide +kernel
theorem dX12_wear_41 : decode cX12_wear 41 = .ok (.iconst (-1), 1) := by decide +kernel
theorem dX12_wear_42 : decode cX12_wear 42 = .ok (.if_icmp .eq 7, 3) := by decide +kernel
theorem dX12_wear_45 : decode cX12_wear 45 = .ok (.iload_n 3, 1) := by decide +kernel
theorem dX12_wear_46 : decode cX12_wear 46 = .ok (.ifCond .eq 8, 3) := by decide +kernel
theorem dX12_wear_49 : decode cX12_wear 49 = .ok (.iload 4, 2) := by decide +kernel
theorem dX12_wear_51 : decode cX12_wear 51 = .ok (.goto 14, 3) := by decide +kernel
theorem dX12_wear_54 : decode cX12_wear 54 = .ok (.aload_n 0, 1) := by decide +kernel
theorem dX12_wear_55 : decode cX12_wear 55 = .ok (.getfield 19, 3) := by decide +kernel
theorem dX12_wear_58 : decode cX12_wear 58 = .ok (.iload 4, 2) := by decide +kernel
theorem dX12_wear_60 : decode cX12_wear 60 = .ok (.bipush 6, 2) := by decide +kernel
theorem dX12_wear_62 : decode cX12_wear 62 = .ok (.invokevirtual 293, 3) := by decide +kernel
theorem dX12_wear_65 : decode cX12_wear 65 = .ok (.ireturn, 1) := by decide +kernel
set_option maxRecDepth 20000 in
theorem ggX12_share_X3_leastShare : GoodIn wsX12_share wsX3_leastShare := goodIn_r _ [7, 8, 9, 10, 11, 12, 13, 14, 15, 16, 17, 18, 19, 20, 21, 22, 23, 24, 25, 26, 27, 28, 29, 30, 31, 32, 33, 34, 35, 36, 37, 38, 39, 40, 41, 42, 43, 44, 45, 46, 47, 48, 49, 50, 51, 52, 53, 54, 6, 55, 56, 57, 58, 59, 60, 61, 62, 63, 64, 65, 66, 67, 68, 69, 70, 71, 86, 87, 88, 89, 90, 91, 92, 93, 94, 95, 96, 97, 98, 99, 100, 101, 102, 103, 104, 105, 106, 107, 108, 109, 110, 111] rfl (by decide +kernel)
set_option maxRecDepth 20000 in
theorem gX12_share_X3_leastShare : GoodIn wsX12_share (wsV RX12 296 RX3 yX3_leastShare wsX3_leastShare) := goodIn_app (goodIn_of _ (by decide +kernel)) ggX12_share_X3_leastShare
theorem dX12_share_0 : decode cX12_share 0 = .ok (.aload_n 0, 1) := by decide +kernel
theorem dX12_share_1 : decode cX12_share 1 = .ok (.getfield 71, 3) := by decide +kernel
theorem dX12_share_4 : decode cX12_share 4 = .ok (.aload_n 0, 1) := by decide +kernel
theorem dX12_share_5 : decode cX12_share 5 = .ok (.getfield 40, 3) := by decide +kernel
theorem dX12_share_8 : decode cX12_share 8 = .ok (.invokevirtual 296, 3) := by decide +kernel
theorem dX12_share_11 : decode cX12_share 11 = .ok (.ireturn, 1) := by decide +kernel
set_option maxRecDepth 20000 in
theorem ggX12_carrier_X12_needCase : GoodIn wsX12_carrier wsX12_needCase := goodIn_ca (goodIn_r _ [10, 1, 2, 11, 12, 19, 20, 21, 22, 23, 24, 25, 26, 27, 28, 29, 30, 31, 32, 42, 43, 44, 45, 46, 47, 48, 49, 50, 51, 52, 53] rfl (by decide +kernel)) (goodIn_sub (fun _ h => List.mem_cons_of_mem _ (List.mem_append_right _ h)) (by decide +kernel))
set_option maxRecDepth 20000 in
theorem gX12_carrier_X12_needCase : GoodIn wsX12_carrier (wsV RX12 185 RX12 yX12_needCase wsX12_needCase) := goodIn_app (goodIn_of _ (by decide +kernel)) ggX12_carrier_X12_needCase
set_option maxRecDepth 20000 in
theorem ggX12_carrier_X8_at : GoodIn wsX12_carrier wsX8_at := goodIn_r _ [17, 18, 54, 55] rfl (by decide +kernel)
set_option maxRecDepth 20000 in
theorem gX12_carrier_X8_at : GoodIn wsX12_carrier (wsV RX12 153 RX8 yX8_at wsX8_at) := goodIn_app (goodIn_of _ (by decide +kernel)) ggX12_carrier_X8_at
theorem dX12_carrier_0 : decode cX12_carrier 0 = .ok (.aload_n 0, 1) := by decide +kernel
theorem dX12_carrier_1 : decode cX12_carrier 1 = .ok (.iload_n 1, 1) := by decide +kernel
theorem dX12_carrier_2 : decode cX12_carrier 2 = .ok (.invokevirtual 185, 3) := by decide +kernel
theorem dX12_carrier_5 : decode cX12_carrier 5 = .ok (.aload_n 0, 1) := by decide +kernel
theorem dX12_carrier_6 : decode cX12_carrier 6 = .ok (.getfield 71, 3) := by decide +kernel
theorem dX12_carrier_9 : decode cX12_carrier 9 = .ok (.getfield 299, 3) := by decide +kernel
theorem dX12_carrier_12 : decode cX12_carrier 12 = .ok (.ifCond .ne 11, 3) := by decide +kernel
theorem dX12_carrier_15 : decode cX12_carrier 15 = .ok (.new 159, 3) := by decide +kernel
theorem dX12_carrier_18 : decode cX12_carrier 18 = .ok (.dup, 1) := by decide +kernel
theorem dX12_carrier_19 : decode cX12_carrier 19 = .ok (.invokespecial 161, 3) := by decide +kernel
theorem dX12_carrier_22 : decode cX12_carrier 22 = .ok (.athrow, 1) := by decide +kernel
theorem dX12_carrier_23 : decode cX12_carrier 23 = .ok (.aload_n 0, 1) := by decide +kernel
theorem dX12_carrier_24 : decode cX12_carrier 24 = .ok (.getfield 71, 3) := by decide +kernel
theorem dX12_carrier_27 : decode cX12_carrier 27 = .ok (.getfield 302, 3) := by decide +kernel
theorem dX12_carrier_30 : decode cX12_carrier 30 = .ok (.iload_n 1, 1) := by decide +kernel
theorem dX12_carrier_31 : decode cX12_carrier 31 = .ok (.invokevirtual 153, 3) := by decide +kernel
theorem dX12_carrier_34 : decode cX12_carrier 34 = .ok (.ireturn, 1) := by decide +kernel
set_option maxRecDepth 20000 in
theorem ggX12_look_X12_needCase : GoodIn wsX12_look wsX12_needCase := goodIn_ca (goodIn_r _ [9, 10, 11, 2, 12, 99, 100, 101, 102, 103, 104, 105, 106, 107, 108, 109, 110, 111, 112, 113, 114, 115, 116, 117, 118, 119, 120, 121, 122, 123, 124] rfl (by decide +kernel)) (goodIn_sub (fun _ h => List.mem_cons_of_mem _ (List.mem_append_right _ h)) (by decide +kernel))
set_option maxRecDepth 20000 in
theorem gX12_look_X12_needCase : GoodIn wsX12_look (wsV RX12 185 RX12 yX12_needCase wsX12_needCase) := goodIn_app (goodIn_of _ (by decide +kernel)) ggX12_look_X12_needCase
set_option maxRecDepth 20000 in
theorem ggX12_look_X12_needWhat : GoodIn wsX12_look wsX12_needWhat := goodIn_ca (goodIn_r _ [15, 10, 11] rfl (by decide +kernel)) (goodIn_sub (fun _ h => List.mem_cons_of_mem _ (List.mem_append_right _ h)) (by decide +kernel))
set_option maxRecDepth 20000 in
theorem gX12_look_X12_needWhat : GoodIn wsX12_look (va_wsS RX12 165 yX12_needWhat wsX12_needWhat) := goodIn_app (goodIn_of _ (by decide +kernel)) ggX12_look_X12_needWhat
set_option maxRecDepth 20000 in
theorem ggX12_look_X7_feeOf : GoodIn wsX12_look wsX7_feeOf := goodIn_r _ [20, 21, 22, 23, 19, 24, 25, 26, 27, 28, 29, 30, 31, 32, 33, 34, 35, 36, 37, 38, 39, 40, 41, 42, 43, 44, 45, 46, 47, 48, 49, 50, 51, 52, 53, 54, 55, 56, 57, 58, 59, 60, 61, 62, 63, 64, 65, 66, 67, 68, 69, 70, 71, 72, 73, 74, 75, 76, 77, 78, 79, 80, 81, 82, 83, 84, 85, 86, 87, 88, 89, 125, 126, 127, 113, 114, 115, 116, 117, 118, 119, 120, 121, 122, 123, 124, 128, 129, 130, 131, 132, 133, 134, 135] rfl (by decide +kernel)
set_option maxRecDepth 20000 in
theorem gX12_look_X7_feeOf : GoodIn wsX12_look (wsV RX12 197 RX7 yX7_feeOf wsX7_feeOf) := goodIn_app (goodIn_of _ (by decide +kernel)) ggX12_look_X7_feeOf
set_option maxRecDepth 20000 in
theorem ggX12_look_X7_overIn : GoodIn wsX12_look wsX7_overIn := goodIn_r _ [93, 25, 39, 94, 76, 73, 77, 95, 96, 97, 19, 98, 21, 22, 23, 24, 26, 27, 28, 29, 30, 31, 32, 33, 40, 41, 42, 43, 44, 45, 46, 47, 48, 49, 50, 51, 52, 125, 126, 127, 113, 114, 115, 116, 117, 118, 119, 120, 121, 122, 123, 124, 128, 129] rfl (by decide +kernel)
set_option maxRecDepth 20000 in
theorem gX12_look_X7_overIn : GoodIn wsX12_look (wsV RX12 194 RX7 yX7_overIn wsX7_overIn) := goodIn_app (goodIn_of _ (by decide +kernel)) ggX12_look_X7_overIn
theorem dX12_look_0 : decode cX12_look 0 = .ok (.aload_n 0, 1) := by decide +kernel
theorem dX12_look_1 : decode cX12_look 1 = .ok (.iload_n 1, 1) := by decide +kernel
theorem dX12_look_2 : decode cX12_look 2 = .ok (.invokevirtual 185, 3) := by decide +kernel
theorem dX12_look_5 : decode cX12_look 5 = .ok (.iload_n 2, 1) := by decide +kernel
theorem dX12_look_6 : decode cX12_look 6 = .ok (.iconst 2, 1) := by decide +kernel
theorem dX12_look_7 : decode cX12_look 7 = .ok (.invokestatic 165, 3) := by decide +kernel
theorem dX12_look_10 : decode cX12_look 10 = .ok (.aload_n 0, 1) := by decide +kernel
theorem dX12_look_11 : decode cX12_look 11 = .ok (.getfield 40, 3) := by decide +kernel
theorem dX12_look_14 : decode cX12_look 14 = .ok (.iload_n 1, 1) := by decide +kernel
theorem dX12_look_15 : decode cX12_look 15 = .ok (.invokevirtual 197, 3) := by decide +kernel
theorem dX12_look_18 : decode cX12_look 18 = .ok (.istore_n 3, 1) := by decide +kernel
theorem dX12_look_19 : decode cX12_look 19 = .ok (.aload_n 0, 1) := by decide +kernel
theorem dX12_look_20 : decode cX12_look 20 = .ok (.getfield 40, 3) := by decide +kernel
theorem dX12_look_23 : decode cX12_look 23 = .ok (.iload_n 1, 1) := by decide +kernel
theorem dX12_look_24 : decode cX12_look 24 = .ok (.invokevirtual 194, 3) := by decide +kernel
theorem dX12_look_27 : decode cX12_look 27 = .ok (.ifCond .le 23, 3) := by decide +kernel
theorem dX12_look_30 : decode cX12_look 30 = .ok (.aload_n 0, 1) := by decide +kernel
theorem dX12_look_31 : decode cX12_look 31 = .ok (.getfield 19, 3) := by decide +kernel
theorem dX12_look_34 : decode cX12_look 34 = .ok (.getfield 134, 3) := by decide +kernel
theorem dX12_look_37 : decode cX12_look 37 = .ok (.iload_n 3, 1) := by decide +kernel
theorem dX12_look_38 : decode cX12_look 38 = .ok (.aload_n 0, 1) := by decide +kernel
theorem dX12_look_39 : decode cX12_look 39 = .ok (.getfield 19, 3) := by decide +kernel
theorem dX12_look_42 : decode cX12_look 42 = .ok (.getfield 137, 3) := by decide +kernel
theorem dX12_look_45 : decode cX12_look 45 = .ok (.iadd, 1) := by decide +kernel
theorem dX12_look_46 : decode cX12_look 46 = .ok (.imul, 1) := by decide +kernel
theorem dX12_look_47 : decode cX12_look 47 = .ok (.goto 4, 3) := by decide +kernel
theorem dX12_look_50 : decode cX12_look 50 = .ok (.iconst 0, 1) := by decide +kernel
theorem dX12_look_51 : decode cX12_look 51 = .ok (.istore 4, 2) := by decide +kernel
theorem dX12_look_53 : decode cX12_look 53 = .ok (.iload_n 2, 1) := by decide +kernel
theorem dX12_look_54 : decode cX12_look 54 = .ok (.ifCond .ne 6, 3) := by decide +kernel
theorem dX12_look_57 : decode cX12_look 57 = .ok (.iload 4, 2) := by decide +kernel
theorem dX12_look_59 : decode cX12_look 59 = .ok (.ireturn, 1) := by decide +kernel
theorem dX12_look_60 : decode cX12_look 60 = .ok (.iload 4, 2) := by decide +kernel
theorem dX12_look_62 : decode cX12_look 62 = .ok (.bipush 10, 2) := by decide +kernel
theorem dX12_look_64 : decode cX12_look 64 = .ok (.iload_n 3, 1) := by decide +kernel
theorem dX12_look_65 : decode cX12_look 65 = .ok (.imul, 1) := by decide +kernel
theorem dX12_look_66 : decode cX12_look 66 = .ok (.if_icmp .ge 7, 3) := by decide +kernel
theorem dX12_look_69 : decode cX12_look 69 = .ok (.iconst 1, 1) := by decide +kernel
theorem dX12_look_70 : decode cX12_look 70 = .ok (.goto 4, 3) := by decide +kernel
theorem dX12_look_73 : decode cX12_look 73 = .ok (.iconst 0, 1) := by decide +kernel
theorem dX12_look_74 : decode cX12_look 74 = .ok (.ireturn, 1) := by decide +kernel
set_option maxRecDepth 20000 in
theorem ggX12_see_X12_needCase : GoodIn wsX12_see wsX12_needCase := goodIn_ca (goodIn_r _ [7, 8, 9, 10, 11, 39, 40, 41, 42, 43, 44, 45, 46, 47, 48, 49, 50, 51, 52, 58, 59, 60, 61, 62, 63, 64, 65, 66, 67, 68, 69] rfl (by decide +kernel)) (goodIn_sub (fun _ h => List.mem_cons_of_mem _ (List.mem_append_right _ h)) (by decide +kernel))
set_option maxRecDepth 20000 in
theorem gX12_see_X12_needCase : GoodIn wsX12_see (wsV RX12 185 RX12 yX12_needCase wsX12_needCase) := goodIn_app (goodIn_of _ (by decide +kernel)) ggX12_see_X12_needCase
set_option maxRecDepth 20000 in
theorem ggX12_see_X1_refuse : GoodIn wsX12_see wsX1_refuse := goodIn_r _ [16, 17, 18, 19, 20, 21, 22, 23, 24, 25, 26, 27, 53, 54, 55, 56, 57, 70, 71] rfl (by decide +kernel)
set_option maxRecDepth 20000 in
theorem gX12_see_X1_refuse : GoodIn wsX12_see (wsV RX12 106 RX1 yX1_refuse wsX1_refuse) := goodIn_app (goodIn_of _ (by decide +kernel)) ggX12_see_X1_refuse
set_option maxRecDepth 20000 in
theorem ggX12_see_X1_keepSeen : GoodIn wsX12_see wsX1_keepSeen := goodIn_r _ [31, 32, 33, 34, 35, 36, 21, 37, 38, 23, 53, 54, 55, 56, 57, 70, 71] rfl (by decide +kernel)
set_option maxRecDepth 20000 in
theorem gX12_see_X1_keepSeen : GoodIn wsX12_see (wsV RX12 305 RX1 yX1_keepSeen wsX1_keepSeen) := goodIn_app (goodIn_of _ (by decide +kernel)) ggX12_see_X1_keepSeen
theorem dX12_see_0 : decode cX12_see 0 = .ok (.aload_n 0, 1) := by decide +kernel
theorem dX12_see_1 : decode cX12_see 1 = .ok (.iload_n 1, 1) := by decide +kernel
theorem dX12_see_2 : decode cX12_see 2 = .ok (.invokevirtual 185, 3) := by decide +kernel
theorem dX12_see_5 : decode cX12_see 5 = .ok (.aload_n 0, 1) := by decide +kernel
theorem dX12_see_6 : decode cX12_see 6 = .ok (.getfield 47, 3) := by decide +kernel
theorem dX12_see_9 : decode cX12_see 9 = .ok (.getfield 146, 3) := by decide +kernel
theorem dX12_see_12 : decode cX12_see 12 = .ok (.bipush 6, 2) := by decide +kernel
theorem dX12_see_14 : decode cX12_see 14 = .ok (.if_icmp .ge 14, 3) := by decide +kernel
theorem dX12_see_17 : decode cX12_see 17 = .ok (.iload_n 2, 1) := by decide +kernel
theorem dX12_see_18 : decode cX12_see 18 = .ok (.ifCond .lt 10, 3) := by decide +kernel
theorem dX12_see_21 : decode cX12_see 21 = .ok (.iload_n 2, 1) := by decide +kernel
theorem dX12_see_22 : decode cX12_see 22 = .ok (.sipush 999, 3) := by decide +kernel
theorem dX12_see_25 : decode cX12_see 25 = .ok (.if_icmp .le 13, 3) := by decide +kernel
theorem dX12_see_28 : decode cX12_see 28 = .ok (.aload_n 0, 1) := by decide +kernel
theorem dX12_see_29 : decode cX12_see 29 = .ok (.getfield 47, 3) := by decide +kernel
theorem dX12_see_32 : decode cX12_see 32 = .ok (.iconst 2, 1) := by decide +kernel
theorem dX12_see_33 : decode cX12_see 33 = .ok (.invokevirtual 106, 3) := by decide +kernel
theorem dX12_see_36 : decode cX12_see 36 = .ok (.iconst (-1), 1) := by decide +kernel
theorem dX12_see_37 : decode cX12_see 37 = .ok (.ireturn, 1) := by decide +kernel
theorem dX12_see_38 : decode cX12_see 38 = .ok (.aload_n 0, 1) := by decide +kernel
theorem dX12_see_39 : decode cX12_see 39 = .ok (.getfield 47, 3) := by decide +kernel
theorem dX12_see_42 : decode cX12_see 42 = .ok (.iload_n 1, 1) := by decide +kernel
theorem dX12_see_43 : decode cX12_see 43 = .ok (.iload_n 2, 1) := by decide +kernel
theorem dX12_see_44 : decode cX12_see 44 = .ok (.invokevirtual 305, 3) := by decide +kernel
theorem dX12_see_47 : decode cX12_see 47 = .ok (.aload_n 0, 1) := by decide +kernel
theorem dX12_see_48 : decode cX12_see 48 = .ok (.getfield 47, 3) := by decide +kernel
theorem dX12_see_51 : decode cX12_see 51 = .ok (.getfield 146, 3) := by decide +kernel
theorem dX12_see_54 : decode cX12_see 54 = .ok (.ireturn, 1) := by decide +kernel
theorem dX12_forget_0 : decode cX12_forget 0 = .ok (.aload_n 0, 1) := by decide +kernel
theorem dX12_forget_1 : decode cX12_forget 1 = .ok (.getfield 47, 3) := by decide +kernel
theorem dX12_forget_4 : decode cX12_forget 4 = .ok (.getfield 146, 3) := by decide +kernel
theorem dX12_forget_7 : decode cX12_forget 7 = .ok (.ifCond .ne 5, 3) := by decide +kernel
theorem dX12_forget_10 : decode cX12_forget 10 = .ok (.iconst (-1), 1) := by decide +kernel
theorem dX12_forget_11 : decode cX12_forget 11 = .ok (.ireturn, 1) := by decide +kernel
theorem dX12_forget_12 : decode cX12_forget 12 = .ok (.aload_n 0, 1) := by decide +kernel
theorem dX12_forget_13 : decode cX12_forget 13 = .ok (.getfield 47, 3) := by decide +kernel
theorem dX12_forget_16 : decode cX12_forget 16 = .ok (.dup, 1) := by decide +kernel
theorem dX12_forget_17 : decode cX12_forget 17 = .ok (.getfield 146, 3) := by decide +kernel
theorem dX12_forget_20 : decode cX12_forget 20 = .ok (.iconst 1, 1) := by decide +kernel
theorem dX12_forget_21 : decode cX12_forget 21 = .ok (.isub, 1) := by decide +kernel
theorem dX12_forget_22 : decode cX12_forget 22 = .ok (.putfield 146, 3) := by decide +kernel
theorem dX12_forget_25 : decode cX12_forget 25 = .ok (.aload_n 0, 1) := by decide +kernel
theorem dX12_forget_26 : decode cX12_forget 26 = .ok (.getfield 47, 3) := by decide +kernel
theorem dX12_forget_29 : decode cX12_forget 29 = .ok (.getfield 146, 3) := by decide +kernel
theorem dX12_forget_32 : decode cX12_forget 32 = .ok (.ireturn, 1) := by decide +kernel
set_option maxRecDepth 20000 in
theorem ggX12_fits_X12_needWhat : GoodIn wsX12_fits wsX12_needWhat := goodIn_ca (goodIn_r _ [9, 10, 11] rfl (by decide +kernel)) (goodIn_sub (fun _ h => List.mem_cons_of_mem _ (List.mem_append_right _ h)) (by decide +kernel))
set_option maxRecDepth 20000 in
theorem gX12_fits_X12_needWhat : GoodIn wsX12_fits (va_wsS RX12 165 yX12_needWhat wsX12_needWhat) := goodIn_app (goodIn_of _ (by decide +kernel)) ggX12_fits_X12_needWhat
set_option maxRecDepth 20000 in
theorem ggX12_fits_X1_agreesWith : GoodIn wsX12_fits wsX1_agreesWith := goodIn_r _ [16, 17, 18, 19, 20, 21, 22, 23, 24, 25, 26, 27, 28, 29, 30, 31, 32, 33, 34, 35, 36, 37, 38, 39, 40, 41, 42, 43, 44, 45, 46, 47, 48, 49, 142, 143, 144, 145, 146, 147, 148, 149, 150, 151, 152, 153, 154, 155, 156, 157, 158, 159, 160, 161, 162, 163] rfl (by decide +kernel)
set_option maxRecDepth 20000 in
theorem gX12_fits_X1_agreesWith : GoodIn wsX12_fits (wsV RX12 308 RX1 yX1_agreesWith wsX1_agreesWith) := goodIn_app (goodIn_of _ (by decide +kernel)) ggX12_fits_X1_agreesWith
set_option maxRecDepth 20000 in
theorem ggX12_fits_X10_findFits : GoodIn wsX12_fits wsX10_findFits := goodIn_r _ [54, 55, 56, 57, 58, 59, 60, 61, 62, 29, 63, 37, 38, 39, 40, 22, 41, 25, 64, 65, 66, 53, 67, 68, 69, 70, 71, 31, 72, 73, 74, 75, 45, 76, 48, 77, 78, 49, 20, 21, 23, 24, 79, 80, 81, 82, 83, 84, 85, 32, 33, 34, 35, 36, 42, 43, 44, 46, 47, 86, 87, 88, 89, 90, 91, 92, 93, 94, 95, 96, 97, 98, 99, 100, 101, 102, 103, 104, 105, 106, 107, 108, 109, 110, 111, 112, 113, 114, 115, 116, 117, 118, 13, 14, 15, 16, 17, 18, 19, 26, 27, 28, 30, 133, 134, 135, 136, 137, 138, 139, 140, 141, 149, 150, 151, 152, 153, 154, 155, 156, 157, 158, 159, 160, 161, 162, 163, 147, 148, 142, 143, 144, 145, 146] rfl (by decide +kernel)
set_option maxRecDepth 20000 in
theorem gX12_fits_X10_findFits : GoodIn wsX12_fits (wsV RX12 312 RX10 yX10_findFits wsX10_findFits) := goodIn_app (goodIn_of _ (by decide +kernel)) ggX12_fits_X10_findFits
theorem dX12_fits_0 : decode cX12_fits 0 = .ok (.iload_n 1, 1) := by decide +kernel
theorem dX12_fits_1 : decode cX12_fits 1 = .ok (.iconst 3, 1) := by decide +kernel
theorem dX12_fits_2 : decode cX12_fits 2 = .ok (.invokestatic 165, 3) := by decide +kernel
theorem dX12_fits_5 : decode cX12_fits 5 = .ok (.iload_n 1, 1) := by decide +kernel
theorem dX12_fits_6 : decode cX12_fits 6 = .ok (.iconst 2, 1) := by decide +kernel
theorem dX12_fits_7 : decode cX12_fits 7 = .ok (.if_icmp .ne 23, 3) := by decide +kernel
theorem dX12_fits_10 : decode cX12_fits 10 = .ok (.aload_n 0, 1) := by decide +kernel
theorem dX12_fits_11 : decode cX12_fits 11 = .ok (.getfield 47, 3) := by decide +kernel
theorem dX12_fits_14 : decode cX12_fits 14 = .ok (.aload_n 0, 1) := by decide +kernel
theorem dX12_fits_15 : decode cX12_fits 15 = .ok (.getfield 40, 3) := by decide +kernel
theorem dX12_fits_18 : decode cX12_fits 18 = .ok (.invokevirtual 308, 3) := by decide +kernel
theorem dX12_fits_21 : decode cX12_fits 21 = .ok (.ifCond .eq 7, 3) := by decide +kernel
theorem dX12_fits_24 : decode cX12_fits 24 = .ok (.iconst 1, 1) := by decide +kernel
theorem dX12_fits_25 : decode cX12_fits 25 = .ok (.goto 4, 3) := by decide +kernel
theorem dX12_fits_28 : decode cX12_fits 28 = .ok (.iconst 0, 1) := by decide +kernel
theorem dX12_fits_29 : decode cX12_fits 29 = .ok (.ireturn, 1) := by decide +kernel
theorem dX12_fits_30 : decode cX12_fits 30 = .ok (.aload_n 0, 1) := by decide +kernel
theorem dX12_fits_31 : decode cX12_fits 31 = .ok (.getfield 85, 3) := by decide +kernel
theorem dX12_fits_34 : decode cX12_fits 34 = .ok (.aload_n 0, 1) := by decide +kernel
theorem dX12_fits_35 : decode cX12_fits 35 = .ok (.getfield 40, 3) := by decide +kernel
theorem dX12_fits_38 : decode cX12_fits 38 = .ok (.aload_n 0, 1) := by decide +kernel
theorem dX12_fits_39 : decode cX12_fits 39 = .ok (.getfield 47, 3) := by decide +kernel
theorem dX12_fits_42 : decode cX12_fits 42 = .ok (.invokevirtual 312, 3) := by decide +kernel
theorem dX12_fits_45 : decode cX12_fits 45 = .ok (.iload_n 1, 1) := by decide +kernel
theorem dX12_fits_46 : decode cX12_fits 46 = .ok (.ifCond .ne 13, 3) := by decide +kernel
theorem dX12_fits_49 : decode cX12_fits 49 = .ok (.aload_n 0, 1) := by decide +kernel
theorem dX12_fits_50 : decode cX12_fits 50 = .ok (.getfield 85, 3) := by decide +kernel
theorem dX12_fits_53 : decode cX12_fits 53 = .ok (.getfield 316, 3) := by decide +kernel
theorem dX12_fits_56 : decode cX12_fits 56 = .ok (.goto 10, 3) := by decide +kernel
theorem dX12_fits_59 : decode cX12_fits 59 = .ok (.aload_n 0, 1) := by decide +kernel
theorem dX12_fits_60 : decode cX12_fits 60 = .ok (.getfield 85, 3) := by decide +kernel
theorem dX12_fits_63 : decode cX12_fits 63 = .ok (.getfield 319, 3) := by decide +kernel
theorem dX12_fits_66 : decode cX12_fits 66 = .ok (.ireturn, 1) := by decide +kernel
set_option maxRecDepth 20000 in
theorem ggX12_best_X12_needWhat : GoodIn wsX12_best wsX12_needWhat := goodIn_ca (goodIn_r _ [9, 10, 11] rfl (by decide +kernel)) (goodIn_sub (fun _ h => List.mem_cons_of_mem _ (List.mem_append_right _ h)) (by decide +kernel))
set_option maxRecDepth 20000 in
theorem gX12_best_X12_needWhat : GoodIn wsX12_best (va_wsS RX12 165 yX12_needWhat wsX12_needWhat) := goodIn_app (goodIn_of _ (by decide +kernel)) ggX12_best_X12_needWhat
set_option maxRecDepth 20000 in
theorem ggX12_best_X10_findBest : GoodIn wsX12_best wsX10_findBest := goodIn_r _ [16, 17, 18, 19, 20, 21, 22, 23, 24, 25, 26, 27, 28, 29, 30, 31, 32, 33, 34, 35, 36, 37, 38, 39, 40, 41, 42, 43, 44, 45, 46, 47, 48, 49, 50, 51, 52, 53, 54, 55, 56, 57, 58, 59, 60, 61, 62, 63, 64, 65, 66, 67, 68, 69, 70, 71, 72, 73, 74, 75, 76, 77, 78, 79, 80, 81, 82, 83, 84, 85, 86, 87, 88, 89, 90, 91, 92, 93, 94, 95, 96, 97, 98, 99, 100, 101, 102, 103, 104, 105, 106, 107, 15, 108, 109, 110, 111, 112, 113, 114, 115, 116, 117, 118, 119, 120, 121, 122, 123, 124, 125, 126, 127, 128, 129, 130, 131, 132, 133, 134, 135, 136, 137, 138, 139, 140, 141, 142, 143, 144, 159, 160, 161, 162, 163, 164, 165, 166, 167, 168, 169, 170, 171, 172, 173, 174, 175, 176, 177, 178, 179, 180, 181, 182, 183, 184, 185, 186, 187, 188, 189, 190] rfl (by decide +kernel)
set_option maxRecDepth 20000 in
theorem gX12_best_X10_findBest : GoodIn wsX12_best (wsV RX12 322 RX10 yX10_findBest wsX10_findBest) := goodIn_app (goodIn_of _ (by decide +kernel)) ggX12_best_X10_findBest
theorem dX12_best_0 : decode cX12_best 0 = .ok (.iload_n 1, 1) := by decide +kernel
theorem dX12_best_1 : decode cX12_best 1 = .ok (.iconst 3, 1) := by decide +kernel
theorem dX12_best_2 : decode cX12_best 2 = .ok (.invokestatic 165, 3) := by decide +kernel
theorem dX12_best_5 : decode cX12_best 5 = .ok (.aload_n 0, 1) := by decide +kernel
theorem dX12_best_6 : decode cX12_best 6 = .ok (.getfield 85, 3) := by decide +kernel
theorem dX12_best_9 : decode cX12_best 9 = .ok (.aload_n 0, 1) := by decide +kernel
theorem dX12_best_10 : decode cX12_best 10 = .ok (.getfield 40, 3) := by decide +kernel
theorem dX12_best_13 : decode cX12_best 13 = .ok (.invokevirtual 322, 3) := by decide +kernel
theorem dX12_best_16 : decode cX12_best 16 = .ok (.iload_n 1, 1) := by decide +kernel
theorem dX12_best_17 : decode cX12_best 17 = .ok (.ifCond .ne 11, 3) := by decide +kernel
theorem dX12_best_20 : decode cX12_best 20 = .ok (.aload_n 0, 1) := by decide +kernel
theorem dX12_best_21 : decode cX12_best 21 = .ok (.getfield 85, 3) := by decide +kernel
theorem dX12_best_24 : decode cX12_best 24 = .ok (.getfield 325, 3) := by decide +kernel
theorem dX12_best_27 : decode cX12_best 27 = .ok (.ireturn, 1) := by decide +kernel
theorem dX12_best_28 : decode cX12_best 28 = .ok (.iload_n 1, 1) := by decide +kernel
theorem dX12_best_29 : decode cX12_best 29 = .ok (.iconst 1, 1) := by decide +kernel
theorem dX12_best_30 : decode cX12_best 30 = .ok (.if_icmp .ne 13, 3) := by decide +kernel
theorem dX12_best_33 : decode cX12_best 33 = .ok (.aload_n 0, 1) := by decide +kernel
theorem dX12_best_34 : decode cX12_best 34 = .ok (.getfield 85, 3) := by decide +kernel
theorem dX12_best_37 : decode cX12_best 37 = .ok (.getfield 328, 3) := by decide +kernel
theorem dX12_best_40 : decode cX12_best 40 = .ok (.goto 10, 3) := by decide +kernel
theorem dX12_best_43 : decode cX12_best 43 = .ok (.aload_n 0, 1) := by decide +kernel
theorem dX12_best_44 : decode cX12_best 44 = .ok (.getfield 85, 3) := by decide +kernel
theorem dX12_best_47 : decode cX12_best 47 = .ok (.getfield 331, 3) := by decide +kernel
theorem dX12_best_50 : decode cX12_best 50 = .ok (.ireturn, 1) := by decide +kernel
set_option maxRecDepth 20000 in
theorem ggX12_counter_X12_needWhat : GoodIn wsX12_counter wsX12_needWhat := goodIn_ca (goodIn_r _ [10, 11, 12] rfl (by decide +kernel)) (goodIn_sub (fun _ h => List.mem_cons_of_mem _ (List.mem_append_right _ h)) (by decide +kernel))
set_option maxRecDepth 20000 in
theorem gX12_counter_X12_needWhat : GoodIn wsX12_counter (va_wsS RX12 165 yX12_needWhat wsX12_needWhat) := goodIn_app (goodIn_of _ (by decide +kernel)) ggX12_counter_X12_needWhat
set_option maxRecDepth 20000 in
theorem ggX12_counter_X10_runCounter : GoodIn wsX12_counter wsX10_runCounter := goodIn_r _ [17, 18, 19, 20, 21, 22, 23, 24, 25, 26, 27, 28, 29, 30, 31, 32, 33, 34, 35, 36, 37, 38, 39, 40, 41, 42, 43, 44, 16, 45, 46, 47, 48, 49, 50, 51, 52, 53, 54, 55, 56, 57, 58, 59, 60, 61, 62, 63, 64, 65, 66, 67, 68, 69, 70, 71, 72, 73, 74, 75, 76, 77, 78, 79, 80, 81, 82, 83, 84, 85, 86, 87, 88, 89, 90, 91, 92, 93, 94, 95, 96, 97, 98, 99, 100, 101, 102, 103, 104, 105, 106, 107, 108, 109, 110, 111, 112, 113, 114, 115, 116, 117, 118, 119, 120, 121, 122, 123, 124, 139, 140, 141, 142, 143, 144, 145, 146, 147, 148, 149, 150, 151, 152, 153, 154, 155, 156, 157, 158, 159, 160, 161, 162, 163, 164] rfl (by decide +kernel)
set_option maxRecDepth 20000 in
theorem gX12_counter_X10_runCounter : GoodIn wsX12_counter (wsV RX12 334 RX10 yX10_runCounter wsX10_runCounter) := goodIn_app (goodIn_of _ (by decide +kernel)) ggX12_counter_X10_runCounter
theorem dX12_counter_0 : decode cX12_counter 0 = .ok (.iload_n 3, 1) := by decide +kernel
theorem dX12_counter_1 : decode cX12_counter 1 = .ok (.iconst 2, 1) := by decide +kernel
theorem dX12_counter_2 : decode cX12_counter 2 = .ok (.invokestatic 165, 3) := by decide +kernel
theorem dX12_counter_5 : decode cX12_counter 5 = .ok (.iload_n 2, 1) := by decide +kernel
theorem dX12_counter_6 : decode cX12_counter 6 = .ok (.ifCond .lt 10, 3) := by decide +kernel
theorem dX12_counter_9 : decode cX12_counter 9 = .ok (.iload_n 2, 1) := by decide +kernel
theorem dX12_counter_10 : decode cX12_counter 10 = .ok (.sipush 200, 3) := by decide +kernel
theorem dX12_counter_13 : decode cX12_counter 13 = .ok (.if_icmp .le 11, 3) := by decide +kernel
theorem dX12_counter_16 : decode cX12_counter 16 = .ok (.new 96, 3) := by decide +kernel
theorem dX12_counter_19 : decode cX12_counter 19 = .ok (.dup, 1) := by decide +kernel
theorem dX12_counter_20 : decode cX12_counter 20 = .ok (.invokespecial 98, 3) := by decide +kernel
theorem dX12_counter_23 : decode cX12_counter 23 = .ok (.athrow, 1) := by decide +kernel
theorem dX12_counter_24 : decode cX12_counter 24 = .ok (.aload_n 0, 1) := by decide +kernel
theorem dX12_counter_25 : decode cX12_counter 25 = .ok (.getfield 85, 3) := by decide +kernel
theorem dX12_counter_28 : decode cX12_counter 28 = .ok (.aload_n 0, 1) := by decide +kernel
theorem dX12_counter_29 : decode cX12_counter 29 = .ok (.getfield 40, 3) := by decide +kernel
theorem dX12_counter_32 : decode cX12_counter 32 = .ok (.iload_n 1, 1) := by decide +kernel
theorem dX12_counter_33 : decode cX12_counter 33 = .ok (.iload_n 2, 1) := by decide +kernel
theorem dX12_counter_34 : decode cX12_counter 34 = .ok (.invokevirtual 334, 3) := by decide +kernel
theorem dX12_counter_37 : decode cX12_counter 37 = .ok (.iload_n 3, 1) := by decide +kernel
theorem dX12_counter_38 : decode cX12_counter 38 = .ok (.ifCond .ne 13, 3) := by decide +kernel
theorem dX12_counter_41 : decode cX12_counter 41 = .ok (.aload_n 0, 1) := by decide +kernel
theorem dX12_counter_42 : decode cX12_counter 42 = .ok (.getfield 85, 3) := by decide +kernel
theorem dX12_counter_45 : decode cX12_counter 45 = .ok (.getfield 338, 3) := by decide +kernel
theorem dX12_counter_48 : decode cX12_counter 48 = .ok (.goto 10, 3) := by decide +kernel
theorem dX12_counter_51 : decode cX12_counter 51 = .ok (.aload_n 0, 1) := by decide +kernel
theorem dX12_counter_52 : decode cX12_counter 52 = .ok (.getfield 85, 3) := by decide +kernel
theorem dX12_counter_55 : decode cX12_counter 55 = .ok (.getfield 341, 3) := by decide +kernel
theorem dX12_counter_58 : decode cX12_counter 58 = .ok (.ireturn, 1) := by decide +kernel
set_option maxRecDepth 20000 in
theorem ggX12_image_X7_become : GoodIn wsX12_image wsX7_become := goodIn_r _ [10, 11, 12, 13, 14, 15, 16, 17, 18, 19, 20, 21, 22, 23, 49, 50, 51, 52, 53] rfl (by decide +kernel)
set_option maxRecDepth 20000 in
theorem gX12_image_X7_become : GoodIn wsX12_image (wsV RX12 344 RX7 yX7_become wsX7_become) := goodIn_app (goodIn_of _ (by decide +kernel)) ggX12_image_X7_become
set_option maxRecDepth 20000 in
theorem ggX12_image_X1_become : GoodIn wsX12_image wsX1_become := goodIn_r _ [28, 29, 30, 31, 32, 33, 34, 15, 16, 17, 18, 19, 20, 21, 22, 23, 54, 55, 56, 57, 58, 52, 53] rfl (by decide +kernel)
set_option maxRecDepth 20000 in
theorem gX12_image_X1_become : GoodIn wsX12_image (wsV RX12 347 RX1 yX1_become wsX1_become) := goodIn_app (goodIn_of _ (by decide +kernel)) ggX12_image_X1_become
theorem dX12_image_0 : decode cX12_image 0 = .ok (.aload_n 0, 1) := by decide +kernel
theorem dX12_image_1 : decode cX12_image 1 = .ok (.getfield 51, 3) := by decide +kernel
theorem dX12_image_4 : decode cX12_image 4 = .ok (.aload_n 0, 1) := by decide +kernel
theorem dX12_image_5 : decode cX12_image 5 = .ok (.getfield 40, 3) := by decide +kernel
theorem dX12_image_8 : decode cX12_image 8 = .ok (.invokevirtual 344, 3) := by decide +kernel
theorem dX12_image_11 : decode cX12_image 11 = .ok (.aload_n 0, 1) := by decide +kernel
theorem dX12_image_12 : decode cX12_image 12 = .ok (.getfield 54, 3) := by decide +kernel
theorem dX12_image_15 : decode cX12_image 15 = .ok (.aload_n 0, 1) := by decide +kernel
theorem dX12_image_16 : decode cX12_image 16 = .ok (.getfield 47, 3) := by decide +kernel
theorem dX12_image_19 : decode cX12_image 19 = .ok (.invokevirtual 347, 3) := by decide +kernel
theorem dX12_image_22 : decode cX12_image 22 = .ok (.aload_n 0, 1) := by decide +kernel
theorem dX12_image_23 : decode cX12_image 23 = .ok (.iconst 1, 1) := by decide +kernel
theorem dX12_image_24 : decode cX12_image 24 = .ok (.putfield 118, 3) := by decide +kernel
theorem dX12_image_27 : decode cX12_image 27 = .ok (.return_, 1) := by decide +kernel
set_option maxRecDepth 20000 in
theorem ggX12_restore_X7_become : GoodIn wsX12_restore wsX7_become := goodIn_r _ [10, 11, 12, 13, 14, 15, 16, 17, 18, 19, 20, 21, 22, 23, 49, 50, 51, 52, 53] rfl (by decide +kernel)
set_option maxRecDepth 20000 in
theorem gX12_restore_X7_become : GoodIn wsX12_restore (wsV RX12 344 RX7 yX7_become wsX7_become) := goodIn_app (goodIn_of _ (by decide +kernel)) ggX12_restore_X7_become
set_option maxRecDepth 20000 in
theorem ggX12_restore_X1_become : GoodIn wsX12_restore wsX1_become := goodIn_r _ [28, 29, 30, 31, 32, 33, 34, 15, 16, 17, 18, 19, 20, 21, 22, 23, 54, 55, 56, 57, 58, 52, 53] rfl (by decide +kernel)
set_option maxRecDepth 20000 in
theorem gX12_restore_X1_become : GoodIn wsX12_restore (wsV RX12 347 RX1 yX1_become wsX1_become) := goodIn_app (goodIn_of _ (by decide +kernel)) ggX12_restore_X1_become
theorem dX12_restore_0 : decode cX12_restore 0 = .ok (.aload_n 0, 1) := by decide +kernel
theorem dX12_restore_1 : decode cX12_restore 1 = .ok (.getfield 118, 3) := by decide +kernel
theorem dX12_restore_4 : decode cX12_restore 4 = .ok (.ifCond .ne 5, 3) := by decide +kernel
theorem dX12_restore_7 : decode cX12_restore 7 = .ok (.iconst 0, 1) := by decide +kernel
theorem dX12_restore_8 : decode cX12_restore 8 = .ok (.ireturn, 1) := by decide +kernel
theorem dX12_restore_9 : decode cX12_restore 9 = .ok (.aload_n 0, 1) := by decide +kernel
theorem dX12_restore_10 : decode cX12_restore 10 = .ok (.getfield 40, 3) := by decide +kernel
theorem dX12_restore_13 : decode cX12_restore 13 = .ok (.aload_n 0, 1) := by decide +kernel
theorem dX12_restore_14 : decode cX12_restore 14 = .ok (.getfield 51, 3) := by decide +kernel
theorem dX12_restore_17 : decode cX12_restore 17 = .ok (.invokevirtual 344, 3) := by decide +kernel
theorem dX12_restore_20 : decode cX12_restore 20 = .ok (.aload_n 0, 1) := by decide +kernel
theorem dX12_restore_21 : decode cX12_restore 21 = .ok (.getfield 47, 3) := by decide +kernel
theorem dX12_restore_24 : decode cX12_restore 24 = .ok (.aload_n 0, 1) := by decide +kernel
theorem dX12_restore_25 : decode cX12_restore 25 = .ok (.getfield 54, 3) := by decide +kernel
theorem dX12_restore_28 : decode cX12_restore 28 = .ok (.invokevirtual 347, 3) := by decide +kernel
theorem dX12_restore_31 : decode cX12_restore 31 = .ok (.iconst 1, 1) := by decide +kernel
theorem dX12_restore_32 : decode cX12_restore 32 = .ok (.ireturn, 1) := by decide +kernel
theorem dX12_needPerson_0 : decode cX12_needPerson 0 = .ok (.iload_n 1, 1) := by decide +kernel
theorem dX12_needPerson_1 : decode cX12_needPerson 1 = .ok (.ifCond .lt 14, 3) := by decide +kernel
theorem dX12_needPerson_4 : decode cX12_needPerson 4 = .ok (.iload_n 1, 1) := by decide +kernel
theorem dX12_needPerson_5 : decode cX12_needPerson 5 = .ok (.aload_n 0, 1) := by decide +kernel
theorem dX12_needPerson_6 : decode cX12_needPerson 6 = .ok (.getfield 19, 3) := by decide +kernel
theorem dX12_needPerson_9 : decode cX12_needPerson 9 = .ok (.getfield 122, 3) := by decide +kernel
theorem dX12_needPerson_12 : decode cX12_needPerson 12 = .ok (.if_icmp .lt 11, 3) := by decide +kernel
theorem dX12_needPerson_15 : decode cX12_needPerson 15 = .ok (.new 159, 3) := by decide +kernel
theorem dX12_needPerson_18 : decode cX12_needPerson 18 = .ok (.dup, 1) := by decide +kernel
theorem dX12_needPerson_19 : decode cX12_needPerson 19 = .ok (.invokespecial 161, 3) := by decide +kernel
theorem dX12_needPerson_22 : decode cX12_needPerson 22 = .ok (.athrow, 1) := by decide +kernel
theorem dX12_needPerson_23 : decode cX12_needPerson 23 = .ok (.return_, 1) := by decide +kernel
theorem dX12_needCase_0 : decode cX12_needCase 0 = .ok (.iload_n 1, 1) := by decide +kernel
theorem dX12_needCase_1 : decode cX12_needCase 1 = .ok (.ifCond .lt 14, 3) := by decide +kernel
theorem dX12_needCase_4 : decode cX12_needCase 4 = .ok (.iload_n 1, 1) := by decide +kernel
theorem dX12_needCase_5 : decode cX12_needCase 5 = .ok (.aload_n 0, 1) := by decide +kernel
theorem dX12_needCase_6 : decode cX12_needCase 6 = .ok (.getfield 19, 3) := by decide +kernel
theorem dX12_needCase_9 : decode cX12_needCase 9 = .ok (.getfield 125, 3) := by decide +kernel
theorem dX12_needCase_12 : decode cX12_needCase 12 = .ok (.if_icmp .lt 11, 3) := by decide +kernel
theorem dX12_needCase_15 : decode cX12_needCase 15 = .ok (.new 159, 3) := by decide +kernel
theorem dX12_needCase_18 : decode cX12_needCase 18 = .ok (.dup, 1) := by decide +kernel
theorem dX12_needCase_19 : decode cX12_needCase 19 = .ok (.invokespecial 161, 3) := by decide +kernel
theorem dX12_needCase_22 : decode cX12_needCase 22 = .ok (.athrow, 1) := by decide +kernel
theorem dX12_needCase_23 : decode cX12_needCase 23 = .ok (.return_, 1) := by decide +kernel
theorem dX12_needThing_0 : decode cX12_needThing 0 = .ok (.iload_n 1, 1) := by decide +kernel
theorem dX12_needThing_1 : decode cX12_needThing 1 = .ok (.ifCond .lt 14, 3) := by decide +kernel
theorem dX12_needThing_4 : decode cX12_needThing 4 = .ok (.iload_n 1, 1) := by decide +kernel
theorem dX12_needThing_5 : decode cX12_needThing 5 = .ok (.aload_n 0, 1) := by decide +kernel
theorem dX12_needThing_6 : decode cX12_needThing 6 = .ok (.getfield 19, 3) := by decide +kernel
theorem dX12_needThing_9 : decode cX12_needThing 9 = .ok (.getfield 128, 3) := by decide +kernel
theorem dX12_needThing_12 : decode cX12_needThing 12 = .ok (.if_icmp .lt 11, 3) := by decide +kernel
theorem dX12_needThing_15 : decode cX12_needThing 15 = .ok (.new 159, 3) := by decide +kernel
theorem dX12_needThing_18 : decode cX12_needThing 18 = .ok (.dup, 1) := by decide +kernel
theorem dX12_needThing_19 : decode cX12_needThing 19 = .ok (.invokespecial 161, 3) := by decide +kernel
theorem dX12_needThing_22 : decode cX12_needThing 22 = .ok (.athrow, 1) := by decide +kernel
theorem dX12_needThing_23 : decode cX12_needThing 23 = .ok (.return_, 1) := by decide +kernel
theorem dX12_needWhat_0 : decode cX12_needWhat 0 = .ok (.iload_n 0, 1) := by decide +kernel
theorem dX12_needWhat_1 : decode cX12_needWhat 1 = .ok (.ifCond .lt 8, 3) := by decide +kernel
theorem dX12_needWhat_4 : decode cX12_needWhat 4 = .ok (.iload_n 0, 1) := by decide +kernel
theorem dX12_needWhat_5 : decode cX12_needWhat 5 = .ok (.iload_n 1, 1) := by decide +kernel
theorem dX12_needWhat_6 : decode cX12_needWhat 6 = .ok (.if_icmp .lt 11, 3) := by decide +kernel
theorem dX12_needWhat_9 : decode cX12_needWhat 9 = .ok (.new 159, 3) := by decide +kernel
theorem dX12_needWhat_12 : decode cX12_needWhat 12 = .ok (.dup, 1) := by decide +kernel
theorem dX12_needWhat_13 : decode cX12_needWhat 13 = .ok (.invokespecial 161, 3) := by decide +kernel
theorem dX12_needWhat_16 : decode cX12_needWhat 16 = .ok (.athrow, 1) := by decide +kernel
theorem dX12_needWhat_17 : decode cX12_needWhat 17 = .ok (.return_, 1) := by decide +kernel
